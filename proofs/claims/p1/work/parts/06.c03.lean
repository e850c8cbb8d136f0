set_option maxRecDepth 20000 in
theorem gX12_onceLine_X12_token : GoodIn wsX12_onceLine (wsV RX12 206 RX12 yX12_token wsX12_token) := goodIn_app (goodIn_of _ (by decide +kernel)) ggX12_onceLine_X12_token
set_option maxRecDepth 20000 in
theorem ggX12_onceLine_X12_cellRead : GoodIn wsX12_onceLine wsX12_cellRead := goodIn_r _ [58, 59, 60, 5, 4, 61, 48, 49, 50, 11, 51, 7, 1, 8, 9, 10, 12, 13, 14, 15, 52, 53, 54, 20, 21, 22, 23, 24, 25, 26, 6, 27, 28, 29, 30, 31, 32, 33, 34, 35, 36, 37, 38, 39, 40, 41, 42, 43, 44, 45, 46, 47, 62, 63, 64, 65, 66, 67, 68, 69, 70, 71, 72, 73, 74, 75, 76, 77, 78, 79, 80, 81, 82, 83, 84, 85, 86, 87, 88, 89, 90, 91, 92, 93, 94, 95, 96, 97, 98, 99, 100, 101, 102, 103, 104, 105, 106, 107, 108, 109, 110, 111, 112, 113, 114, 115, 116, 117, 118, 119, 120, 121, 122, 123, 124, 125, 126, 127, 128, 129, 130, 131, 132, 133, 134, 135, 136, 137, 138, 139, 140, 141, 142, 143, 144, 145, 146, 147, 148] (by decide +kernel) (by decide +kernel)
set_option maxRecDepth 20000 in
theorem gX12_onceLine_X12_cellRead : GoodIn wsX12_onceLine (wsV RX12 273 RX12 yX12_cellRead wsX12_cellRead) := goodIn_app (goodIn_of _ (by decide +kernel)) ggX12_onceLine_X12_cellRead
set_option maxRecDepth 20000 in
theorem ggX12_onceLine_X12_number : GoodIn wsX12_onceLine wsX12_number := goodIn_r _ [51, 7, 1, 5, 8, 9, 10, 11, 12, 13, 14, 15, 52, 53, 54, 20, 21, 22, 23, 24, 25, 26, 6, 27, 28, 29, 30, 31, 32, 33, 34, 35, 36, 37, 38, 39, 40, 41, 42, 43, 44, 45, 46, 47, 62, 63, 64, 65, 66, 67, 68, 69, 70, 71, 72, 73, 74, 75, 76, 77, 78, 79, 80, 81, 82, 83, 84, 85, 86, 87, 88, 89, 90, 91, 92, 93, 94, 95, 96, 97, 98, 99, 100, 101, 102, 103, 104, 105, 106, 107, 108, 109, 110, 111, 112, 113, 114, 115, 116, 117, 118, 119, 120, 121, 122, 123, 124, 125, 126, 127, 128, 129, 130, 131, 132, 133, 134, 135, 136, 137, 138, 139, 140, 141, 142, 143, 144, 145, 146, 147, 148] (by decide +kernel) (by decide +kernel)
set_option maxRecDepth 20000 in
theorem gX12_onceLine_X12_number : GoodIn wsX12_onceLine (wsV RX12 212 RX12 yX12_number wsX12_number) := goodIn_app (goodIn_of _ (by decide +kernel)) ggX12_onceLine_X12_number
theorem dX12_onceLine_0 : decode cX12_onceLine 0 = .ok (.aload_n 0, 1) := by decide +kernel
theorem dX12_onceLine_1 : decode cX12_onceLine 1 = .ok (.getfield 183, 3) := by decide +kernel
theorem dX12_onceLine_4 : decode cX12_onceLine 4 = .ok (.iconst 1, 1) := by decide +kernel
theorem dX12_onceLine_5 : decode cX12_onceLine 5 = .ok (.if_icmp .ne 7, 3) := by decide +kernel
theorem dX12_onceLine_8 : decode cX12_onceLine 8 = .ok (.iconst 1, 1) := by decide +kernel
theorem dX12_onceLine_9 : decode cX12_onceLine 9 = .ok (.goto 28, 3) := by decide +kernel
theorem dX12_onceLine_12 : decode cX12_onceLine 12 = .ok (.aload_n 0, 1) := by decide +kernel
theorem dX12_onceLine_13 : decode cX12_onceLine 13 = .ok (.getfield 183, 3) := by decide +kernel
theorem dX12_onceLine_16 : decode cX12_onceLine 16 = .ok (.iconst 4, 1) := by decide +kernel
theorem dX12_onceLine_17 : decode cX12_onceLine 17 = .ok (.if_icmp .ne 7, 3) := by decide +kernel
theorem dX12_onceLine_20 : decode cX12_onceLine 20 = .ok (.iconst 2, 1) := by decide +kernel
theorem dX12_onceLine_21 : decode cX12_onceLine 21 = .ok (.goto 16, 3) := by decide +kernel
theorem dX12_onceLine_24 : decode cX12_onceLine 24 = .ok (.aload_n 0, 1) := by decide +kernel
theorem dX12_onceLine_25 : decode cX12_onceLine 25 = .ok (.getfield 183, 3) := by decide +kernel
theorem dX12_onceLine_28 : decode cX12_onceLine 28 = .ok (.iconst 5, 1) := by decide +kernel
theorem dX12_onceLine_29 : decode cX12_onceLine 29 = .ok (.if_icmp .ne 7, 3) := by decide +kernel
theorem dX12_onceLine_32 : decode cX12_onceLine 32 = .ok (.iconst 3, 1) := by decide +kernel
theorem dX12_onceLine_33 : decode cX12_onceLine 33 = .ok (.goto 4, 3) := by decide +kernel
theorem dX12_onceLine_36 : decode cX12_onceLine 36 = .ok (.iconst 4, 1) := by decide +kernel
theorem dX12_onceLine_37 : decode cX12_onceLine 37 = .ok (.istore_n 1, 1) := by decide +kernel
theorem dX12_onceLine_38 : decode cX12_onceLine 38 = .ok (.aload_n 0, 1) := by decide +kernel
theorem dX12_onceLine_39 : decode cX12_onceLine 39 = .ok (.getfield 20, 3) := by decide +kernel
theorem dX12_onceLine_42 : decode cX12_onceLine 42 = .ok (.iload_n 1, 1) := by decide +kernel
theorem dX12_onceLine_43 : decode cX12_onceLine 43 = .ok (.baload, 1) := by decide +kernel
theorem dX12_onceLine_44 : decode cX12_onceLine 44 = .ok (.ifCond .eq 9, 3) := by decide +kernel
theorem dX12_onceLine_47 : decode cX12_onceLine 47 = .ok (.aload_n 0, 1) := by decide +kernel
theorem dX12_onceLine_48 : decode cX12_onceLine 48 = .ok (.iconst 3, 1) := by decide +kernel
theorem dX12_onceLine_49 : decode cX12_onceLine 49 = .ok (.invokevirtual 196, 3) := by decide +kernel
theorem dX12_onceLine_52 : decode cX12_onceLine 52 = .ok (.ireturn, 1) := by decide +kernel
theorem dX12_onceLine_53 : decode cX12_onceLine 53 = .ok (.aload_n 0, 1) := by decide +kernel
theorem dX12_onceLine_54 : decode cX12_onceLine 54 = .ok (.getfield 20, 3) := by decide +kernel
theorem dX12_onceLine_57 : decode cX12_onceLine 57 = .ok (.iload_n 1, 1) := by decide +kernel
theorem dX12_onceLine_58 : decode cX12_onceLine 58 = .ok (.iconst 1, 1) := by decide +kernel
theorem dX12_onceLine_59 : decode cX12_onceLine 59 = .ok (.bastore, 1) := by decide +kernel
theorem dX12_onceLine_60 : decode cX12_onceLine 60 = .ok (.iload_n 1, 1) := by decide +kernel
theorem dX12_onceLine_61 : decode cX12_onceLine 61 = .ok (.iconst 2, 1) := by decide +kernel
theorem dX12_onceLine_62 : decode cX12_onceLine 62 = .ok (.if_icmp .ne 8, 3) := by decide +kernel
theorem dX12_onceLine_65 : decode cX12_onceLine 65 = .ok (.aload_n 0, 1) := by decide +kernel
theorem dX12_onceLine_66 : decode cX12_onceLine 66 = .ok (.invokevirtual 277, 3) := by decide +kernel
theorem dX12_onceLine_69 : decode cX12_onceLine 69 = .ok (.ireturn, 1) := by decide +kernel
theorem dX12_onceLine_70 : decode cX12_onceLine 70 = .ok (.aload_n 0, 1) := by decide +kernel
theorem dX12_onceLine_71 : decode cX12_onceLine 71 = .ok (.invokevirtual 206, 3) := by decide +kernel
theorem dX12_onceLine_74 : decode cX12_onceLine 74 = .ok (.iload_n 1, 1) := by decide +kernel
theorem dX12_onceLine_75 : decode cX12_onceLine 75 = .ok (.iconst 1, 1) := by decide +kernel
theorem dX12_onceLine_76 : decode cX12_onceLine 76 = .ok (.if_icmp .ne 36, 3) := by decide +kernel
theorem dX12_onceLine_79 : decode cX12_onceLine 79 = .ok (.aload_n 0, 1) := by decide +kernel
theorem dX12_onceLine_80 : decode cX12_onceLine 80 = .ok (.invokevirtual 273, 3) := by decide +kernel
theorem dX12_onceLine_83 : decode cX12_onceLine 83 = .ok (.ifCond .ne 5, 3) := by decide +kernel
theorem dX12_onceLine_86 : decode cX12_onceLine 86 = .ok (.iconst 0, 1) := by decide +kernel
theorem dX12_onceLine_87 : decode cX12_onceLine 87 = .ok (.ireturn, 1) := by decide +kernel
theorem dX12_onceLine_88 : decode cX12_onceLine 88 = .ok (.aload_n 0, 1) := by decide +kernel
theorem dX12_onceLine_89 : decode cX12_onceLine 89 = .ok (.getfield 24, 3) := by decide +kernel
theorem dX12_onceLine_92 : decode cX12_onceLine 92 = .ok (.bipush 7, 2) := by decide +kernel
theorem dX12_onceLine_94 : decode cX12_onceLine 94 = .ok (.aload_n 0, 1) := by decide +kernel
theorem dX12_onceLine_95 : decode cX12_onceLine 95 = .ok (.getfield 266, 3) := by decide +kernel
theorem dX12_onceLine_98 : decode cX12_onceLine 98 = .ok (.iastore, 1) := by decide +kernel
theorem dX12_onceLine_99 : decode cX12_onceLine 99 = .ok (.aload_n 0, 1) := by decide +kernel
theorem dX12_onceLine_100 : decode cX12_onceLine 100 = .ok (.getfield 24, 3) := by decide +kernel
theorem dX12_onceLine_103 : decode cX12_onceLine 103 = .ok (.bipush 8, 2) := by decide +kernel
theorem dX12_onceLine_105 : decode cX12_onceLine 105 = .ok (.aload_n 0, 1) := by decide +kernel
theorem dX12_onceLine_106 : decode cX12_onceLine 106 = .ok (.getfield 203, 3) := by decide +kernel
theorem dX12_onceLine_109 : decode cX12_onceLine 109 = .ok (.iastore, 1) := by decide +kernel
theorem dX12_onceLine_110 : decode cX12_onceLine 110 = .ok (.iconst 1, 1) := by decide +kernel
theorem dX12_onceLine_111 : decode cX12_onceLine 111 = .ok (.ireturn, 1) := by decide +kernel
theorem dX12_onceLine_112 : decode cX12_onceLine 112 = .ok (.iload_n 1, 1) := by decide +kernel
theorem dX12_onceLine_113 : decode cX12_onceLine 113 = .ok (.iconst 4, 1) := by decide +kernel
theorem dX12_onceLine_114 : decode cX12_onceLine 114 = .ok (.if_icmp .ne 28, 3) := by decide +kernel
theorem dX12_onceLine_117 : decode cX12_onceLine 117 = .ok (.aload_n 0, 1) := by decide +kernel
theorem dX12_onceLine_118 : decode cX12_onceLine 118 = .ok (.iconst 0, 1) := by decide +kernel
theorem dX12_onceLine_119 : decode cX12_onceLine 119 = .ok (.ldc 192, 2) := by decide +kernel
theorem dX12_onceLine_121 : decode cX12_onceLine 121 = .ok (.invokevirtual 212, 3) := by decide +kernel
theorem dX12_onceLine_124 : decode cX12_onceLine 124 = .ok (.ifCond .ne 5, 3) := by decide +kernel
theorem dX12_onceLine_127 : decode cX12_onceLine 127 = .ok (.iconst 0, 1) := by decide +kernel
theorem dX12_onceLine_128 : decode cX12_onceLine 128 = .ok (.ireturn, 1) := by decide +kernel
theorem dX12_onceLine_129 : decode cX12_onceLine 129 = .ok (.aload_n 0, 1) := by decide +kernel
theorem dX12_onceLine_130 : decode cX12_onceLine 130 = .ok (.getfield 24, 3) := by decide +kernel
theorem dX12_onceLine_133 : decode cX12_onceLine 133 = .ok (.bipush 13, 2) := by decide +kernel
theorem dX12_onceLine_135 : decode cX12_onceLine 135 = .ok (.aload_n 0, 1) := by decide +kernel
theorem dX12_onceLine_136 : decode cX12_onceLine 136 = .ok (.getfield 203, 3) := by decide +kernel
theorem dX12_onceLine_139 : decode cX12_onceLine 139 = .ok (.iastore, 1) := by decide +kernel
theorem dX12_onceLine_140 : decode cX12_onceLine 140 = .ok (.iconst 1, 1) := by decide +kernel
theorem dX12_onceLine_141 : decode cX12_onceLine 141 = .ok (.ireturn, 1) := by decide +kernel
theorem dX12_onceLine_142 : decode cX12_onceLine 142 = .ok (.aload_n 0, 1) := by decide +kernel
theorem dX12_onceLine_143 : decode cX12_onceLine 143 = .ok (.getfield 172, 3) := by decide +kernel
theorem dX12_onceLine_146 : decode cX12_onceLine 146 = .ok (.iconst 1, 1) := by decide +kernel
theorem dX12_onceLine_147 : decode cX12_onceLine 147 = .ok (.if_icmp .ne 21, 3) := by decide +kernel
theorem dX12_onceLine_150 : decode cX12_onceLine 150 = .ok (.aload_n 0, 1) := by decide +kernel
theorem dX12_onceLine_151 : decode cX12_onceLine 151 = .ok (.getfield 183, 3) := by decide +kernel
theorem dX12_onceLine_154 : decode cX12_onceLine 154 = .ok (.bipush 8, 2) := by decide +kernel
theorem dX12_onceLine_156 : decode cX12_onceLine 156 = .ok (.if_icmp .lt 12, 3) := by decide +kernel
theorem dX12_onceLine_159 : decode cX12_onceLine 159 = .ok (.aload_n 0, 1) := by decide +kernel
theorem dX12_onceLine_160 : decode cX12_onceLine 160 = .ok (.getfield 183, 3) := by decide +kernel
theorem dX12_onceLine_163 : decode cX12_onceLine 163 = .ok (.bipush 11, 2) := by decide +kernel
theorem dX12_onceLine_165 : decode cX12_onceLine 165 = .ok (.if_icmp .le 9, 3) := by decide +kernel
theorem dX12_onceLine_168 : decode cX12_onceLine 168 = .ok (.aload_n 0, 1) := by decide +kernel
theorem dX12_onceLine_169 : decode cX12_onceLine 169 = .ok (.iconst 1, 1) := by decide +kernel
theorem dX12_onceLine_170 : decode cX12_onceLine 170 = .ok (.invokevirtual 196, 3) := by decide +kernel
theorem dX12_onceLine_173 : decode cX12_onceLine 173 = .ok (.ireturn, 1) := by decide +kernel
theorem dX12_onceLine_174 : decode cX12_onceLine 174 = .ok (.aload_n 0, 1) := by decide +kernel
theorem dX12_onceLine_175 : decode cX12_onceLine 175 = .ok (.getfield 24, 3) := by decide +kernel
theorem dX12_onceLine_178 : decode cX12_onceLine 178 = .ok (.bipush 12, 2) := by decide +kernel
theorem dX12_onceLine_180 : decode cX12_onceLine 180 = .ok (.aload_n 0, 1) := by decide +kernel
theorem dX12_onceLine_181 : decode cX12_onceLine 181 = .ok (.getfield 183, 3) := by decide +kernel
theorem dX12_onceLine_184 : decode cX12_onceLine 184 = .ok (.bipush 8, 2) := by decide +kernel
theorem dX12_onceLine_186 : decode cX12_onceLine 186 = .ok (.isub, 1) := by decide +kernel
theorem dX12_onceLine_187 : decode cX12_onceLine 187 = .ok (.iastore, 1) := by decide +kernel
theorem dX12_onceLine_188 : decode cX12_onceLine 188 = .ok (.aload_n 0, 1) := by decide +kernel
theorem dX12_onceLine_189 : decode cX12_onceLine 189 = .ok (.invokevirtual 206, 3) := by decide +kernel
theorem dX12_onceLine_192 : decode cX12_onceLine 192 = .ok (.iconst 1, 1) := by decide +kernel
theorem dX12_onceLine_193 : decode cX12_onceLine 193 = .ok (.ireturn, 1) := by decide +kernel
set_option maxRecDepth 20000 in
theorem ggX12_lineRead_X12_wrong : GoodIn wsX12_lineRead wsX12_wrong := goodIn_r _ [11, 12, 13, 14, 156, 157, 158, 159, 160, 161, 162, 163, 164, 165, 166, 167, 168, 169, 170, 171, 172, 173, 174, 175, 176, 177, 178, 179, 180, 181, 182, 183, 184, 185, 186, 187, 188, 189, 190, 191, 192, 193, 194, 195, 196, 197, 198, 199, 200, 201, 202, 203, 204, 205, 206, 207, 208, 209, 210, 211, 212, 213, 214, 215, 216, 217, 218, 219, 220, 221, 222, 223, 224, 225, 226, 227, 228, 229, 230, 231, 232, 233, 234, 235, 236, 237, 238, 239, 240, 241, 242] (by decide +kernel) (by decide +kernel)
set_option maxRecDepth 20000 in
theorem gX12_lineRead_X12_wrong : GoodIn wsX12_lineRead (wsV RX12 196 RX12 yX12_wrong wsX12_wrong) := goodIn_app (goodIn_of _ (by decide +kernel)) ggX12_lineRead_X12_wrong
set_option maxRecDepth 20000 in
theorem ggX12_lineRead_X12_seaLine : GoodIn wsX12_lineRead wsX12_seaLine := goodIn_r _ [18, 19, 20, 21, 22, 23, 7, 8, 9, 10, 11, 12, 13, 14, 24, 25, 26, 27, 28, 29, 30, 1, 2, 31, 32, 33, 34, 35, 36, 37, 38, 39, 40, 41, 42, 43, 44, 45, 46, 47, 48, 49, 50, 51, 52, 53, 54, 55, 56, 57, 58, 59, 156, 157, 158, 159, 160, 161, 162, 163, 164, 165, 166, 167, 168, 169, 170, 171, 172, 173, 174, 175, 176, 177, 178, 179, 180, 181, 182, 183, 184, 185, 186, 187, 188, 189, 190, 191, 192, 193, 194, 195, 196, 197, 198, 199, 200, 201, 202, 203, 204, 205, 206, 207, 208, 209, 210, 211, 212, 213, 214, 215, 216, 217, 218, 219, 220, 221, 222, 223, 224, 225, 226, 227, 228, 229, 230, 231, 232, 233, 234, 235, 236, 237, 238, 239, 240, 241, 242] (by decide +kernel) (by decide +kernel)
set_option maxRecDepth 20000 in
theorem gX12_lineRead_X12_seaLine : GoodIn wsX12_lineRead (wsV RX12 280 RX12 yX12_seaLine wsX12_seaLine) := goodIn_app (goodIn_of _ (by decide +kernel)) ggX12_lineRead_X12_seaLine
set_option maxRecDepth 20000 in
theorem ggX12_lineRead_X12_surferLine : GoodIn wsX12_lineRead wsX12_surferLine := goodIn_r _ [63, 64, 1, 65, 2, 66, 22, 21, 67, 68, 69, 70, 71, 7, 8, 9, 10, 11, 12, 13, 14, 24, 25, 26, 27, 28, 29, 30, 31, 32, 33, 34, 35, 36, 37, 38, 39, 40, 41, 42, 43, 44, 45, 46, 47, 48, 49, 50, 51, 52, 72, 73, 74, 75, 76, 77, 78, 20, 23, 53, 54, 55, 56, 57, 58, 59, 156, 157, 158, 159, 160, 161, 162, 163, 164, 165, 166, 167, 168, 169, 170, 171, 172, 173, 174, 175, 176, 177, 178, 179, 180, 181, 182, 183, 184, 185, 186, 187, 188, 189, 190, 191, 192, 193, 194, 195, 196, 197, 198, 199, 200, 201, 202, 203, 204, 205, 206, 207, 208, 209, 210, 211, 212, 213, 214, 215, 216, 217, 218, 219, 220, 221, 222, 223, 224, 225, 226, 227, 228, 229, 230, 231, 232, 233, 234, 235, 236, 237, 238, 239, 240, 241, 242] (by decide +kernel) (by decide +kernel)
set_option maxRecDepth 20000 in
theorem gX12_lineRead_X12_surferLine : GoodIn wsX12_lineRead (wsV RX12 283 RX12 yX12_surferLine wsX12_surferLine) := goodIn_app (goodIn_of _ (by decide +kernel)) ggX12_lineRead_X12_surferLine
set_option maxRecDepth 20000 in
theorem ggX12_lineRead_X12_setLine : GoodIn wsX12_lineRead wsX12_setLine := goodIn_r _ [82, 83, 13, 84, 21, 85, 1, 86, 87, 88, 7, 8, 9, 10, 11, 12, 14, 24, 25, 26, 27, 28, 29, 30, 2, 31, 32, 33, 34, 35, 36, 37, 38, 39, 40, 41, 42, 43, 44, 45, 46, 47, 48, 49, 50, 51, 52, 53, 54, 55, 56, 57, 58, 59, 156, 157, 158, 159, 160, 161, 162, 163, 164, 165, 166, 167, 168, 169, 170, 171, 172, 173, 174, 175, 176, 177, 178, 179, 180, 181, 182, 183, 184, 185, 186, 187, 188, 189, 190, 191, 192, 193, 194, 195, 196, 197, 198, 199, 200, 201, 202, 203, 204, 205, 206, 207, 208, 209, 210, 211, 212, 213, 214, 215, 216, 217, 218, 219, 220, 221, 222, 223, 224, 225, 226, 227, 228, 229, 230, 231, 232, 233, 234, 235, 236, 237, 238, 239, 240, 241, 242] (by decide +kernel) (by decide +kernel)
set_option maxRecDepth 20000 in
theorem gX12_lineRead_X12_setLine : GoodIn wsX12_lineRead (wsV RX12 286 RX12 yX12_setLine wsX12_setLine) := goodIn_app (goodIn_of _ (by decide +kernel)) ggX12_lineRead_X12_setLine
set_option maxRecDepth 20000 in
theorem ggX12_lineRead_X12_onceLine : GoodIn wsX12_lineRead wsX12_onceLine := goodIn_r _ [92, 2, 19, 93, 67, 21, 31, 1, 7, 8, 9, 10, 11, 12, 13, 14, 94, 95, 96, 97, 24, 25, 26, 27, 28, 29, 30, 32, 33, 34, 35, 36, 37, 38, 39, 40, 41, 42, 43, 44, 45, 46, 47, 48, 49, 50, 51, 52, 53, 54, 55, 56, 57, 58, 59, 75, 76, 77, 78, 20, 22, 23, 156, 157, 158, 159, 160, 161, 162, 163, 164, 165, 166, 167, 168, 169, 170, 171, 172, 173, 174, 175, 176, 177, 178, 179, 180, 181, 182, 183, 184, 185, 186, 187, 188, 189, 190, 191, 192, 193, 194, 195, 196, 197, 198, 199, 200, 201, 202, 203, 204, 205, 206, 207, 208, 209, 210, 211, 212, 213, 214, 215, 216, 217, 218, 219, 220, 221, 222, 223, 224, 225, 226, 227, 228, 229, 230, 231, 232, 233, 234, 235, 236, 237, 238, 239, 240, 241, 242] (by decide +kernel) (by decide +kernel)
set_option maxRecDepth 20000 in
theorem gX12_lineRead_X12_onceLine : GoodIn wsX12_lineRead (wsV RX12 289 RX12 yX12_onceLine wsX12_onceLine) := goodIn_app (goodIn_of _ (by decide +kernel)) ggX12_lineRead_X12_onceLine
set_option maxRecDepth 20000 in
theorem ggX12_lineRead_X12_token : GoodIn wsX12_lineRead wsX12_token := goodIn_r _ [27, 28, 29, 30, 13, 1, 2, 31, 32, 33, 34, 10, 35, 36, 37, 38, 39, 40, 41, 42, 43, 44, 45, 46, 47, 48, 49, 50, 51, 52, 156, 157, 158, 159, 160, 161, 162, 163, 164, 165, 166, 167, 168, 169, 170, 171, 172, 173, 174, 175, 176, 177, 178, 179, 180, 181, 182, 183, 184, 185, 186, 187, 188, 189, 190, 191, 192, 193, 194, 195, 196, 197, 198, 199, 200, 201, 202, 203, 204, 205, 206, 207, 208, 209, 210, 211, 212, 213, 214, 215, 216, 217, 218, 219, 220, 221, 222, 223, 224, 225, 226, 227, 228, 229, 230, 231, 232, 233, 234, 235, 236, 237, 238, 239, 240, 241, 242] (by decide +kernel) (by decide +kernel)
set_option maxRecDepth 20000 in
theorem gX12_lineRead_X12_token : GoodIn wsX12_lineRead (wsV RX12 206 RX12 yX12_token wsX12_token) := goodIn_app (goodIn_of _ (by decide +kernel)) ggX12_lineRead_X12_token
set_option maxRecDepth 20000 in
theorem ggX12_lineRead_X12_sumRead : GoodIn wsX12_lineRead wsX12_sumRead := goodIn_r _ [101, 102, 103, 104, 105, 106, 107, 108, 109, 10, 110, 1, 2, 111, 112, 113, 114, 7, 8, 9, 11, 12, 13, 14, 115, 116, 117, 118, 119, 24, 25, 26, 27, 28, 29, 30, 31, 32, 33, 34, 35, 36, 37, 38, 39, 40, 41, 42, 43, 44, 45, 46, 47, 48, 49, 50, 51, 52, 120, 121, 122, 123, 124, 125, 126, 127, 128, 129, 130, 131, 132, 133, 134, 135, 136, 137, 5, 138, 139, 140, 141, 142, 143, 144, 145, 146, 147, 148, 149, 150, 151, 152, 153, 154, 155, 156, 157, 158, 159, 160, 161, 162, 163, 164, 165, 166, 167, 168, 169, 170, 171, 172, 173, 174, 175, 176, 177, 178, 179, 180, 181, 182, 183, 184, 185, 186, 187, 188, 189, 190, 191, 192, 193, 194, 195, 196, 197, 198, 199, 200, 201, 202, 203, 204, 205, 206, 207, 208, 209, 210, 211, 212, 213, 214, 215, 216, 217, 218, 219, 220, 221, 222, 223, 224, 225, 226, 227, 228, 229, 230, 231, 232, 233, 234, 235, 236, 237, 238, 239, 240, 241, 242] (by decide +kernel) (by decide +kernel)
set_option maxRecDepth 20000 in
theorem gX12_lineRead_X12_sumRead : GoodIn wsX12_lineRead (wsV RX12 292 RX12 yX12_sumRead wsX12_sumRead) := goodIn_app (goodIn_of _ (by decide +kernel)) ggX12_lineRead_X12_sumRead
set_option maxRecDepth 20000 in
theorem ggX12_lineRead_X12_isSign : GoodIn wsX12_lineRead wsX12_isSign := goodIn_r _ [110, 1, 2, 156, 157, 158, 159, 160, 161, 162, 163, 164, 165, 166, 167, 168, 169, 170, 171, 172, 173, 174, 175, 176, 177, 178, 179, 180, 181, 182, 183, 184, 185, 186, 187, 188, 189, 190, 191, 192, 193, 194, 195, 196, 197, 198, 199, 200, 201, 202, 203, 204, 205, 206, 207, 208, 209, 210, 211, 212, 213, 214, 215, 216, 217, 218, 219, 220, 221, 222, 223, 224, 225, 226, 227, 228, 229, 230, 231, 232, 233, 234, 235, 236, 237, 238, 239, 240, 241, 242] (by decide +kernel) (by decide +kernel)
set_option maxRecDepth 20000 in
theorem gX12_lineRead_X12_isSign : GoodIn wsX12_lineRead (wsV RX12 209 RX12 yX12_isSign wsX12_isSign) := goodIn_app (goodIn_of _ (by decide +kernel)) ggX12_lineRead_X12_isSign
theorem dX12_lineRead_0 : decode cX12_lineRead 0 = .ok (.aload_n 0, 1) := by decide +kernel
theorem dX12_lineRead_1 : decode cX12_lineRead 1 = .ok (.getfield 172, 3) := by decide +kernel
theorem dX12_lineRead_4 : decode cX12_lineRead 4 = .ok (.iconst 1, 1) := by decide +kernel
theorem dX12_lineRead_5 : decode cX12_lineRead 5 = .ok (.if_icmp .ne 12, 3) := by decide +kernel
theorem dX12_lineRead_8 : decode cX12_lineRead 8 = .ok (.aload_n 0, 1) := by decide +kernel
theorem dX12_lineRead_9 : decode cX12_lineRead 9 = .ok (.getfield 183, 3) := by decide +kernel
theorem dX12_lineRead_12 : decode cX12_lineRead 12 = .ok (.bipush 7, 2) := by decide +kernel
theorem dX12_lineRead_14 : decode cX12_lineRead 14 = .ok (.if_icmp .le 9, 3) := by decide +kernel
theorem dX12_lineRead_17 : decode cX12_lineRead 17 = .ok (.aload_n 0, 1) := by decide +kernel
theorem dX12_lineRead_18 : decode cX12_lineRead 18 = .ok (.iconst 1, 1) := by decide +kernel
theorem dX12_lineRead_19 : decode cX12_lineRead 19 = .ok (.invokevirtual 196, 3) := by decide +kernel
theorem dX12_lineRead_22 : decode cX12_lineRead 22 = .ok (.ireturn, 1) := by decide +kernel
theorem dX12_lineRead_23 : decode cX12_lineRead 23 = .ok (.aload_n 0, 1) := by decide +kernel
theorem dX12_lineRead_24 : decode cX12_lineRead 24 = .ok (.getfield 183, 3) := by decide +kernel
theorem dX12_lineRead_27 : decode cX12_lineRead 27 = .ok (.tableswitch 73 0 6 #[41, 65, 49, 57, 65, 65, 65], 41) := by decide +kernel
theorem dX12_lineRead_68 : decode cX12_lineRead 68 = .ok (.aload_n 0, 1) := by decide +kernel
theorem dX12_lineRead_69 : decode cX12_lineRead 69 = .ok (.invokevirtual 280, 3) := by decide +kernel
theorem dX12_lineRead_72 : decode cX12_lineRead 72 = .ok (.istore_n 1, 1) := by decide +kernel
theorem dX12_lineRead_73 : decode cX12_lineRead 73 = .ok (.goto 124, 3) := by decide +kernel
theorem dX12_lineRead_76 : decode cX12_lineRead 76 = .ok (.aload_n 0, 1) := by decide +kernel
theorem dX12_lineRead_77 : decode cX12_lineRead 77 = .ok (.invokevirtual 283, 3) := by decide +kernel
theorem dX12_lineRead_80 : decode cX12_lineRead 80 = .ok (.istore_n 1, 1) := by decide +kernel
theorem dX12_lineRead_81 : decode cX12_lineRead 81 = .ok (.goto 116, 3) := by decide +kernel
theorem dX12_lineRead_84 : decode cX12_lineRead 84 = .ok (.aload_n 0, 1) := by decide +kernel
theorem dX12_lineRead_85 : decode cX12_lineRead 85 = .ok (.invokevirtual 286, 3) := by decide +kernel
theorem dX12_lineRead_88 : decode cX12_lineRead 88 = .ok (.istore_n 1, 1) := by decide +kernel
theorem dX12_lineRead_89 : decode cX12_lineRead 89 = .ok (.goto 108, 3) := by decide +kernel
theorem dX12_lineRead_92 : decode cX12_lineRead 92 = .ok (.aload_n 0, 1) := by decide +kernel
theorem dX12_lineRead_93 : decode cX12_lineRead 93 = .ok (.invokevirtual 289, 3) := by decide +kernel
theorem dX12_lineRead_96 : decode cX12_lineRead 96 = .ok (.istore_n 1, 1) := by decide +kernel
theorem dX12_lineRead_97 : decode cX12_lineRead 97 = .ok (.goto 100, 3) := by decide +kernel
theorem dX12_lineRead_100 : decode cX12_lineRead 100 = .ok (.aload_n 0, 1) := by decide +kernel
theorem dX12_lineRead_101 : decode cX12_lineRead 101 = .ok (.invokevirtual 206, 3) := by decide +kernel
theorem dX12_lineRead_104 : decode cX12_lineRead 104 = .ok (.aload_n 0, 1) := by decide +kernel
theorem dX12_lineRead_105 : decode cX12_lineRead 105 = .ok (.getfield 172, 3) := by decide +kernel
theorem dX12_lineRead_108 : decode cX12_lineRead 108 = .ok (.iconst 1, 1) := by decide +kernel
theorem dX12_lineRead_109 : decode cX12_lineRead 109 = .ok (.if_icmp .ne 21, 3) := by decide +kernel
theorem dX12_lineRead_112 : decode cX12_lineRead 112 = .ok (.aload_n 0, 1) := by decide +kernel
theorem dX12_lineRead_113 : decode cX12_lineRead 113 = .ok (.getfield 183, 3) := by decide +kernel
theorem dX12_lineRead_116 : decode cX12_lineRead 116 = .ok (.bipush 12, 2) := by decide +kernel
theorem dX12_lineRead_118 : decode cX12_lineRead 118 = .ok (.if_icmp .lt 12, 3) := by decide +kernel
theorem dX12_lineRead_121 : decode cX12_lineRead 121 = .ok (.aload_n 0, 1) := by decide +kernel
theorem dX12_lineRead_122 : decode cX12_lineRead 122 = .ok (.getfield 183, 3) := by decide +kernel
theorem dX12_lineRead_125 : decode cX12_lineRead 125 = .ok (.bipush 14, 2) := by decide +kernel
theorem dX12_lineRead_127 : decode cX12_lineRead 127 = .ok (.if_icmp .le 9, 3) := by decide +kernel
theorem dX12_lineRead_130 : decode cX12_lineRead 130 = .ok (.aload_n 0, 1) := by decide +kernel
theorem dX12_lineRead_131 : decode cX12_lineRead 131 = .ok (.iconst 1, 1) := by decide +kernel
theorem dX12_lineRead_132 : decode cX12_lineRead 132 = .ok (.invokevirtual 196, 3) := by decide +kernel
theorem dX12_lineRead_135 : decode cX12_lineRead 135 = .ok (.ireturn, 1) := by decide +kernel
theorem dX12_lineRead_136 : decode cX12_lineRead 136 = .ok (.iconst 3, 1) := by decide +kernel
theorem dX12_lineRead_137 : decode cX12_lineRead 137 = .ok (.aload_n 0, 1) := by decide +kernel
theorem dX12_lineRead_138 : decode cX12_lineRead 138 = .ok (.getfield 183, 3) := by decide +kernel
theorem dX12_lineRead_141 : decode cX12_lineRead 141 = .ok (.iadd, 1) := by decide +kernel
theorem dX12_lineRead_142 : decode cX12_lineRead 142 = .ok (.bipush 12, 2) := by decide +kernel
theorem dX12_lineRead_144 : decode cX12_lineRead 144 = .ok (.isub, 1) := by decide +kernel
theorem dX12_lineRead_145 : decode cX12_lineRead 145 = .ok (.istore_n 2, 1) := by decide +kernel
theorem dX12_lineRead_146 : decode cX12_lineRead 146 = .ok (.aload_n 0, 1) := by decide +kernel
theorem dX12_lineRead_147 : decode cX12_lineRead 147 = .ok (.getfield 57, 3) := by decide +kernel
theorem dX12_lineRead_150 : decode cX12_lineRead 150 = .ok (.iload_n 2, 1) := by decide +kernel
theorem dX12_lineRead_151 : decode cX12_lineRead 151 = .ok (.baload, 1) := by decide +kernel
theorem dX12_lineRead_152 : decode cX12_lineRead 152 = .ok (.ifCond .eq 9, 3) := by decide +kernel
theorem dX12_lineRead_155 : decode cX12_lineRead 155 = .ok (.aload_n 0, 1) := by decide +kernel
theorem dX12_lineRead_156 : decode cX12_lineRead 156 = .ok (.iconst 3, 1) := by decide +kernel
theorem dX12_lineRead_157 : decode cX12_lineRead 157 = .ok (.invokevirtual 196, 3) := by decide +kernel
theorem dX12_lineRead_160 : decode cX12_lineRead 160 = .ok (.ireturn, 1) := by decide +kernel
theorem dX12_lineRead_161 : decode cX12_lineRead 161 = .ok (.aload_n 0, 1) := by decide +kernel
theorem dX12_lineRead_162 : decode cX12_lineRead 162 = .ok (.getfield 57, 3) := by decide +kernel
theorem dX12_lineRead_165 : decode cX12_lineRead 165 = .ok (.iload_n 2, 1) := by decide +kernel
theorem dX12_lineRead_166 : decode cX12_lineRead 166 = .ok (.iconst 1, 1) := by decide +kernel
theorem dX12_lineRead_167 : decode cX12_lineRead 167 = .ok (.bastore, 1) := by decide +kernel
theorem dX12_lineRead_168 : decode cX12_lineRead 168 = .ok (.aload_n 0, 1) := by decide +kernel
theorem dX12_lineRead_169 : decode cX12_lineRead 169 = .ok (.invokevirtual 206, 3) := by decide +kernel
theorem dX12_lineRead_172 : decode cX12_lineRead 172 = .ok (.aload_n 0, 1) := by decide +kernel
theorem dX12_lineRead_173 : decode cX12_lineRead 173 = .ok (.getfield 60, 3) := by decide +kernel
theorem dX12_lineRead_176 : decode cX12_lineRead 176 = .ok (.iload_n 2, 1) := by decide +kernel
theorem dX12_lineRead_177 : decode cX12_lineRead 177 = .ok (.aload_n 0, 1) := by decide +kernel
theorem dX12_lineRead_178 : decode cX12_lineRead 178 = .ok (.getfield 231, 3) := by decide +kernel
theorem dX12_lineRead_181 : decode cX12_lineRead 181 = .ok (.iastore, 1) := by decide +kernel
theorem dX12_lineRead_182 : decode cX12_lineRead 182 = .ok (.aload_n 0, 1) := by decide +kernel
theorem dX12_lineRead_183 : decode cX12_lineRead 183 = .ok (.invokevirtual 292, 3) := by decide +kernel
theorem dX12_lineRead_186 : decode cX12_lineRead 186 = .ok (.istore_n 1, 1) := by decide +kernel
theorem dX12_lineRead_187 : decode cX12_lineRead 187 = .ok (.aload_n 0, 1) := by decide +kernel
theorem dX12_lineRead_188 : decode cX12_lineRead 188 = .ok (.getfield 63, 3) := by decide +kernel
theorem dX12_lineRead_191 : decode cX12_lineRead 191 = .ok (.iload_n 2, 1) := by decide +kernel
theorem dX12_lineRead_192 : decode cX12_lineRead 192 = .ok (.aload_n 0, 1) := by decide +kernel
theorem dX12_lineRead_193 : decode cX12_lineRead 193 = .ok (.getfield 231, 3) := by decide +kernel
theorem dX12_lineRead_196 : decode cX12_lineRead 196 = .ok (.iastore, 1) := by decide +kernel
theorem dX12_lineRead_197 : decode cX12_lineRead 197 = .ok (.iload_n 1, 1) := by decide +kernel
theorem dX12_lineRead_198 : decode cX12_lineRead 198 = .ok (.ifCond .ne 5, 3) := by decide +kernel
theorem dX12_lineRead_201 : decode cX12_lineRead 201 = .ok (.iconst 0, 1) := by decide +kernel
theorem dX12_lineRead_202 : decode cX12_lineRead 202 = .ok (.ireturn, 1) := by decide +kernel
theorem dX12_lineRead_203 : decode cX12_lineRead 203 = .ok (.aload_n 0, 1) := by decide +kernel
theorem dX12_lineRead_204 : decode cX12_lineRead 204 = .ok (.bipush 59, 2) := by decide +kernel
theorem dX12_lineRead_206 : decode cX12_lineRead 206 = .ok (.invokevirtual 209, 3) := by decide +kernel
theorem dX12_lineRead_209 : decode cX12_lineRead 209 = .ok (.ifCond .ne 9, 3) := by decide +kernel
theorem dX12_lineRead_212 : decode cX12_lineRead 212 = .ok (.aload_n 0, 1) := by decide +kernel
theorem dX12_lineRead_213 : decode cX12_lineRead 213 = .ok (.iconst 1, 1) := by decide +kernel
theorem dX12_lineRead_214 : decode cX12_lineRead 214 = .ok (.invokevirtual 196, 3) := by decide +kernel
theorem dX12_lineRead_217 : decode cX12_lineRead 217 = .ok (.ireturn, 1) := by decide +kernel
theorem dX12_lineRead_218 : decode cX12_lineRead 218 = .ok (.aload_n 0, 1) := by decide +kernel
theorem dX12_lineRead_219 : decode cX12_lineRead 219 = .ok (.invokevirtual 206, 3) := by decide +kernel
theorem dX12_lineRead_222 : decode cX12_lineRead 222 = .ok (.iconst 1, 1) := by decide +kernel
theorem dX12_lineRead_223 : decode cX12_lineRead 223 = .ok (.ireturn, 1) := by decide +kernel
set_option maxRecDepth 20000 in
theorem ggX12_text_X12_plain : GoodIn wsX12_text wsX12_plain := goodIn_r _ [12, 13, 14, 15, 16, 17, 18, 19, 20, 21, 22, 23, 199, 200, 201, 202, 203, 204, 205, 206, 207, 208, 209, 210, 211, 212, 213, 214, 215, 216, 217, 218, 219, 220, 221, 222, 223, 224, 225, 226, 227, 228, 229, 230, 231, 232, 233, 234, 235, 236, 237, 238, 239, 240, 241, 242, 243, 244, 245, 246, 247, 248, 249, 250, 251, 252, 253, 254, 255, 256, 257, 258, 259, 260, 261, 262, 263, 264, 265, 266, 267, 268, 269, 270, 271, 272, 273, 274, 275, 276, 277, 278, 279, 280, 281, 282, 283, 284, 285] (by decide +kernel) (by decide +kernel)
set_option maxRecDepth 20000 in
theorem gX12_text_X12_plain : GoodIn wsX12_text (wsV RX12 148 RX12 yX12_plain wsX12_plain) := goodIn_app (goodIn_of _ (by decide +kernel)) ggX12_text_X12_plain
set_option maxRecDepth 20000 in
theorem ggX12_text_X12_token : GoodIn wsX12_text wsX12_token := goodIn_r _ [27, 6, 3, 28, 29, 7, 30, 31, 32, 33, 34, 11, 35, 36, 37, 38, 39, 40, 41, 42, 43, 44, 45, 46, 47, 48, 49, 50, 51, 52, 199, 200, 201, 202, 203, 204, 205, 206, 207, 208, 209, 210, 211, 212, 213, 214, 215, 216, 217, 218, 219, 220, 221, 222, 223, 224, 225, 226, 227, 228, 229, 230, 231, 232, 233, 234, 235, 236, 237, 238, 239, 240, 241, 242, 243, 244, 245, 246, 247, 248, 249, 250, 251, 252, 253, 254, 255, 256, 257, 258, 259, 260, 261, 262, 263, 264, 265, 266, 267, 268, 269, 270, 271, 272, 273, 274, 275, 276, 277, 278, 279, 280, 281, 282, 283, 284, 285] (by decide +kernel) (by decide +kernel)
set_option maxRecDepth 20000 in
theorem gX12_text_X12_token : GoodIn wsX12_text (wsV RX12 206 RX12 yX12_token wsX12_token) := goodIn_app (goodIn_of _ (by decide +kernel)) ggX12_text_X12_token
set_option maxRecDepth 20000 in
theorem ggX12_text_X12_lineRead : GoodIn wsX12_text wsX12_lineRead := goodIn_r _ [56, 7, 30, 23, 57, 18, 58, 59, 60, 61, 11, 62, 4, 29, 5, 63, 64, 65, 66, 21, 20, 67, 13, 14, 24, 25, 26, 27, 6, 3, 28, 31, 32, 33, 34, 35, 36, 37, 38, 39, 40, 41, 42, 43, 44, 45, 46, 47, 48, 49, 50, 51, 52, 68, 69, 70, 71, 72, 73, 74, 75, 76, 77, 78, 15, 79, 80, 81, 82, 83, 84, 85, 86, 87, 88, 89, 90, 91, 92, 93, 94, 95, 96, 16, 17, 97, 98, 99, 100, 101, 102, 103, 104, 22, 105, 106, 107, 108, 109, 110, 111, 112, 113, 114, 115, 116, 117, 118, 119, 120, 121, 122, 123, 124, 125, 126, 127, 128, 129, 130, 131, 132, 133, 134, 135, 136, 137, 138, 19, 139, 140, 141, 142, 143, 144, 145, 146, 147, 148, 149, 150, 151, 152, 153, 154, 155, 156, 157, 158, 159, 160, 161, 162, 163, 164, 165, 199, 200, 201, 202, 203, 204, 205, 206, 207, 208, 209, 210, 211, 212, 213, 214, 215, 216, 217, 218, 219, 220, 221, 222, 223, 224, 225, 226, 227, 228, 229, 230, 231, 232, 233, 234, 235, 236, 237, 238, 239, 240, 241, 242, 243, 244, 245, 246, 247, 248, 249, 250, 251, 252, 253, 254, 255, 256, 257, 258, 259, 260, 261, 262, 263, 264, 265, 266, 267, 268, 269, 270, 271, 272, 273, 274, 275, 276, 277, 278, 279, 280, 281, 282, 283, 284, 285] (by decide +kernel) (by decide +kernel)
set_option maxRecDepth 20000 in
theorem gX12_text_X12_lineRead : GoodIn wsX12_text (wsV RX12 295 RX12 yX12_lineRead wsX12_lineRead) := goodIn_app (goodIn_of _ (by decide +kernel)) ggX12_text_X12_lineRead
set_option maxRecDepth 20000 in
theorem ggX12_text_X12_keepText : GoodIn wsX12_text wsX12_keepText := goodIn_r _ [169, 13, 170, 14, 171, 15, 172, 16, 173, 17, 174, 18, 175, 22, 79, 80, 82, 83, 84, 85, 98, 97, 99, 100, 23, 57, 58, 147, 148, 149, 176, 177, 11, 178, 179, 180, 181, 182, 183, 184, 185, 186, 187, 188, 189, 190, 191, 192, 193, 194, 195, 196, 197, 198, 199, 200, 201, 202, 203, 204, 205, 206, 207, 208, 209, 210, 211, 212, 213, 214, 215, 216, 217, 218, 219, 220, 221, 222, 223, 224, 225, 226, 227, 228, 229, 230, 231, 232, 233, 234, 235, 236, 237, 238, 239, 240, 241, 242, 243, 244, 245, 246, 247, 248, 249, 250, 251, 252, 253, 254, 255, 256, 257, 258, 259, 260, 261, 262, 263, 264, 265, 266, 267, 268, 269, 270, 271, 272, 273, 274, 275, 276, 277, 278, 279, 280, 281, 282, 283, 284, 285] (by decide +kernel) (by decide +kernel)
set_option maxRecDepth 20000 in
theorem gX12_text_X12_keepText : GoodIn wsX12_text (wsV RX12 151 RX12 yX12_keepText wsX12_keepText) := goodIn_app (goodIn_of _ (by decide +kernel)) ggX12_text_X12_keepText
theorem dX12_text_0 : decode cX12_text 0 = .ok (.aload_n 0, 1) := by decide +kernel
theorem dX12_text_1 : decode cX12_text 1 = .ok (.iconst 0, 1) := by decide +kernel
theorem dX12_text_2 : decode cX12_text 2 = .ok (.putfield 154, 3) := by decide +kernel
theorem dX12_text_5 : decode cX12_text 5 = .ok (.iload_n 1, 1) := by decide +kernel
theorem dX12_text_6 : decode cX12_text 6 = .ok (.ifCond .lt 11, 3) := by decide +kernel
theorem dX12_text_9 : decode cX12_text 9 = .ok (.iload_n 1, 1) := by decide +kernel
theorem dX12_text_10 : decode cX12_text 10 = .ok (.aload_n 0, 1) := by decide +kernel
theorem dX12_text_11 : decode cX12_text 11 = .ok (.getfield 157, 3) := by decide +kernel
theorem dX12_text_14 : decode cX12_text 14 = .ok (.if_icmp .le 6, 3) := by decide +kernel
theorem dX12_text_17 : decode cX12_text 17 = .ok (.bipush (-2), 2) := by decide +kernel
theorem dX12_text_19 : decode cX12_text 19 = .ok (.ireturn, 1) := by decide +kernel
theorem dX12_text_20 : decode cX12_text 20 = .ok (.aload_n 0, 1) := by decide +kernel
theorem dX12_text_21 : decode cX12_text 21 = .ok (.iload_n 1, 1) := by decide +kernel
theorem dX12_text_22 : decode cX12_text 22 = .ok (.putfield 166, 3) := by decide +kernel
theorem dX12_text_25 : decode cX12_text 25 = .ok (.aload_n 0, 1) := by decide +kernel
theorem dX12_text_26 : decode cX12_text 26 = .ok (.iconst 0, 1) := by decide +kernel
theorem dX12_text_27 : decode cX12_text 27 = .ok (.putfield 157, 3) := by decide +kernel
theorem dX12_text_30 : decode cX12_text 30 = .ok (.aload_n 0, 1) := by decide +kernel
theorem dX12_text_31 : decode cX12_text 31 = .ok (.iconst 0, 1) := by decide +kernel
theorem dX12_text_32 : decode cX12_text 32 = .ok (.putfield 160, 3) := by decide +kernel
theorem dX12_text_35 : decode cX12_text 35 = .ok (.aload_n 0, 1) := by decide +kernel
theorem dX12_text_36 : decode cX12_text 36 = .ok (.iconst (-1), 1) := by decide +kernel
theorem dX12_text_37 : decode cX12_text 37 = .ok (.putfield 16, 3) := by decide +kernel
theorem dX12_text_40 : decode cX12_text 40 = .ok (.aload_n 0, 1) := by decide +kernel
theorem dX12_text_41 : decode cX12_text 41 = .ok (.iconst 0, 1) := by decide +kernel
theorem dX12_text_42 : decode cX12_text 42 = .ok (.putfield 169, 3) := by decide +kernel
theorem dX12_text_45 : decode cX12_text 45 = .ok (.aload_n 0, 1) := by decide +kernel
theorem dX12_text_46 : decode cX12_text 46 = .ok (.invokevirtual 148, 3) := by decide +kernel
theorem dX12_text_49 : decode cX12_text 49 = .ok (.aload_n 0, 1) := by decide +kernel
theorem dX12_text_50 : decode cX12_text 50 = .ok (.invokevirtual 206, 3) := by decide +kernel
theorem dX12_text_53 : decode cX12_text 53 = .ok (.iconst 0, 1) := by decide +kernel
theorem dX12_text_54 : decode cX12_text 54 = .ok (.istore_n 2, 1) := by decide +kernel
theorem dX12_text_55 : decode cX12_text 55 = .ok (.aload_n 0, 1) := by decide +kernel
theorem dX12_text_56 : decode cX12_text 56 = .ok (.getfield 172, 3) := by decide +kernel
theorem dX12_text_59 : decode cX12_text 59 = .ok (.ifCond .eq 18, 3) := by decide +kernel
theorem dX12_text_62 : decode cX12_text 62 = .ok (.aload_n 0, 1) := by decide +kernel
theorem dX12_text_63 : decode cX12_text 63 = .ok (.invokevirtual 295, 3) := by decide +kernel
theorem dX12_text_66 : decode cX12_text 66 = .ok (.ifCond .ne 5, 3) := by decide +kernel
theorem dX12_text_69 : decode cX12_text 69 = .ok (.iconst (-1), 1) := by decide +kernel
theorem dX12_text_70 : decode cX12_text 70 = .ok (.ireturn, 1) := by decide +kernel
theorem dX12_text_71 : decode cX12_text 71 = .ok (.iinc 2 1, 3) := by decide +kernel
theorem dX12_text_74 : decode cX12_text 74 = .ok (.goto (-19), 3) := by decide +kernel
theorem dX12_text_77 : decode cX12_text 77 = .ok (.aload_n 0, 1) := by decide +kernel
theorem dX12_text_78 : decode cX12_text 78 = .ok (.invokevirtual 151, 3) := by decide +kernel
theorem dX12_text_81 : decode cX12_text 81 = .ok (.iload_n 2, 1) := by decide +kernel
theorem dX12_text_82 : decode cX12_text 82 = .ok (.ireturn, 1) := by decide +kernel
theorem dX12_fault_0 : decode cX12_fault 0 = .ok (.aload_n 0, 1) := by decide +kernel
theorem dX12_fault_1 : decode cX12_fault 1 = .ok (.iconst 0, 1) := by decide +kernel
theorem dX12_fault_2 : decode cX12_fault 2 = .ok (.putfield 154, 3) := by decide +kernel
theorem dX12_fault_5 : decode cX12_fault 5 = .ok (.iload_n 1, 1) := by decide +kernel
theorem dX12_fault_6 : decode cX12_fault 6 = .ok (.ifCond .ne 10, 3) := by decide +kernel
theorem dX12_fault_9 : decode cX12_fault 9 = .ok (.aload_n 0, 1) := by decide +kernel
theorem dX12_fault_10 : decode cX12_fault 10 = .ok (.getfield 160, 3) := by decide +kernel
theorem dX12_fault_13 : decode cX12_fault 13 = .ok (.goto 16, 3) := by decide +kernel
theorem dX12_fault_16 : decode cX12_fault 16 = .ok (.iload_n 1, 1) := by decide +kernel
theorem dX12_fault_17 : decode cX12_fault 17 = .ok (.iconst 1, 1) := by decide +kernel
theorem dX12_fault_18 : decode cX12_fault 18 = .ok (.if_icmp .ne 10, 3) := by decide +kernel
theorem dX12_fault_21 : decode cX12_fault 21 = .ok (.aload_n 0, 1) := by decide +kernel
theorem dX12_fault_22 : decode cX12_fault 22 = .ok (.getfield 16, 3) := by decide +kernel
theorem dX12_fault_25 : decode cX12_fault 25 = .ok (.goto 4, 3) := by decide +kernel
theorem dX12_fault_28 : decode cX12_fault 28 = .ok (.iconst (-1), 1) := by decide +kernel
theorem dX12_fault_29 : decode cX12_fault 29 = .ok (.ireturn, 1) := by decide +kernel
set_option maxRecDepth 20000 in
theorem ggX12_named_X12_find : GoodIn wsX12_named wsX12_find := goodIn_r _ [7] (by decide +kernel) (by decide +kernel)
set_option maxRecDepth 20000 in
theorem gX12_named_X12_find : GoodIn wsX12_named (va_wsS RX12 269 yX12_find wsX12_find) := goodIn_app (goodIn_of _ (by decide +kernel)) ggX12_named_X12_find
theorem dX12_named_0 : decode cX12_named 0 = .ok (.aload_n 0, 1) := by decide +kernel
theorem dX12_named_1 : decode cX12_named 1 = .ok (.iconst 0, 1) := by decide +kernel
theorem dX12_named_2 : decode cX12_named 2 = .ok (.putfield 154, 3) := by decide +kernel
theorem dX12_named_5 : decode cX12_named 5 = .ok (.aload_n 0, 1) := by decide +kernel
theorem dX12_named_6 : decode cX12_named 6 = .ok (.getfield 27, 3) := by decide +kernel
theorem dX12_named_9 : decode cX12_named 9 = .ok (.iconst 0, 1) := by decide +kernel
theorem dX12_named_10 : decode cX12_named 10 = .ok (.aload_n 0, 1) := by decide +kernel
theorem dX12_named_11 : decode cX12_named 11 = .ok (.getfield 247, 3) := by decide +kernel
theorem dX12_named_14 : decode cX12_named 14 = .ok (.iload_n 1, 1) := by decide +kernel
theorem dX12_named_15 : decode cX12_named 15 = .ok (.invokestatic 269, 3) := by decide +kernel
theorem dX12_named_18 : decode cX12_named 18 = .ok (.ireturn, 1) := by decide +kernel
theorem dX12_rank_0 : decode cX12_rank 0 = .ok (.iload_n 0, 1) := by decide +kernel
theorem dX12_rank_1 : decode cX12_rank 1 = .ok (.bipush 13, 2) := by decide +kernel
theorem dX12_rank_3 : decode cX12_rank 3 = .ok (.if_icmp .lt 8, 3) := by decide +kernel
theorem dX12_rank_6 : decode cX12_rank 6 = .ok (.bipush 6, 2) := by decide +kernel
theorem dX12_rank_8 : decode cX12_rank 8 = .ok (.goto 50, 3) := by decide +kernel
theorem dX12_rank_11 : decode cX12_rank 11 = .ok (.iload_n 0, 1) := by decide +kernel
theorem dX12_rank_12 : decode cX12_rank 12 = .ok (.bipush 11, 2) := by decide +kernel
theorem dX12_rank_14 : decode cX12_rank 14 = .ok (.if_icmp .lt 7, 3) := by decide +kernel
theorem dX12_rank_17 : decode cX12_rank 17 = .ok (.iconst 5, 1) := by decide +kernel
theorem dX12_rank_18 : decode cX12_rank 18 = .ok (.goto 40, 3) := by decide +kernel
theorem dX12_rank_21 : decode cX12_rank 21 = .ok (.iload_n 0, 1) := by decide +kernel
theorem dX12_rank_22 : decode cX12_rank 22 = .ok (.iconst 5, 1) := by decide +kernel
theorem dX12_rank_23 : decode cX12_rank 23 = .ok (.if_icmp .lt 7, 3) := by decide +kernel
theorem dX12_rank_26 : decode cX12_rank 26 = .ok (.iconst 4, 1) := by decide +kernel
theorem dX12_rank_27 : decode cX12_rank 27 = .ok (.goto 31, 3) := by decide +kernel
theorem dX12_rank_30 : decode cX12_rank 30 = .ok (.iload_n 0, 1) := by decide +kernel
theorem dX12_rank_31 : decode cX12_rank 31 = .ok (.iconst 2, 1) := by decide +kernel
theorem dX12_rank_32 : decode cX12_rank 32 = .ok (.if_icmp .ne 7, 3) := by decide +kernel
theorem dX12_rank_35 : decode cX12_rank 35 = .ok (.iconst 3, 1) := by decide +kernel
theorem dX12_rank_36 : decode cX12_rank 36 = .ok (.goto 22, 3) := by decide +kernel
theorem dX12_rank_39 : decode cX12_rank 39 = .ok (.iload_n 0, 1) := by decide +kernel
theorem dX12_rank_40 : decode cX12_rank 40 = .ok (.iconst 3, 1) := by decide +kernel
theorem dX12_rank_41 : decode cX12_rank 41 = .ok (.if_icmp .ne 7, 3) := by decide +kernel
theorem dX12_rank_44 : decode cX12_rank 44 = .ok (.iconst 2, 1) := by decide +kernel
theorem dX12_rank_45 : decode cX12_rank 45 = .ok (.goto 13, 3) := by decide +kernel
theorem dX12_rank_48 : decode cX12_rank 48 = .ok (.iload_n 0, 1) := by decide +kernel
theorem dX12_rank_49 : decode cX12_rank 49 = .ok (.iconst 4, 1) := by decide +kernel
theorem dX12_rank_50 : decode cX12_rank 50 = .ok (.if_icmp .ne 7, 3) := by decide +kernel
theorem dX12_rank_53 : decode cX12_rank 53 = .ok (.iconst 1, 1) := by decide +kernel
theorem dX12_rank_54 : decode cX12_rank 54 = .ok (.goto 4, 3) := by decide +kernel
theorem dX12_rank_57 : decode cX12_rank 57 = .ok (.iconst 0, 1) := by decide +kernel
theorem dX12_rank_58 : decode cX12_rank 58 = .ok (.ireturn, 1) := by decide +kernel
theorem dX12_grown_0 : decode cX12_grown 0 = .ok (.aload_n 0, 1) := by decide +kernel
theorem dX12_grown_1 : decode cX12_grown 1 = .ok (.getfield 66, 3) := by decide +kernel
theorem dX12_grown_4 : decode cX12_grown 4 = .ok (.bipush 64, 2) := by decide +kernel
theorem dX12_grown_6 : decode cX12_grown 6 = .ok (.aload_n 0, 1) := by decide +kernel
theorem dX12_grown_7 : decode cX12_grown 7 = .ok (.getfield 231, 3) := by decide +kernel
theorem dX12_grown_10 : decode cX12_grown 10 = .ok (.iadd, 1) := by decide +kernel
theorem dX12_grown_11 : decode cX12_grown 11 = .ok (.iload_n 1, 1) := by decide +kernel
theorem dX12_grown_12 : decode cX12_grown 12 = .ok (.iastore, 1) := by decide +kernel
theorem dX12_grown_13 : decode cX12_grown 13 = .ok (.aload_n 0, 1) := by decide +kernel
theorem dX12_grown_14 : decode cX12_grown 14 = .ok (.getfield 69, 3) := by decide +kernel
theorem dX12_grown_17 : decode cX12_grown 17 = .ok (.bipush 64, 2) := by decide +kernel
theorem dX12_grown_19 : decode cX12_grown 19 = .ok (.aload_n 0, 1) := by decide +kernel
theorem dX12_grown_20 : decode cX12_grown 20 = .ok (.getfield 231, 3) := by decide +kernel
theorem dX12_grown_23 : decode cX12_grown 23 = .ok (.iadd, 1) := by decide +kernel
theorem dX12_grown_24 : decode cX12_grown 24 = .ok (.iload_n 2, 1) := by decide +kernel
theorem dX12_grown_25 : decode cX12_grown 25 = .ok (.iastore, 1) := by decide +kernel
theorem dX12_grown_26 : decode cX12_grown 26 = .ok (.aload_n 0, 1) := by decide +kernel
theorem dX12_grown_27 : decode cX12_grown 27 = .ok (.getfield 72, 3) := by decide +kernel
theorem dX12_grown_30 : decode cX12_grown 30 = .ok (.bipush 64, 2) := by decide +kernel
theorem dX12_grown_32 : decode cX12_grown 32 = .ok (.aload_n 0, 1) := by decide +kernel
theorem dX12_grown_33 : decode cX12_grown 33 = .ok (.getfield 231, 3) := by decide +kernel
theorem dX12_grown_36 : decode cX12_grown 36 = .ok (.iadd, 1) := by decide +kernel
theorem dX12_grown_37 : decode cX12_grown 37 = .ok (.iload_n 3, 1) := by decide +kernel
theorem dX12_grown_38 : decode cX12_grown 38 = .ok (.iastore, 1) := by decide +kernel
theorem dX12_grown_39 : decode cX12_grown 39 = .ok (.aload_n 0, 1) := by decide +kernel
theorem dX12_grown_40 : decode cX12_grown 40 = .ok (.getfield 78, 3) := by decide +kernel
theorem dX12_grown_43 : decode cX12_grown 43 = .ok (.aload_n 0, 1) := by decide +kernel
theorem dX12_grown_44 : decode cX12_grown 44 = .ok (.getfield 298, 3) := by decide +kernel
theorem dX12_grown_47 : decode cX12_grown 47 = .ok (.aload_n 0, 1) := by decide +kernel
theorem dX12_grown_48 : decode cX12_grown 48 = .ok (.getfield 231, 3) := by decide +kernel
theorem dX12_grown_51 : decode cX12_grown 51 = .ok (.iastore, 1) := by decide +kernel
theorem dX12_grown_52 : decode cX12_grown 52 = .ok (.aload_n 0, 1) := by decide +kernel
theorem dX12_grown_53 : decode cX12_grown 53 = .ok (.dup, 1) := by decide +kernel
theorem dX12_grown_54 : decode cX12_grown 54 = .ok (.getfield 298, 3) := by decide +kernel
theorem dX12_grown_57 : decode cX12_grown 57 = .ok (.iconst 1, 1) := by decide +kernel
theorem dX12_grown_58 : decode cX12_grown 58 = .ok (.iadd, 1) := by decide +kernel
theorem dX12_grown_59 : decode cX12_grown 59 = .ok (.putfield 298, 3) := by decide +kernel
theorem dX12_grown_62 : decode cX12_grown 62 = .ok (.aload_n 0, 1) := by decide +kernel
theorem dX12_grown_63 : decode cX12_grown 63 = .ok (.dup, 1) := by decide +kernel
theorem dX12_grown_64 : decode cX12_grown 64 = .ok (.getfield 231, 3) := by decide +kernel
theorem dX12_grown_67 : decode cX12_grown 67 = .ok (.iconst 1, 1) := by decide +kernel
theorem dX12_grown_68 : decode cX12_grown 68 = .ok (.iadd, 1) := by decide +kernel
theorem dX12_grown_69 : decode cX12_grown 69 = .ok (.putfield 231, 3) := by decide +kernel
theorem dX12_grown_72 : decode cX12_grown 72 = .ok (.return_, 1) := by decide +kernel
theorem dX12_dropHeld_0 : decode cX12_dropHeld 0 = .ok (.aload_n 0, 1) := by decide +kernel
theorem dX12_dropHeld_1 : decode cX12_dropHeld 1 = .ok (.dup, 1) := by decide +kernel
theorem dX12_dropHeld_2 : decode cX12_dropHeld 2 = .ok (.getfield 298, 3) := by decide +kernel
theorem dX12_dropHeld_5 : decode cX12_dropHeld 5 = .ok (.iconst 1, 1) := by decide +kernel
theorem dX12_dropHeld_6 : decode cX12_dropHeld 6 = .ok (.isub, 1) := by decide +kernel
theorem dX12_dropHeld_7 : decode cX12_dropHeld 7 = .ok (.putfield 298, 3) := by decide +kernel
theorem dX12_dropHeld_10 : decode cX12_dropHeld 10 = .ok (.aload_n 0, 1) := by decide +kernel
theorem dX12_dropHeld_11 : decode cX12_dropHeld 11 = .ok (.getfield 78, 3) := by decide +kernel
theorem dX12_dropHeld_14 : decode cX12_dropHeld 14 = .ok (.aload_n 0, 1) := by decide +kernel
theorem dX12_dropHeld_15 : decode cX12_dropHeld 15 = .ok (.getfield 298, 3) := by decide +kernel
theorem dX12_dropHeld_18 : decode cX12_dropHeld 18 = .ok (.iaload, 1) := by decide +kernel
theorem dX12_dropHeld_19 : decode cX12_dropHeld 19 = .ok (.ireturn, 1) := by decide +kernel
set_option maxRecDepth 20000 in
theorem ggX12_bind_X12_rank : GoodIn wsX12_bind wsX12_rank := goodIn_r _ [6] (by decide +kernel) (by decide +kernel)
set_option maxRecDepth 20000 in
theorem gX12_bind_X12_rank : GoodIn wsX12_bind (va_wsS RX12 304 yX12_rank wsX12_rank) := goodIn_app (goodIn_of _ (by decide +kernel)) ggX12_bind_X12_rank
set_option maxRecDepth 20000 in
theorem ggX12_bind_X12_dropHeld : GoodIn wsX12_bind wsX12_dropHeld := goodIn_r _ [10, 11, 12, 21, 22, 23, 24, 25, 26, 27, 28, 29, 30, 31, 32, 33, 34, 35, 36, 37, 38, 39, 40, 41, 42, 43, 44, 45, 46, 47, 48, 49, 50, 51, 52, 53, 54, 55, 56, 57, 58, 59, 60, 61, 62, 63, 64, 65, 66, 67, 68, 69, 70, 71, 72, 73, 74, 75, 76, 77, 78, 79, 80, 81, 82, 83, 84, 85, 86, 87, 88, 89, 90, 91, 92, 93, 94, 95, 96, 97, 98, 99, 100, 101, 102, 103, 104, 105, 106, 107] (by decide +kernel) (by decide +kernel)
set_option maxRecDepth 20000 in
theorem gX12_bind_X12_dropHeld : GoodIn wsX12_bind (wsV RX12 308 RX12 yX12_dropHeld wsX12_dropHeld) := goodIn_app (goodIn_of _ (by decide +kernel)) ggX12_bind_X12_dropHeld
set_option maxRecDepth 20000 in
theorem ggX12_bind_X12_grown : GoodIn wsX12_bind wsX12_grown := goodIn_r _ [16, 17, 18, 19, 20, 12, 11, 21, 22, 23, 24, 25, 26, 27, 28, 29, 30, 31, 32, 33, 34, 35, 36, 37, 38, 39, 40, 41, 42, 43, 44, 45, 46, 47, 48, 49, 50, 51, 52, 53, 54, 55, 56, 57, 58, 59, 60, 61, 62, 63, 64, 65, 66, 67, 68, 69, 70, 71, 72, 73, 74, 75, 76, 77, 78, 79, 80, 81, 82, 83, 84, 85, 86, 87, 88, 89, 90, 91, 92, 93, 94, 95, 96, 97, 98, 99, 100, 101, 102, 103, 104, 105, 106, 107] (by decide +kernel) (by decide +kernel)
set_option maxRecDepth 20000 in
theorem gX12_bind_X12_grown : GoodIn wsX12_bind (wsV RX12 312 RX12 yX12_grown wsX12_grown) := goodIn_app (goodIn_of _ (by decide +kernel)) ggX12_bind_X12_grown
theorem dX12_bind_0 : decode cX12_bind 0 = .ok (.aload_n 0, 1) := by decide +kernel
theorem dX12_bind_1 : decode cX12_bind 1 = .ok (.getfield 301, 3) := by decide +kernel
theorem dX12_bind_4 : decode cX12_bind 4 = .ok (.ifCond .le 72, 3) := by decide +kernel
theorem dX12_bind_7 : decode cX12_bind 7 = .ok (.aload_n 0, 1) := by decide +kernel
theorem dX12_bind_8 : decode cX12_bind 8 = .ok (.getfield 75, 3) := by decide +kernel
theorem dX12_bind_11 : decode cX12_bind 11 = .ok (.aload_n 0, 1) := by decide +kernel
theorem dX12_bind_12 : decode cX12_bind 12 = .ok (.getfield 301, 3) := by decide +kernel
theorem dX12_bind_15 : decode cX12_bind 15 = .ok (.iconst 1, 1) := by decide +kernel
theorem dX12_bind_16 : decode cX12_bind 16 = .ok (.isub, 1) := by decide +kernel
theorem dX12_bind_17 : decode cX12_bind 17 = .ok (.iaload, 1) := by decide +kernel
theorem dX12_bind_18 : decode cX12_bind 18 = .ok (.invokestatic 304, 3) := by decide +kernel
theorem dX12_bind_21 : decode cX12_bind 21 = .ok (.iload_n 1, 1) := by decide +kernel
theorem dX12_bind_22 : decode cX12_bind 22 = .ok (.if_icmp .lt 54, 3) := by decide +kernel
theorem dX12_bind_25 : decode cX12_bind 25 = .ok (.aload_n 0, 1) := by decide +kernel
theorem dX12_bind_26 : decode cX12_bind 26 = .ok (.dup, 1) := by decide +kernel
theorem dX12_bind_27 : decode cX12_bind 27 = .ok (.getfield 301, 3) := by decide +kernel
theorem dX12_bind_30 : decode cX12_bind 30 = .ok (.iconst 1, 1) := by decide +kernel
theorem dX12_bind_31 : decode cX12_bind 31 = .ok (.isub, 1) := by decide +kernel
theorem dX12_bind_32 : decode cX12_bind 32 = .ok (.putfield 301, 3) := by decide +kernel
theorem dX12_bind_35 : decode cX12_bind 35 = .ok (.aload_n 0, 1) := by decide +kernel
theorem dX12_bind_36 : decode cX12_bind 36 = .ok (.getfield 75, 3) := by decide +kernel
theorem dX12_bind_39 : decode cX12_bind 39 = .ok (.aload_n 0, 1) := by decide +kernel
theorem dX12_bind_40 : decode cX12_bind 40 = .ok (.getfield 301, 3) := by decide +kernel
theorem dX12_bind_43 : decode cX12_bind 43 = .ok (.iaload, 1) := by decide +kernel
theorem dX12_bind_44 : decode cX12_bind 44 = .ok (.istore_n 2, 1) := by decide +kernel
theorem dX12_bind_45 : decode cX12_bind 45 = .ok (.iload_n 2, 1) := by decide +kernel
theorem dX12_bind_46 : decode cX12_bind 46 = .ok (.iconst 2, 1) := by decide +kernel
theorem dX12_bind_47 : decode cX12_bind 47 = .ok (.if_icmp .ne 7, 3) := by decide +kernel
theorem dX12_bind_50 : decode cX12_bind 50 = .ok (.iconst (-1), 1) := by decide +kernel
theorem dX12_bind_51 : decode cX12_bind 51 = .ok (.goto 7, 3) := by decide +kernel
theorem dX12_bind_54 : decode cX12_bind 54 = .ok (.aload_n 0, 1) := by decide +kernel
theorem dX12_bind_55 : decode cX12_bind 55 = .ok (.invokevirtual 308, 3) := by decide +kernel
theorem dX12_bind_58 : decode cX12_bind 58 = .ok (.istore_n 3, 1) := by decide +kernel
theorem dX12_bind_59 : decode cX12_bind 59 = .ok (.aload_n 0, 1) := by decide +kernel
theorem dX12_bind_60 : decode cX12_bind 60 = .ok (.invokevirtual 308, 3) := by decide +kernel
theorem dX12_bind_63 : decode cX12_bind 63 = .ok (.istore 4, 2) := by decide +kernel
theorem dX12_bind_65 : decode cX12_bind 65 = .ok (.aload_n 0, 1) := by decide +kernel
theorem dX12_bind_66 : decode cX12_bind 66 = .ok (.iload_n 2, 1) := by decide +kernel
theorem dX12_bind_67 : decode cX12_bind 67 = .ok (.iload 4, 2) := by decide +kernel
theorem dX12_bind_69 : decode cX12_bind 69 = .ok (.iload_n 3, 1) := by decide +kernel
theorem dX12_bind_70 : decode cX12_bind 70 = .ok (.invokevirtual 312, 3) := by decide +kernel
theorem dX12_bind_73 : decode cX12_bind 73 = .ok (.goto (-73), 3) := by decide +kernel
theorem dX12_bind_76 : decode cX12_bind 76 = .ok (.return_, 1) := by decide +kernel
set_option maxRecDepth 20000 in
theorem ggX12_isCounted_X12_wrong : GoodIn wsX12_isCounted wsX12_wrong := goodIn_r _ [6, 7, 8, 9, 10, 11, 12, 13, 14, 15, 16, 17, 18, 19, 20, 21, 22, 23, 24, 25, 26, 27, 28, 29, 30, 31, 32, 33, 34, 35, 36, 37, 38, 39, 40, 41, 42, 43, 44, 45, 46, 47, 48, 49, 50, 51, 52, 53, 54, 55, 56, 57, 58, 59, 60, 61, 62, 63, 64, 65, 66, 67, 68, 69, 70, 71, 72, 73, 74, 75, 76, 77, 78, 79, 80, 81, 82, 83, 84, 85, 86, 87, 88, 89, 90, 91, 92, 93, 94, 95, 96] (by decide +kernel) (by decide +kernel)
set_option maxRecDepth 20000 in
theorem gX12_isCounted_X12_wrong : GoodIn wsX12_isCounted (wsV RX12 196 RX12 yX12_wrong wsX12_wrong) := goodIn_app (goodIn_of _ (by decide +kernel)) ggX12_isCounted_X12_wrong
theorem dX12_isCounted_0 : decode cX12_isCounted 0 = .ok (.aload_n 0, 1) := by decide +kernel
theorem dX12_isCounted_1 : decode cX12_isCounted 1 = .ok (.getfield 234, 3) := by decide +kernel
theorem dX12_isCounted_4 : decode cX12_isCounted 4 = .ok (.bipush 64, 2) := by decide +kernel
theorem dX12_isCounted_6 : decode cX12_isCounted 6 = .ok (.if_icmp .ne 9, 3) := by decide +kernel
theorem dX12_isCounted_9 : decode cX12_isCounted 9 = .ok (.aload_n 0, 1) := by decide +kernel
theorem dX12_isCounted_10 : decode cX12_isCounted 10 = .ok (.iconst 2, 1) := by decide +kernel
theorem dX12_isCounted_11 : decode cX12_isCounted 11 = .ok (.invokevirtual 196, 3) := by decide +kernel
theorem dX12_isCounted_14 : decode cX12_isCounted 14 = .ok (.ireturn, 1) := by decide +kernel
theorem dX12_isCounted_15 : decode cX12_isCounted 15 = .ok (.aload_n 0, 1) := by decide +kernel
theorem dX12_isCounted_16 : decode cX12_isCounted 16 = .ok (.dup, 1) := by decide +kernel
theorem dX12_isCounted_17 : decode cX12_isCounted 17 = .ok (.getfield 234, 3) := by decide +kernel
theorem dX12_isCounted_20 : decode cX12_isCounted 20 = .ok (.iconst 1, 1) := by decide +kernel
theorem dX12_isCounted_21 : decode cX12_isCounted 21 = .ok (.iadd, 1) := by decide +kernel
theorem dX12_isCounted_22 : decode cX12_isCounted 22 = .ok (.putfield 234, 3) := by decide +kernel
theorem dX12_isCounted_25 : decode cX12_isCounted 25 = .ok (.iconst 1, 1) := by decide +kernel
theorem dX12_isCounted_26 : decode cX12_isCounted 26 = .ok (.ireturn, 1) := by decide +kernel
theorem dX12_waitsFor_0 : decode cX12_waitsFor 0 = .ok (.aload_n 0, 1) := by decide +kernel
theorem dX12_waitsFor_1 : decode cX12_waitsFor 1 = .ok (.getfield 75, 3) := by decide +kernel
theorem dX12_waitsFor_4 : decode cX12_waitsFor 4 = .ok (.aload_n 0, 1) := by decide +kernel
theorem dX12_waitsFor_5 : decode cX12_waitsFor 5 = .ok (.getfield 301, 3) := by decide +kernel
theorem dX12_waitsFor_8 : decode cX12_waitsFor 8 = .ok (.iload_n 1, 1) := by decide +kernel
theorem dX12_waitsFor_9 : decode cX12_waitsFor 9 = .ok (.iastore, 1) := by decide +kernel
theorem dX12_waitsFor_10 : decode cX12_waitsFor 10 = .ok (.aload_n 0, 1) := by decide +kernel
theorem dX12_waitsFor_11 : decode cX12_waitsFor 11 = .ok (.dup, 1) := by decide +kernel
theorem dX12_waitsFor_12 : decode cX12_waitsFor 12 = .ok (.getfield 301, 3) := by decide +kernel
theorem dX12_waitsFor_15 : decode cX12_waitsFor 15 = .ok (.iconst 1, 1) := by decide +kernel
theorem dX12_waitsFor_16 : decode cX12_waitsFor 16 = .ok (.iadd, 1) := by decide +kernel
theorem dX12_waitsFor_17 : decode cX12_waitsFor 17 = .ok (.putfield 301, 3) := by decide +kernel
theorem dX12_waitsFor_20 : decode cX12_waitsFor 20 = .ok (.return_, 1) := by decide +kernel
theorem dX12_nameMet_0 : decode cX12_nameMet 0 = .ok (.aload_n 0, 1) := by decide +kernel
theorem dX12_nameMet_1 : decode cX12_nameMet 1 = .ok (.getfield 172, 3) := by decide +kernel
theorem dX12_nameMet_4 : decode cX12_nameMet 4 = .ok (.iconst 1, 1) := by decide +kernel
theorem dX12_nameMet_5 : decode cX12_nameMet 5 = .ok (.if_icmp .ne 22, 3) := by decide +kernel
theorem dX12_nameMet_8 : decode cX12_nameMet 8 = .ok (.aload_n 0, 1) := by decide +kernel
theorem dX12_nameMet_9 : decode cX12_nameMet 9 = .ok (.getfield 183, 3) := by decide +kernel
theorem dX12_nameMet_12 : decode cX12_nameMet 12 = .ok (.bipush 18, 2) := by decide +kernel
theorem dX12_nameMet_14 : decode cX12_nameMet 14 = .ok (.if_icmp .lt 13, 3) := by decide +kernel
theorem dX12_nameMet_17 : decode cX12_nameMet 17 = .ok (.aload_n 0, 1) := by decide +kernel
theorem dX12_nameMet_18 : decode cX12_nameMet 18 = .ok (.getfield 183, 3) := by decide +kernel
theorem dX12_nameMet_21 : decode cX12_nameMet 21 = .ok (.bipush 18, 2) := by decide +kernel
theorem dX12_nameMet_23 : decode cX12_nameMet 23 = .ok (.isub, 1) := by decide +kernel
theorem dX12_nameMet_24 : decode cX12_nameMet 24 = .ok (.goto 4, 3) := by decide +kernel
theorem dX12_nameMet_27 : decode cX12_nameMet 27 = .ok (.iconst (-1), 1) := by decide +kernel
theorem dX12_nameMet_28 : decode cX12_nameMet 28 = .ok (.ireturn, 1) := by decide +kernel
set_option maxRecDepth 20000 in
theorem ggX12_leafRead_X12_isSign : GoodIn wsX12_leafRead wsX12_isSign := goodIn_r _ [10, 3, 4, 76, 77, 78, 79, 80, 81, 82, 83, 84, 85, 86, 87, 88, 89, 90, 91, 92, 93, 94, 95, 96, 97, 98, 99, 100, 101, 102, 103, 104, 105, 106, 107, 108, 109, 110, 111, 112, 113, 114, 115, 116, 117, 118, 119, 120, 121, 122, 123, 124, 125, 126, 127, 128, 129, 130, 131, 132, 133, 134, 135, 136, 137, 138, 139, 140, 141, 142, 143, 144, 145, 146, 147, 148, 149, 150, 151, 152, 153, 154, 155, 156, 157, 158, 159, 160, 161, 162] (by decide +kernel) (by decide +kernel)
set_option maxRecDepth 20000 in
theorem gX12_leafRead_X12_isSign : GoodIn wsX12_leafRead (wsV RX12 209 RX12 yX12_isSign wsX12_isSign) := goodIn_app (goodIn_of _ (by decide +kernel)) ggX12_leafRead_X12_isSign
set_option maxRecDepth 20000 in
theorem ggX12_leafRead_X12_wrong : GoodIn wsX12_leafRead wsX12_wrong := goodIn_r _ [14, 15, 16, 17, 76, 77, 78, 79, 80, 81, 82, 83, 84, 85, 86, 87, 88, 89, 90, 91, 92, 93, 94, 95, 96, 97, 98, 99, 100, 101, 102, 103, 104, 105, 106, 107, 108, 109, 110, 111, 112, 113, 114, 115, 116, 117, 118, 119, 120, 121, 122, 123, 124, 125, 126, 127, 128, 129, 130, 131, 132, 133, 134, 135, 136, 137, 138, 139, 140, 141, 142, 143, 144, 145, 146, 147, 148, 149, 150, 151, 152, 153, 154, 155, 156, 157, 158, 159, 160, 161, 162] (by decide +kernel) (by decide +kernel)
set_option maxRecDepth 20000 in
theorem gX12_leafRead_X12_wrong : GoodIn wsX12_leafRead (wsV RX12 196 RX12 yX12_wrong wsX12_wrong) := goodIn_app (goodIn_of _ (by decide +kernel)) ggX12_leafRead_X12_wrong
set_option maxRecDepth 20000 in
theorem ggX12_leafRead_X12_waitsFor : GoodIn wsX12_leafRead wsX12_waitsFor := goodIn_r _ [21, 22, 23, 76, 77, 78, 79, 80, 81, 82, 83, 84, 85, 86, 87, 88, 89, 90, 91, 92, 93, 94, 95, 96, 97, 98, 99, 100, 101, 102, 103, 104, 105, 106, 107, 108, 109, 110, 111, 112, 113, 114, 115, 116, 117, 118, 119, 120, 121, 122, 123, 124, 125, 126, 127, 128, 129, 130, 131, 132, 133, 134, 135, 136, 137, 138, 139, 140, 141, 142, 143, 144, 145, 146, 147, 148, 149, 150, 151, 152, 153, 154, 155, 156, 157, 158, 159, 160, 161, 162] (by decide +kernel) (by decide +kernel)
set_option maxRecDepth 20000 in
theorem gX12_leafRead_X12_waitsFor : GoodIn wsX12_leafRead (wsV RX12 319 RX12 yX12_waitsFor wsX12_waitsFor) := goodIn_app (goodIn_of _ (by decide +kernel)) ggX12_leafRead_X12_waitsFor
set_option maxRecDepth 20000 in
theorem ggX12_leafRead_X12_token : GoodIn wsX12_leafRead wsX12_token := goodIn_r _ [27, 28, 29, 30, 16, 3, 4, 31, 32, 33, 34, 9, 35, 36, 37, 38, 39, 40, 41, 42, 43, 44, 45, 46, 47, 48, 49, 50, 51, 52, 76, 77, 78, 79, 80, 81, 82, 83, 84, 85, 86, 87, 88, 89, 90, 91, 92, 93, 94, 95, 96, 97, 98, 99, 100, 101, 102, 103, 104, 105, 106, 107, 108, 109, 110, 111, 112, 113, 114, 115, 116, 117, 118, 119, 120, 121, 122, 123, 124, 125, 126, 127, 128, 129, 130, 131, 132, 133, 134, 135, 136, 137, 138, 139, 140, 141, 142, 143, 144, 145, 146, 147, 148, 149, 150, 151, 152, 153, 154, 155, 156, 157, 158, 159, 160, 161, 162] (by decide +kernel) (by decide +kernel)
set_option maxRecDepth 20000 in
theorem gX12_leafRead_X12_token : GoodIn wsX12_leafRead (wsV RX12 206 RX12 yX12_token wsX12_token) := goodIn_app (goodIn_of _ (by decide +kernel)) ggX12_leafRead_X12_token
set_option maxRecDepth 20000 in
theorem ggX12_leafRead_X12_isKey : GoodIn wsX12_leafRead wsX12_isKey := goodIn_r _ [56, 3, 4, 76, 77, 78, 79, 80, 81, 82, 83, 84, 85, 86, 87, 88, 89, 90, 91, 92, 93, 94, 95, 96, 97, 98, 99, 100, 101, 102, 103, 104, 105, 106, 107, 108, 109, 110, 111, 112, 113, 114, 115, 116, 117, 118, 119, 120, 121, 122, 123, 124, 125, 126, 127, 128, 129, 130, 131, 132, 133, 134, 135, 136, 137, 138, 139, 140, 141, 142, 143, 144, 145, 146, 147, 148, 149, 150, 151, 152, 153, 154, 155, 156, 157, 158, 159, 160, 161, 162] (by decide +kernel) (by decide +kernel)
set_option maxRecDepth 20000 in
theorem gX12_leafRead_X12_isKey : GoodIn wsX12_leafRead (wsV RX12 326 RX12 yX12_isKey wsX12_isKey) := goodIn_app (goodIn_of _ (by decide +kernel)) ggX12_leafRead_X12_isKey
set_option maxRecDepth 20000 in
theorem ggX12_leafRead_X12_isCounted : GoodIn wsX12_leafRead wsX12_isCounted := goodIn_r _ [60, 61, 11, 12, 13, 9, 14, 15, 16, 17, 76, 77, 78, 79, 80, 81, 82, 83, 84, 85, 86, 87, 88, 89, 90, 91, 92, 93, 94, 95, 96, 97, 98, 99, 100, 101, 102, 103, 104, 105, 106, 107, 108, 109, 110, 111, 112, 113, 114, 115, 116, 117, 118, 119, 120, 121, 122, 123, 124, 125, 126, 127, 128, 129, 130, 131, 132, 133, 134, 135, 136, 137, 138, 139, 140, 141, 142, 143, 144, 145, 146, 147, 148, 149, 150, 151, 152, 153, 154, 155, 156, 157, 158, 159, 160, 161, 162] (by decide +kernel) (by decide +kernel)
set_option maxRecDepth 20000 in
theorem gX12_leafRead_X12_isCounted : GoodIn wsX12_leafRead (wsV RX12 329 RX12 yX12_isCounted wsX12_isCounted) := goodIn_app (goodIn_of _ (by decide +kernel)) ggX12_leafRead_X12_isCounted
set_option maxRecDepth 20000 in
theorem ggX12_leafRead_X12_nameMet : GoodIn wsX12_leafRead wsX12_nameMet := goodIn_r _ [65, 3, 4, 76, 77, 78, 79, 80, 81, 82, 83, 84, 85, 86, 87, 88, 89, 90, 91, 92, 93, 94, 95, 96, 97, 98, 99, 100, 101, 102, 103, 104, 105, 106, 107, 108, 109, 110, 111, 112, 113, 114, 115, 116, 117, 118, 119, 120, 121, 122, 123, 124, 125, 126, 127, 128, 129, 130, 131, 132, 133, 134, 135, 136, 137, 138, 139, 140, 141, 142, 143, 144, 145, 146, 147, 148, 149, 150, 151, 152, 153, 154, 155, 156, 157, 158, 159, 160, 161, 162] (by decide +kernel) (by decide +kernel)
set_option maxRecDepth 20000 in
theorem gX12_leafRead_X12_nameMet : GoodIn wsX12_leafRead (wsV RX12 332 RX12 yX12_nameMet wsX12_nameMet) := goodIn_app (goodIn_of _ (by decide +kernel)) ggX12_leafRead_X12_nameMet
set_option maxRecDepth 20000 in
theorem ggX12_leafRead_X12_grown : GoodIn wsX12_leafRead wsX12_grown := goodIn_r _ [69, 70, 71, 72, 73, 74, 75, 76, 77, 78, 79, 80, 81, 82, 83, 84, 85, 86, 87, 88, 89, 90, 91, 92, 93, 94, 95, 96, 97, 98, 99, 100, 101, 102, 103, 104, 105, 106, 107, 108, 109, 110, 111, 112, 113, 114, 115, 116, 117, 118, 119, 120, 121, 122, 123, 124, 125, 126, 127, 128, 129, 130, 131, 132, 133, 134, 135, 136, 137, 138, 139, 140, 141, 142, 143, 144, 145, 146, 147, 148, 149, 150, 151, 152, 153, 154, 155, 156, 157, 158, 159, 160, 161, 162] (by decide +kernel) (by decide +kernel)
set_option maxRecDepth 20000 in
theorem gX12_leafRead_X12_grown : GoodIn wsX12_leafRead (wsV RX12 312 RX12 yX12_grown wsX12_grown) := goodIn_app (goodIn_of _ (by decide +kernel)) ggX12_leafRead_X12_grown
theorem dX12_leafRead_0 : decode cX12_leafRead 0 = .ok (.aload_n 0, 1) := by decide +kernel
theorem dX12_leafRead_1 : decode cX12_leafRead 1 = .ok (.bipush 40, 2) := by decide +kernel
theorem dX12_leafRead_3 : decode cX12_leafRead 3 = .ok (.invokevirtual 209, 3) := by decide +kernel
theorem dX12_leafRead_6 : decode cX12_leafRead 6 = .ok (.ifCond .eq 44, 3) := by decide +kernel
theorem dX12_leafRead_9 : decode cX12_leafRead 9 = .ok (.aload_n 0, 1) := by decide +kernel
theorem dX12_leafRead_10 : decode cX12_leafRead 10 = .ok (.getfield 316, 3) := by decide +kernel
theorem dX12_leafRead_13 : decode cX12_leafRead 13 = .ok (.bipush 8, 2) := by decide +kernel
theorem dX12_leafRead_15 : decode cX12_leafRead 15 = .ok (.if_icmp .ne 9, 3) := by decide +kernel
theorem dX12_leafRead_18 : decode cX12_leafRead 18 = .ok (.aload_n 0, 1) := by decide +kernel
theorem dX12_leafRead_19 : decode cX12_leafRead 19 = .ok (.iconst 2, 1) := by decide +kernel
theorem dX12_leafRead_20 : decode cX12_leafRead 20 = .ok (.invokevirtual 196, 3) := by decide +kernel
theorem dX12_leafRead_23 : decode cX12_leafRead 23 = .ok (.ireturn, 1) := by decide +kernel
theorem dX12_leafRead_24 : decode cX12_leafRead 24 = .ok (.aload_n 0, 1) := by decide +kernel
theorem dX12_leafRead_25 : decode cX12_leafRead 25 = .ok (.dup, 1) := by decide +kernel
theorem dX12_leafRead_26 : decode cX12_leafRead 26 = .ok (.getfield 316, 3) := by decide +kernel
theorem dX12_leafRead_29 : decode cX12_leafRead 29 = .ok (.iconst 1, 1) := by decide +kernel
theorem dX12_leafRead_30 : decode cX12_leafRead 30 = .ok (.iadd, 1) := by decide +kernel
theorem dX12_leafRead_31 : decode cX12_leafRead 31 = .ok (.putfield 316, 3) := by decide +kernel
theorem dX12_leafRead_34 : decode cX12_leafRead 34 = .ok (.aload_n 0, 1) := by decide +kernel
theorem dX12_leafRead_35 : decode cX12_leafRead 35 = .ok (.iconst 0, 1) := by decide +kernel
theorem dX12_leafRead_36 : decode cX12_leafRead 36 = .ok (.invokevirtual 319, 3) := by decide +kernel
theorem dX12_leafRead_39 : decode cX12_leafRead 39 = .ok (.aload_n 0, 1) := by decide +kernel
theorem dX12_leafRead_40 : decode cX12_leafRead 40 = .ok (.iconst 1, 1) := by decide +kernel
theorem dX12_leafRead_41 : decode cX12_leafRead 41 = .ok (.putfield 323, 3) := by decide +kernel
theorem dX12_leafRead_44 : decode cX12_leafRead 44 = .ok (.aload_n 0, 1) := by decide +kernel
theorem dX12_leafRead_45 : decode cX12_leafRead 45 = .ok (.invokevirtual 206, 3) := by decide +kernel
theorem dX12_leafRead_48 : decode cX12_leafRead 48 = .ok (.iconst 1, 1) := by decide +kernel
theorem dX12_leafRead_49 : decode cX12_leafRead 49 = .ok (.ireturn, 1) := by decide +kernel
theorem dX12_leafRead_50 : decode cX12_leafRead 50 = .ok (.aload_n 0, 1) := by decide +kernel
theorem dX12_leafRead_51 : decode cX12_leafRead 51 = .ok (.bipush 17, 2) := by decide +kernel
theorem dX12_leafRead_53 : decode cX12_leafRead 53 = .ok (.invokevirtual 326, 3) := by decide +kernel
theorem dX12_leafRead_56 : decode cX12_leafRead 56 = .ok (.ifCond .eq 30, 3) := by decide +kernel
theorem dX12_leafRead_59 : decode cX12_leafRead 59 = .ok (.aload_n 0, 1) := by decide +kernel
theorem dX12_leafRead_60 : decode cX12_leafRead 60 = .ok (.getfield 323, 3) := by decide +kernel
theorem dX12_leafRead_63 : decode cX12_leafRead 63 = .ok (.ifCond .eq 23, 3) := by decide +kernel
theorem dX12_leafRead_66 : decode cX12_leafRead 66 = .ok (.aload_n 0, 1) := by decide +kernel
theorem dX12_leafRead_67 : decode cX12_leafRead 67 = .ok (.invokevirtual 329, 3) := by decide +kernel
theorem dX12_leafRead_70 : decode cX12_leafRead 70 = .ok (.ifCond .ne 5, 3) := by decide +kernel
theorem dX12_leafRead_73 : decode cX12_leafRead 73 = .ok (.iconst 0, 1) := by decide +kernel
theorem dX12_leafRead_74 : decode cX12_leafRead 74 = .ok (.ireturn, 1) := by decide +kernel
theorem dX12_leafRead_75 : decode cX12_leafRead 75 = .ok (.aload_n 0, 1) := by decide +kernel
theorem dX12_leafRead_76 : decode cX12_leafRead 76 = .ok (.iconst 2, 1) := by decide +kernel
theorem dX12_leafRead_77 : decode cX12_leafRead 77 = .ok (.invokevirtual 319, 3) := by decide +kernel
theorem dX12_leafRead_80 : decode cX12_leafRead 80 = .ok (.aload_n 0, 1) := by decide +kernel
theorem dX12_leafRead_81 : decode cX12_leafRead 81 = .ok (.invokevirtual 206, 3) := by decide +kernel
theorem dX12_leafRead_84 : decode cX12_leafRead 84 = .ok (.iconst 1, 1) := by decide +kernel
theorem dX12_leafRead_85 : decode cX12_leafRead 85 = .ok (.ireturn, 1) := by decide +kernel
theorem dX12_leafRead_86 : decode cX12_leafRead 86 = .ok (.aload_n 0, 1) := by decide +kernel
theorem dX12_leafRead_87 : decode cX12_leafRead 87 = .ok (.invokevirtual 332, 3) := by decide +kernel
theorem dX12_leafRead_90 : decode cX12_leafRead 90 = .ok (.istore_n 1, 1) := by decide +kernel
theorem dX12_leafRead_91 : decode cX12_leafRead 91 = .ok (.iload_n 1, 1) := by decide +kernel
theorem dX12_leafRead_92 : decode cX12_leafRead 92 = .ok (.ifCond .ge 17, 3) := by decide +kernel
theorem dX12_leafRead_95 : decode cX12_leafRead 95 = .ok (.aload_n 0, 1) := by decide +kernel
theorem dX12_leafRead_96 : decode cX12_leafRead 96 = .ok (.getfield 172, 3) := by decide +kernel
theorem dX12_leafRead_99 : decode cX12_leafRead 99 = .ok (.iconst 3, 1) := by decide +kernel
theorem dX12_leafRead_100 : decode cX12_leafRead 100 = .ok (.if_icmp .eq 9, 3) := by decide +kernel
theorem dX12_leafRead_103 : decode cX12_leafRead 103 = .ok (.aload_n 0, 1) := by decide +kernel
theorem dX12_leafRead_104 : decode cX12_leafRead 104 = .ok (.iconst 1, 1) := by decide +kernel
theorem dX12_leafRead_105 : decode cX12_leafRead 105 = .ok (.invokevirtual 196, 3) := by decide +kernel
theorem dX12_leafRead_108 : decode cX12_leafRead 108 = .ok (.ireturn, 1) := by decide +kernel
theorem dX12_leafRead_109 : decode cX12_leafRead 109 = .ok (.iload_n 1, 1) := by decide +kernel
theorem dX12_leafRead_110 : decode cX12_leafRead 110 = .ok (.ifCond .ge 19, 3) := by decide +kernel
theorem dX12_leafRead_113 : decode cX12_leafRead 113 = .ok (.aload_n 0, 1) := by decide +kernel
theorem dX12_leafRead_114 : decode cX12_leafRead 114 = .ok (.getfield 183, 3) := by decide +kernel
theorem dX12_leafRead_117 : decode cX12_leafRead 117 = .ok (.sipush 9999, 3) := by decide +kernel
theorem dX12_leafRead_120 : decode cX12_leafRead 120 = .ok (.if_icmp .le 9, 3) := by decide +kernel
theorem dX12_leafRead_123 : decode cX12_leafRead 123 = .ok (.aload_n 0, 1) := by decide +kernel
theorem dX12_leafRead_124 : decode cX12_leafRead 124 = .ok (.iconst 2, 1) := by decide +kernel
theorem dX12_leafRead_125 : decode cX12_leafRead 125 = .ok (.invokevirtual 196, 3) := by decide +kernel
theorem dX12_leafRead_128 : decode cX12_leafRead 128 = .ok (.ireturn, 1) := by decide +kernel
theorem dX12_leafRead_129 : decode cX12_leafRead 129 = .ok (.aload_n 0, 1) := by decide +kernel
theorem dX12_leafRead_130 : decode cX12_leafRead 130 = .ok (.invokevirtual 329, 3) := by decide +kernel
theorem dX12_leafRead_133 : decode cX12_leafRead 133 = .ok (.ifCond .ne 5, 3) := by decide +kernel
theorem dX12_leafRead_136 : decode cX12_leafRead 136 = .ok (.iconst 0, 1) := by decide +kernel
theorem dX12_leafRead_137 : decode cX12_leafRead 137 = .ok (.ireturn, 1) := by decide +kernel
theorem dX12_leafRead_138 : decode cX12_leafRead 138 = .ok (.aload_n 0, 1) := by decide +kernel
theorem dX12_leafRead_139 : decode cX12_leafRead 139 = .ok (.iload_n 1, 1) := by decide +kernel
theorem dX12_leafRead_140 : decode cX12_leafRead 140 = .ok (.ifCond .lt 7, 3) := by decide +kernel
theorem dX12_leafRead_143 : decode cX12_leafRead 143 = .ok (.iconst 1, 1) := by decide +kernel
theorem dX12_leafRead_144 : decode cX12_leafRead 144 = .ok (.goto 4, 3) := by decide +kernel
theorem dX12_leafRead_147 : decode cX12_leafRead 147 = .ok (.iconst 0, 1) := by decide +kernel
theorem dX12_leafRead_148 : decode cX12_leafRead 148 = .ok (.iload_n 1, 1) := by decide +kernel
theorem dX12_leafRead_149 : decode cX12_leafRead 149 = .ok (.ifCond .lt 7, 3) := by decide +kernel
theorem dX12_leafRead_152 : decode cX12_leafRead 152 = .ok (.iload_n 1, 1) := by decide +kernel
theorem dX12_leafRead_153 : decode cX12_leafRead 153 = .ok (.goto 7, 3) := by decide +kernel
theorem dX12_leafRead_156 : decode cX12_leafRead 156 = .ok (.aload_n 0, 1) := by decide +kernel
theorem dX12_leafRead_157 : decode cX12_leafRead 157 = .ok (.getfield 183, 3) := by decide +kernel
theorem dX12_leafRead_160 : decode cX12_leafRead 160 = .ok (.iconst 0, 1) := by decide +kernel
theorem dX12_leafRead_161 : decode cX12_leafRead 161 = .ok (.invokevirtual 312, 3) := by decide +kernel
theorem dX12_leafRead_164 : decode cX12_leafRead 164 = .ok (.aload_n 0, 1) := by decide +kernel
theorem dX12_leafRead_165 : decode cX12_leafRead 165 = .ok (.iconst 0, 1) := by decide +kernel
theorem dX12_leafRead_166 : decode cX12_leafRead 166 = .ok (.putfield 335, 3) := by decide +kernel
theorem dX12_leafRead_169 : decode cX12_leafRead 169 = .ok (.aload_n 0, 1) := by decide +kernel
theorem dX12_leafRead_170 : decode cX12_leafRead 170 = .ok (.invokevirtual 206, 3) := by decide +kernel
theorem dX12_leafRead_173 : decode cX12_leafRead 173 = .ok (.iconst 1, 1) := by decide +kernel
theorem dX12_leafRead_174 : decode cX12_leafRead 174 = .ok (.ireturn, 1) := by decide +kernel
set_option maxRecDepth 20000 in
theorem ggX12_signs_X12_isSign : GoodIn wsX12_signs wsX12_isSign := goodIn_r _ [12, 3, 4, 83, 84, 85, 86, 87, 88, 89, 90, 91, 92, 93, 94, 95, 96, 97, 98, 99, 100, 101, 102, 103, 104, 105, 106, 107, 108, 109, 110, 111, 112, 113, 114, 115, 116, 117, 118, 119, 120, 121, 122, 123, 124, 125, 126, 127, 128, 129, 130, 131, 132, 133, 134, 135, 136, 137, 138, 139, 140, 141, 142, 143, 144, 145, 146, 147, 148, 149, 150, 151, 152, 153, 154, 155, 156, 157, 158, 159, 160, 161, 162, 163, 164, 165, 166, 167, 168, 169] (by decide +kernel) (by decide +kernel)
set_option maxRecDepth 20000 in
theorem gX12_signs_X12_isSign : GoodIn wsX12_signs (wsV RX12 209 RX12 yX12_isSign wsX12_isSign) := goodIn_app (goodIn_of _ (by decide +kernel)) ggX12_signs_X12_isSign
set_option maxRecDepth 20000 in
theorem ggX12_signs_X12_bind : GoodIn wsX12_signs wsX12_bind := goodIn_r _ [16, 2, 5, 17, 18, 11, 19, 20, 21, 22, 23, 24, 25, 26, 27, 28, 29, 30, 31, 32, 33, 83, 84, 85, 86, 87, 88, 89, 90, 91, 92, 93, 94, 95, 96, 97, 98, 99, 100, 101, 102, 103, 104, 105, 106, 107, 108, 109, 110, 111, 112, 113, 114, 115, 116, 117, 118, 119, 120, 121, 122, 123, 124, 125, 126, 127, 128, 129, 130, 131, 132, 133, 134, 135, 136, 137, 138, 139, 140, 141, 142, 143, 144, 145, 146, 147, 148, 149, 150, 151, 152, 153, 154, 155, 156, 157, 158, 159, 160, 161, 162, 163, 164, 165, 166, 167, 168, 169] (by decide +kernel) (by decide +kernel)
set_option maxRecDepth 20000 in
theorem gX12_signs_X12_bind : GoodIn wsX12_signs (wsV RX12 338 RX12 yX12_bind wsX12_bind) := goodIn_app (goodIn_of _ (by decide +kernel)) ggX12_signs_X12_bind
set_option maxRecDepth 20000 in
theorem ggX12_signs_X12_token : GoodIn wsX12_signs wsX12_token := goodIn_r _ [37, 38, 39, 40, 41, 3, 4, 42, 43, 44, 45, 11, 46, 47, 48, 49, 50, 51, 52, 53, 54, 55, 56, 57, 58, 59, 60, 61, 62, 63, 83, 84, 85, 86, 87, 88, 89, 90, 91, 92, 93, 94, 95, 96, 97, 98, 99, 100, 101, 102, 103, 104, 105, 106, 107, 108, 109, 110, 111, 112, 113, 114, 115, 116, 117, 118, 119, 120, 121, 122, 123, 124, 125, 126, 127, 128, 129, 130, 131, 132, 133, 134, 135, 136, 137, 138, 139, 140, 141, 142, 143, 144, 145, 146, 147, 148, 149, 150, 151, 152, 153, 154, 155, 156, 157, 158, 159, 160, 161, 162, 163, 164, 165, 166, 167, 168, 169] (by decide +kernel) (by decide +kernel)
set_option maxRecDepth 20000 in
theorem gX12_signs_X12_token : GoodIn wsX12_signs (wsV RX12 206 RX12 yX12_token wsX12_token) := goodIn_app (goodIn_of _ (by decide +kernel)) ggX12_signs_X12_token
set_option maxRecDepth 20000 in
theorem ggX12_signs_X12_isKey : GoodIn wsX12_signs wsX12_isKey := goodIn_r _ [67, 3, 4, 83, 84, 85, 86, 87, 88, 89, 90, 91, 92, 93, 94, 95, 96, 97, 98, 99, 100, 101, 102, 103, 104, 105, 106, 107, 108, 109, 110, 111, 112, 113, 114, 115, 116, 117, 118, 119, 120, 121, 122, 123, 124, 125, 126, 127, 128, 129, 130, 131, 132, 133, 134, 135, 136, 137, 138, 139, 140, 141, 142, 143, 144, 145, 146, 147, 148, 149, 150, 151, 152, 153, 154, 155, 156, 157, 158, 159, 160, 161, 162, 163, 164, 165, 166, 167, 168, 169] (by decide +kernel) (by decide +kernel)
set_option maxRecDepth 20000 in
theorem gX12_signs_X12_isKey : GoodIn wsX12_signs (wsV RX12 326 RX12 yX12_isKey wsX12_isKey) := goodIn_app (goodIn_of _ (by decide +kernel)) ggX12_signs_X12_isKey
set_option maxRecDepth 20000 in
theorem ggX12_signs_X12_wrong : GoodIn wsX12_signs wsX12_wrong := goodIn_r _ [71, 72, 41, 73, 83, 84, 85, 86, 87, 88, 89, 90, 91, 92, 93, 94, 95, 96, 97, 98, 99, 100, 101, 102, 103, 104, 105, 106, 107, 108, 109, 110, 111, 112, 113, 114, 115, 116, 117, 118, 119, 120, 121, 122, 123, 124, 125, 126, 127, 128, 129, 130, 131, 132, 133, 134, 135, 136, 137, 138, 139, 140, 141, 142, 143, 144, 145, 146, 147, 148, 149, 150, 151, 152, 153, 154, 155, 156, 157, 158, 159, 160, 161, 162, 163, 164, 165, 166, 167, 168, 169] (by decide +kernel) (by decide +kernel)
set_option maxRecDepth 20000 in
theorem gX12_signs_X12_wrong : GoodIn wsX12_signs (wsV RX12 196 RX12 yX12_wrong wsX12_wrong) := goodIn_app (goodIn_of _ (by decide +kernel)) ggX12_signs_X12_wrong
set_option maxRecDepth 20000 in
theorem ggX12_signs_X12_rank : GoodIn wsX12_signs wsX12_rank := goodIn_r _ [19] (by decide +kernel) (by decide +kernel)
set_option maxRecDepth 20000 in
theorem gX12_signs_X12_rank : GoodIn wsX12_signs (va_wsS RX12 304 yX12_rank wsX12_rank) := goodIn_app (goodIn_of _ (by decide +kernel)) ggX12_signs_X12_rank
set_option maxRecDepth 20000 in
theorem ggX12_signs_X12_isCounted : GoodIn wsX12_signs wsX12_isCounted := goodIn_r _ [77, 78, 68, 69, 70, 11, 71, 72, 41, 73, 83, 84, 85, 86, 87, 88, 89, 90, 91, 92, 93, 94, 95, 96, 97, 98, 99, 100, 101, 102, 103, 104, 105, 106, 107, 108, 109, 110, 111, 112, 113, 114, 115, 116, 117, 118, 119, 120, 121, 122, 123, 124, 125, 126, 127, 128, 129, 130, 131, 132, 133, 134, 135, 136, 137, 138, 139, 140, 141, 142, 143, 144, 145, 146, 147, 148, 149, 150, 151, 152, 153, 154, 155, 156, 157, 158, 159, 160, 161, 162, 163, 164, 165, 166, 167, 168, 169] (by decide +kernel) (by decide +kernel)
set_option maxRecDepth 20000 in
theorem gX12_signs_X12_isCounted : GoodIn wsX12_signs (wsV RX12 329 RX12 yX12_isCounted wsX12_isCounted) := goodIn_app (goodIn_of _ (by decide +kernel)) ggX12_signs_X12_isCounted
set_option maxRecDepth 20000 in
theorem ggX12_signs_X12_waitsFor : GoodIn wsX12_signs wsX12_waitsFor := goodIn_r _ [82, 5, 2, 83, 84, 85, 86, 87, 88, 89, 90, 91, 92, 93, 94, 95, 96, 97, 98, 99, 100, 101, 102, 103, 104, 105, 106, 107, 108, 109, 110, 111, 112, 113, 114, 115, 116, 117, 118, 119, 120, 121, 122, 123, 124, 125, 126, 127, 128, 129, 130, 131, 132, 133, 134, 135, 136, 137, 138, 139, 140, 141, 142, 143, 144, 145, 146, 147, 148, 149, 150, 151, 152, 153, 154, 155, 156, 157, 158, 159, 160, 161, 162, 163, 164, 165, 166, 167, 168, 169] (by decide +kernel) (by decide +kernel)
set_option maxRecDepth 20000 in
theorem gX12_signs_X12_waitsFor : GoodIn wsX12_signs (wsV RX12 319 RX12 yX12_waitsFor wsX12_waitsFor) := goodIn_app (goodIn_of _ (by decide +kernel)) ggX12_signs_X12_waitsFor
theorem dX12_signs_0 : decode cX12_signs 0 = .ok (.aload_n 0, 1) := by decide +kernel
theorem dX12_signs_1 : decode cX12_signs 1 = .ok (.bipush 41, 2) := by decide +kernel
theorem dX12_signs_3 : decode cX12_signs 3 = .ok (.invokevirtual 209, 3) := by decide +kernel
theorem dX12_signs_6 : decode cX12_signs 6 = .ok (.ifCond .eq 41, 3) := by decide +kernel
theorem dX12_signs_9 : decode cX12_signs 9 = .ok (.aload_n 0, 1) := by decide +kernel
theorem dX12_signs_10 : decode cX12_signs 10 = .ok (.getfield 316, 3) := by decide +kernel
theorem dX12_signs_13 : decode cX12_signs 13 = .ok (.ifCond .le 34, 3) := by decide +kernel
theorem dX12_signs_16 : decode cX12_signs 16 = .ok (.aload_n 0, 1) := by decide +kernel
theorem dX12_signs_17 : decode cX12_signs 17 = .ok (.iconst 1, 1) := by decide +kernel
theorem dX12_signs_18 : decode cX12_signs 18 = .ok (.invokevirtual 338, 3) := by decide +kernel
theorem dX12_signs_21 : decode cX12_signs 21 = .ok (.aload_n 0, 1) := by decide +kernel
theorem dX12_signs_22 : decode cX12_signs 22 = .ok (.dup, 1) := by decide +kernel
theorem dX12_signs_23 : decode cX12_signs 23 = .ok (.getfield 301, 3) := by decide +kernel
theorem dX12_signs_26 : decode cX12_signs 26 = .ok (.iconst 1, 1) := by decide +kernel
theorem dX12_signs_27 : decode cX12_signs 27 = .ok (.isub, 1) := by decide +kernel
theorem dX12_signs_28 : decode cX12_signs 28 = .ok (.putfield 301, 3) := by decide +kernel
theorem dX12_signs_31 : decode cX12_signs 31 = .ok (.aload_n 0, 1) := by decide +kernel
theorem dX12_signs_32 : decode cX12_signs 32 = .ok (.dup, 1) := by decide +kernel
theorem dX12_signs_33 : decode cX12_signs 33 = .ok (.getfield 316, 3) := by decide +kernel
theorem dX12_signs_36 : decode cX12_signs 36 = .ok (.iconst 1, 1) := by decide +kernel
theorem dX12_signs_37 : decode cX12_signs 37 = .ok (.isub, 1) := by decide +kernel
theorem dX12_signs_38 : decode cX12_signs 38 = .ok (.putfield 316, 3) := by decide +kernel
theorem dX12_signs_41 : decode cX12_signs 41 = .ok (.aload_n 0, 1) := by decide +kernel
theorem dX12_signs_42 : decode cX12_signs 42 = .ok (.invokevirtual 206, 3) := by decide +kernel
theorem dX12_signs_45 : decode cX12_signs 45 = .ok (.iconst 1, 1) := by decide +kernel
theorem dX12_signs_46 : decode cX12_signs 46 = .ok (.ireturn, 1) := by decide +kernel
theorem dX12_signs_47 : decode cX12_signs 47 = .ok (.aload_n 0, 1) := by decide +kernel
theorem dX12_signs_48 : decode cX12_signs 48 = .ok (.bipush 15, 2) := by decide +kernel
theorem dX12_signs_50 : decode cX12_signs 50 = .ok (.invokevirtual 326, 3) := by decide +kernel
theorem dX12_signs_53 : decode cX12_signs 53 = .ok (.ifCond .eq 7, 3) := by decide +kernel
theorem dX12_signs_56 : decode cX12_signs 56 = .ok (.iconst 3, 1) := by decide +kernel
theorem dX12_signs_57 : decode cX12_signs 57 = .ok (.goto 90, 3) := by decide +kernel
theorem dX12_signs_60 : decode cX12_signs 60 = .ok (.aload_n 0, 1) := by decide +kernel
theorem dX12_signs_61 : decode cX12_signs 61 = .ok (.bipush 16, 2) := by decide +kernel
theorem dX12_signs_63 : decode cX12_signs 63 = .ok (.invokevirtual 326, 3) := by decide +kernel
theorem dX12_signs_66 : decode cX12_signs 66 = .ok (.ifCond .eq 7, 3) := by decide +kernel
theorem dX12_signs_69 : decode cX12_signs 69 = .ok (.iconst 4, 1) := by decide +kernel
theorem dX12_signs_70 : decode cX12_signs 70 = .ok (.goto 77, 3) := by decide +kernel
theorem dX12_signs_73 : decode cX12_signs 73 = .ok (.aload_n 0, 1) := by decide +kernel
theorem dX12_signs_74 : decode cX12_signs 74 = .ok (.getfield 172, 3) := by decide +kernel
theorem dX12_signs_77 : decode cX12_signs 77 = .ok (.iconst 5, 1) := by decide +kernel
theorem dX12_signs_78 : decode cX12_signs 78 = .ok (.if_icmp .ne 12, 3) := by decide +kernel
theorem dX12_signs_81 : decode cX12_signs 81 = .ok (.iconst 5, 1) := by decide +kernel
theorem dX12_signs_82 : decode cX12_signs 82 = .ok (.aload_n 0, 1) := by decide +kernel
theorem dX12_signs_83 : decode cX12_signs 83 = .ok (.getfield 183, 3) := by decide +kernel
theorem dX12_signs_86 : decode cX12_signs 86 = .ok (.iadd, 1) := by decide +kernel
theorem dX12_signs_87 : decode cX12_signs 87 = .ok (.goto 60, 3) := by decide +kernel
theorem dX12_signs_90 : decode cX12_signs 90 = .ok (.aload_n 0, 1) := by decide +kernel
theorem dX12_signs_91 : decode cX12_signs 91 = .ok (.bipush 43, 2) := by decide +kernel
theorem dX12_signs_93 : decode cX12_signs 93 = .ok (.invokevirtual 209, 3) := by decide +kernel
theorem dX12_signs_96 : decode cX12_signs 96 = .ok (.ifCond .eq 8, 3) := by decide +kernel
theorem dX12_signs_99 : decode cX12_signs 99 = .ok (.bipush 11, 2) := by decide +kernel
theorem dX12_signs_101 : decode cX12_signs 101 = .ok (.goto 46, 3) := by decide +kernel
theorem dX12_signs_104 : decode cX12_signs 104 = .ok (.aload_n 0, 1) := by decide +kernel
theorem dX12_signs_105 : decode cX12_signs 105 = .ok (.bipush 45, 2) := by decide +kernel
theorem dX12_signs_107 : decode cX12_signs 107 = .ok (.invokevirtual 209, 3) := by decide +kernel
theorem dX12_signs_110 : decode cX12_signs 110 = .ok (.ifCond .eq 8, 3) := by decide +kernel
theorem dX12_signs_113 : decode cX12_signs 113 = .ok (.bipush 12, 2) := by decide +kernel
theorem dX12_signs_115 : decode cX12_signs 115 = .ok (.goto 32, 3) := by decide +kernel
theorem dX12_signs_118 : decode cX12_signs 118 = .ok (.aload_n 0, 1) := by decide +kernel
theorem dX12_signs_119 : decode cX12_signs 119 = .ok (.bipush 42, 2) := by decide +kernel
theorem dX12_signs_121 : decode cX12_signs 121 = .ok (.invokevirtual 209, 3) := by decide +kernel
theorem dX12_signs_124 : decode cX12_signs 124 = .ok (.ifCond .eq 8, 3) := by decide +kernel
theorem dX12_signs_127 : decode cX12_signs 127 = .ok (.bipush 13, 2) := by decide +kernel
theorem dX12_signs_129 : decode cX12_signs 129 = .ok (.goto 18, 3) := by decide +kernel
theorem dX12_signs_132 : decode cX12_signs 132 = .ok (.aload_n 0, 1) := by decide +kernel
theorem dX12_signs_133 : decode cX12_signs 133 = .ok (.bipush 47, 2) := by decide +kernel
theorem dX12_signs_135 : decode cX12_signs 135 = .ok (.invokevirtual 209, 3) := by decide +kernel
theorem dX12_signs_138 : decode cX12_signs 138 = .ok (.ifCond .eq 8, 3) := by decide +kernel
theorem dX12_signs_141 : decode cX12_signs 141 = .ok (.bipush 14, 2) := by decide +kernel
theorem dX12_signs_143 : decode cX12_signs 143 = .ok (.goto 4, 3) := by decide +kernel
theorem dX12_signs_146 : decode cX12_signs 146 = .ok (.iconst 0, 1) := by decide +kernel
theorem dX12_signs_147 : decode cX12_signs 147 = .ok (.istore_n 1, 1) := by decide +kernel
theorem dX12_signs_148 : decode cX12_signs 148 = .ok (.iload_n 1, 1) := by decide +kernel
theorem dX12_signs_149 : decode cX12_signs 149 = .ok (.ifCond .ne 9, 3) := by decide +kernel
theorem dX12_signs_152 : decode cX12_signs 152 = .ok (.aload_n 0, 1) := by decide +kernel
theorem dX12_signs_153 : decode cX12_signs 153 = .ok (.iconst 1, 1) := by decide +kernel
theorem dX12_signs_154 : decode cX12_signs 154 = .ok (.invokevirtual 196, 3) := by decide +kernel
theorem dX12_signs_157 : decode cX12_signs 157 = .ok (.ireturn, 1) := by decide +kernel
theorem dX12_signs_158 : decode cX12_signs 158 = .ok (.aload_n 0, 1) := by decide +kernel
theorem dX12_signs_159 : decode cX12_signs 159 = .ok (.iload_n 1, 1) := by decide +kernel
theorem dX12_signs_160 : decode cX12_signs 160 = .ok (.invokestatic 304, 3) := by decide +kernel
theorem dX12_signs_163 : decode cX12_signs 163 = .ok (.iconst 4, 1) := by decide +kernel
theorem dX12_signs_164 : decode cX12_signs 164 = .ok (.if_icmp .ne 7, 3) := by decide +kernel
theorem dX12_signs_167 : decode cX12_signs 167 = .ok (.iconst 5, 1) := by decide +kernel
theorem dX12_signs_168 : decode cX12_signs 168 = .ok (.goto 7, 3) := by decide +kernel
theorem dX12_signs_171 : decode cX12_signs 171 = .ok (.iload_n 1, 1) := by decide +kernel
theorem dX12_signs_172 : decode cX12_signs 172 = .ok (.invokestatic 304, 3) := by decide +kernel
theorem dX12_signs_175 : decode cX12_signs 175 = .ok (.invokevirtual 338, 3) := by decide +kernel
theorem dX12_signs_178 : decode cX12_signs 178 = .ok (.iload_n 1, 1) := by decide +kernel
theorem dX12_signs_179 : decode cX12_signs 179 = .ok (.invokestatic 304, 3) := by decide +kernel
theorem dX12_signs_182 : decode cX12_signs 182 = .ok (.iconst 4, 1) := by decide +kernel
theorem dX12_signs_183 : decode cX12_signs 183 = .ok (.if_icmp .ne 34, 3) := by decide +kernel
theorem dX12_signs_186 : decode cX12_signs 186 = .ok (.aload_n 0, 1) := by decide +kernel
theorem dX12_signs_187 : decode cX12_signs 187 = .ok (.getfield 301, 3) := by decide +kernel
theorem dX12_signs_190 : decode cX12_signs 190 = .ok (.ifCond .le 27, 3) := by decide +kernel
theorem dX12_signs_193 : decode cX12_signs 193 = .ok (.aload_n 0, 1) := by decide +kernel
theorem dX12_signs_194 : decode cX12_signs 194 = .ok (.getfield 75, 3) := by decide +kernel
theorem dX12_signs_197 : decode cX12_signs 197 = .ok (.aload_n 0, 1) := by decide +kernel
theorem dX12_signs_198 : decode cX12_signs 198 = .ok (.getfield 301, 3) := by decide +kernel
theorem dX12_signs_201 : decode cX12_signs 201 = .ok (.iconst 1, 1) := by decide +kernel
theorem dX12_signs_202 : decode cX12_signs 202 = .ok (.isub, 1) := by decide +kernel
theorem dX12_signs_203 : decode cX12_signs 203 = .ok (.iaload, 1) := by decide +kernel
theorem dX12_signs_204 : decode cX12_signs 204 = .ok (.invokestatic 304, 3) := by decide +kernel
theorem dX12_signs_207 : decode cX12_signs 207 = .ok (.iconst 4, 1) := by decide +kernel
theorem dX12_signs_208 : decode cX12_signs 208 = .ok (.if_icmp .ne 9, 3) := by decide +kernel
theorem dX12_signs_211 : decode cX12_signs 211 = .ok (.aload_n 0, 1) := by decide +kernel
theorem dX12_signs_212 : decode cX12_signs 212 = .ok (.iconst 1, 1) := by decide +kernel
theorem dX12_signs_213 : decode cX12_signs 213 = .ok (.invokevirtual 196, 3) := by decide +kernel
theorem dX12_signs_216 : decode cX12_signs 216 = .ok (.ireturn, 1) := by decide +kernel
theorem dX12_signs_217 : decode cX12_signs 217 = .ok (.aload_n 0, 1) := by decide +kernel
theorem dX12_signs_218 : decode cX12_signs 218 = .ok (.invokevirtual 329, 3) := by decide +kernel
theorem dX12_signs_221 : decode cX12_signs 221 = .ok (.ifCond .ne 5, 3) := by decide +kernel
theorem dX12_signs_224 : decode cX12_signs 224 = .ok (.iconst 0, 1) := by decide +kernel
theorem dX12_signs_225 : decode cX12_signs 225 = .ok (.ireturn, 1) := by decide +kernel
theorem dX12_signs_226 : decode cX12_signs 226 = .ok (.aload_n 0, 1) := by decide +kernel
theorem dX12_signs_227 : decode cX12_signs 227 = .ok (.iload_n 1, 1) := by decide +kernel
theorem dX12_signs_228 : decode cX12_signs 228 = .ok (.invokevirtual 319, 3) := by decide +kernel
theorem dX12_signs_231 : decode cX12_signs 231 = .ok (.aload_n 0, 1) := by decide +kernel
theorem dX12_signs_232 : decode cX12_signs 232 = .ok (.iconst 1, 1) := by decide +kernel
theorem dX12_signs_233 : decode cX12_signs 233 = .ok (.putfield 335, 3) := by decide +kernel
theorem dX12_signs_236 : decode cX12_signs 236 = .ok (.aload_n 0, 1) := by decide +kernel
theorem dX12_signs_237 : decode cX12_signs 237 = .ok (.iload_n 1, 1) := by decide +kernel
theorem dX12_signs_238 : decode cX12_signs 238 = .ok (.invokestatic 304, 3) := by decide +kernel
theorem dX12_signs_241 : decode cX12_signs 241 = .ok (.iconst 3, 1) := by decide +kernel
theorem dX12_signs_242 : decode cX12_signs 242 = .ok (.if_icmp .ge 7, 3) := by decide +kernel
theorem dX12_signs_245 : decode cX12_signs 245 = .ok (.iconst 1, 1) := by decide +kernel
theorem dX12_signs_246 : decode cX12_signs 246 = .ok (.goto 4, 3) := by decide +kernel
theorem dX12_signs_249 : decode cX12_signs 249 = .ok (.iconst 0, 1) := by decide +kernel
theorem dX12_signs_250 : decode cX12_signs 250 = .ok (.putfield 323, 3) := by decide +kernel
theorem dX12_signs_253 : decode cX12_signs 253 = .ok (.aload_n 0, 1) := by decide +kernel
theorem dX12_signs_254 : decode cX12_signs 254 = .ok (.invokevirtual 206, 3) := by decide +kernel
theorem dX12_signs_257 : decode cX12_signs 257 = .ok (.iconst 1, 1) := by decide +kernel
theorem dX12_signs_258 : decode cX12_signs 258 = .ok (.ireturn, 1) := by decide +kernel
set_option maxRecDepth 20000 in
theorem ggX12_sumRead_X12_isSign : GoodIn wsX12_sumRead wsX12_isSign := goodIn_r _ [10, 11, 12, 95, 96, 97, 98, 99, 100, 101, 102, 103, 104, 105, 106, 107, 108, 109, 110, 111, 112, 113, 114, 115, 116, 117, 118, 119, 120, 121, 122, 123, 124, 125, 126, 127, 128, 129, 130, 131, 132, 133, 134, 135, 136, 137, 138, 139, 140, 141, 142, 143, 144, 145, 146, 147, 148, 149, 150, 151, 152, 153, 154, 155, 156, 157, 158, 159, 160, 161, 162, 163, 164, 165, 166, 167, 168, 169, 170, 171, 172, 173, 174, 175, 176, 177, 178, 179, 180, 181] (by decide +kernel) (by decide +kernel)
set_option maxRecDepth 20000 in
theorem gX12_sumRead_X12_isSign : GoodIn wsX12_sumRead (wsV RX12 209 RX12 yX12_isSign wsX12_isSign) := goodIn_app (goodIn_of _ (by decide +kernel)) ggX12_sumRead_X12_isSign
set_option maxRecDepth 20000 in
theorem ggX12_sumRead_X12_leafRead : GoodIn wsX12_sumRead wsX12_leafRead := goodIn_r _ [16, 3, 5, 11, 12, 4, 6, 7, 8, 9, 10, 17, 18, 19, 20, 21, 22, 23, 24, 25, 26, 27, 28, 1, 29, 30, 31, 32, 33, 34, 35, 36, 37, 38, 39, 40, 41, 42, 43, 44, 45, 46, 47, 48, 49, 50, 51, 52, 53, 54, 55, 56, 57, 58, 59, 60, 61, 62, 63, 64, 65, 66, 67, 68, 69, 70, 71, 72, 73, 74, 75, 76, 77, 78, 79, 2, 95, 96, 97, 98, 99, 100, 101, 102, 103, 104, 105, 106, 107, 108, 109, 110, 111, 112, 113, 114, 115, 116, 117, 118, 119, 120, 121, 122, 123, 124, 125, 126, 127, 128, 129, 130, 131, 132, 133, 134, 135, 136, 137, 138, 139, 140, 141, 142, 143, 144, 145, 146, 147, 148, 149, 150, 151, 152, 153, 154, 155, 156, 157, 158, 159, 160, 161, 162, 163, 164, 165, 166, 167, 168, 169, 170, 171, 172, 173, 174, 175, 176, 177, 178, 179, 180, 181] (by decide +kernel) (by decide +kernel)
set_option maxRecDepth 20000 in
theorem gX12_sumRead_X12_leafRead : GoodIn wsX12_sumRead (wsV RX12 341 RX12 yX12_leafRead wsX12_leafRead) := goodIn_app (goodIn_of _ (by decide +kernel)) ggX12_sumRead_X12_leafRead
set_option maxRecDepth 20000 in
theorem ggX12_sumRead_X12_signs : GoodIn wsX12_sumRead wsX12_signs := goodIn_r _ [83, 3, 1, 11, 12, 28, 4, 5, 6, 7, 8, 9, 10, 84, 85, 86, 87, 88, 89, 90, 91, 92, 93, 94, 2, 79, 71, 72, 73, 74, 75, 76, 77, 78, 29, 30, 31, 32, 33, 34, 35, 22, 36, 37, 38, 39, 40, 41, 42, 43, 44, 45, 46, 47, 48, 49, 50, 51, 52, 53, 54, 55, 56, 57, 58, 59, 60, 61, 17, 18, 19, 20, 21, 23, 62, 63, 64, 65, 66, 24, 25, 26, 27, 95, 96, 97, 98, 99, 100, 101, 102, 103, 104, 105, 106, 107, 108, 109, 110, 111, 112, 113, 114, 115, 116, 117, 118, 119, 120, 121, 122, 123, 124, 125, 126, 127, 128, 129, 130, 131, 132, 133, 134, 135, 136, 137, 138, 139, 140, 141, 142, 143, 144, 145, 146, 147, 148, 149, 150, 151, 152, 153, 154, 155, 156, 157, 158, 159, 160, 161, 162, 163, 164, 165, 166, 167, 168, 169, 170, 171, 172, 173, 174, 175, 176, 177, 178, 179, 180, 181] (by decide +kernel) (by decide +kernel)
set_option maxRecDepth 20000 in
theorem gX12_sumRead_X12_signs : GoodIn wsX12_sumRead (wsV RX12 344 RX12 yX12_signs wsX12_signs) := goodIn_app (goodIn_of _ (by decide +kernel)) ggX12_sumRead_X12_signs
set_option maxRecDepth 20000 in
theorem ggX12_sumRead_X12_bind : GoodIn wsX12_sumRead wsX12_bind := goodIn_r _ [87, 1, 28, 88, 89, 9, 90, 91, 92, 93, 94, 2, 79, 71, 72, 73, 74, 75, 76, 77, 78, 95, 96, 97, 98, 99, 100, 101, 102, 103, 104, 105, 106, 107, 108, 109, 110, 111, 112, 113, 114, 115, 116, 117, 118, 119, 120, 121, 122, 123, 124, 125, 126, 127, 128, 129, 130, 131, 132, 133, 134, 135, 136, 137, 138, 139, 140, 141, 142, 143, 144, 145, 146, 147, 148, 149, 150, 151, 152, 153, 154, 155, 156, 157, 158, 159, 160, 161, 162, 163, 164, 165, 166, 167, 168, 169, 170, 171, 172, 173, 174, 175, 176, 177, 178, 179, 180, 181] (by decide +kernel) (by decide +kernel)
set_option maxRecDepth 20000 in
theorem gX12_sumRead_X12_bind : GoodIn wsX12_sumRead (wsV RX12 338 RX12 yX12_bind wsX12_bind) := goodIn_app (goodIn_of _ (by decide +kernel)) ggX12_sumRead_X12_bind
theorem dX12_sumRead_0 : decode cX12_sumRead 0 = .ok (.aload_n 0, 1) := by decide +kernel
theorem dX12_sumRead_1 : decode cX12_sumRead 1 = .ok (.iconst 0, 1) := by decide +kernel
theorem dX12_sumRead_2 : decode cX12_sumRead 2 = .ok (.putfield 301, 3) := by decide +kernel
theorem dX12_sumRead_5 : decode cX12_sumRead 5 = .ok (.aload_n 0, 1) := by decide +kernel
theorem dX12_sumRead_6 : decode cX12_sumRead 6 = .ok (.iconst 0, 1) := by decide +kernel
theorem dX12_sumRead_7 : decode cX12_sumRead 7 = .ok (.putfield 298, 3) := by decide +kernel
theorem dX12_sumRead_10 : decode cX12_sumRead 10 = .ok (.aload_n 0, 1) := by decide +kernel
theorem dX12_sumRead_11 : decode cX12_sumRead 11 = .ok (.iconst 0, 1) := by decide +kernel
theorem dX12_sumRead_12 : decode cX12_sumRead 12 = .ok (.putfield 316, 3) := by decide +kernel
theorem dX12_sumRead_15 : decode cX12_sumRead 15 = .ok (.aload_n 0, 1) := by decide +kernel
theorem dX12_sumRead_16 : decode cX12_sumRead 16 = .ok (.iconst 1, 1) := by decide +kernel
theorem dX12_sumRead_17 : decode cX12_sumRead 17 = .ok (.putfield 335, 3) := by decide +kernel
theorem dX12_sumRead_20 : decode cX12_sumRead 20 = .ok (.aload_n 0, 1) := by decide +kernel
theorem dX12_sumRead_21 : decode cX12_sumRead 21 = .ok (.iconst 1, 1) := by decide +kernel
theorem dX12_sumRead_22 : decode cX12_sumRead 22 = .ok (.putfield 323, 3) := by decide +kernel
theorem dX12_sumRead_25 : decode cX12_sumRead 25 = .ok (.aload_n 0, 1) := by decide +kernel
theorem dX12_sumRead_26 : decode cX12_sumRead 26 = .ok (.bipush 59, 2) := by decide +kernel
theorem dX12_sumRead_28 : decode cX12_sumRead 28 = .ok (.invokevirtual 209, 3) := by decide +kernel
theorem dX12_sumRead_31 : decode cX12_sumRead 31 = .ok (.ifCond .eq 17, 3) := by decide +kernel
theorem dX12_sumRead_34 : decode cX12_sumRead 34 = .ok (.aload_n 0, 1) := by decide +kernel
theorem dX12_sumRead_35 : decode cX12_sumRead 35 = .ok (.getfield 335, 3) := by decide +kernel
theorem dX12_sumRead_38 : decode cX12_sumRead 38 = .ok (.ifCond .ne 10, 3) := by decide +kernel
theorem dX12_sumRead_41 : decode cX12_sumRead 41 = .ok (.aload_n 0, 1) := by decide +kernel
theorem dX12_sumRead_42 : decode cX12_sumRead 42 = .ok (.getfield 316, 3) := by decide +kernel
theorem dX12_sumRead_45 : decode cX12_sumRead 45 = .ok (.ifCond .le 29, 3) := by decide +kernel
theorem dX12_sumRead_48 : decode cX12_sumRead 48 = .ok (.aload_n 0, 1) := by decide +kernel
theorem dX12_sumRead_49 : decode cX12_sumRead 49 = .ok (.getfield 335, 3) := by decide +kernel
theorem dX12_sumRead_52 : decode cX12_sumRead 52 = .ok (.ifCond .eq 13, 3) := by decide +kernel
theorem dX12_sumRead_55 : decode cX12_sumRead 55 = .ok (.aload_n 0, 1) := by decide +kernel
theorem dX12_sumRead_56 : decode cX12_sumRead 56 = .ok (.invokevirtual 341, 3) := by decide +kernel
theorem dX12_sumRead_59 : decode cX12_sumRead 59 = .ok (.ifCond .eq 13, 3) := by decide +kernel
theorem dX12_sumRead_62 : decode cX12_sumRead 62 = .ok (.goto (-37), 3) := by decide +kernel
theorem dX12_sumRead_65 : decode cX12_sumRead 65 = .ok (.aload_n 0, 1) := by decide +kernel
theorem dX12_sumRead_66 : decode cX12_sumRead 66 = .ok (.invokevirtual 344, 3) := by decide +kernel
theorem dX12_sumRead_69 : decode cX12_sumRead 69 = .ok (.ifCond .ne (-44), 3) := by decide +kernel
theorem dX12_sumRead_72 : decode cX12_sumRead 72 = .ok (.iconst 0, 1) := by decide +kernel
theorem dX12_sumRead_73 : decode cX12_sumRead 73 = .ok (.ireturn, 1) := by decide +kernel
theorem dX12_sumRead_74 : decode cX12_sumRead 74 = .ok (.aload_n 0, 1) := by decide +kernel
theorem dX12_sumRead_75 : decode cX12_sumRead 75 = .ok (.iconst 1, 1) := by decide +kernel
theorem dX12_sumRead_76 : decode cX12_sumRead 76 = .ok (.invokevirtual 338, 3) := by decide +kernel
theorem dX12_sumRead_79 : decode cX12_sumRead 79 = .ok (.iconst 1, 1) := by decide +kernel
theorem dX12_sumRead_80 : decode cX12_sumRead 80 = .ok (.ireturn, 1) := by decide +kernel
theorem dX12_bounded_0 : decode cX12_bounded 0 = .ok (.aload_n 0, 1) := by decide +kernel
theorem dX12_bounded_1 : decode cX12_bounded 1 = .ok (.aload_n 0, 1) := by decide +kernel
theorem dX12_bounded_2 : decode cX12_bounded 2 = .ok (.getfield 347, 3) := by decide +kernel
theorem dX12_bounded_5 : decode cX12_bounded 5 = .ok (.ifCond .ne 19, 3) := by decide +kernel
theorem dX12_bounded_8 : decode cX12_bounded 8 = .ok (.lload_n 1, 1) := by decide +kernel
theorem dX12_bounded_9 : decode cX12_bounded 9 = .ok (.ldc2_w 350, 3) := by decide +kernel
theorem dX12_bounded_12 : decode cX12_bounded 12 = .ok (.lcmp, 1) := by decide +kernel
theorem dX12_bounded_13 : decode cX12_bounded 13 = .ok (.ifCond .gt 11, 3) := by decide +kernel
theorem dX12_bounded_16 : decode cX12_bounded 16 = .ok (.lload_n 1, 1) := by decide +kernel
theorem dX12_bounded_17 : decode cX12_bounded 17 = .ok (.ldc2_w 352, 3) := by decide +kernel
theorem dX12_bounded_20 : decode cX12_bounded 20 = .ok (.lcmp, 1) := by decide +kernel
theorem dX12_bounded_21 : decode cX12_bounded 21 = .ok (.ifCond .ge 7, 3) := by decide +kernel
theorem dX12_bounded_24 : decode cX12_bounded 24 = .ok (.iconst 1, 1) := by decide +kernel
theorem dX12_bounded_25 : decode cX12_bounded 25 = .ok (.goto 4, 3) := by decide +kernel
theorem dX12_bounded_28 : decode cX12_bounded 28 = .ok (.iconst 0, 1) := by decide +kernel
theorem dX12_bounded_29 : decode cX12_bounded 29 = .ok (.putfield 347, 3) := by decide +kernel
theorem dX12_bounded_32 : decode cX12_bounded 32 = .ok (.aload_n 0, 1) := by decide +kernel
theorem dX12_bounded_33 : decode cX12_bounded 33 = .ok (.getfield 347, 3) := by decide +kernel
theorem dX12_bounded_36 : decode cX12_bounded 36 = .ok (.ifCond .eq 7, 3) := by decide +kernel
theorem dX12_bounded_39 : decode cX12_bounded 39 = .ok (.lconst 0, 1) := by decide +kernel
theorem dX12_bounded_40 : decode cX12_bounded 40 = .ok (.goto 4, 3) := by decide +kernel
theorem dX12_bounded_43 : decode cX12_bounded 43 = .ok (.lload_n 1, 1) := by decide +kernel
theorem dX12_bounded_44 : decode cX12_bounded 44 = .ok (.lreturn, 1) := by decide +kernel
theorem dX12_compares_0 : decode cX12_compares 0 = .ok (.iload_n 0, 1) := by decide +kernel
theorem dX12_compares_1 : decode cX12_compares 1 = .ok (.tableswitch 95 5 9 #[35, 47, 59, 71, 83], 35) := by decide +kernel
theorem dX12_compares_36 : decode cX12_compares 36 = .ok (.lload_n 1, 1) := by decide +kernel
theorem dX12_compares_37 : decode cX12_compares 37 = .ok (.lload_n 3, 1) := by decide +kernel
theorem dX12_compares_38 : decode cX12_compares 38 = .ok (.lcmp, 1) := by decide +kernel
theorem dX12_compares_39 : decode cX12_compares 39 = .ok (.ifCond .ge 7, 3) := by decide +kernel
theorem dX12_compares_42 : decode cX12_compares 42 = .ok (.iconst 1, 1) := by decide +kernel
theorem dX12_compares_43 : decode cX12_compares 43 = .ok (.goto 4, 3) := by decide +kernel
theorem dX12_compares_46 : decode cX12_compares 46 = .ok (.iconst 0, 1) := by decide +kernel
theorem dX12_compares_47 : decode cX12_compares 47 = .ok (.ireturn, 1) := by decide +kernel
theorem dX12_compares_48 : decode cX12_compares 48 = .ok (.lload_n 1, 1) := by decide +kernel
theorem dX12_compares_49 : decode cX12_compares 49 = .ok (.lload_n 3, 1) := by decide +kernel
theorem dX12_compares_50 : decode cX12_compares 50 = .ok (.lcmp, 1) := by decide +kernel
theorem dX12_compares_51 : decode cX12_compares 51 = .ok (.ifCond .gt 7, 3) := by decide +kernel
theorem dX12_compares_54 : decode cX12_compares 54 = .ok (.iconst 1, 1) := by decide +kernel
theorem dX12_compares_55 : decode cX12_compares 55 = .ok (.goto 4, 3) := by decide +kernel
theorem dX12_compares_58 : decode cX12_compares 58 = .ok (.iconst 0, 1) := by decide +kernel
theorem dX12_compares_59 : decode cX12_compares 59 = .ok (.ireturn, 1) := by decide +kernel
theorem dX12_compares_60 : decode cX12_compares 60 = .ok (.lload_n 1, 1) := by decide +kernel
theorem dX12_compares_61 : decode cX12_compares 61 = .ok (.lload_n 3, 1) := by decide +kernel
theorem dX12_compares_62 : decode cX12_compares 62 = .ok (.lcmp, 1) := by decide +kernel
theorem dX12_compares_63 : decode cX12_compares 63 = .ok (.ifCond .ne 7, 3) := by decide +kernel
theorem dX12_compares_66 : decode cX12_compares 66 = .ok (.iconst 1, 1) := by decide +kernel
theorem dX12_compares_67 : decode cX12_compares 67 = .ok (.goto 4, 3) := by decide +kernel
theorem dX12_compares_70 : decode cX12_compares 70 = .ok (.iconst 0, 1) := by decide +kernel
theorem dX12_compares_71 : decode cX12_compares 71 = .ok (.ireturn, 1) := by decide +kernel
theorem dX12_compares_72 : decode cX12_compares 72 = .ok (.lload_n 1, 1) := by decide +kernel
theorem dX12_compares_73 : decode cX12_compares 73 = .ok (.lload_n 3, 1) := by decide +kernel
theorem dX12_compares_74 : decode cX12_compares 74 = .ok (.lcmp, 1) := by decide +kernel
theorem dX12_compares_75 : decode cX12_compares 75 = .ok (.ifCond .eq 7, 3) := by decide +kernel
theorem dX12_compares_78 : decode cX12_compares 78 = .ok (.iconst 1, 1) := by decide +kernel
theorem dX12_compares_79 : decode cX12_compares 79 = .ok (.goto 4, 3) := by decide +kernel
theorem dX12_compares_82 : decode cX12_compares 82 = .ok (.iconst 0, 1) := by decide +kernel
theorem dX12_compares_83 : decode cX12_compares 83 = .ok (.ireturn, 1) := by decide +kernel
theorem dX12_compares_84 : decode cX12_compares 84 = .ok (.lload_n 1, 1) := by decide +kernel
theorem dX12_compares_85 : decode cX12_compares 85 = .ok (.lload_n 3, 1) := by decide +kernel
theorem dX12_compares_86 : decode cX12_compares 86 = .ok (.lcmp, 1) := by decide +kernel
theorem dX12_compares_87 : decode cX12_compares 87 = .ok (.ifCond .lt 7, 3) := by decide +kernel
theorem dX12_compares_90 : decode cX12_compares 90 = .ok (.iconst 1, 1) := by decide +kernel
theorem dX12_compares_91 : decode cX12_compares 91 = .ok (.goto 4, 3) := by decide +kernel
theorem dX12_compares_94 : decode cX12_compares 94 = .ok (.iconst 0, 1) := by decide +kernel
theorem dX12_compares_95 : decode cX12_compares 95 = .ok (.ireturn, 1) := by decide +kernel
theorem dX12_compares_96 : decode cX12_compares 96 = .ok (.lload_n 1, 1) := by decide +kernel
theorem dX12_compares_97 : decode cX12_compares 97 = .ok (.lload_n 3, 1) := by decide +kernel
theorem dX12_compares_98 : decode cX12_compares 98 = .ok (.lcmp, 1) := by decide +kernel
theorem dX12_compares_99 : decode cX12_compares 99 = .ok (.ifCond .le 7, 3) := by decide +kernel
theorem dX12_compares_102 : decode cX12_compares 102 = .ok (.iconst 1, 1) := by decide +kernel
theorem dX12_compares_103 : decode cX12_compares 103 = .ok (.goto 4, 3) := by decide +kernel
theorem dX12_compares_106 : decode cX12_compares 106 = .ok (.iconst 0, 1) := by decide +kernel
theorem dX12_compares_107 : decode cX12_compares 107 = .ok (.ireturn, 1) := by decide +kernel
theorem dX12_times_0 : decode cX12_times 0 = .ok (.lload_n 1, 1) := by decide +kernel
theorem dX12_times_1 : decode cX12_times 1 = .ok (.lconst 0, 1) := by decide +kernel
theorem dX12_times_2 : decode cX12_times 2 = .ok (.lcmp, 1) := by decide +kernel
theorem dX12_times_3 : decode cX12_times 3 = .ok (.ifCond .eq 45, 3) := by decide +kernel
theorem dX12_times_6 : decode cX12_times 6 = .ok (.lload_n 3, 1) := by decide +kernel
theorem dX12_times_7 : decode cX12_times 7 = .ok (.lconst 0, 1) := by decide +kernel
theorem dX12_times_8 : decode cX12_times 8 = .ok (.lcmp, 1) := by decide +kernel
theorem dX12_times_9 : decode cX12_times 9 = .ok (.ifCond .eq 39, 3) := by decide +kernel
theorem dX12_times_12 : decode cX12_times 12 = .ok (.lload_n 3, 1) := by decide +kernel
theorem dX12_times_13 : decode cX12_times 13 = .ok (.lconst 0, 1) := by decide +kernel
theorem dX12_times_14 : decode cX12_times 14 = .ok (.lcmp, 1) := by decide +kernel
theorem dX12_times_15 : decode cX12_times 15 = .ok (.ifCond .ge 8, 3) := by decide +kernel
theorem dX12_times_18 : decode cX12_times 18 = .ok (.lload_n 3, 1) := by decide +kernel
theorem dX12_times_19 : decode cX12_times 19 = .ok (.lneg, 1) := by decide +kernel
theorem dX12_times_20 : decode cX12_times 20 = .ok (.goto 4, 3) := by decide +kernel
theorem dX12_times_23 : decode cX12_times 23 = .ok (.lload_n 3, 1) := by decide +kernel
theorem dX12_times_24 : decode cX12_times 24 = .ok (.ldc2_w 350, 3) := by decide +kernel
theorem dX12_times_27 : decode cX12_times 27 = .ok (.lload_n 1, 1) := by decide +kernel
theorem dX12_times_28 : decode cX12_times 28 = .ok (.lconst 0, 1) := by decide +kernel
theorem dX12_times_29 : decode cX12_times 29 = .ok (.lcmp, 1) := by decide +kernel
theorem dX12_times_30 : decode cX12_times 30 = .ok (.ifCond .ge 8, 3) := by decide +kernel
theorem dX12_times_33 : decode cX12_times 33 = .ok (.lload_n 1, 1) := by decide +kernel
theorem dX12_times_34 : decode cX12_times 34 = .ok (.lneg, 1) := by decide +kernel
theorem dX12_times_35 : decode cX12_times 35 = .ok (.goto 4, 3) := by decide +kernel
theorem dX12_times_38 : decode cX12_times 38 = .ok (.lload_n 1, 1) := by decide +kernel
theorem dX12_times_39 : decode cX12_times 39 = .ok (.ldiv, 1) := by decide +kernel
theorem dX12_times_40 : decode cX12_times 40 = .ok (.lcmp, 1) := by decide +kernel
theorem dX12_times_41 : decode cX12_times 41 = .ok (.ifCond .le 7, 3) := by decide +kernel
theorem dX12_times_44 : decode cX12_times 44 = .ok (.iconst 1, 1) := by decide +kernel
theorem dX12_times_45 : decode cX12_times 45 = .ok (.goto 4, 3) := by decide +kernel
theorem dX12_times_48 : decode cX12_times 48 = .ok (.iconst 0, 1) := by decide +kernel
theorem dX12_times_49 : decode cX12_times 49 = .ok (.istore 5, 2) := by decide +kernel
theorem dX12_times_51 : decode cX12_times 51 = .ok (.aload_n 0, 1) := by decide +kernel
theorem dX12_times_52 : decode cX12_times 52 = .ok (.aload_n 0, 1) := by decide +kernel
theorem dX12_times_53 : decode cX12_times 53 = .ok (.getfield 347, 3) := by decide +kernel
theorem dX12_times_56 : decode cX12_times 56 = .ok (.ifCond .ne 8, 3) := by decide +kernel
theorem dX12_times_59 : decode cX12_times 59 = .ok (.iload 5, 2) := by decide +kernel
theorem dX12_times_61 : decode cX12_times 61 = .ok (.ifCond .eq 7, 3) := by decide +kernel
theorem dX12_times_64 : decode cX12_times 64 = .ok (.iconst 1, 1) := by decide +kernel
theorem dX12_times_65 : decode cX12_times 65 = .ok (.goto 4, 3) := by decide +kernel
theorem dX12_times_68 : decode cX12_times 68 = .ok (.iconst 0, 1) := by decide +kernel
theorem dX12_times_69 : decode cX12_times 69 = .ok (.putfield 347, 3) := by decide +kernel
theorem dX12_times_72 : decode cX12_times 72 = .ok (.aload_n 0, 1) := by decide +kernel
theorem dX12_times_73 : decode cX12_times 73 = .ok (.getfield 347, 3) := by decide +kernel
theorem dX12_times_76 : decode cX12_times 76 = .ok (.ifCond .eq 7, 3) := by decide +kernel
theorem dX12_times_79 : decode cX12_times 79 = .ok (.lconst 0, 1) := by decide +kernel
theorem dX12_times_80 : decode cX12_times 80 = .ok (.goto 6, 3) := by decide +kernel
theorem dX12_times_83 : decode cX12_times 83 = .ok (.lload_n 1, 1) := by decide +kernel
theorem dX12_times_84 : decode cX12_times 84 = .ok (.lload_n 3, 1) := by decide +kernel
theorem dX12_times_85 : decode cX12_times 85 = .ok (.lmul, 1) := by decide +kernel
theorem dX12_times_86 : decode cX12_times 86 = .ok (.lreturn, 1) := by decide +kernel
set_option maxRecDepth 20000 in
theorem ggX12_valueOf_X12_bounded : GoodIn wsX12_valueOf wsX12_bounded := goodIn_r _ [11, 6, 12, 13, 21, 22, 23, 24, 25, 26, 27, 28, 29, 30, 31, 32, 33, 34, 35, 36, 37, 38, 39, 40, 41, 42, 43, 44, 45, 46, 47, 48, 49, 50, 51, 52, 53, 54, 55, 56, 57, 58, 59, 60, 61, 62, 63, 64, 65, 66, 67, 68, 69, 70, 71, 72, 73, 74, 75, 76, 77, 78, 79, 80, 81, 82, 83, 84, 85, 86, 87, 88, 89, 90, 91, 92, 93, 94, 95, 96, 97, 98, 99, 100, 101, 102, 103, 104, 105, 106, 107] (by decide +kernel) (by decide +kernel)
set_option maxRecDepth 20000 in
theorem gX12_valueOf_X12_bounded : GoodIn wsX12_valueOf (wsV RX12 354 RX12 yX12_bounded wsX12_bounded) := goodIn_app (goodIn_of _ (by decide +kernel)) ggX12_valueOf_X12_bounded
set_option maxRecDepth 20000 in
theorem ggX12_valueOf_X12_times : GoodIn wsX12_valueOf wsX12_times := goodIn_r _ [17, 12, 6, 21, 22, 23, 24, 25, 26, 27, 28, 29, 30, 31, 32, 33, 34, 35, 36, 37, 38, 39, 40, 41, 42, 43, 44, 45, 46, 47, 48, 49, 50, 51, 52, 53, 54, 55, 56, 57, 58, 59, 60, 61, 62, 63, 64, 65, 66, 67, 68, 69, 70, 71, 72, 73, 74, 75, 76, 77, 78, 79, 80, 81, 82, 83, 84, 85, 86, 87, 88, 89, 90, 91, 92, 93, 94, 95, 96, 97, 98, 99, 100, 101, 102, 103, 104, 105, 106, 107] (by decide +kernel) (by decide +kernel)
set_option maxRecDepth 20000 in
theorem gX12_valueOf_X12_times : GoodIn wsX12_valueOf (wsV RX12 358 RX12 yX12_times wsX12_times) := goodIn_app (goodIn_of _ (by decide +kernel)) ggX12_valueOf_X12_times
set_option maxRecDepth 20000 in
theorem ggX12_valueOf_X12_compares : GoodIn wsX12_valueOf wsX12_compares := goodIn_r _ [20] (by decide +kernel) (by decide +kernel)
set_option maxRecDepth 20000 in
theorem gX12_valueOf_X12_compares : GoodIn wsX12_valueOf (va_wsS RX12 362 yX12_compares wsX12_compares) := goodIn_app (goodIn_of _ (by decide +kernel)) ggX12_valueOf_X12_compares
theorem dX12_valueOf_0 : decode cX12_valueOf 0 = .ok (.aload_n 0, 1) := by decide +kernel
theorem dX12_valueOf_1 : decode cX12_valueOf 1 = .ok (.getfield 66, 3) := by decide +kernel
theorem dX12_valueOf_4 : decode cX12_valueOf 4 = .ok (.iload_n 1, 1) := by decide +kernel
theorem dX12_valueOf_5 : decode cX12_valueOf 5 = .ok (.iaload, 1) := by decide +kernel
theorem dX12_valueOf_6 : decode cX12_valueOf 6 = .ok (.ifCond .ne 11, 3) := by decide +kernel
theorem dX12_valueOf_9 : decode cX12_valueOf 9 = .ok (.aload_n 0, 1) := by decide +kernel
theorem dX12_valueOf_10 : decode cX12_valueOf 10 = .ok (.getfield 69, 3) := by decide +kernel
theorem dX12_valueOf_13 : decode cX12_valueOf 13 = .ok (.iload_n 1, 1) := by decide +kernel
theorem dX12_valueOf_14 : decode cX12_valueOf 14 = .ok (.iaload, 1) := by decide +kernel
theorem dX12_valueOf_15 : decode cX12_valueOf 15 = .ok (.i2l, 1) := by decide +kernel
theorem dX12_valueOf_16 : decode cX12_valueOf 16 = .ok (.lreturn, 1) := by decide +kernel
theorem dX12_valueOf_17 : decode cX12_valueOf 17 = .ok (.aload_n 0, 1) := by decide +kernel
theorem dX12_valueOf_18 : decode cX12_valueOf 18 = .ok (.getfield 66, 3) := by decide +kernel
theorem dX12_valueOf_21 : decode cX12_valueOf 21 = .ok (.iload_n 1, 1) := by decide +kernel
theorem dX12_valueOf_22 : decode cX12_valueOf 22 = .ok (.iaload, 1) := by decide +kernel
theorem dX12_valueOf_23 : decode cX12_valueOf 23 = .ok (.iconst 1, 1) := by decide +kernel
theorem dX12_valueOf_24 : decode cX12_valueOf 24 = .ok (.if_icmp .ne 15, 3) := by decide +kernel
theorem dX12_valueOf_27 : decode cX12_valueOf 27 = .ok (.aload_n 0, 1) := by decide +kernel
theorem dX12_valueOf_28 : decode cX12_valueOf 28 = .ok (.getfield 81, 3) := by decide +kernel
theorem dX12_valueOf_31 : decode cX12_valueOf 31 = .ok (.aload_n 0, 1) := by decide +kernel
theorem dX12_valueOf_32 : decode cX12_valueOf 32 = .ok (.getfield 69, 3) := by decide +kernel
theorem dX12_valueOf_35 : decode cX12_valueOf 35 = .ok (.iload_n 1, 1) := by decide +kernel
theorem dX12_valueOf_36 : decode cX12_valueOf 36 = .ok (.iaload, 1) := by decide +kernel
theorem dX12_valueOf_37 : decode cX12_valueOf 37 = .ok (.laload, 1) := by decide +kernel
theorem dX12_valueOf_38 : decode cX12_valueOf 38 = .ok (.lreturn, 1) := by decide +kernel
theorem dX12_valueOf_39 : decode cX12_valueOf 39 = .ok (.aload_n 0, 1) := by decide +kernel
theorem dX12_valueOf_40 : decode cX12_valueOf 40 = .ok (.getfield 85, 3) := by decide +kernel
theorem dX12_valueOf_43 : decode cX12_valueOf 43 = .ok (.aload_n 0, 1) := by decide +kernel
theorem dX12_valueOf_44 : decode cX12_valueOf 44 = .ok (.getfield 69, 3) := by decide +kernel
theorem dX12_valueOf_47 : decode cX12_valueOf 47 = .ok (.iload_n 1, 1) := by decide +kernel
theorem dX12_valueOf_48 : decode cX12_valueOf 48 = .ok (.iaload, 1) := by decide +kernel
theorem dX12_valueOf_49 : decode cX12_valueOf 49 = .ok (.laload, 1) := by decide +kernel
theorem dX12_valueOf_50 : decode cX12_valueOf 50 = .ok (.lstore_n 2, 1) := by decide +kernel
theorem dX12_valueOf_51 : decode cX12_valueOf 51 = .ok (.aload_n 0, 1) := by decide +kernel
theorem dX12_valueOf_52 : decode cX12_valueOf 52 = .ok (.getfield 66, 3) := by decide +kernel
theorem dX12_valueOf_55 : decode cX12_valueOf 55 = .ok (.iload_n 1, 1) := by decide +kernel
theorem dX12_valueOf_56 : decode cX12_valueOf 56 = .ok (.iaload, 1) := by decide +kernel
theorem dX12_valueOf_57 : decode cX12_valueOf 57 = .ok (.iconst 2, 1) := by decide +kernel
theorem dX12_valueOf_58 : decode cX12_valueOf 58 = .ok (.if_icmp .ne 15, 3) := by decide +kernel
theorem dX12_valueOf_61 : decode cX12_valueOf 61 = .ok (.lload_n 2, 1) := by decide +kernel
theorem dX12_valueOf_62 : decode cX12_valueOf 62 = .ok (.lconst 0, 1) := by decide +kernel
theorem dX12_valueOf_63 : decode cX12_valueOf 63 = .ok (.lcmp, 1) := by decide +kernel
theorem dX12_valueOf_64 : decode cX12_valueOf 64 = .ok (.ifCond .ne 7, 3) := by decide +kernel
theorem dX12_valueOf_67 : decode cX12_valueOf 67 = .ok (.lconst 1, 1) := by decide +kernel
theorem dX12_valueOf_68 : decode cX12_valueOf 68 = .ok (.goto 4, 3) := by decide +kernel
theorem dX12_valueOf_71 : decode cX12_valueOf 71 = .ok (.lconst 0, 1) := by decide +kernel
theorem dX12_valueOf_72 : decode cX12_valueOf 72 = .ok (.lreturn, 1) := by decide +kernel
theorem dX12_valueOf_73 : decode cX12_valueOf 73 = .ok (.aload_n 0, 1) := by decide +kernel
theorem dX12_valueOf_74 : decode cX12_valueOf 74 = .ok (.getfield 85, 3) := by decide +kernel
theorem dX12_valueOf_77 : decode cX12_valueOf 77 = .ok (.aload_n 0, 1) := by decide +kernel
theorem dX12_valueOf_78 : decode cX12_valueOf 78 = .ok (.getfield 72, 3) := by decide +kernel
theorem dX12_valueOf_81 : decode cX12_valueOf 81 = .ok (.iload_n 1, 1) := by decide +kernel
theorem dX12_valueOf_82 : decode cX12_valueOf 82 = .ok (.iaload, 1) := by decide +kernel
theorem dX12_valueOf_83 : decode cX12_valueOf 83 = .ok (.laload, 1) := by decide +kernel
theorem dX12_valueOf_84 : decode cX12_valueOf 84 = .ok (.lstore 4, 2) := by decide +kernel
theorem dX12_valueOf_86 : decode cX12_valueOf 86 = .ok (.aload_n 0, 1) := by decide +kernel
theorem dX12_valueOf_87 : decode cX12_valueOf 87 = .ok (.getfield 66, 3) := by decide +kernel
theorem dX12_valueOf_90 : decode cX12_valueOf 90 = .ok (.iload_n 1, 1) := by decide +kernel
theorem dX12_valueOf_91 : decode cX12_valueOf 91 = .ok (.iaload, 1) := by decide +kernel
theorem dX12_valueOf_92 : decode cX12_valueOf 92 = .ok (.tableswitch 167 3 14 #[64, 83, 167, 167, 167, 167, 167, 167, 102, 111, 120, 128], 64) := by decide +kernel
theorem dX12_valueOf_156 : decode cX12_valueOf 156 = .ok (.lload_n 2, 1) := by decide +kernel
theorem dX12_valueOf_157 : decode cX12_valueOf 157 = .ok (.lconst 0, 1) := by decide +kernel
theorem dX12_valueOf_158 : decode cX12_valueOf 158 = .ok (.lcmp, 1) := by decide +kernel
theorem dX12_valueOf_159 : decode cX12_valueOf 159 = .ok (.ifCond .eq 14, 3) := by decide +kernel
theorem dX12_valueOf_162 : decode cX12_valueOf 162 = .ok (.lload 4, 2) := by decide +kernel
theorem dX12_valueOf_164 : decode cX12_valueOf 164 = .ok (.lconst 0, 1) := by decide +kernel
theorem dX12_valueOf_165 : decode cX12_valueOf 165 = .ok (.lcmp, 1) := by decide +kernel
theorem dX12_valueOf_166 : decode cX12_valueOf 166 = .ok (.ifCond .eq 7, 3) := by decide +kernel
theorem dX12_valueOf_169 : decode cX12_valueOf 169 = .ok (.lconst 1, 1) := by decide +kernel
theorem dX12_valueOf_170 : decode cX12_valueOf 170 = .ok (.goto 4, 3) := by decide +kernel
theorem dX12_valueOf_173 : decode cX12_valueOf 173 = .ok (.lconst 0, 1) := by decide +kernel
theorem dX12_valueOf_174 : decode cX12_valueOf 174 = .ok (.lreturn, 1) := by decide +kernel
theorem dX12_valueOf_175 : decode cX12_valueOf 175 = .ok (.lload_n 2, 1) := by decide +kernel
theorem dX12_valueOf_176 : decode cX12_valueOf 176 = .ok (.lconst 0, 1) := by decide +kernel
theorem dX12_valueOf_177 : decode cX12_valueOf 177 = .ok (.lcmp, 1) := by decide +kernel
theorem dX12_valueOf_178 : decode cX12_valueOf 178 = .ok (.ifCond .ne 10, 3) := by decide +kernel
theorem dX12_valueOf_181 : decode cX12_valueOf 181 = .ok (.lload 4, 2) := by decide +kernel
theorem dX12_valueOf_183 : decode cX12_valueOf 183 = .ok (.lconst 0, 1) := by decide +kernel
theorem dX12_valueOf_184 : decode cX12_valueOf 184 = .ok (.lcmp, 1) := by decide +kernel
theorem dX12_valueOf_185 : decode cX12_valueOf 185 = .ok (.ifCond .eq 7, 3) := by decide +kernel
theorem dX12_valueOf_188 : decode cX12_valueOf 188 = .ok (.lconst 1, 1) := by decide +kernel
theorem dX12_valueOf_189 : decode cX12_valueOf 189 = .ok (.goto 4, 3) := by decide +kernel
theorem dX12_valueOf_192 : decode cX12_valueOf 192 = .ok (.lconst 0, 1) := by decide +kernel
theorem dX12_valueOf_193 : decode cX12_valueOf 193 = .ok (.lreturn, 1) := by decide +kernel
theorem dX12_valueOf_194 : decode cX12_valueOf 194 = .ok (.aload_n 0, 1) := by decide +kernel
theorem dX12_valueOf_195 : decode cX12_valueOf 195 = .ok (.lload_n 2, 1) := by decide +kernel
theorem dX12_valueOf_196 : decode cX12_valueOf 196 = .ok (.lload 4, 2) := by decide +kernel
theorem dX12_valueOf_198 : decode cX12_valueOf 198 = .ok (.ladd, 1) := by decide +kernel
theorem dX12_valueOf_199 : decode cX12_valueOf 199 = .ok (.invokevirtual 354, 3) := by decide +kernel
theorem dX12_valueOf_202 : decode cX12_valueOf 202 = .ok (.lreturn, 1) := by decide +kernel
theorem dX12_valueOf_203 : decode cX12_valueOf 203 = .ok (.aload_n 0, 1) := by decide +kernel
theorem dX12_valueOf_204 : decode cX12_valueOf 204 = .ok (.lload_n 2, 1) := by decide +kernel
theorem dX12_valueOf_205 : decode cX12_valueOf 205 = .ok (.lload 4, 2) := by decide +kernel
theorem dX12_valueOf_207 : decode cX12_valueOf 207 = .ok (.lsub, 1) := by decide +kernel
theorem dX12_valueOf_208 : decode cX12_valueOf 208 = .ok (.invokevirtual 354, 3) := by decide +kernel
theorem dX12_valueOf_211 : decode cX12_valueOf 211 = .ok (.lreturn, 1) := by decide +kernel
theorem dX12_valueOf_212 : decode cX12_valueOf 212 = .ok (.aload_n 0, 1) := by decide +kernel
theorem dX12_valueOf_213 : decode cX12_valueOf 213 = .ok (.lload_n 2, 1) := by decide +kernel
theorem dX12_valueOf_214 : decode cX12_valueOf 214 = .ok (.lload 4, 2) := by decide +kernel
theorem dX12_valueOf_216 : decode cX12_valueOf 216 = .ok (.invokevirtual 358, 3) := by decide +kernel
theorem dX12_valueOf_219 : decode cX12_valueOf 219 = .ok (.lreturn, 1) := by decide +kernel
theorem dX12_valueOf_220 : decode cX12_valueOf 220 = .ok (.aload_n 0, 1) := by decide +kernel
theorem dX12_valueOf_221 : decode cX12_valueOf 221 = .ok (.aload_n 0, 1) := by decide +kernel
theorem dX12_valueOf_222 : decode cX12_valueOf 222 = .ok (.getfield 347, 3) := by decide +kernel
theorem dX12_valueOf_225 : decode cX12_valueOf 225 = .ok (.ifCond .ne 10, 3) := by decide +kernel
theorem dX12_valueOf_228 : decode cX12_valueOf 228 = .ok (.lload 4, 2) := by decide +kernel
theorem dX12_valueOf_230 : decode cX12_valueOf 230 = .ok (.lconst 0, 1) := by decide +kernel
theorem dX12_valueOf_231 : decode cX12_valueOf 231 = .ok (.lcmp, 1) := by decide +kernel
theorem dX12_valueOf_232 : decode cX12_valueOf 232 = .ok (.ifCond .ne 7, 3) := by decide +kernel
theorem dX12_valueOf_235 : decode cX12_valueOf 235 = .ok (.iconst 1, 1) := by decide +kernel
theorem dX12_valueOf_236 : decode cX12_valueOf 236 = .ok (.goto 4, 3) := by decide +kernel
theorem dX12_valueOf_239 : decode cX12_valueOf 239 = .ok (.iconst 0, 1) := by decide +kernel
theorem dX12_valueOf_240 : decode cX12_valueOf 240 = .ok (.putfield 347, 3) := by decide +kernel
theorem dX12_valueOf_243 : decode cX12_valueOf 243 = .ok (.aload_n 0, 1) := by decide +kernel
theorem dX12_valueOf_244 : decode cX12_valueOf 244 = .ok (.getfield 347, 3) := by decide +kernel
theorem dX12_valueOf_247 : decode cX12_valueOf 247 = .ok (.ifCond .eq 7, 3) := by decide +kernel
theorem dX12_valueOf_250 : decode cX12_valueOf 250 = .ok (.lconst 0, 1) := by decide +kernel
theorem dX12_valueOf_251 : decode cX12_valueOf 251 = .ok (.goto 7, 3) := by decide +kernel
theorem dX12_valueOf_254 : decode cX12_valueOf 254 = .ok (.lload_n 2, 1) := by decide +kernel
theorem dX12_valueOf_255 : decode cX12_valueOf 255 = .ok (.lload 4, 2) := by decide +kernel
theorem dX12_valueOf_257 : decode cX12_valueOf 257 = .ok (.ldiv, 1) := by decide +kernel
theorem dX12_valueOf_258 : decode cX12_valueOf 258 = .ok (.lreturn, 1) := by decide +kernel
theorem dX12_valueOf_259 : decode cX12_valueOf 259 = .ok (.aload_n 0, 1) := by decide +kernel
theorem dX12_valueOf_260 : decode cX12_valueOf 260 = .ok (.getfield 66, 3) := by decide +kernel
theorem dX12_valueOf_263 : decode cX12_valueOf 263 = .ok (.iload_n 1, 1) := by decide +kernel
theorem dX12_valueOf_264 : decode cX12_valueOf 264 = .ok (.iaload, 1) := by decide +kernel
theorem dX12_valueOf_265 : decode cX12_valueOf 265 = .ok (.lload_n 2, 1) := by decide +kernel
theorem dX12_valueOf_266 : decode cX12_valueOf 266 = .ok (.lload 4, 2) := by decide +kernel
theorem dX12_valueOf_268 : decode cX12_valueOf 268 = .ok (.invokestatic 362, 3) := by decide +kernel
theorem dX12_valueOf_271 : decode cX12_valueOf 271 = .ok (.ifCond .eq 7, 3) := by decide +kernel
theorem dX12_valueOf_274 : decode cX12_valueOf 274 = .ok (.lconst 1, 1) := by decide +kernel
theorem dX12_valueOf_275 : decode cX12_valueOf 275 = .ok (.goto 4, 3) := by decide +kernel
theorem dX12_valueOf_278 : decode cX12_valueOf 278 = .ok (.lconst 0, 1) := by decide +kernel
theorem dX12_valueOf_279 : decode cX12_valueOf 279 = .ok (.lreturn, 1) := by decide +kernel
theorem dX12_cells_0 : decode cX12_cells 0 = .ok (.aload_n 0, 1) := by decide +kernel
theorem dX12_cells_1 : decode cX12_cells 1 = .ok (.getfield 241, 3) := by decide +kernel
theorem dX12_cells_4 : decode cX12_cells 4 = .ok (.aload_n 0, 1) := by decide +kernel
theorem dX12_cells_5 : decode cX12_cells 5 = .ok (.getfield 244, 3) := by decide +kernel
theorem dX12_cells_8 : decode cX12_cells 8 = .ok (.imul, 1) := by decide +kernel
theorem dX12_cells_9 : decode cX12_cells 9 = .ok (.ireturn, 1) := by decide +kernel
set_option maxRecDepth 20000 in
theorem ggX12_isCell_X12_cells : GoodIn wsX12_isCell wsX12_cells := goodIn_r _ [5, 6, 7, 8, 9, 10, 11, 12, 13, 14, 15, 16, 17, 18, 19, 20, 21, 22, 23, 24, 25, 26, 27, 28, 29, 30, 31, 32, 33, 34, 35, 36, 37, 38, 39, 40, 41, 42, 43, 44, 45, 46, 47, 48, 49, 50, 51, 52, 53, 54, 55, 56, 57, 58, 59, 60, 61, 62, 63, 64, 65, 66, 67, 68, 69, 70, 71, 72, 73, 74, 75, 76, 77, 78, 79, 80, 81, 82, 83, 84, 85, 86, 87, 88, 89, 90, 91, 92, 93, 94] (by decide +kernel) (by decide +kernel)
set_option maxRecDepth 20000 in
theorem gX12_isCell_X12_cells : GoodIn wsX12_isCell (wsV RX12 366 RX12 yX12_cells wsX12_cells) := goodIn_app (goodIn_of _ (by decide +kernel)) ggX12_isCell_X12_cells
theorem dX12_isCell_0 : decode cX12_isCell 0 = .ok (.iload_n 1, 1) := by decide +kernel
theorem dX12_isCell_1 : decode cX12_isCell 1 = .ok (.ifCond .lt 15, 3) := by decide +kernel
theorem dX12_isCell_4 : decode cX12_isCell 4 = .ok (.iload_n 1, 1) := by decide +kernel
theorem dX12_isCell_5 : decode cX12_isCell 5 = .ok (.aload_n 0, 1) := by decide +kernel
theorem dX12_isCell_6 : decode cX12_isCell 6 = .ok (.invokevirtual 366, 3) := by decide +kernel
theorem dX12_isCell_9 : decode cX12_isCell 9 = .ok (.if_icmp .ge 7, 3) := by decide +kernel
theorem dX12_isCell_12 : decode cX12_isCell 12 = .ok (.iconst 1, 1) := by decide +kernel
theorem dX12_isCell_13 : decode cX12_isCell 13 = .ok (.goto 4, 3) := by decide +kernel
theorem dX12_isCell_16 : decode cX12_isCell 16 = .ok (.iconst 0, 1) := by decide +kernel
theorem dX12_isCell_17 : decode cX12_isCell 17 = .ok (.ireturn, 1) := by decide +kernel
theorem dX12_isSurfer_0 : decode cX12_isSurfer 0 = .ok (.iload_n 1, 1) := by decide +kernel
theorem dX12_isSurfer_1 : decode cX12_isSurfer 1 = .ok (.ifCond .lt 15, 3) := by decide +kernel
theorem dX12_isSurfer_4 : decode cX12_isSurfer 4 = .ok (.iload_n 1, 1) := by decide +kernel
theorem dX12_isSurfer_5 : decode cX12_isSurfer 5 = .ok (.aload_n 0, 1) := by decide +kernel
theorem dX12_isSurfer_6 : decode cX12_isSurfer 6 = .ok (.getfield 247, 3) := by decide +kernel
theorem dX12_isSurfer_9 : decode cX12_isSurfer 9 = .ok (.if_icmp .ge 7, 3) := by decide +kernel
theorem dX12_isSurfer_12 : decode cX12_isSurfer 12 = .ok (.iconst 1, 1) := by decide +kernel
theorem dX12_isSurfer_13 : decode cX12_isSurfer 13 = .ok (.goto 4, 3) := by decide +kernel
theorem dX12_isSurfer_16 : decode cX12_isSurfer 16 = .ok (.iconst 0, 1) := by decide +kernel
theorem dX12_isSurfer_17 : decode cX12_isSurfer 17 = .ok (.ireturn, 1) := by decide +kernel
theorem dX12_isWave_0 : decode cX12_isWave 0 = .ok (.iload_n 1, 1) := by decide +kernel
theorem dX12_isWave_1 : decode cX12_isWave 1 = .ok (.ifCond .lt 15, 3) := by decide +kernel
theorem dX12_isWave_4 : decode cX12_isWave 4 = .ok (.iload_n 1, 1) := by decide +kernel
theorem dX12_isWave_5 : decode cX12_isWave 5 = .ok (.aload_n 0, 1) := by decide +kernel
theorem dX12_isWave_6 : decode cX12_isWave 6 = .ok (.getfield 253, 3) := by decide +kernel
theorem dX12_isWave_9 : decode cX12_isWave 9 = .ok (.if_icmp .ge 7, 3) := by decide +kernel
theorem dX12_isWave_12 : decode cX12_isWave 12 = .ok (.iconst 1, 1) := by decide +kernel
theorem dX12_isWave_13 : decode cX12_isWave 13 = .ok (.goto 4, 3) := by decide +kernel
theorem dX12_isWave_16 : decode cX12_isWave 16 = .ok (.iconst 0, 1) := by decide +kernel
theorem dX12_isWave_17 : decode cX12_isWave 17 = .ok (.ireturn, 1) := by decide +kernel
theorem dX12_begin_0 : decode cX12_begin 0 = .ok (.iconst 0, 1) := by decide +kernel
theorem dX12_begin_1 : decode cX12_begin 1 = .ok (.istore_n 1, 1) := by decide +kernel
theorem dX12_begin_2 : decode cX12_begin 2 = .ok (.iload_n 1, 1) := by decide +kernel
theorem dX12_begin_3 : decode cX12_begin 3 = .ok (.iconst 5, 1) := by decide +kernel
theorem dX12_begin_4 : decode cX12_begin 4 = .ok (.if_icmp .ge 54, 3) := by decide +kernel
theorem dX12_begin_7 : decode cX12_begin 7 = .ok (.aload_n 0, 1) := by decide +kernel
theorem dX12_begin_8 : decode cX12_begin 8 = .ok (.getfield 88, 3) := by decide +kernel
theorem dX12_begin_11 : decode cX12_begin 11 = .ok (.iload_n 1, 1) := by decide +kernel
theorem dX12_begin_12 : decode cX12_begin 12 = .ok (.aload_n 0, 1) := by decide +kernel
theorem dX12_begin_13 : decode cX12_begin 13 = .ok (.getfield 30, 3) := by decide +kernel
theorem dX12_begin_16 : decode cX12_begin 16 = .ok (.iload_n 1, 1) := by decide +kernel
theorem dX12_begin_17 : decode cX12_begin 17 = .ok (.iaload, 1) := by decide +kernel
theorem dX12_begin_18 : decode cX12_begin 18 = .ok (.iastore, 1) := by decide +kernel
theorem dX12_begin_19 : decode cX12_begin 19 = .ok (.aload_n 0, 1) := by decide +kernel
theorem dX12_begin_20 : decode cX12_begin 20 = .ok (.getfield 91, 3) := by decide +kernel
theorem dX12_begin_23 : decode cX12_begin 23 = .ok (.iload_n 1, 1) := by decide +kernel
theorem dX12_begin_24 : decode cX12_begin 24 = .ok (.iconst 0, 1) := by decide +kernel
theorem dX12_begin_25 : decode cX12_begin 25 = .ok (.iastore, 1) := by decide +kernel
theorem dX12_begin_26 : decode cX12_begin 26 = .ok (.aload_n 0, 1) := by decide +kernel
theorem dX12_begin_27 : decode cX12_begin 27 = .ok (.getfield 94, 3) := by decide +kernel
theorem dX12_begin_30 : decode cX12_begin 30 = .ok (.iload_n 1, 1) := by decide +kernel
theorem dX12_begin_31 : decode cX12_begin 31 = .ok (.iconst 0, 1) := by decide +kernel
theorem dX12_begin_32 : decode cX12_begin 32 = .ok (.iastore, 1) := by decide +kernel
theorem dX12_begin_33 : decode cX12_begin 33 = .ok (.aload_n 0, 1) := by decide +kernel
theorem dX12_begin_34 : decode cX12_begin 34 = .ok (.getfield 97, 3) := by decide +kernel
theorem dX12_begin_37 : decode cX12_begin 37 = .ok (.iload_n 1, 1) := by decide +kernel
theorem dX12_begin_38 : decode cX12_begin 38 = .ok (.iconst 0, 1) := by decide +kernel
theorem dX12_begin_39 : decode cX12_begin 39 = .ok (.iastore, 1) := by decide +kernel
theorem dX12_begin_40 : decode cX12_begin 40 = .ok (.aload_n 0, 1) := by decide +kernel
theorem dX12_begin_41 : decode cX12_begin 41 = .ok (.getfield 100, 3) := by decide +kernel
theorem dX12_begin_44 : decode cX12_begin 44 = .ok (.iload_n 1, 1) := by decide +kernel
theorem dX12_begin_45 : decode cX12_begin 45 = .ok (.aload_n 0, 1) := by decide +kernel
theorem dX12_begin_46 : decode cX12_begin 46 = .ok (.getfield 36, 3) := by decide +kernel
theorem dX12_begin_49 : decode cX12_begin 49 = .ok (.iload_n 1, 1) := by decide +kernel
theorem dX12_begin_50 : decode cX12_begin 50 = .ok (.iaload, 1) := by decide +kernel
theorem dX12_begin_51 : decode cX12_begin 51 = .ok (.iastore, 1) := by decide +kernel
theorem dX12_begin_52 : decode cX12_begin 52 = .ok (.iinc 1 1, 3) := by decide +kernel
theorem dX12_begin_55 : decode cX12_begin 55 = .ok (.goto (-53), 3) := by decide +kernel
theorem dX12_begin_58 : decode cX12_begin 58 = .ok (.iconst 0, 1) := by decide +kernel
theorem dX12_begin_59 : decode cX12_begin 59 = .ok (.istore_n 1, 1) := by decide +kernel
theorem dX12_begin_60 : decode cX12_begin 60 = .ok (.iload_n 1, 1) := by decide +kernel
theorem dX12_begin_61 : decode cX12_begin 61 = .ok (.bipush 28, 2) := by decide +kernel
theorem dX12_begin_63 : decode cX12_begin 63 = .ok (.if_icmp .ge 17, 3) := by decide +kernel
theorem dX12_begin_66 : decode cX12_begin 66 = .ok (.aload_n 0, 1) := by decide +kernel
theorem dX12_begin_67 : decode cX12_begin 67 = .ok (.getfield 103, 3) := by decide +kernel
theorem dX12_begin_70 : decode cX12_begin 70 = .ok (.iload_n 1, 1) := by decide +kernel
theorem dX12_begin_71 : decode cX12_begin 71 = .ok (.bipush (-2), 2) := by decide +kernel
theorem dX12_begin_73 : decode cX12_begin 73 = .ok (.iastore, 1) := by decide +kernel
theorem dX12_begin_74 : decode cX12_begin 74 = .ok (.iinc 1 1, 3) := by decide +kernel
theorem dX12_begin_77 : decode cX12_begin 77 = .ok (.goto (-17), 3) := by decide +kernel
theorem dX12_begin_80 : decode cX12_begin 80 = .ok (.aload_n 0, 1) := by decide +kernel
theorem dX12_begin_81 : decode cX12_begin 81 = .ok (.getfield 106, 3) := by decide +kernel
theorem dX12_begin_84 : decode cX12_begin 84 = .ok (.iconst 0, 1) := by decide +kernel
theorem dX12_begin_85 : decode cX12_begin 85 = .ok (.iconst 0, 1) := by decide +kernel
theorem dX12_begin_86 : decode cX12_begin 86 = .ok (.iastore, 1) := by decide +kernel
theorem dX12_begin_87 : decode cX12_begin 87 = .ok (.aload_n 0, 1) := by decide +kernel
theorem dX12_begin_88 : decode cX12_begin 88 = .ok (.getfield 109, 3) := by decide +kernel
theorem dX12_begin_91 : decode cX12_begin 91 = .ok (.iconst 0, 1) := by decide +kernel
theorem dX12_begin_92 : decode cX12_begin 92 = .ok (.iconst 0, 1) := by decide +kernel
theorem dX12_begin_93 : decode cX12_begin 93 = .ok (.iastore, 1) := by decide +kernel
theorem dX12_begin_94 : decode cX12_begin 94 = .ok (.aload_n 0, 1) := by decide +kernel
theorem dX12_begin_95 : decode cX12_begin 95 = .ok (.getfield 112, 3) := by decide +kernel
theorem dX12_begin_98 : decode cX12_begin 98 = .ok (.iconst 0, 1) := by decide +kernel
theorem dX12_begin_99 : decode cX12_begin 99 = .ok (.iconst 0, 1) := by decide +kernel
theorem dX12_begin_100 : decode cX12_begin 100 = .ok (.iastore, 1) := by decide +kernel
theorem dX12_begin_101 : decode cX12_begin 101 = .ok (.aload_n 0, 1) := by decide +kernel
theorem dX12_begin_102 : decode cX12_begin 102 = .ok (.aload_n 0, 1) := by decide +kernel
theorem dX12_begin_103 : decode cX12_begin 103 = .ok (.getfield 24, 3) := by decide +kernel
theorem dX12_begin_106 : decode cX12_begin 106 = .ok (.iconst 5, 1) := by decide +kernel
theorem dX12_begin_107 : decode cX12_begin 107 = .ok (.iaload, 1) := by decide +kernel
theorem dX12_begin_108 : decode cX12_begin 108 = .ok (.putfield 369, 3) := by decide +kernel
theorem dX12_begin_111 : decode cX12_begin 111 = .ok (.aload_n 0, 1) := by decide +kernel
theorem dX12_begin_112 : decode cX12_begin 112 = .ok (.aload_n 0, 1) := by decide +kernel
theorem dX12_begin_113 : decode cX12_begin 113 = .ok (.getfield 24, 3) := by decide +kernel
theorem dX12_begin_116 : decode cX12_begin 116 = .ok (.bipush 6, 2) := by decide +kernel
theorem dX12_begin_118 : decode cX12_begin 118 = .ok (.iaload, 1) := by decide +kernel
theorem dX12_begin_119 : decode cX12_begin 119 = .ok (.i2l, 1) := by decide +kernel
theorem dX12_begin_120 : decode cX12_begin 120 = .ok (.putfield 372, 3) := by decide +kernel
theorem dX12_begin_123 : decode cX12_begin 123 = .ok (.aload_n 0, 1) := by decide +kernel
theorem dX12_begin_124 : decode cX12_begin 124 = .ok (.iconst (-1), 1) := by decide +kernel
theorem dX12_begin_125 : decode cX12_begin 125 = .ok (.putfield 115, 3) := by decide +kernel
theorem dX12_begin_128 : decode cX12_begin 128 = .ok (.aload_n 0, 1) := by decide +kernel
theorem dX12_begin_129 : decode cX12_begin 129 = .ok (.iconst 0, 1) := by decide +kernel
theorem dX12_begin_130 : decode cX12_begin 130 = .ok (.putfield 376, 3) := by decide +kernel
theorem dX12_begin_133 : decode cX12_begin 133 = .ok (.aload_n 0, 1) := by decide +kernel
theorem dX12_begin_134 : decode cX12_begin 134 = .ok (.iconst (-1), 1) := by decide +kernel
theorem dX12_begin_135 : decode cX12_begin 135 = .ok (.putfield 133, 3) := by decide +kernel
theorem dX12_begin_138 : decode cX12_begin 138 = .ok (.aload_n 0, 1) := by decide +kernel
theorem dX12_begin_139 : decode cX12_begin 139 = .ok (.iconst 0, 1) := by decide +kernel
theorem dX12_begin_140 : decode cX12_begin 140 = .ok (.putfield 379, 3) := by decide +kernel
theorem dX12_begin_143 : decode cX12_begin 143 = .ok (.aload_n 0, 1) := by decide +kernel
theorem dX12_begin_144 : decode cX12_begin 144 = .ok (.iconst 0, 1) := by decide +kernel
theorem dX12_begin_145 : decode cX12_begin 145 = .ok (.putfield 382, 3) := by decide +kernel
theorem dX12_begin_148 : decode cX12_begin 148 = .ok (.return_, 1) := by decide +kernel
theorem dX12_layTried_0 : decode cX12_layTried 0 = .ok (.iconst 0, 1) := by decide +kernel
theorem dX12_layTried_1 : decode cX12_layTried 1 = .ok (.istore_n 1, 1) := by decide +kernel
theorem dX12_layTried_2 : decode cX12_layTried 2 = .ok (.iload_n 1, 1) := by decide +kernel
theorem dX12_layTried_3 : decode cX12_layTried 3 = .ok (.iconst 5, 1) := by decide +kernel
theorem dX12_layTried_4 : decode cX12_layTried 4 = .ok (.if_icmp .ge 65, 3) := by decide +kernel
theorem dX12_layTried_7 : decode cX12_layTried 7 = .ok (.aload_n 0, 1) := by decide +kernel
theorem dX12_layTried_8 : decode cX12_layTried 8 = .ok (.getfield 88, 3) := by decide +kernel
theorem dX12_layTried_11 : decode cX12_layTried 11 = .ok (.iconst 5, 1) := by decide +kernel
theorem dX12_layTried_12 : decode cX12_layTried 12 = .ok (.iload_n 1, 1) := by decide +kernel
theorem dX12_layTried_13 : decode cX12_layTried 13 = .ok (.iadd, 1) := by decide +kernel
theorem dX12_layTried_14 : decode cX12_layTried 14 = .ok (.aload_n 0, 1) := by decide +kernel
theorem dX12_layTried_15 : decode cX12_layTried 15 = .ok (.getfield 88, 3) := by decide +kernel
theorem dX12_layTried_18 : decode cX12_layTried 18 = .ok (.iload_n 1, 1) := by decide +kernel
theorem dX12_layTried_19 : decode cX12_layTried 19 = .ok (.iaload, 1) := by decide +kernel
theorem dX12_layTried_20 : decode cX12_layTried 20 = .ok (.iastore, 1) := by decide +kernel
theorem dX12_layTried_21 : decode cX12_layTried 21 = .ok (.aload_n 0, 1) := by decide +kernel
theorem dX12_layTried_22 : decode cX12_layTried 22 = .ok (.getfield 91, 3) := by decide +kernel
theorem dX12_layTried_25 : decode cX12_layTried 25 = .ok (.iconst 5, 1) := by decide +kernel
theorem dX12_layTried_26 : decode cX12_layTried 26 = .ok (.iload_n 1, 1) := by decide +kernel
theorem dX12_layTried_27 : decode cX12_layTried 27 = .ok (.iadd, 1) := by decide +kernel
theorem dX12_layTried_28 : decode cX12_layTried 28 = .ok (.aload_n 0, 1) := by decide +kernel
theorem dX12_layTried_29 : decode cX12_layTried 29 = .ok (.getfield 91, 3) := by decide +kernel
theorem dX12_layTried_32 : decode cX12_layTried 32 = .ok (.iload_n 1, 1) := by decide +kernel
theorem dX12_layTried_33 : decode cX12_layTried 33 = .ok (.iaload, 1) := by decide +kernel
theorem dX12_layTried_34 : decode cX12_layTried 34 = .ok (.iastore, 1) := by decide +kernel
theorem dX12_layTried_35 : decode cX12_layTried 35 = .ok (.aload_n 0, 1) := by decide +kernel
theorem dX12_layTried_36 : decode cX12_layTried 36 = .ok (.getfield 94, 3) := by decide +kernel
theorem dX12_layTried_39 : decode cX12_layTried 39 = .ok (.iconst 5, 1) := by decide +kernel
theorem dX12_layTried_40 : decode cX12_layTried 40 = .ok (.iload_n 1, 1) := by decide +kernel
theorem dX12_layTried_41 : decode cX12_layTried 41 = .ok (.iadd, 1) := by decide +kernel
theorem dX12_layTried_42 : decode cX12_layTried 42 = .ok (.aload_n 0, 1) := by decide +kernel
theorem dX12_layTried_43 : decode cX12_layTried 43 = .ok (.getfield 94, 3) := by decide +kernel
theorem dX12_layTried_46 : decode cX12_layTried 46 = .ok (.iload_n 1, 1) := by decide +kernel
theorem dX12_layTried_47 : decode cX12_layTried 47 = .ok (.iaload, 1) := by decide +kernel
theorem dX12_layTried_48 : decode cX12_layTried 48 = .ok (.iastore, 1) := by decide +kernel
theorem dX12_layTried_49 : decode cX12_layTried 49 = .ok (.aload_n 0, 1) := by decide +kernel
theorem dX12_layTried_50 : decode cX12_layTried 50 = .ok (.getfield 97, 3) := by decide +kernel
theorem dX12_layTried_53 : decode cX12_layTried 53 = .ok (.iconst 5, 1) := by decide +kernel
theorem dX12_layTried_54 : decode cX12_layTried 54 = .ok (.iload_n 1, 1) := by decide +kernel
theorem dX12_layTried_55 : decode cX12_layTried 55 = .ok (.iadd, 1) := by decide +kernel
theorem dX12_layTried_56 : decode cX12_layTried 56 = .ok (.aload_n 0, 1) := by decide +kernel
theorem dX12_layTried_57 : decode cX12_layTried 57 = .ok (.getfield 97, 3) := by decide +kernel
theorem dX12_layTried_60 : decode cX12_layTried 60 = .ok (.iload_n 1, 1) := by decide +kernel
theorem dX12_layTried_61 : decode cX12_layTried 61 = .ok (.iaload, 1) := by decide +kernel
theorem dX12_layTried_62 : decode cX12_layTried 62 = .ok (.iastore, 1) := by decide +kernel
theorem dX12_layTried_63 : decode cX12_layTried 63 = .ok (.iinc 1 1, 3) := by decide +kernel
theorem dX12_layTried_66 : decode cX12_layTried 66 = .ok (.goto (-64), 3) := by decide +kernel
theorem dX12_layTried_69 : decode cX12_layTried 69 = .ok (.iconst 0, 1) := by decide +kernel
theorem dX12_layTried_70 : decode cX12_layTried 70 = .ok (.istore_n 1, 1) := by decide +kernel
theorem dX12_layTried_71 : decode cX12_layTried 71 = .ok (.iload_n 1, 1) := by decide +kernel
theorem dX12_layTried_72 : decode cX12_layTried 72 = .ok (.bipush 28, 2) := by decide +kernel
theorem dX12_layTried_74 : decode cX12_layTried 74 = .ok (.if_icmp .ge 24, 3) := by decide +kernel
theorem dX12_layTried_77 : decode cX12_layTried 77 = .ok (.aload_n 0, 1) := by decide +kernel
theorem dX12_layTried_78 : decode cX12_layTried 78 = .ok (.getfield 103, 3) := by decide +kernel
theorem dX12_layTried_81 : decode cX12_layTried 81 = .ok (.bipush 28, 2) := by decide +kernel
theorem dX12_layTried_83 : decode cX12_layTried 83 = .ok (.iload_n 1, 1) := by decide +kernel
theorem dX12_layTried_84 : decode cX12_layTried 84 = .ok (.iadd, 1) := by decide +kernel
theorem dX12_layTried_85 : decode cX12_layTried 85 = .ok (.aload_n 0, 1) := by decide +kernel
theorem dX12_layTried_86 : decode cX12_layTried 86 = .ok (.getfield 103, 3) := by decide +kernel
theorem dX12_layTried_89 : decode cX12_layTried 89 = .ok (.iload_n 1, 1) := by decide +kernel
theorem dX12_layTried_90 : decode cX12_layTried 90 = .ok (.iaload, 1) := by decide +kernel
theorem dX12_layTried_91 : decode cX12_layTried 91 = .ok (.iastore, 1) := by decide +kernel
theorem dX12_layTried_92 : decode cX12_layTried 92 = .ok (.iinc 1 1, 3) := by decide +kernel
theorem dX12_layTried_95 : decode cX12_layTried 95 = .ok (.goto (-24), 3) := by decide +kernel
theorem dX12_layTried_98 : decode cX12_layTried 98 = .ok (.aload_n 0, 1) := by decide +kernel
theorem dX12_layTried_99 : decode cX12_layTried 99 = .ok (.getfield 106, 3) := by decide +kernel
theorem dX12_layTried_102 : decode cX12_layTried 102 = .ok (.iconst 1, 1) := by decide +kernel
theorem dX12_layTried_103 : decode cX12_layTried 103 = .ok (.aload_n 0, 1) := by decide +kernel
theorem dX12_layTried_104 : decode cX12_layTried 104 = .ok (.getfield 106, 3) := by decide +kernel
theorem dX12_layTried_107 : decode cX12_layTried 107 = .ok (.iconst 0, 1) := by decide +kernel
theorem dX12_layTried_108 : decode cX12_layTried 108 = .ok (.iaload, 1) := by decide +kernel
theorem dX12_layTried_109 : decode cX12_layTried 109 = .ok (.iastore, 1) := by decide +kernel
theorem dX12_layTried_110 : decode cX12_layTried 110 = .ok (.aload_n 0, 1) := by decide +kernel
theorem dX12_layTried_111 : decode cX12_layTried 111 = .ok (.getfield 109, 3) := by decide +kernel
theorem dX12_layTried_114 : decode cX12_layTried 114 = .ok (.iconst 1, 1) := by decide +kernel
theorem dX12_layTried_115 : decode cX12_layTried 115 = .ok (.iconst 0, 1) := by decide +kernel
theorem dX12_layTried_116 : decode cX12_layTried 116 = .ok (.iastore, 1) := by decide +kernel
theorem dX12_layTried_117 : decode cX12_layTried 117 = .ok (.aload_n 0, 1) := by decide +kernel
theorem dX12_layTried_118 : decode cX12_layTried 118 = .ok (.getfield 112, 3) := by decide +kernel
theorem dX12_layTried_121 : decode cX12_layTried 121 = .ok (.iconst 1, 1) := by decide +kernel
theorem dX12_layTried_122 : decode cX12_layTried 122 = .ok (.iconst 0, 1) := by decide +kernel
theorem dX12_layTried_123 : decode cX12_layTried 123 = .ok (.iastore, 1) := by decide +kernel
theorem dX12_layTried_124 : decode cX12_layTried 124 = .ok (.return_, 1) := by decide +kernel
theorem dX12_far_0 : decode cX12_far 0 = .ok (.iload_n 1, 1) := by decide +kernel
theorem dX12_far_1 : decode cX12_far 1 = .ok (.aload_n 0, 1) := by decide +kernel
theorem dX12_far_2 : decode cX12_far 2 = .ok (.getfield 241, 3) := by decide +kernel
theorem dX12_far_5 : decode cX12_far 5 = .ok (.irem, 1) := by decide +kernel
theorem dX12_far_6 : decode cX12_far 6 = .ok (.iload_n 2, 1) := by decide +kernel
theorem dX12_far_7 : decode cX12_far 7 = .ok (.aload_n 0, 1) := by decide +kernel
theorem dX12_far_8 : decode cX12_far 8 = .ok (.getfield 241, 3) := by decide +kernel
theorem dX12_far_11 : decode cX12_far 11 = .ok (.irem, 1) := by decide +kernel
theorem dX12_far_12 : decode cX12_far 12 = .ok (.isub, 1) := by decide +kernel
theorem dX12_far_13 : decode cX12_far 13 = .ok (.istore_n 3, 1) := by decide +kernel
theorem dX12_far_14 : decode cX12_far 14 = .ok (.iload_n 1, 1) := by decide +kernel
theorem dX12_far_15 : decode cX12_far 15 = .ok (.aload_n 0, 1) := by decide +kernel
theorem dX12_far_16 : decode cX12_far 16 = .ok (.getfield 241, 3) := by decide +kernel
theorem dX12_far_19 : decode cX12_far 19 = .ok (.idiv, 1) := by decide +kernel
theorem dX12_far_20 : decode cX12_far 20 = .ok (.iload_n 2, 1) := by decide +kernel
theorem dX12_far_21 : decode cX12_far 21 = .ok (.aload_n 0, 1) := by decide +kernel
theorem dX12_far_22 : decode cX12_far 22 = .ok (.getfield 241, 3) := by decide +kernel
theorem dX12_far_25 : decode cX12_far 25 = .ok (.idiv, 1) := by decide +kernel
theorem dX12_far_26 : decode cX12_far 26 = .ok (.isub, 1) := by decide +kernel
theorem dX12_far_27 : decode cX12_far 27 = .ok (.istore 4, 2) := by decide +kernel
theorem dX12_far_29 : decode cX12_far 29 = .ok (.iload_n 3, 1) := by decide +kernel
theorem dX12_far_30 : decode cX12_far 30 = .ok (.ifCond .ge 8, 3) := by decide +kernel
theorem dX12_far_33 : decode cX12_far 33 = .ok (.iload_n 3, 1) := by decide +kernel
theorem dX12_far_34 : decode cX12_far 34 = .ok (.ineg, 1) := by decide +kernel
theorem dX12_far_35 : decode cX12_far 35 = .ok (.goto 4, 3) := by decide +kernel
theorem dX12_far_38 : decode cX12_far 38 = .ok (.iload_n 3, 1) := by decide +kernel
theorem dX12_far_39 : decode cX12_far 39 = .ok (.iload 4, 2) := by decide +kernel
theorem dX12_far_41 : decode cX12_far 41 = .ok (.ifCond .ge 9, 3) := by decide +kernel
theorem dX12_far_44 : decode cX12_far 44 = .ok (.iload 4, 2) := by decide +kernel
theorem dX12_far_46 : decode cX12_far 46 = .ok (.ineg, 1) := by decide +kernel
theorem dX12_far_47 : decode cX12_far 47 = .ok (.goto 5, 3) := by decide +kernel
theorem dX12_far_50 : decode cX12_far 50 = .ok (.iload 4, 2) := by decide +kernel
theorem dX12_far_52 : decode cX12_far 52 = .ok (.iadd, 1) := by decide +kernel
theorem dX12_far_53 : decode cX12_far 53 = .ok (.ireturn, 1) := by decide +kernel
set_option maxRecDepth 20000 in
theorem ggX12_beside_X12_isIn : GoodIn wsX12_beside wsX12_isIn := goodIn_r _ [6] (by decide +kernel) (by decide +kernel)
set_option maxRecDepth 20000 in
theorem gX12_beside_X12_isIn : GoodIn wsX12_beside (va_wsS RX12 199 yX12_isIn wsX12_isIn) := goodIn_app (goodIn_of _ (by decide +kernel)) ggX12_beside_X12_isIn
theorem dX12_beside_0 : decode cX12_beside 0 = .ok (.iload_n 1, 1) := by decide +kernel
theorem dX12_beside_1 : decode cX12_beside 1 = .ok (.aload_n 0, 1) := by decide +kernel
theorem dX12_beside_2 : decode cX12_beside 2 = .ok (.getfield 241, 3) := by decide +kernel
theorem dX12_beside_5 : decode cX12_beside 5 = .ok (.irem, 1) := by decide +kernel
theorem dX12_beside_6 : decode cX12_beside 6 = .ok (.iload_n 2, 1) := by decide +kernel
theorem dX12_beside_7 : decode cX12_beside 7 = .ok (.iconst 1, 1) := by decide +kernel
theorem dX12_beside_8 : decode cX12_beside 8 = .ok (.if_icmp .ne 7, 3) := by decide +kernel
theorem dX12_beside_11 : decode cX12_beside 11 = .ok (.iconst 1, 1) := by decide +kernel
theorem dX12_beside_12 : decode cX12_beside 12 = .ok (.goto 13, 3) := by decide +kernel
theorem dX12_beside_15 : decode cX12_beside 15 = .ok (.iload_n 2, 1) := by decide +kernel
theorem dX12_beside_16 : decode cX12_beside 16 = .ok (.iconst 3, 1) := by decide +kernel
theorem dX12_beside_17 : decode cX12_beside 17 = .ok (.if_icmp .ne 7, 3) := by decide +kernel
theorem dX12_beside_20 : decode cX12_beside 20 = .ok (.iconst (-1), 1) := by decide +kernel
theorem dX12_beside_21 : decode cX12_beside 21 = .ok (.goto 4, 3) := by decide +kernel
theorem dX12_beside_24 : decode cX12_beside 24 = .ok (.iconst 0, 1) := by decide +kernel
theorem dX12_beside_25 : decode cX12_beside 25 = .ok (.iadd, 1) := by decide +kernel
theorem dX12_beside_26 : decode cX12_beside 26 = .ok (.istore_n 3, 1) := by decide +kernel
theorem dX12_beside_27 : decode cX12_beside 27 = .ok (.iload_n 1, 1) := by decide +kernel
theorem dX12_beside_28 : decode cX12_beside 28 = .ok (.aload_n 0, 1) := by decide +kernel
theorem dX12_beside_29 : decode cX12_beside 29 = .ok (.getfield 241, 3) := by decide +kernel
theorem dX12_beside_32 : decode cX12_beside 32 = .ok (.idiv, 1) := by decide +kernel
theorem dX12_beside_33 : decode cX12_beside 33 = .ok (.iload_n 2, 1) := by decide +kernel
theorem dX12_beside_34 : decode cX12_beside 34 = .ok (.iconst 2, 1) := by decide +kernel
theorem dX12_beside_35 : decode cX12_beside 35 = .ok (.if_icmp .ne 7, 3) := by decide +kernel
theorem dX12_beside_38 : decode cX12_beside 38 = .ok (.iconst 1, 1) := by decide +kernel
theorem dX12_beside_39 : decode cX12_beside 39 = .ok (.goto 12, 3) := by decide +kernel
theorem dX12_beside_42 : decode cX12_beside 42 = .ok (.iload_n 2, 1) := by decide +kernel
theorem dX12_beside_43 : decode cX12_beside 43 = .ok (.ifCond .ne 7, 3) := by decide +kernel
theorem dX12_beside_46 : decode cX12_beside 46 = .ok (.iconst (-1), 1) := by decide +kernel
theorem dX12_beside_47 : decode cX12_beside 47 = .ok (.goto 4, 3) := by decide +kernel
theorem dX12_beside_50 : decode cX12_beside 50 = .ok (.iconst 0, 1) := by decide +kernel
theorem dX12_beside_51 : decode cX12_beside 51 = .ok (.iadd, 1) := by decide +kernel
theorem dX12_beside_52 : decode cX12_beside 52 = .ok (.istore 4, 2) := by decide +kernel
theorem dX12_beside_54 : decode cX12_beside 54 = .ok (.iload_n 3, 1) := by decide +kernel
theorem dX12_beside_55 : decode cX12_beside 55 = .ok (.iconst 0, 1) := by decide +kernel
theorem dX12_beside_56 : decode cX12_beside 56 = .ok (.aload_n 0, 1) := by decide +kernel
theorem dX12_beside_57 : decode cX12_beside 57 = .ok (.getfield 241, 3) := by decide +kernel
theorem dX12_beside_60 : decode cX12_beside 60 = .ok (.iconst 1, 1) := by decide +kernel
theorem dX12_beside_61 : decode cX12_beside 61 = .ok (.isub, 1) := by decide +kernel
theorem dX12_beside_62 : decode cX12_beside 62 = .ok (.invokestatic 199, 3) := by decide +kernel
theorem dX12_beside_65 : decode cX12_beside 65 = .ok (.ifCond .eq 30, 3) := by decide +kernel
theorem dX12_beside_68 : decode cX12_beside 68 = .ok (.iload 4, 2) := by decide +kernel
theorem dX12_beside_70 : decode cX12_beside 70 = .ok (.iconst 0, 1) := by decide +kernel
theorem dX12_beside_71 : decode cX12_beside 71 = .ok (.aload_n 0, 1) := by decide +kernel
theorem dX12_beside_72 : decode cX12_beside 72 = .ok (.getfield 244, 3) := by decide +kernel
theorem dX12_beside_75 : decode cX12_beside 75 = .ok (.iconst 1, 1) := by decide +kernel
theorem dX12_beside_76 : decode cX12_beside 76 = .ok (.isub, 1) := by decide +kernel
theorem dX12_beside_77 : decode cX12_beside 77 = .ok (.invokestatic 199, 3) := by decide +kernel
theorem dX12_beside_80 : decode cX12_beside 80 = .ok (.ifCond .eq 15, 3) := by decide +kernel
theorem dX12_beside_83 : decode cX12_beside 83 = .ok (.aload_n 0, 1) := by decide +kernel
theorem dX12_beside_84 : decode cX12_beside 84 = .ok (.getfield 241, 3) := by decide +kernel
theorem dX12_beside_87 : decode cX12_beside 87 = .ok (.iload 4, 2) := by decide +kernel
theorem dX12_beside_89 : decode cX12_beside 89 = .ok (.imul, 1) := by decide +kernel
theorem dX12_beside_90 : decode cX12_beside 90 = .ok (.iload_n 3, 1) := by decide +kernel
theorem dX12_beside_91 : decode cX12_beside 91 = .ok (.iadd, 1) := by decide +kernel
theorem dX12_beside_92 : decode cX12_beside 92 = .ok (.goto 4, 3) := by decide +kernel
theorem dX12_beside_95 : decode cX12_beside 95 = .ok (.iconst (-1), 1) := by decide +kernel
theorem dX12_beside_96 : decode cX12_beside 96 = .ok (.ireturn, 1) := by decide +kernel
set_option maxRecDepth 20000 in
theorem ggX12_lawOf_X12_valueOf : GoodIn wsX12_lawOf wsX12_valueOf := goodIn_r _ [9, 10, 11, 12, 4, 13, 1, 14, 15, 16, 8, 17, 18, 19, 20, 21, 22, 23, 24, 25, 26, 27, 28, 29, 30, 31, 32, 33, 34, 35, 36, 37, 38, 39, 40, 41, 42, 43, 44, 45, 46, 47, 48, 49, 50, 51, 52, 53, 54, 55, 56, 57, 58, 59, 60, 61, 62, 63, 64, 65, 66, 67, 68, 69, 70, 71, 72, 73, 74, 75, 76, 77, 78, 79, 80, 81, 82, 83, 84, 85, 86, 87, 88, 89, 90, 91, 92, 93, 94, 95, 96, 97, 98, 99, 100, 101, 102, 103, 104, 105, 106, 107, 108, 109, 110, 111, 112, 113] (by decide +kernel) (by decide +kernel)
set_option maxRecDepth 20000 in
theorem gX12_lawOf_X12_valueOf : GoodIn wsX12_lawOf (wsV RX12 385 RX12 yX12_valueOf wsX12_valueOf) := goodIn_app (goodIn_of _ (by decide +kernel)) ggX12_lawOf_X12_valueOf
theorem dX12_lawOf_0 : decode cX12_lawOf 0 = .ok (.aload_n 0, 1) := by decide +kernel
theorem dX12_lawOf_1 : decode cX12_lawOf 1 = .ok (.iconst 0, 1) := by decide +kernel
theorem dX12_lawOf_2 : decode cX12_lawOf 2 = .ok (.putfield 347, 3) := by decide +kernel
theorem dX12_lawOf_5 : decode cX12_lawOf 5 = .ok (.aload_n 0, 1) := by decide +kernel
theorem dX12_lawOf_6 : decode cX12_lawOf 6 = .ok (.getfield 60, 3) := by decide +kernel
theorem dX12_lawOf_9 : decode cX12_lawOf 9 = .ok (.iload_n 1, 1) := by decide +kernel
theorem dX12_lawOf_10 : decode cX12_lawOf 10 = .ok (.iaload, 1) := by decide +kernel
theorem dX12_lawOf_11 : decode cX12_lawOf 11 = .ok (.istore_n 2, 1) := by decide +kernel
theorem dX12_lawOf_12 : decode cX12_lawOf 12 = .ok (.iload_n 2, 1) := by decide +kernel
theorem dX12_lawOf_13 : decode cX12_lawOf 13 = .ok (.aload_n 0, 1) := by decide +kernel
theorem dX12_lawOf_14 : decode cX12_lawOf 14 = .ok (.getfield 63, 3) := by decide +kernel
theorem dX12_lawOf_17 : decode cX12_lawOf 17 = .ok (.iload_n 1, 1) := by decide +kernel
theorem dX12_lawOf_18 : decode cX12_lawOf 18 = .ok (.iaload, 1) := by decide +kernel
theorem dX12_lawOf_19 : decode cX12_lawOf 19 = .ok (.if_icmp .ge 20, 3) := by decide +kernel
theorem dX12_lawOf_22 : decode cX12_lawOf 22 = .ok (.aload_n 0, 1) := by decide +kernel
theorem dX12_lawOf_23 : decode cX12_lawOf 23 = .ok (.getfield 85, 3) := by decide +kernel
theorem dX12_lawOf_26 : decode cX12_lawOf 26 = .ok (.iload_n 2, 1) := by decide +kernel
theorem dX12_lawOf_27 : decode cX12_lawOf 27 = .ok (.aload_n 0, 1) := by decide +kernel
theorem dX12_lawOf_28 : decode cX12_lawOf 28 = .ok (.iload_n 2, 1) := by decide +kernel
theorem dX12_lawOf_29 : decode cX12_lawOf 29 = .ok (.invokevirtual 385, 3) := by decide +kernel
theorem dX12_lawOf_32 : decode cX12_lawOf 32 = .ok (.lastore, 1) := by decide +kernel
theorem dX12_lawOf_33 : decode cX12_lawOf 33 = .ok (.iinc 2 1, 3) := by decide +kernel
theorem dX12_lawOf_36 : decode cX12_lawOf 36 = .ok (.goto (-24), 3) := by decide +kernel
theorem dX12_lawOf_39 : decode cX12_lawOf 39 = .ok (.aload_n 0, 1) := by decide +kernel
theorem dX12_lawOf_40 : decode cX12_lawOf 40 = .ok (.getfield 347, 3) := by decide +kernel
theorem dX12_lawOf_43 : decode cX12_lawOf 43 = .ok (.ifCond .eq 7, 3) := by decide +kernel
theorem dX12_lawOf_46 : decode cX12_lawOf 46 = .ok (.lconst 0, 1) := by decide +kernel
theorem dX12_lawOf_47 : decode cX12_lawOf 47 = .ok (.goto 16, 3) := by decide +kernel
theorem dX12_lawOf_50 : decode cX12_lawOf 50 = .ok (.aload_n 0, 1) := by decide +kernel
theorem dX12_lawOf_51 : decode cX12_lawOf 51 = .ok (.getfield 85, 3) := by decide +kernel
theorem dX12_lawOf_54 : decode cX12_lawOf 54 = .ok (.aload_n 0, 1) := by decide +kernel
theorem dX12_lawOf_55 : decode cX12_lawOf 55 = .ok (.getfield 63, 3) := by decide +kernel
theorem dX12_lawOf_58 : decode cX12_lawOf 58 = .ok (.iload_n 1, 1) := by decide +kernel
theorem dX12_lawOf_59 : decode cX12_lawOf 59 = .ok (.iaload, 1) := by decide +kernel
theorem dX12_lawOf_60 : decode cX12_lawOf 60 = .ok (.iconst 1, 1) := by decide +kernel
theorem dX12_lawOf_61 : decode cX12_lawOf 61 = .ok (.isub, 1) := by decide +kernel
theorem dX12_lawOf_62 : decode cX12_lawOf 62 = .ok (.laload, 1) := by decide +kernel
theorem dX12_lawOf_63 : decode cX12_lawOf 63 = .ok (.lreturn, 1) := by decide +kernel
set_option maxRecDepth 20000 in
theorem ggX12_boundLaw_X12_lawOf : GoodIn wsX12_boundLaw wsX12_lawOf := goodIn_r _ [7, 2, 8, 9, 10, 11, 12, 13, 6, 14, 15, 16, 17, 18, 19, 20, 21, 22, 23, 24, 25, 26, 27, 28, 29, 30, 31, 32, 33, 34, 35, 36, 37, 38, 39, 40, 41, 42, 43, 44, 45, 46, 47, 48, 49, 50, 51, 52, 53, 54, 55, 56, 57, 58, 59, 60, 61, 62, 63, 64, 65, 66, 67, 68, 69, 70, 71, 72, 73, 74, 75, 76, 77, 78, 79, 80, 81, 82, 83, 84, 85, 86, 87, 88, 89, 90, 91, 92, 93, 94, 95, 96, 97, 98, 99, 100, 101, 102, 103, 104, 105, 106, 107, 108, 109, 110, 111, 112, 113, 114, 115, 116, 117, 118] (by decide +kernel) (by decide +kernel)
set_option maxRecDepth 20000 in
theorem gX12_boundLaw_X12_lawOf : GoodIn wsX12_boundLaw (wsV RX12 389 RX12 yX12_lawOf wsX12_lawOf) := goodIn_app (goodIn_of _ (by decide +kernel)) ggX12_boundLaw_X12_lawOf
theorem dX12_boundLaw_0 : decode cX12_boundLaw 0 = .ok (.aload_n 0, 1) := by decide +kernel
theorem dX12_boundLaw_1 : decode cX12_boundLaw 1 = .ok (.getfield 57, 3) := by decide +kernel
theorem dX12_boundLaw_4 : decode cX12_boundLaw 4 = .ok (.iload_n 1, 1) := by decide +kernel
theorem dX12_boundLaw_5 : decode cX12_boundLaw 5 = .ok (.baload, 1) := by decide +kernel
theorem dX12_boundLaw_6 : decode cX12_boundLaw 6 = .ok (.ifCond .ne 5, 3) := by decide +kernel
theorem dX12_boundLaw_9 : decode cX12_boundLaw 9 = .ok (.iload_n 2, 1) := by decide +kernel
theorem dX12_boundLaw_10 : decode cX12_boundLaw 10 = .ok (.ireturn, 1) := by decide +kernel
theorem dX12_boundLaw_11 : decode cX12_boundLaw 11 = .ok (.aload_n 0, 1) := by decide +kernel
theorem dX12_boundLaw_12 : decode cX12_boundLaw 12 = .ok (.iload_n 1, 1) := by decide +kernel
theorem dX12_boundLaw_13 : decode cX12_boundLaw 13 = .ok (.invokevirtual 389, 3) := by decide +kernel
theorem dX12_boundLaw_16 : decode cX12_boundLaw 16 = .ok (.lstore 5, 2) := by decide +kernel
theorem dX12_boundLaw_18 : decode cX12_boundLaw 18 = .ok (.aload_n 0, 1) := by decide +kernel
theorem dX12_boundLaw_19 : decode cX12_boundLaw 19 = .ok (.getfield 347, 3) := by decide +kernel
theorem dX12_boundLaw_22 : decode cX12_boundLaw 22 = .ok (.ifCond .eq 5, 3) := by decide +kernel
theorem dX12_boundLaw_25 : decode cX12_boundLaw 25 = .ok (.iload_n 2, 1) := by decide +kernel
theorem dX12_boundLaw_26 : decode cX12_boundLaw 26 = .ok (.ireturn, 1) := by decide +kernel
theorem dX12_boundLaw_27 : decode cX12_boundLaw 27 = .ok (.lload 5, 2) := by decide +kernel
theorem dX12_boundLaw_29 : decode cX12_boundLaw 29 = .ok (.iload_n 3, 1) := by decide +kernel
theorem dX12_boundLaw_30 : decode cX12_boundLaw 30 = .ok (.i2l, 1) := by decide +kernel
theorem dX12_boundLaw_31 : decode cX12_boundLaw 31 = .ok (.lcmp, 1) := by decide +kernel
theorem dX12_boundLaw_32 : decode cX12_boundLaw 32 = .ok (.ifCond .ge 5, 3) := by decide +kernel
theorem dX12_boundLaw_35 : decode cX12_boundLaw 35 = .ok (.iload_n 3, 1) := by decide +kernel
theorem dX12_boundLaw_36 : decode cX12_boundLaw 36 = .ok (.ireturn, 1) := by decide +kernel
theorem dX12_boundLaw_37 : decode cX12_boundLaw 37 = .ok (.lload 5, 2) := by decide +kernel
theorem dX12_boundLaw_39 : decode cX12_boundLaw 39 = .ok (.iload 4, 2) := by decide +kernel
theorem dX12_boundLaw_41 : decode cX12_boundLaw 41 = .ok (.i2l, 1) := by decide +kernel
theorem dX12_boundLaw_42 : decode cX12_boundLaw 42 = .ok (.lcmp, 1) := by decide +kernel
theorem dX12_boundLaw_43 : decode cX12_boundLaw 43 = .ok (.ifCond .le 8, 3) := by decide +kernel
theorem dX12_boundLaw_46 : decode cX12_boundLaw 46 = .ok (.iload 4, 2) := by decide +kernel
theorem dX12_boundLaw_48 : decode cX12_boundLaw 48 = .ok (.goto 6, 3) := by decide +kernel
theorem dX12_boundLaw_51 : decode cX12_boundLaw 51 = .ok (.lload 5, 2) := by decide +kernel
theorem dX12_boundLaw_53 : decode cX12_boundLaw 53 = .ok (.l2i, 1) := by decide +kernel
theorem dX12_boundLaw_54 : decode cX12_boundLaw 54 = .ok (.ireturn, 1) := by decide +kernel
theorem dX12_layNames_0 : decode cX12_layNames 0 = .ok (.aload_n 0, 1) := by decide +kernel
theorem dX12_layNames_1 : decode cX12_layNames 1 = .ok (.getfield 81, 3) := by decide +kernel
theorem dX12_layNames_4 : decode cX12_layNames 4 = .ok (.iconst 0, 1) := by decide +kernel
theorem dX12_layNames_5 : decode cX12_layNames 5 = .ok (.iload_n 1, 1) := by decide +kernel
theorem dX12_layNames_6 : decode cX12_layNames 6 = .ok (.i2l, 1) := by decide +kernel
theorem dX12_layNames_7 : decode cX12_layNames 7 = .ok (.lastore, 1) := by decide +kernel
theorem dX12_layNames_8 : decode cX12_layNames 8 = .ok (.aload_n 0, 1) := by decide +kernel
theorem dX12_layNames_9 : decode cX12_layNames 9 = .ok (.getfield 81, 3) := by decide +kernel
theorem dX12_layNames_12 : decode cX12_layNames 12 = .ok (.iconst 1, 1) := by decide +kernel
theorem dX12_layNames_13 : decode cX12_layNames 13 = .ok (.iload_n 2, 1) := by decide +kernel
theorem dX12_layNames_14 : decode cX12_layNames 14 = .ok (.i2l, 1) := by decide +kernel
theorem dX12_layNames_15 : decode cX12_layNames 15 = .ok (.lastore, 1) := by decide +kernel
theorem dX12_layNames_16 : decode cX12_layNames 16 = .ok (.aload_n 0, 1) := by decide +kernel
theorem dX12_layNames_17 : decode cX12_layNames 17 = .ok (.getfield 81, 3) := by decide +kernel
theorem dX12_layNames_20 : decode cX12_layNames 20 = .ok (.iconst 2, 1) := by decide +kernel
theorem dX12_layNames_21 : decode cX12_layNames 21 = .ok (.iload_n 3, 1) := by decide +kernel
theorem dX12_layNames_22 : decode cX12_layNames 22 = .ok (.i2l, 1) := by decide +kernel
theorem dX12_layNames_23 : decode cX12_layNames 23 = .ok (.lastore, 1) := by decide +kernel
theorem dX12_layNames_24 : decode cX12_layNames 24 = .ok (.aload_n 0, 1) := by decide +kernel
theorem dX12_layNames_25 : decode cX12_layNames 25 = .ok (.getfield 81, 3) := by decide +kernel
theorem dX12_layNames_28 : decode cX12_layNames 28 = .ok (.iconst 3, 1) := by decide +kernel
theorem dX12_layNames_29 : decode cX12_layNames 29 = .ok (.iload 4, 2) := by decide +kernel
theorem dX12_layNames_31 : decode cX12_layNames 31 = .ok (.ifCond .ge 7, 3) := by decide +kernel
theorem dX12_layNames_34 : decode cX12_layNames 34 = .ok (.lconst 0, 1) := by decide +kernel
theorem dX12_layNames_35 : decode cX12_layNames 35 = .ok (.goto 11, 3) := by decide +kernel
theorem dX12_layNames_38 : decode cX12_layNames 38 = .ok (.aload_n 0, 1) := by decide +kernel
theorem dX12_layNames_39 : decode cX12_layNames 39 = .ok (.getfield 51, 3) := by decide +kernel
theorem dX12_layNames_42 : decode cX12_layNames 42 = .ok (.iload 4, 2) := by decide +kernel
theorem dX12_layNames_44 : decode cX12_layNames 44 = .ok (.iaload, 1) := by decide +kernel
theorem dX12_layNames_45 : decode cX12_layNames 45 = .ok (.i2l, 1) := by decide +kernel
theorem dX12_layNames_46 : decode cX12_layNames 46 = .ok (.lastore, 1) := by decide +kernel
theorem dX12_layNames_47 : decode cX12_layNames 47 = .ok (.aload_n 0, 1) := by decide +kernel
theorem dX12_layNames_48 : decode cX12_layNames 48 = .ok (.getfield 81, 3) := by decide +kernel
theorem dX12_layNames_51 : decode cX12_layNames 51 = .ok (.iconst 4, 1) := by decide +kernel
theorem dX12_layNames_52 : decode cX12_layNames 52 = .ok (.iload 5, 2) := by decide +kernel
theorem dX12_layNames_54 : decode cX12_layNames 54 = .ok (.i2l, 1) := by decide +kernel
theorem dX12_layNames_55 : decode cX12_layNames 55 = .ok (.lastore, 1) := by decide +kernel
theorem dX12_layNames_56 : decode cX12_layNames 56 = .ok (.aload_n 0, 1) := by decide +kernel
theorem dX12_layNames_57 : decode cX12_layNames 57 = .ok (.getfield 81, 3) := by decide +kernel
theorem dX12_layNames_60 : decode cX12_layNames 60 = .ok (.iconst 5, 1) := by decide +kernel
theorem dX12_layNames_61 : decode cX12_layNames 61 = .ok (.iload 4, 2) := by decide +kernel
theorem dX12_layNames_63 : decode cX12_layNames 63 = .ok (.ifCond .ge 7, 3) := by decide +kernel
theorem dX12_layNames_66 : decode cX12_layNames 66 = .ok (.lconst 0, 1) := by decide +kernel
theorem dX12_layNames_67 : decode cX12_layNames 67 = .ok (.goto 21, 3) := by decide +kernel
theorem dX12_layNames_70 : decode cX12_layNames 70 = .ok (.iload 4, 2) := by decide +kernel
theorem dX12_layNames_72 : decode cX12_layNames 72 = .ok (.aload_n 0, 1) := by decide +kernel
theorem dX12_layNames_73 : decode cX12_layNames 73 = .ok (.getfield 45, 3) := by decide +kernel
theorem dX12_layNames_76 : decode cX12_layNames 76 = .ok (.aload_n 0, 1) := by decide +kernel
theorem dX12_layNames_77 : decode cX12_layNames 77 = .ok (.getfield 54, 3) := by decide +kernel
theorem dX12_layNames_80 : decode cX12_layNames 80 = .ok (.iload 4, 2) := by decide +kernel
theorem dX12_layNames_82 : decode cX12_layNames 82 = .ok (.iaload, 1) := by decide +kernel
theorem dX12_layNames_83 : decode cX12_layNames 83 = .ok (.iaload, 1) := by decide +kernel
theorem dX12_layNames_84 : decode cX12_layNames 84 = .ok (.isub, 1) := by decide +kernel
theorem dX12_layNames_85 : decode cX12_layNames 85 = .ok (.iconst 1, 1) := by decide +kernel
theorem dX12_layNames_86 : decode cX12_layNames 86 = .ok (.iadd, 1) := by decide +kernel
theorem dX12_layNames_87 : decode cX12_layNames 87 = .ok (.i2l, 1) := by decide +kernel
theorem dX12_layNames_88 : decode cX12_layNames 88 = .ok (.lastore, 1) := by decide +kernel
theorem dX12_layNames_89 : decode cX12_layNames 89 = .ok (.return_, 1) := by decide +kernel
set_option maxRecDepth 20000 in
theorem ggX12_peakAt_X12_layNames : GoodIn wsX12_peakAt wsX12_layNames := goodIn_r _ [8, 9, 10, 11, 12, 46, 47, 48, 49, 50, 51, 52, 53, 54, 55, 56, 57, 58, 59, 60, 61, 62, 63, 64, 65, 66, 67, 68, 69, 70, 71, 72, 73, 74, 75, 76, 77, 78, 79, 80, 81, 82, 83, 84, 85, 86, 87, 88, 89, 90, 91, 92, 93, 94, 95, 96, 97, 98, 99, 100, 101, 102, 103, 104, 105, 106, 107, 108, 109, 110, 111, 112, 113, 114, 115, 116, 117, 118, 119, 120, 121, 122, 123, 124, 125, 126, 127, 128, 129, 130, 131, 132] (by decide +kernel) (by decide +kernel)
set_option maxRecDepth 20000 in
theorem gX12_peakAt_X12_layNames : GoodIn wsX12_peakAt (wsV RX12 392 RX12 yX12_layNames wsX12_layNames) := goodIn_app (goodIn_of _ (by decide +kernel)) ggX12_peakAt_X12_layNames
set_option maxRecDepth 20000 in
theorem ggX12_peakAt_X12_boundLaw : GoodIn wsX12_peakAt wsX12_boundLaw := goodIn_r _ [16, 17, 18, 19, 20, 21, 7, 22, 23, 24, 25, 26, 27, 28, 29, 30, 31, 9, 32, 33, 34, 35, 36, 37, 38, 39, 40, 41, 42, 43, 44, 45, 46, 47, 48, 49, 50, 51, 52, 53, 54, 55, 56, 57, 58, 59, 60, 61, 62, 63, 64, 65, 66, 67, 68, 69, 70, 71, 72, 73, 74, 75, 76, 77, 78, 79, 80, 81, 82, 83, 84, 85, 86, 87, 88, 89, 90, 91, 92, 93, 94, 95, 96, 97, 98, 99, 100, 101, 102, 103, 104, 105, 106, 107, 108, 109, 110, 111, 112, 113, 114, 115, 116, 117, 118, 119, 120, 121, 122, 123, 124, 125, 126, 127, 128, 129, 130, 131, 132] (by decide +kernel) (by decide +kernel)
set_option maxRecDepth 20000 in
theorem gX12_peakAt_X12_boundLaw : GoodIn wsX12_peakAt (wsV RX12 396 RX12 yX12_boundLaw wsX12_boundLaw) := goodIn_app (goodIn_of _ (by decide +kernel)) ggX12_peakAt_X12_boundLaw
theorem dX12_peakAt_0 : decode cX12_peakAt 0 = .ok (.aload_n 0, 1) := by decide +kernel
theorem dX12_peakAt_1 : decode cX12_peakAt 1 = .ok (.iconst 0, 1) := by decide +kernel
theorem dX12_peakAt_2 : decode cX12_peakAt 2 = .ok (.iconst 0, 1) := by decide +kernel
theorem dX12_peakAt_3 : decode cX12_peakAt 3 = .ok (.iconst 0, 1) := by decide +kernel
theorem dX12_peakAt_4 : decode cX12_peakAt 4 = .ok (.iconst (-1), 1) := by decide +kernel
theorem dX12_peakAt_5 : decode cX12_peakAt 5 = .ok (.iload_n 1, 1) := by decide +kernel
theorem dX12_peakAt_6 : decode cX12_peakAt 6 = .ok (.invokevirtual 392, 3) := by decide +kernel
theorem dX12_peakAt_9 : decode cX12_peakAt 9 = .ok (.aload_n 0, 1) := by decide +kernel
theorem dX12_peakAt_10 : decode cX12_peakAt 10 = .ok (.getfield 24, 3) := by decide +kernel
theorem dX12_peakAt_13 : decode cX12_peakAt 13 = .ok (.iconst 0, 1) := by decide +kernel
theorem dX12_peakAt_14 : decode cX12_peakAt 14 = .ok (.iaload, 1) := by decide +kernel
theorem dX12_peakAt_15 : decode cX12_peakAt 15 = .ok (.aload_n 0, 1) := by decide +kernel
theorem dX12_peakAt_16 : decode cX12_peakAt 16 = .ok (.getfield 115, 3) := by decide +kernel
theorem dX12_peakAt_19 : decode cX12_peakAt 19 = .ok (.iconst 2, 1) := by decide +kernel
theorem dX12_peakAt_20 : decode cX12_peakAt 20 = .ok (.if_icmp .ne 7, 3) := by decide +kernel
theorem dX12_peakAt_23 : decode cX12_peakAt 23 = .ok (.iconst 0, 1) := by decide +kernel
theorem dX12_peakAt_24 : decode cX12_peakAt 24 = .ok (.goto 13, 3) := by decide +kernel
theorem dX12_peakAt_27 : decode cX12_peakAt 27 = .ok (.aload_n 0, 1) := by decide +kernel
theorem dX12_peakAt_28 : decode cX12_peakAt 28 = .ok (.iconst 1, 1) := by decide +kernel
theorem dX12_peakAt_29 : decode cX12_peakAt 29 = .ok (.iconst 0, 1) := by decide +kernel
theorem dX12_peakAt_30 : decode cX12_peakAt 30 = .ok (.bipush (-8), 2) := by decide +kernel
theorem dX12_peakAt_32 : decode cX12_peakAt 32 = .ok (.bipush 8, 2) := by decide +kernel
theorem dX12_peakAt_34 : decode cX12_peakAt 34 = .ok (.invokevirtual 396, 3) := by decide +kernel
theorem dX12_peakAt_37 : decode cX12_peakAt 37 = .ok (.iadd, 1) := by decide +kernel
theorem dX12_peakAt_38 : decode cX12_peakAt 38 = .ok (.istore_n 2, 1) := by decide +kernel
theorem dX12_peakAt_39 : decode cX12_peakAt 39 = .ok (.aload_n 0, 1) := by decide +kernel
theorem dX12_peakAt_40 : decode cX12_peakAt 40 = .ok (.getfield 241, 3) := by decide +kernel
theorem dX12_peakAt_43 : decode cX12_peakAt 43 = .ok (.aload_n 0, 1) := by decide +kernel
theorem dX12_peakAt_44 : decode cX12_peakAt 44 = .ok (.getfield 24, 3) := by decide +kernel
theorem dX12_peakAt_47 : decode cX12_peakAt 47 = .ok (.iconst 1, 1) := by decide +kernel
theorem dX12_peakAt_48 : decode cX12_peakAt 48 = .ok (.iaload, 1) := by decide +kernel
theorem dX12_peakAt_49 : decode cX12_peakAt 49 = .ok (.imul, 1) := by decide +kernel
theorem dX12_peakAt_50 : decode cX12_peakAt 50 = .ok (.iload_n 2, 1) := by decide +kernel
theorem dX12_peakAt_51 : decode cX12_peakAt 51 = .ok (.ifCond .ge 7, 3) := by decide +kernel
theorem dX12_peakAt_54 : decode cX12_peakAt 54 = .ok (.iconst 0, 1) := by decide +kernel
theorem dX12_peakAt_55 : decode cX12_peakAt 55 = .ok (.goto 21, 3) := by decide +kernel
theorem dX12_peakAt_58 : decode cX12_peakAt 58 = .ok (.iload_n 2, 1) := by decide +kernel
theorem dX12_peakAt_59 : decode cX12_peakAt 59 = .ok (.aload_n 0, 1) := by decide +kernel
theorem dX12_peakAt_60 : decode cX12_peakAt 60 = .ok (.getfield 241, 3) := by decide +kernel
theorem dX12_peakAt_63 : decode cX12_peakAt 63 = .ok (.if_icmp .lt 12, 3) := by decide +kernel
theorem dX12_peakAt_66 : decode cX12_peakAt 66 = .ok (.aload_n 0, 1) := by decide +kernel
theorem dX12_peakAt_67 : decode cX12_peakAt 67 = .ok (.getfield 241, 3) := by decide +kernel
theorem dX12_peakAt_70 : decode cX12_peakAt 70 = .ok (.iconst 1, 1) := by decide +kernel
theorem dX12_peakAt_71 : decode cX12_peakAt 71 = .ok (.isub, 1) := by decide +kernel
theorem dX12_peakAt_72 : decode cX12_peakAt 72 = .ok (.goto 4, 3) := by decide +kernel
theorem dX12_peakAt_75 : decode cX12_peakAt 75 = .ok (.iload_n 2, 1) := by decide +kernel
theorem dX12_peakAt_76 : decode cX12_peakAt 76 = .ok (.iadd, 1) := by decide +kernel
theorem dX12_peakAt_77 : decode cX12_peakAt 77 = .ok (.ireturn, 1) := by decide +kernel
theorem dX12_boardOf_0 : decode cX12_boardOf 0 = .ok (.aload_n 0, 1) := by decide +kernel
theorem dX12_boardOf_1 : decode cX12_boardOf 1 = .ok (.getfield 115, 3) := by decide +kernel
theorem dX12_boardOf_4 : decode cX12_boardOf 4 = .ok (.iconst 3, 1) := by decide +kernel
theorem dX12_boardOf_5 : decode cX12_boardOf 5 = .ok (.if_icmp .ne 8, 3) := by decide +kernel
theorem dX12_boardOf_8 : decode cX12_boardOf 8 = .ok (.bipush 9, 2) := by decide +kernel
theorem dX12_boardOf_10 : decode cX12_boardOf 10 = .ok (.goto 9, 3) := by decide +kernel
theorem dX12_boardOf_13 : decode cX12_boardOf 13 = .ok (.aload_n 0, 1) := by decide +kernel
theorem dX12_boardOf_14 : decode cX12_boardOf 14 = .ok (.getfield 33, 3) := by decide +kernel
theorem dX12_boardOf_17 : decode cX12_boardOf 17 = .ok (.iload_n 1, 1) := by decide +kernel
theorem dX12_boardOf_18 : decode cX12_boardOf 18 = .ok (.iaload, 1) := by decide +kernel
theorem dX12_boardOf_19 : decode cX12_boardOf 19 = .ok (.ireturn, 1) := by decide +kernel
set_option maxRecDepth 20000 in
theorem ggX12_layCatch_X12_peakAt : GoodIn wsX12_layCatch wsX12_peakAt := goodIn_r _ [7, 8, 9, 2, 10, 11, 12, 6, 13, 14, 15, 16, 17, 18, 19, 20, 21, 22, 23, 24, 25, 26, 27, 28, 29, 30, 31, 32, 33, 34, 35, 36, 37, 38, 39, 40, 41, 42, 43, 44, 45, 46, 47, 48, 49, 50, 60, 61, 62, 63, 64, 65, 66, 67, 68, 69, 70, 71, 72, 73, 74, 75, 76, 77, 78, 79, 80, 81, 82, 83, 84, 85, 86, 87, 88, 89, 90, 91, 92, 93, 94, 95, 96, 97, 98, 99, 100, 101, 102, 103, 104, 105, 106, 107, 108, 109, 110, 111, 112, 113, 114, 115, 116, 117, 118, 119, 120, 121, 122, 123, 124, 125, 126, 127, 128, 129, 130, 131, 132, 133, 134, 135, 136, 137, 138, 139, 140, 141, 142, 143, 144, 145, 146] (by decide +kernel) (by decide +kernel)
set_option maxRecDepth 20000 in
theorem gX12_layCatch_X12_peakAt : GoodIn wsX12_layCatch (wsV RX12 400 RX12 yX12_peakAt wsX12_peakAt) := goodIn_app (goodIn_of _ (by decide +kernel)) ggX12_layCatch_X12_peakAt
set_option maxRecDepth 20000 in
theorem ggX12_layCatch_X12_far : GoodIn wsX12_layCatch wsX12_far := goodIn_r _ [54, 2, 60, 61, 62, 63, 64, 65, 66, 67, 68, 69, 70, 71, 72, 73, 74, 75, 76, 77, 78, 79, 80, 81, 82, 83, 84, 85, 86, 87, 88, 89, 90, 91, 92, 93, 94, 95, 96, 97, 98, 99, 100, 101, 102, 103, 104, 105, 106, 107, 108, 109, 110, 111, 112, 113, 114, 115, 116, 117, 118, 119, 120, 121, 122, 123, 124, 125, 126, 127, 128, 129, 130, 131, 132, 133, 134, 135, 136, 137, 138, 139, 140, 141, 142, 143, 144, 145, 146] (by decide +kernel) (by decide +kernel)
set_option maxRecDepth 20000 in
theorem gX12_layCatch_X12_far : GoodIn wsX12_layCatch (wsV RX12 403 RX12 yX12_far wsX12_far) := goodIn_app (goodIn_of _ (by decide +kernel)) ggX12_layCatch_X12_far
set_option maxRecDepth 20000 in
theorem ggX12_layCatch_X12_boardOf : GoodIn wsX12_layCatch wsX12_boardOf := goodIn_r _ [58, 9, 59, 60, 61, 62, 63, 64, 65, 66, 67, 68, 69, 70, 71, 72, 73, 74, 75, 76, 77, 78, 79, 80, 81, 82, 83, 84, 85, 86, 87, 88, 89, 90, 91, 92, 93, 94, 95, 96, 97, 98, 99, 100, 101, 102, 103, 104, 105, 106, 107, 108, 109, 110, 111, 112, 113, 114, 115, 116, 117, 118, 119, 120, 121, 122, 123, 124, 125, 126, 127, 128, 129, 130, 131, 132, 133, 134, 135, 136, 137, 138, 139, 140, 141, 142, 143, 144, 145, 146] (by decide +kernel) (by decide +kernel)
set_option maxRecDepth 20000 in
theorem gX12_layCatch_X12_boardOf : GoodIn wsX12_layCatch (wsV RX12 406 RX12 yX12_boardOf wsX12_boardOf) := goodIn_app (goodIn_of _ (by decide +kernel)) ggX12_layCatch_X12_boardOf
set_option maxRecDepth 20000 in
theorem ggX12_layCatch_X12_layNames : GoodIn wsX12_layCatch wsX12_layNames := goodIn_r _ [13, 14, 15, 16, 17, 60, 61, 62, 63, 64, 65, 66, 67, 68, 69, 70, 71, 72, 73, 74, 75, 76, 77, 78, 79, 80, 81, 82, 83, 84, 85, 86, 87, 88, 89, 90, 91, 92, 93, 94, 95, 96, 97, 98, 99, 100, 101, 102, 103, 104, 105, 106, 107, 108, 109, 110, 111, 112, 113, 114, 115, 116, 117, 118, 119, 120, 121, 122, 123, 124, 125, 126, 127, 128, 129, 130, 131, 132, 133, 134, 135, 136, 137, 138, 139, 140, 141, 142, 143, 144, 145, 146] (by decide +kernel) (by decide +kernel)
set_option maxRecDepth 20000 in
theorem gX12_layCatch_X12_layNames : GoodIn wsX12_layCatch (wsV RX12 392 RX12 yX12_layNames wsX12_layNames) := goodIn_app (goodIn_of _ (by decide +kernel)) ggX12_layCatch_X12_layNames
theorem dX12_layCatch_0 : decode cX12_layCatch 0 = .ok (.aload_n 0, 1) := by decide +kernel
theorem dX12_layCatch_1 : decode cX12_layCatch 1 = .ok (.aload_n 0, 1) := by decide +kernel
theorem dX12_layCatch_2 : decode cX12_layCatch 2 = .ok (.getfield 48, 3) := by decide +kernel
theorem dX12_layCatch_5 : decode cX12_layCatch 5 = .ok (.iload_n 2, 1) := by decide +kernel
theorem dX12_layCatch_6 : decode cX12_layCatch 6 = .ok (.iaload, 1) := by decide +kernel
theorem dX12_layCatch_7 : decode cX12_layCatch 7 = .ok (.invokevirtual 400, 3) := by decide +kernel
theorem dX12_layCatch_10 : decode cX12_layCatch 10 = .ok (.istore 4, 2) := by decide +kernel
theorem dX12_layCatch_12 : decode cX12_layCatch 12 = .ok (.aload_n 0, 1) := by decide +kernel
theorem dX12_layCatch_13 : decode cX12_layCatch 13 = .ok (.iload_n 3, 1) := by decide +kernel
theorem dX12_layCatch_14 : decode cX12_layCatch 14 = .ok (.iload 4, 2) := by decide +kernel
theorem dX12_layCatch_16 : decode cX12_layCatch 16 = .ok (.invokevirtual 403, 3) := by decide +kernel
theorem dX12_layCatch_19 : decode cX12_layCatch 19 = .ok (.istore 5, 2) := by decide +kernel
theorem dX12_layCatch_21 : decode cX12_layCatch 21 = .ok (.aload_n 0, 1) := by decide +kernel
theorem dX12_layCatch_22 : decode cX12_layCatch 22 = .ok (.iload 5, 2) := by decide +kernel
theorem dX12_layCatch_24 : decode cX12_layCatch 24 = .ok (.iload_n 3, 1) := by decide +kernel
theorem dX12_layCatch_25 : decode cX12_layCatch 25 = .ok (.aload_n 0, 1) := by decide +kernel
theorem dX12_layCatch_26 : decode cX12_layCatch 26 = .ok (.getfield 241, 3) := by decide +kernel
theorem dX12_layCatch_29 : decode cX12_layCatch 29 = .ok (.idiv, 1) := by decide +kernel
theorem dX12_layCatch_30 : decode cX12_layCatch 30 = .ok (.iload 4, 2) := by decide +kernel
theorem dX12_layCatch_32 : decode cX12_layCatch 32 = .ok (.aload_n 0, 1) := by decide +kernel
theorem dX12_layCatch_33 : decode cX12_layCatch 33 = .ok (.getfield 241, 3) := by decide +kernel
theorem dX12_layCatch_36 : decode cX12_layCatch 36 = .ok (.idiv, 1) := by decide +kernel
theorem dX12_layCatch_37 : decode cX12_layCatch 37 = .ok (.isub, 1) := by decide +kernel
theorem dX12_layCatch_38 : decode cX12_layCatch 38 = .ok (.aload_n 0, 1) := by decide +kernel
theorem dX12_layCatch_39 : decode cX12_layCatch 39 = .ok (.iload_n 1, 1) := by decide +kernel
theorem dX12_layCatch_40 : decode cX12_layCatch 40 = .ok (.invokevirtual 406, 3) := by decide +kernel
theorem dX12_layCatch_43 : decode cX12_layCatch 43 = .ok (.iload_n 2, 1) := by decide +kernel
theorem dX12_layCatch_44 : decode cX12_layCatch 44 = .ok (.aload_n 0, 1) := by decide +kernel
theorem dX12_layCatch_45 : decode cX12_layCatch 45 = .ok (.getfield 48, 3) := by decide +kernel
theorem dX12_layCatch_48 : decode cX12_layCatch 48 = .ok (.iload_n 2, 1) := by decide +kernel
theorem dX12_layCatch_49 : decode cX12_layCatch 49 = .ok (.iaload, 1) := by decide +kernel
theorem dX12_layCatch_50 : decode cX12_layCatch 50 = .ok (.invokevirtual 392, 3) := by decide +kernel
theorem dX12_layCatch_53 : decode cX12_layCatch 53 = .ok (.iload 5, 2) := by decide +kernel
theorem dX12_layCatch_55 : decode cX12_layCatch 55 = .ok (.ireturn, 1) := by decide +kernel
set_option maxRecDepth 20000 in
theorem ggX12_oddsOf_X12_layCatch : GoodIn wsX12_oddsOf wsX12_layCatch := goodIn_r _ [5, 6, 7, 8, 9, 10, 4, 11, 12, 13, 14, 15, 16, 17, 18, 19, 20, 21, 22, 23, 24, 25, 26, 27, 28, 29, 30, 31, 32, 33, 34, 35, 36, 37, 38, 39, 40, 41, 42, 43, 44, 45, 46, 47, 48, 49, 50, 51, 52, 53, 54, 55, 56, 57, 58, 59, 60, 61, 62, 63, 64, 65, 66, 67, 68, 69, 70, 71, 72, 73, 74, 75, 76, 77, 78, 79, 80, 81, 82, 83, 84, 85, 86, 87, 88, 89, 90, 91, 92, 93, 94, 95, 96, 97, 98, 99, 100, 101, 102, 103, 104, 105, 106, 107, 108, 109, 110, 111, 112, 113, 114, 115, 116, 117, 118, 119, 120, 121, 122, 123, 124, 125, 126, 127, 128, 129, 130, 131, 132, 133, 134, 135, 136, 137, 138, 139, 140, 141, 142, 143, 144, 145, 146, 147, 148, 149, 150] (by decide +kernel) (by decide +kernel)
set_option maxRecDepth 20000 in
theorem gX12_oddsOf_X12_layCatch : GoodIn wsX12_oddsOf (wsV RX12 409 RX12 yX12_layCatch wsX12_layCatch) := goodIn_app (goodIn_of _ (by decide +kernel)) ggX12_oddsOf_X12_layCatch
set_option maxRecDepth 20000 in
theorem ggX12_oddsOf_X12_boundLaw : GoodIn wsX12_oddsOf wsX12_boundLaw := goodIn_r _ [25, 26, 27, 28, 29, 30, 4, 31, 32, 33, 34, 35, 36, 37, 38, 39, 40, 18, 41, 42, 43, 44, 45, 46, 47, 48, 49, 50, 51, 52, 53, 54, 64, 65, 66, 67, 68, 69, 70, 71, 72, 73, 74, 75, 76, 77, 78, 79, 80, 81, 82, 83, 84, 85, 86, 87, 88, 89, 90, 91, 92, 93, 94, 95, 96, 97, 98, 99, 100, 101, 102, 103, 104, 105, 106, 107, 108, 109, 110, 111, 112, 113, 114, 115, 116, 117, 118, 119, 120, 121, 122, 123, 124, 125, 126, 127, 128, 129, 130, 131, 132, 133, 134, 135, 136, 137, 138, 139, 140, 141, 142, 143, 144, 145, 146, 147, 148, 149, 150] (by decide +kernel) (by decide +kernel)
set_option maxRecDepth 20000 in
theorem gX12_oddsOf_X12_boundLaw : GoodIn wsX12_oddsOf (wsV RX12 396 RX12 yX12_boundLaw wsX12_boundLaw) := goodIn_app (goodIn_of _ (by decide +kernel)) ggX12_oddsOf_X12_boundLaw
theorem dX12_oddsOf_0 : decode cX12_oddsOf 0 = .ok (.aload_n 0, 1) := by decide +kernel
theorem dX12_oddsOf_1 : decode cX12_oddsOf 1 = .ok (.iload_n 1, 1) := by decide +kernel
theorem dX12_oddsOf_2 : decode cX12_oddsOf 2 = .ok (.iload_n 2, 1) := by decide +kernel
theorem dX12_oddsOf_3 : decode cX12_oddsOf 3 = .ok (.iload_n 3, 1) := by decide +kernel
theorem dX12_oddsOf_4 : decode cX12_oddsOf 4 = .ok (.invokevirtual 409, 3) := by decide +kernel
theorem dX12_oddsOf_7 : decode cX12_oddsOf 7 = .ok (.istore 4, 2) := by decide +kernel
theorem dX12_oddsOf_9 : decode cX12_oddsOf 9 = .ok (.aload_n 0, 1) := by decide +kernel
theorem dX12_oddsOf_10 : decode cX12_oddsOf 10 = .ok (.iconst 0, 1) := by decide +kernel
theorem dX12_oddsOf_11 : decode cX12_oddsOf 11 = .ok (.iload 4, 2) := by decide +kernel
theorem dX12_oddsOf_13 : decode cX12_oddsOf 13 = .ok (.iconst 5, 1) := by decide +kernel
theorem dX12_oddsOf_14 : decode cX12_oddsOf 14 = .ok (.if_icmp .ge 14, 3) := by decide +kernel
theorem dX12_oddsOf_17 : decode cX12_oddsOf 17 = .ok (.bipush 100, 2) := by decide +kernel
theorem dX12_oddsOf_19 : decode cX12_oddsOf 19 = .ok (.bipush 20, 2) := by decide +kernel
theorem dX12_oddsOf_21 : decode cX12_oddsOf 21 = .ok (.iload 4, 2) := by decide +kernel
theorem dX12_oddsOf_23 : decode cX12_oddsOf 23 = .ok (.imul, 1) := by decide +kernel
theorem dX12_oddsOf_24 : decode cX12_oddsOf 24 = .ok (.isub, 1) := by decide +kernel
theorem dX12_oddsOf_25 : decode cX12_oddsOf 25 = .ok (.goto 4, 3) := by decide +kernel
theorem dX12_oddsOf_28 : decode cX12_oddsOf 28 = .ok (.iconst 0, 1) := by decide +kernel
theorem dX12_oddsOf_29 : decode cX12_oddsOf 29 = .ok (.iconst 0, 1) := by decide +kernel
theorem dX12_oddsOf_30 : decode cX12_oddsOf 30 = .ok (.bipush 100, 2) := by decide +kernel
theorem dX12_oddsOf_32 : decode cX12_oddsOf 32 = .ok (.invokevirtual 396, 3) := by decide +kernel
theorem dX12_oddsOf_35 : decode cX12_oddsOf 35 = .ok (.ireturn, 1) := by decide +kernel
set_option maxRecDepth 20000 in
theorem ggX12_awayOf_X12_boardOf : GoodIn wsX12_awayOf wsX12_boardOf := goodIn_r _ [6, 7, 8, 50, 51, 52, 53, 54, 55, 56, 57, 58, 59, 60, 61, 62, 63, 64, 65, 66, 67, 68, 69, 70, 71, 72, 73, 74, 75, 76, 77, 78, 79, 80, 81, 82, 83, 84, 85, 86, 87, 88, 89, 90, 91, 92, 93, 94, 95, 96, 97, 98, 99, 100, 101, 102, 103, 104, 105, 106, 107, 108, 109, 110, 111, 112, 113, 114, 115, 116, 117, 118, 119, 120, 121, 122, 123, 124, 125, 126, 127, 128, 129, 130, 131, 132, 133, 134, 135, 136] (by decide +kernel) (by decide +kernel)
set_option maxRecDepth 20000 in
theorem gX12_awayOf_X12_boardOf : GoodIn wsX12_awayOf (wsV RX12 406 RX12 yX12_boardOf wsX12_boardOf) := goodIn_app (goodIn_of _ (by decide +kernel)) ggX12_awayOf_X12_boardOf
set_option maxRecDepth 20000 in
theorem ggX12_awayOf_X12_layNames : GoodIn wsX12_awayOf wsX12_layNames := goodIn_r _ [12, 13, 14, 15, 16, 50, 51, 52, 53, 54, 55, 56, 57, 58, 59, 60, 61, 62, 63, 64, 65, 66, 67, 68, 69, 70, 71, 72, 73, 74, 75, 76, 77, 78, 79, 80, 81, 82, 83, 84, 85, 86, 87, 88, 89, 90, 91, 92, 93, 94, 95, 96, 97, 98, 99, 100, 101, 102, 103, 104, 105, 106, 107, 108, 109, 110, 111, 112, 113, 114, 115, 116, 117, 118, 119, 120, 121, 122, 123, 124, 125, 126, 127, 128, 129, 130, 131, 132, 133, 134, 135, 136] (by decide +kernel) (by decide +kernel)
set_option maxRecDepth 20000 in
theorem gX12_awayOf_X12_layNames : GoodIn wsX12_awayOf (wsV RX12 392 RX12 yX12_layNames wsX12_layNames) := goodIn_app (goodIn_of _ (by decide +kernel)) ggX12_awayOf_X12_layNames
set_option maxRecDepth 20000 in
theorem ggX12_awayOf_X12_boundLaw : GoodIn wsX12_awayOf wsX12_boundLaw := goodIn_r _ [20, 21, 22, 23, 24, 25, 5, 26, 27, 28, 29, 30, 31, 32, 33, 34, 35, 13, 36, 37, 38, 39, 40, 41, 42, 43, 44, 45, 46, 47, 48, 49, 50, 51, 52, 53, 54, 55, 56, 57, 58, 59, 60, 61, 62, 63, 64, 65, 66, 67, 68, 69, 70, 71, 72, 73, 74, 75, 76, 77, 78, 79, 80, 81, 82, 83, 84, 85, 86, 87, 88, 89, 90, 91, 92, 93, 94, 95, 96, 97, 98, 99, 100, 101, 102, 103, 104, 105, 106, 107, 108, 109, 110, 111, 112, 113, 114, 115, 116, 117, 118, 119, 120, 121, 122, 123, 124, 125, 126, 127, 128, 129, 130, 131, 132, 133, 134, 135, 136] (by decide +kernel) (by decide +kernel)
set_option maxRecDepth 20000 in
theorem gX12_awayOf_X12_boundLaw : GoodIn wsX12_awayOf (wsV RX12 396 RX12 yX12_boundLaw wsX12_boundLaw) := goodIn_app (goodIn_of _ (by decide +kernel)) ggX12_awayOf_X12_boundLaw
theorem dX12_awayOf_0 : decode cX12_awayOf 0 = .ok (.aload_n 0, 1) := by decide +kernel
theorem dX12_awayOf_1 : decode cX12_awayOf 1 = .ok (.iconst 0, 1) := by decide +kernel
theorem dX12_awayOf_2 : decode cX12_awayOf 2 = .ok (.iconst 0, 1) := by decide +kernel
theorem dX12_awayOf_3 : decode cX12_awayOf 3 = .ok (.aload_n 0, 1) := by decide +kernel
theorem dX12_awayOf_4 : decode cX12_awayOf 4 = .ok (.iload_n 1, 1) := by decide +kernel
theorem dX12_awayOf_5 : decode cX12_awayOf 5 = .ok (.invokevirtual 406, 3) := by decide +kernel
theorem dX12_awayOf_8 : decode cX12_awayOf 8 = .ok (.iload_n 2, 1) := by decide +kernel
theorem dX12_awayOf_9 : decode cX12_awayOf 9 = .ok (.aload_n 0, 1) := by decide +kernel
theorem dX12_awayOf_10 : decode cX12_awayOf 10 = .ok (.getfield 48, 3) := by decide +kernel
theorem dX12_awayOf_13 : decode cX12_awayOf 13 = .ok (.iload_n 2, 1) := by decide +kernel
theorem dX12_awayOf_14 : decode cX12_awayOf 14 = .ok (.iaload, 1) := by decide +kernel
theorem dX12_awayOf_15 : decode cX12_awayOf 15 = .ok (.invokevirtual 392, 3) := by decide +kernel
theorem dX12_awayOf_18 : decode cX12_awayOf 18 = .ok (.aload_n 0, 1) := by decide +kernel
theorem dX12_awayOf_19 : decode cX12_awayOf 19 = .ok (.iconst 2, 1) := by decide +kernel
theorem dX12_awayOf_20 : decode cX12_awayOf 20 = .ok (.iconst 5, 1) := by decide +kernel
theorem dX12_awayOf_21 : decode cX12_awayOf 21 = .ok (.iconst 1, 1) := by decide +kernel
theorem dX12_awayOf_22 : decode cX12_awayOf 22 = .ok (.bipush 30, 2) := by decide +kernel
theorem dX12_awayOf_24 : decode cX12_awayOf 24 = .ok (.invokevirtual 396, 3) := by decide +kernel
theorem dX12_awayOf_27 : decode cX12_awayOf 27 = .ok (.ireturn, 1) := by decide +kernel
theorem dX12_fails_0 : decode cX12_fails 0 = .ok (.aload_n 0, 1) := by decide +kernel
theorem dX12_fails_1 : decode cX12_fails 1 = .ok (.iload_n 1, 1) := by decide +kernel
theorem dX12_fails_2 : decode cX12_fails 2 = .ok (.putfield 154, 3) := by decide +kernel
theorem dX12_fails_5 : decode cX12_fails 5 = .ok (.iconst 0, 1) := by decide +kernel
theorem dX12_fails_6 : decode cX12_fails 6 = .ok (.ireturn, 1) := by decide +kernel
set_option maxRecDepth 20000 in
theorem ggX12_look_X12_isSurfer : GoodIn wsX12_look wsX12_isSurfer := goodIn_r _ [12, 13, 70, 71, 72, 73, 74, 75, 76, 77, 78, 79, 80, 81, 82, 83, 84, 85, 86, 87, 88, 89, 90, 91, 92, 93, 94, 95, 96, 97, 98, 99, 100, 101, 102, 103, 104, 105, 106, 107, 108, 109, 110, 111, 112, 113, 114, 115, 116, 117, 118, 119, 120, 121, 122, 123, 124, 125, 126, 127, 128, 129, 130, 131, 132, 133, 134, 135, 136, 137, 138, 139, 140, 141, 142, 143, 144, 145, 146, 147, 148, 149, 150, 151, 152, 153, 154, 155, 156] (by decide +kernel) (by decide +kernel)
set_option maxRecDepth 20000 in
theorem gX12_look_X12_isSurfer : GoodIn wsX12_look (wsV RX12 413 RX12 yX12_isSurfer wsX12_isSurfer) := goodIn_app (goodIn_of _ (by decide +kernel)) ggX12_look_X12_isSurfer
set_option maxRecDepth 20000 in
theorem ggX12_look_X12_fails : GoodIn wsX12_look wsX12_fails := goodIn_r _ [17, 1, 70, 71, 72, 73, 74, 75, 76, 77, 78, 79, 80, 81, 82, 83, 84, 85, 86, 87, 88, 89, 90, 91, 92, 93, 94, 95, 96, 97, 98, 99, 100, 101, 102, 103, 104, 105, 106, 107, 108, 109, 110, 111, 112, 113, 114, 115, 116, 117, 118, 119, 120, 121, 122, 123, 124, 125, 126, 127, 128, 129, 130, 131, 132, 133, 134, 135, 136, 137, 138, 139, 140, 141, 142, 143, 144, 145, 146, 147, 148, 149, 150, 151, 152, 153, 154, 155, 156] (by decide +kernel) (by decide +kernel)
set_option maxRecDepth 20000 in
theorem gX12_look_X12_fails : GoodIn wsX12_look (wsV RX12 416 RX12 yX12_fails wsX12_fails) := goodIn_app (goodIn_of _ (by decide +kernel)) ggX12_look_X12_fails
set_option maxRecDepth 20000 in
theorem ggX12_look_X12_peakAt : GoodIn wsX12_look wsX12_peakAt := goodIn_r _ [21, 22, 23, 24, 25, 26, 27, 11, 28, 29, 30, 31, 32, 33, 34, 35, 36, 37, 38, 39, 40, 41, 42, 43, 44, 45, 46, 47, 48, 49, 50, 51, 52, 53, 54, 55, 56, 57, 58, 59, 60, 61, 62, 63, 64, 65, 70, 71, 72, 73, 74, 75, 76, 77, 78, 79, 80, 81, 82, 83, 84, 85, 86, 87, 88, 89, 90, 91, 92, 93, 94, 95, 96, 97, 98, 99, 100, 101, 102, 103, 104, 105, 106, 107, 108, 109, 110, 111, 112, 113, 114, 115, 116, 117, 118, 119, 120, 121, 122, 123, 124, 125, 126, 127, 128, 129, 130, 131, 132, 133, 134, 135, 136, 137, 138, 139, 140, 141, 142, 143, 144, 145, 146, 147, 148, 149, 150, 151, 152, 153, 154, 155, 156] (by decide +kernel) (by decide +kernel)
set_option maxRecDepth 20000 in
theorem gX12_look_X12_peakAt : GoodIn wsX12_look (wsV RX12 400 RX12 yX12_peakAt wsX12_peakAt) := goodIn_app (goodIn_of _ (by decide +kernel)) ggX12_look_X12_peakAt
set_option maxRecDepth 20000 in
theorem ggX12_look_X12_far : GoodIn wsX12_look wsX12_far := goodIn_r _ [69, 24, 70, 71, 72, 73, 74, 75, 76, 77, 78, 79, 80, 81, 82, 83, 84, 85, 86, 87, 88, 89, 90, 91, 92, 93, 94, 95, 96, 97, 98, 99, 100, 101, 102, 103, 104, 105, 106, 107, 108, 109, 110, 111, 112, 113, 114, 115, 116, 117, 118, 119, 120, 121, 122, 123, 124, 125, 126, 127, 128, 129, 130, 131, 132, 133, 134, 135, 136, 137, 138, 139, 140, 141, 142, 143, 144, 145, 146, 147, 148, 149, 150, 151, 152, 153, 154, 155, 156] (by decide +kernel) (by decide +kernel)
set_option maxRecDepth 20000 in
theorem gX12_look_X12_far : GoodIn wsX12_look (wsV RX12 403 RX12 yX12_far wsX12_far) := goodIn_app (goodIn_of _ (by decide +kernel)) ggX12_look_X12_far
theorem dX12_look_0 : decode cX12_look 0 = .ok (.aload_n 0, 1) := by decide +kernel
theorem dX12_look_1 : decode cX12_look 1 = .ok (.iconst 0, 1) := by decide +kernel
theorem dX12_look_2 : decode cX12_look 2 = .ok (.putfield 154, 3) := by decide +kernel
theorem dX12_look_5 : decode cX12_look 5 = .ok (.aload_n 0, 1) := by decide +kernel
theorem dX12_look_6 : decode cX12_look 6 = .ok (.iload_n 1, 1) := by decide +kernel
theorem dX12_look_7 : decode cX12_look 7 = .ok (.invokevirtual 413, 3) := by decide +kernel
theorem dX12_look_10 : decode cX12_look 10 = .ok (.ifCond .ne 9, 3) := by decide +kernel
theorem dX12_look_13 : decode cX12_look 13 = .ok (.aload_n 0, 1) := by decide +kernel
theorem dX12_look_14 : decode cX12_look 14 = .ok (.iconst 1, 1) := by decide +kernel
theorem dX12_look_15 : decode cX12_look 15 = .ok (.invokevirtual 416, 3) := by decide +kernel
theorem dX12_look_18 : decode cX12_look 18 = .ok (.ireturn, 1) := by decide +kernel
theorem dX12_look_19 : decode cX12_look 19 = .ok (.iload_n 2, 1) := by decide +kernel
theorem dX12_look_20 : decode cX12_look 20 = .ok (.tableswitch 96 0 5 #[40, 47, 54, 61, 68, 75], 40) := by decide +kernel
theorem dX12_look_60 : decode cX12_look 60 = .ok (.aload_n 0, 1) := by decide +kernel
theorem dX12_look_61 : decode cX12_look 61 = .ok (.getfield 88, 3) := by decide +kernel
theorem dX12_look_64 : decode cX12_look 64 = .ok (.iload_n 1, 1) := by decide +kernel
theorem dX12_look_65 : decode cX12_look 65 = .ok (.iaload, 1) := by decide +kernel
theorem dX12_look_66 : decode cX12_look 66 = .ok (.ireturn, 1) := by decide +kernel
theorem dX12_look_67 : decode cX12_look 67 = .ok (.aload_n 0, 1) := by decide +kernel
theorem dX12_look_68 : decode cX12_look 68 = .ok (.getfield 91, 3) := by decide +kernel
theorem dX12_look_71 : decode cX12_look 71 = .ok (.iload_n 1, 1) := by decide +kernel
theorem dX12_look_72 : decode cX12_look 72 = .ok (.iaload, 1) := by decide +kernel
theorem dX12_look_73 : decode cX12_look 73 = .ok (.ireturn, 1) := by decide +kernel
theorem dX12_look_74 : decode cX12_look 74 = .ok (.aload_n 0, 1) := by decide +kernel
theorem dX12_look_75 : decode cX12_look 75 = .ok (.getfield 94, 3) := by decide +kernel
theorem dX12_look_78 : decode cX12_look 78 = .ok (.iload_n 1, 1) := by decide +kernel
theorem dX12_look_79 : decode cX12_look 79 = .ok (.iaload, 1) := by decide +kernel
theorem dX12_look_80 : decode cX12_look 80 = .ok (.ireturn, 1) := by decide +kernel
theorem dX12_look_81 : decode cX12_look 81 = .ok (.aload_n 0, 1) := by decide +kernel
theorem dX12_look_82 : decode cX12_look 82 = .ok (.getfield 97, 3) := by decide +kernel
theorem dX12_look_85 : decode cX12_look 85 = .ok (.iload_n 1, 1) := by decide +kernel
theorem dX12_look_86 : decode cX12_look 86 = .ok (.iaload, 1) := by decide +kernel
theorem dX12_look_87 : decode cX12_look 87 = .ok (.ireturn, 1) := by decide +kernel
theorem dX12_look_88 : decode cX12_look 88 = .ok (.aload_n 0, 1) := by decide +kernel
theorem dX12_look_89 : decode cX12_look 89 = .ok (.getfield 100, 3) := by decide +kernel
theorem dX12_look_92 : decode cX12_look 92 = .ok (.iload_n 1, 1) := by decide +kernel
theorem dX12_look_93 : decode cX12_look 93 = .ok (.iaload, 1) := by decide +kernel
theorem dX12_look_94 : decode cX12_look 94 = .ok (.ireturn, 1) := by decide +kernel
theorem dX12_look_95 : decode cX12_look 95 = .ok (.aload_n 0, 1) := by decide +kernel
theorem dX12_look_96 : decode cX12_look 96 = .ok (.aload_n 0, 1) := by decide +kernel
theorem dX12_look_97 : decode cX12_look 97 = .ok (.getfield 88, 3) := by decide +kernel
theorem dX12_look_100 : decode cX12_look 100 = .ok (.iload_n 1, 1) := by decide +kernel
theorem dX12_look_101 : decode cX12_look 101 = .ok (.iaload, 1) := by decide +kernel
theorem dX12_look_102 : decode cX12_look 102 = .ok (.aload_n 0, 1) := by decide +kernel
theorem dX12_look_103 : decode cX12_look 103 = .ok (.aload_n 0, 1) := by decide +kernel
theorem dX12_look_104 : decode cX12_look 104 = .ok (.getfield 106, 3) := by decide +kernel
theorem dX12_look_107 : decode cX12_look 107 = .ok (.iconst 0, 1) := by decide +kernel
theorem dX12_look_108 : decode cX12_look 108 = .ok (.iaload, 1) := by decide +kernel
theorem dX12_look_109 : decode cX12_look 109 = .ok (.invokevirtual 400, 3) := by decide +kernel
theorem dX12_look_112 : decode cX12_look 112 = .ok (.invokevirtual 403, 3) := by decide +kernel
theorem dX12_look_115 : decode cX12_look 115 = .ok (.ireturn, 1) := by decide +kernel
theorem dX12_look_116 : decode cX12_look 116 = .ok (.aload_n 0, 1) := by decide +kernel
theorem dX12_look_117 : decode cX12_look 117 = .ok (.iconst 2, 1) := by decide +kernel
theorem dX12_look_118 : decode cX12_look 118 = .ok (.invokevirtual 416, 3) := by decide +kernel
theorem dX12_look_121 : decode cX12_look 121 = .ok (.ireturn, 1) := by decide +kernel
set_option maxRecDepth 20000 in
theorem ggX12_wave_X12_isWave : GoodIn wsX12_wave wsX12_isWave := goodIn_r _ [11, 12, 13, 14, 15, 16, 17, 18, 19, 20, 21, 22, 23, 24, 25, 26, 27, 28, 29, 30, 31, 32, 33, 34, 35, 36, 37, 38, 39, 40, 41, 42, 43, 44, 45, 46, 47, 48, 49, 50, 51, 52, 53, 54, 55, 56, 57, 58, 59, 60, 61, 62, 63, 64, 65, 66, 67, 68, 69, 70, 71, 72, 73, 74, 75, 76, 77, 78, 79, 80, 81, 82, 83, 84, 85, 86, 87, 88, 89, 90, 91, 92, 93, 94, 95, 96, 97, 98, 99] (by decide +kernel) (by decide +kernel)
set_option maxRecDepth 20000 in
theorem gX12_wave_X12_isWave : GoodIn wsX12_wave (wsV RX12 419 RX12 yX12_isWave wsX12_isWave) := goodIn_app (goodIn_of _ (by decide +kernel)) ggX12_wave_X12_isWave
theorem dX12_wave_0 : decode cX12_wave 0 = .ok (.aload_n 0, 1) := by decide +kernel
theorem dX12_wave_1 : decode cX12_wave 1 = .ok (.iconst 0, 1) := by decide +kernel
theorem dX12_wave_2 : decode cX12_wave 2 = .ok (.putfield 154, 3) := by decide +kernel
theorem dX12_wave_5 : decode cX12_wave 5 = .ok (.aload_n 0, 1) := by decide +kernel
theorem dX12_wave_6 : decode cX12_wave 6 = .ok (.iload_n 1, 1) := by decide +kernel
theorem dX12_wave_7 : decode cX12_wave 7 = .ok (.invokevirtual 419, 3) := by decide +kernel
theorem dX12_wave_10 : decode cX12_wave 10 = .ok (.ifCond .ne 6, 3) := by decide +kernel
theorem dX12_wave_13 : decode cX12_wave 13 = .ok (.bipush (-4), 2) := by decide +kernel
theorem dX12_wave_15 : decode cX12_wave 15 = .ok (.ireturn, 1) := by decide +kernel
theorem dX12_wave_16 : decode cX12_wave 16 = .ok (.iload_n 2, 1) := by decide +kernel
theorem dX12_wave_17 : decode cX12_wave 17 = .ok (.tableswitch 79 0 4 #[35, 42, 49, 56, 72], 35) := by decide +kernel
theorem dX12_wave_52 : decode cX12_wave 52 = .ok (.aload_n 0, 1) := by decide +kernel
theorem dX12_wave_53 : decode cX12_wave 53 = .ok (.getfield 48, 3) := by decide +kernel
theorem dX12_wave_56 : decode cX12_wave 56 = .ok (.iload_n 1, 1) := by decide +kernel
theorem dX12_wave_57 : decode cX12_wave 57 = .ok (.iaload, 1) := by decide +kernel
theorem dX12_wave_58 : decode cX12_wave 58 = .ok (.ireturn, 1) := by decide +kernel
theorem dX12_wave_59 : decode cX12_wave 59 = .ok (.aload_n 0, 1) := by decide +kernel
theorem dX12_wave_60 : decode cX12_wave 60 = .ok (.getfield 51, 3) := by decide +kernel
theorem dX12_wave_63 : decode cX12_wave 63 = .ok (.iload_n 1, 1) := by decide +kernel
theorem dX12_wave_64 : decode cX12_wave 64 = .ok (.iaload, 1) := by decide +kernel
theorem dX12_wave_65 : decode cX12_wave 65 = .ok (.ireturn, 1) := by decide +kernel
theorem dX12_wave_66 : decode cX12_wave 66 = .ok (.aload_n 0, 1) := by decide +kernel
theorem dX12_wave_67 : decode cX12_wave 67 = .ok (.getfield 54, 3) := by decide +kernel
theorem dX12_wave_70 : decode cX12_wave 70 = .ok (.iload_n 1, 1) := by decide +kernel
theorem dX12_wave_71 : decode cX12_wave 71 = .ok (.iaload, 1) := by decide +kernel
theorem dX12_wave_72 : decode cX12_wave 72 = .ok (.ireturn, 1) := by decide +kernel
theorem dX12_wave_73 : decode cX12_wave 73 = .ok (.iload_n 1, 1) := by decide +kernel
theorem dX12_wave_74 : decode cX12_wave 74 = .ok (.aload_n 0, 1) := by decide +kernel
theorem dX12_wave_75 : decode cX12_wave 75 = .ok (.getfield 45, 3) := by decide +kernel
theorem dX12_wave_78 : decode cX12_wave 78 = .ok (.aload_n 0, 1) := by decide +kernel
theorem dX12_wave_79 : decode cX12_wave 79 = .ok (.getfield 54, 3) := by decide +kernel
theorem dX12_wave_82 : decode cX12_wave 82 = .ok (.iload_n 1, 1) := by decide +kernel
theorem dX12_wave_83 : decode cX12_wave 83 = .ok (.iaload, 1) := by decide +kernel
theorem dX12_wave_84 : decode cX12_wave 84 = .ok (.iaload, 1) := by decide +kernel
theorem dX12_wave_85 : decode cX12_wave 85 = .ok (.isub, 1) := by decide +kernel
theorem dX12_wave_86 : decode cX12_wave 86 = .ok (.iconst 1, 1) := by decide +kernel
theorem dX12_wave_87 : decode cX12_wave 87 = .ok (.iadd, 1) := by decide +kernel
theorem dX12_wave_88 : decode cX12_wave 88 = .ok (.ireturn, 1) := by decide +kernel
theorem dX12_wave_89 : decode cX12_wave 89 = .ok (.aload_n 0, 1) := by decide +kernel
theorem dX12_wave_90 : decode cX12_wave 90 = .ok (.getfield 103, 3) := by decide +kernel
theorem dX12_wave_93 : decode cX12_wave 93 = .ok (.iload_n 1, 1) := by decide +kernel
theorem dX12_wave_94 : decode cX12_wave 94 = .ok (.iaload, 1) := by decide +kernel
theorem dX12_wave_95 : decode cX12_wave 95 = .ok (.ireturn, 1) := by decide +kernel
theorem dX12_wave_96 : decode cX12_wave 96 = .ok (.bipush (-4), 2) := by decide +kernel
theorem dX12_wave_98 : decode cX12_wave 98 = .ok (.ireturn, 1) := by decide +kernel
set_option maxRecDepth 20000 in
theorem ggX12_peak_X12_isIn : GoodIn wsX12_peak wsX12_isIn := goodIn_r _ [5] (by decide +kernel) (by decide +kernel)
set_option maxRecDepth 20000 in
theorem gX12_peak_X12_isIn : GoodIn wsX12_peak (va_wsS RX12 199 yX12_isIn wsX12_isIn) := goodIn_app (goodIn_of _ (by decide +kernel)) ggX12_peak_X12_isIn
set_option maxRecDepth 20000 in
theorem ggX12_peak_X12_peakAt : GoodIn wsX12_peak wsX12_peakAt := goodIn_r _ [9, 10, 11, 12, 13, 14, 15, 4, 16, 17, 18, 19, 20, 21, 22, 23, 24, 25, 26, 27, 28, 29, 30, 31, 32, 33, 34, 35, 36, 37, 38, 39, 40, 41, 42, 43, 44, 45, 46, 47, 48, 49, 50, 51, 52, 53, 54, 55, 56, 57, 58, 59, 60, 61, 62, 63, 64, 65, 66, 67, 68, 69, 70, 71, 72, 73, 74, 75, 76, 77, 78, 79, 80, 81, 82, 83, 84, 85, 86, 87, 88, 89, 90, 91, 92, 93, 94, 95, 96, 97, 98, 99, 100, 101, 102, 103, 104, 105, 106, 107, 108, 109, 110, 111, 112, 113, 114, 115, 116, 117, 118, 119, 120, 121, 122, 123, 124, 125, 126, 127, 128, 129, 130, 131, 132, 133, 134, 135, 136, 137, 138, 139, 140] (by decide +kernel) (by decide +kernel)
set_option maxRecDepth 20000 in
theorem gX12_peak_X12_peakAt : GoodIn wsX12_peak (wsV RX12 400 RX12 yX12_peakAt wsX12_peakAt) := goodIn_app (goodIn_of _ (by decide +kernel)) ggX12_peak_X12_peakAt
theorem dX12_peak_0 : decode cX12_peak 0 = .ok (.aload_n 0, 1) := by decide +kernel
theorem dX12_peak_1 : decode cX12_peak 1 = .ok (.iconst 0, 1) := by decide +kernel
theorem dX12_peak_2 : decode cX12_peak 2 = .ok (.putfield 154, 3) := by decide +kernel
theorem dX12_peak_5 : decode cX12_peak 5 = .ok (.iload_n 1, 1) := by decide +kernel
theorem dX12_peak_6 : decode cX12_peak 6 = .ok (.iconst 0, 1) := by decide +kernel
theorem dX12_peak_7 : decode cX12_peak 7 = .ok (.sipush 199, 3) := by decide +kernel
theorem dX12_peak_10 : decode cX12_peak 10 = .ok (.invokestatic 199, 3) := by decide +kernel
theorem dX12_peak_13 : decode cX12_peak 13 = .ok (.ifCond .eq 11, 3) := by decide +kernel
theorem dX12_peak_16 : decode cX12_peak 16 = .ok (.aload_n 0, 1) := by decide +kernel
theorem dX12_peak_17 : decode cX12_peak 17 = .ok (.iload_n 1, 1) := by decide +kernel
theorem dX12_peak_18 : decode cX12_peak 18 = .ok (.invokevirtual 400, 3) := by decide +kernel
theorem dX12_peak_21 : decode cX12_peak 21 = .ok (.goto 4, 3) := by decide +kernel
theorem dX12_peak_24 : decode cX12_peak 24 = .ok (.iconst (-1), 1) := by decide +kernel
theorem dX12_peak_25 : decode cX12_peak 25 = .ok (.ireturn, 1) := by decide +kernel
set_option maxRecDepth 20000 in
theorem ggX12_odds_X12_isSurfer : GoodIn wsX12_odds wsX12_isSurfer := goodIn_r _ [6, 7, 88, 89, 90, 91, 92, 93, 94, 95, 96, 97, 98, 99, 100, 101, 102, 103, 104, 105, 106, 107, 108, 109, 110, 111, 112, 113, 114, 115, 116, 117, 118, 119, 120, 121, 122, 123, 124, 125, 126, 127, 128, 129, 130, 131, 132, 133, 134, 135, 136, 137, 138, 139, 140, 141, 142, 143, 144, 145, 146, 147, 148, 149, 150, 151, 152, 153, 154, 155, 156, 157, 158, 159, 160, 161, 162, 163, 164, 165, 166, 167, 168, 169, 170, 171, 172, 173, 174] (by decide +kernel) (by decide +kernel)
set_option maxRecDepth 20000 in
theorem gX12_odds_X12_isSurfer : GoodIn wsX12_odds (wsV RX12 413 RX12 yX12_isSurfer wsX12_isSurfer) := goodIn_app (goodIn_of _ (by decide +kernel)) ggX12_odds_X12_isSurfer
set_option maxRecDepth 20000 in
theorem ggX12_odds_X12_isWave : GoodIn wsX12_odds wsX12_isWave := goodIn_r _ [11, 12, 88, 89, 90, 91, 92, 93, 94, 95, 96, 97, 98, 99, 100, 101, 102, 103, 104, 105, 106, 107, 108, 109, 110, 111, 112, 113, 114, 115, 116, 117, 118, 119, 120, 121, 122, 123, 124, 125, 126, 127, 128, 129, 130, 131, 132, 133, 134, 135, 136, 137, 138, 139, 140, 141, 142, 143, 144, 145, 146, 147, 148, 149, 150, 151, 152, 153, 154, 155, 156, 157, 158, 159, 160, 161, 162, 163, 164, 165, 166, 167, 168, 169, 170, 171, 172, 173, 174] (by decide +kernel) (by decide +kernel)
set_option maxRecDepth 20000 in
theorem gX12_odds_X12_isWave : GoodIn wsX12_odds (wsV RX12 419 RX12 yX12_isWave wsX12_isWave) := goodIn_app (goodIn_of _ (by decide +kernel)) ggX12_odds_X12_isWave
set_option maxRecDepth 20000 in
theorem ggX12_odds_X12_isCell : GoodIn wsX12_odds wsX12_isCell := goodIn_r _ [16, 17, 18, 19, 5, 20, 21, 22, 88, 89, 90, 91, 92, 93, 94, 95, 96, 97, 98, 99, 100, 101, 102, 103, 104, 105, 106, 107, 108, 109, 110, 111, 112, 113, 114, 115, 116, 117, 118, 119, 120, 121, 122, 123, 124, 125, 126, 127, 128, 129, 130, 131, 132, 133, 134, 135, 136, 137, 138, 139, 140, 141, 142, 143, 144, 145, 146, 147, 148, 149, 150, 151, 152, 153, 154, 155, 156, 157, 158, 159, 160, 161, 162, 163, 164, 165, 166, 167, 168, 169, 170, 171, 172, 173, 174] (by decide +kernel) (by decide +kernel)
set_option maxRecDepth 20000 in
theorem gX12_odds_X12_isCell : GoodIn wsX12_odds (wsV RX12 422 RX12 yX12_isCell wsX12_isCell) := goodIn_app (goodIn_of _ (by decide +kernel)) ggX12_odds_X12_isCell
set_option maxRecDepth 20000 in
theorem ggX12_odds_X12_oddsOf : GoodIn wsX12_odds wsX12_oddsOf := goodIn_r _ [26, 27, 28, 29, 5, 30, 31, 21, 32, 33, 34, 35, 36, 37, 38, 39, 40, 41, 42, 43, 44, 45, 46, 47, 48, 49, 50, 51, 52, 53, 54, 55, 56, 57, 58, 59, 60, 61, 62, 63, 64, 65, 66, 67, 68, 69, 70, 71, 72, 73, 74, 75, 76, 77, 78, 79, 80, 81, 82, 83, 84, 85, 86, 87, 88, 89, 90, 91, 92, 93, 94, 95, 96, 97, 98, 99, 100, 101, 102, 103, 104, 105, 106, 107, 108, 109, 110, 111, 112, 113, 114, 115, 116, 117, 118, 119, 120, 121, 122, 123, 124, 125, 126, 127, 128, 129, 130, 131, 132, 133, 134, 135, 136, 137, 138, 139, 140, 141, 142, 143, 144, 145, 146, 147, 148, 149, 150, 151, 152, 153, 154, 155, 156, 157, 158, 159, 160, 161, 162, 163, 164, 165, 166, 167, 168, 169, 170, 171, 172, 173, 174] (by decide +kernel) (by decide +kernel)
set_option maxRecDepth 20000 in
theorem gX12_odds_X12_oddsOf : GoodIn wsX12_odds (wsV RX12 425 RX12 yX12_oddsOf wsX12_oddsOf) := goodIn_app (goodIn_of _ (by decide +kernel)) ggX12_odds_X12_oddsOf
theorem dX12_odds_0 : decode cX12_odds 0 = .ok (.aload_n 0, 1) := by decide +kernel
theorem dX12_odds_1 : decode cX12_odds 1 = .ok (.iconst 0, 1) := by decide +kernel
theorem dX12_odds_2 : decode cX12_odds 2 = .ok (.putfield 154, 3) := by decide +kernel
theorem dX12_odds_5 : decode cX12_odds 5 = .ok (.aload_n 0, 1) := by decide +kernel
theorem dX12_odds_6 : decode cX12_odds 6 = .ok (.iload_n 1, 1) := by decide +kernel
theorem dX12_odds_7 : decode cX12_odds 7 = .ok (.invokevirtual 413, 3) := by decide +kernel
theorem dX12_odds_10 : decode cX12_odds 10 = .ok (.ifCond .eq 29, 3) := by decide +kernel
theorem dX12_odds_13 : decode cX12_odds 13 = .ok (.aload_n 0, 1) := by decide +kernel
theorem dX12_odds_14 : decode cX12_odds 14 = .ok (.iload_n 2, 1) := by decide +kernel
theorem dX12_odds_15 : decode cX12_odds 15 = .ok (.invokevirtual 419, 3) := by decide +kernel
theorem dX12_odds_18 : decode cX12_odds 18 = .ok (.ifCond .eq 21, 3) := by decide +kernel
theorem dX12_odds_21 : decode cX12_odds 21 = .ok (.aload_n 0, 1) := by decide +kernel
theorem dX12_odds_22 : decode cX12_odds 22 = .ok (.iload_n 3, 1) := by decide +kernel
theorem dX12_odds_23 : decode cX12_odds 23 = .ok (.invokevirtual 422, 3) := by decide +kernel
theorem dX12_odds_26 : decode cX12_odds 26 = .ok (.ifCond .eq 13, 3) := by decide +kernel
theorem dX12_odds_29 : decode cX12_odds 29 = .ok (.aload_n 0, 1) := by decide +kernel
theorem dX12_odds_30 : decode cX12_odds 30 = .ok (.iload_n 1, 1) := by decide +kernel
theorem dX12_odds_31 : decode cX12_odds 31 = .ok (.iload_n 2, 1) := by decide +kernel
theorem dX12_odds_32 : decode cX12_odds 32 = .ok (.iload_n 3, 1) := by decide +kernel
theorem dX12_odds_33 : decode cX12_odds 33 = .ok (.invokevirtual 425, 3) := by decide +kernel
theorem dX12_odds_36 : decode cX12_odds 36 = .ok (.goto 4, 3) := by decide +kernel
theorem dX12_odds_39 : decode cX12_odds 39 = .ok (.iconst (-1), 1) := by decide +kernel
theorem dX12_odds_40 : decode cX12_odds 40 = .ok (.ireturn, 1) := by decide +kernel
set_option maxRecDepth 20000 in
theorem ggX12_law_X12_isIn : GoodIn wsX12_law wsX12_isIn := goodIn_r _ [12] (by decide +kernel) (by decide +kernel)
set_option maxRecDepth 20000 in
theorem gX12_law_X12_isIn : GoodIn wsX12_law (va_wsS RX12 199 yX12_isIn wsX12_isIn) := goodIn_app (goodIn_of _ (by decide +kernel)) ggX12_law_X12_isIn
set_option maxRecDepth 20000 in
theorem ggX12_law_X12_isSurfer : GoodIn wsX12_law wsX12_isSurfer := goodIn_r _ [16, 17, 81, 82, 83, 84, 85, 86, 87, 88, 89, 90, 91, 92, 93, 94, 95, 96, 97, 98, 99, 100, 101, 102, 103, 104, 105, 106, 107, 108, 109, 110, 111, 112, 113, 114, 115, 116, 117, 118, 119, 120, 121, 122, 123, 124, 125, 126, 127, 128, 129, 130, 131, 132, 133, 134, 135, 136, 137, 138, 139, 140, 141, 142, 143, 144, 145, 146, 147, 148, 149, 150, 151, 152, 153, 154, 155, 156, 157, 158, 159, 160, 161, 162, 163, 164, 165, 166, 167] (by decide +kernel) (by decide +kernel)
set_option maxRecDepth 20000 in
theorem gX12_law_X12_isSurfer : GoodIn wsX12_law (wsV RX12 413 RX12 yX12_isSurfer wsX12_isSurfer) := goodIn_app (goodIn_of _ (by decide +kernel)) ggX12_law_X12_isSurfer
set_option maxRecDepth 20000 in
theorem ggX12_law_X12_isWave : GoodIn wsX12_law wsX12_isWave := goodIn_r _ [21, 22, 81, 82, 83, 84, 85, 86, 87, 88, 89, 90, 91, 92, 93, 94, 95, 96, 97, 98, 99, 100, 101, 102, 103, 104, 105, 106, 107, 108, 109, 110, 111, 112, 113, 114, 115, 116, 117, 118, 119, 120, 121, 122, 123, 124, 125, 126, 127, 128, 129, 130, 131, 132, 133, 134, 135, 136, 137, 138, 139, 140, 141, 142, 143, 144, 145, 146, 147, 148, 149, 150, 151, 152, 153, 154, 155, 156, 157, 158, 159, 160, 161, 162, 163, 164, 165, 166, 167] (by decide +kernel) (by decide +kernel)
set_option maxRecDepth 20000 in
theorem gX12_law_X12_isWave : GoodIn wsX12_law (wsV RX12 419 RX12 yX12_isWave wsX12_isWave) := goodIn_app (goodIn_of _ (by decide +kernel)) ggX12_law_X12_isWave
set_option maxRecDepth 20000 in
theorem ggX12_law_X12_layCatch : GoodIn wsX12_law wsX12_layCatch := goodIn_r _ [26, 6, 27, 28, 29, 30, 11, 31, 32, 33, 34, 35, 36, 37, 38, 39, 40, 41, 42, 43, 44, 45, 3, 8, 46, 47, 48, 49, 50, 51, 52, 53, 54, 55, 56, 57, 58, 59, 60, 61, 62, 63, 64, 65, 66, 67, 68, 69, 70, 71, 72, 73, 74, 75, 76, 77, 78, 79, 80, 5, 81, 82, 83, 84, 85, 86, 87, 88, 89, 90, 91, 92, 93, 94, 95, 96, 97, 98, 99, 100, 101, 102, 103, 104, 105, 106, 107, 108, 109, 110, 111, 112, 113, 114, 115, 116, 117, 118, 119, 120, 121, 122, 123, 124, 125, 126, 127, 128, 129, 130, 131, 132, 133, 134, 135, 136, 137, 138, 139, 140, 141, 142, 143, 144, 145, 146, 147, 148, 149, 150, 151, 152, 153, 154, 155, 156, 157, 158, 159, 160, 161, 162, 163, 164, 165, 166, 167] (by decide +kernel) (by decide +kernel)
set_option maxRecDepth 20000 in
theorem gX12_law_X12_layCatch : GoodIn wsX12_law (wsV RX12 409 RX12 yX12_layCatch wsX12_layCatch) := goodIn_app (goodIn_of _ (by decide +kernel)) ggX12_law_X12_layCatch
set_option maxRecDepth 20000 in
theorem ggX12_law_X12_layNames : GoodIn wsX12_law wsX12_layNames := goodIn_r _ [37, 38, 39, 40, 41, 81, 82, 83, 84, 85, 86, 87, 88, 89, 90, 91, 92, 93, 94, 95, 96, 97, 98, 99, 100, 101, 102, 103, 104, 105, 106, 107, 108, 109, 110, 111, 112, 113, 114, 115, 116, 117, 118, 119, 120, 121, 122, 123, 124, 125, 126, 127, 128, 129, 130, 131, 132, 133, 134, 135, 136, 137, 138, 139, 140, 141, 142, 143, 144, 145, 146, 147, 148, 149, 150, 151, 152, 153, 154, 155, 156, 157, 158, 159, 160, 161, 162, 163, 164, 165, 166, 167] (by decide +kernel) (by decide +kernel)
set_option maxRecDepth 20000 in
theorem gX12_law_X12_layNames : GoodIn wsX12_law (wsV RX12 392 RX12 yX12_layNames wsX12_layNames) := goodIn_app (goodIn_of _ (by decide +kernel)) ggX12_law_X12_layNames
set_option maxRecDepth 20000 in
theorem ggX12_law_X12_lawOf : GoodIn wsX12_law wsX12_lawOf := goodIn_r _ [49, 8, 50, 51, 52, 53, 54, 55, 11, 56, 57, 58, 38, 59, 60, 61, 62, 63, 64, 65, 66, 67, 68, 69, 70, 71, 72, 81, 82, 83, 84, 85, 86, 87, 88, 89, 90, 91, 92, 93, 94, 95, 96, 97, 98, 99, 100, 101, 102, 103, 104, 105, 106, 107, 108, 109, 110, 111, 112, 113, 114, 115, 116, 117, 118, 119, 120, 121, 122, 123, 124, 125, 126, 127, 128, 129, 130, 131, 132, 133, 134, 135, 136, 137, 138, 139, 140, 141, 142, 143, 144, 145, 146, 147, 148, 149, 150, 151, 152, 153, 154, 155, 156, 157, 158, 159, 160, 161, 162, 163, 164, 165, 166, 167] (by decide +kernel) (by decide +kernel)
set_option maxRecDepth 20000 in
theorem gX12_law_X12_lawOf : GoodIn wsX12_law (wsV RX12 389 RX12 yX12_lawOf wsX12_lawOf) := goodIn_app (goodIn_of _ (by decide +kernel)) ggX12_law_X12_lawOf
theorem dX12_law_0 : decode cX12_law 0 = .ok (.aload_n 0, 1) := by decide +kernel
theorem dX12_law_1 : decode cX12_law 1 = .ok (.iconst 0, 1) := by decide +kernel
theorem dX12_law_2 : decode cX12_law 2 = .ok (.putfield 154, 3) := by decide +kernel
theorem dX12_law_5 : decode cX12_law 5 = .ok (.iload_n 1, 1) := by decide +kernel
theorem dX12_law_6 : decode cX12_law 6 = .ok (.iconst 0, 1) := by decide +kernel
theorem dX12_law_7 : decode cX12_law 7 = .ok (.iconst 2, 1) := by decide +kernel
theorem dX12_law_8 : decode cX12_law 8 = .ok (.invokestatic 199, 3) := by decide +kernel
theorem dX12_law_11 : decode cX12_law 11 = .ok (.ifCond .eq 24, 3) := by decide +kernel
theorem dX12_law_14 : decode cX12_law 14 = .ok (.iload_n 1, 1) := by decide +kernel
theorem dX12_law_15 : decode cX12_law 15 = .ok (.iconst 2, 1) := by decide +kernel
theorem dX12_law_16 : decode cX12_law 16 = .ok (.if_icmp .ge 23, 3) := by decide +kernel
theorem dX12_law_19 : decode cX12_law 19 = .ok (.aload_n 0, 1) := by decide +kernel
theorem dX12_law_20 : decode cX12_law 20 = .ok (.iload_n 2, 1) := by decide +kernel
theorem dX12_law_21 : decode cX12_law 21 = .ok (.invokevirtual 413, 3) := by decide +kernel
theorem dX12_law_24 : decode cX12_law 24 = .ok (.ifCond .eq 11, 3) := by decide +kernel
theorem dX12_law_27 : decode cX12_law 27 = .ok (.aload_n 0, 1) := by decide +kernel
theorem dX12_law_28 : decode cX12_law 28 = .ok (.iload_n 3, 1) := by decide +kernel
theorem dX12_law_29 : decode cX12_law 29 = .ok (.invokevirtual 419, 3) := by decide +kernel
theorem dX12_law_32 : decode cX12_law 32 = .ok (.ifCond .ne 7, 3) := by decide +kernel
theorem dX12_law_35 : decode cX12_law 35 = .ok (.ldc2_w 428, 3) := by decide +kernel
theorem dX12_law_38 : decode cX12_law 38 = .ok (.lreturn, 1) := by decide +kernel
theorem dX12_law_39 : decode cX12_law 39 = .ok (.iload_n 1, 1) := by decide +kernel
theorem dX12_law_40 : decode cX12_law 40 = .ok (.ifCond .ne 7, 3) := by decide +kernel
theorem dX12_law_43 : decode cX12_law 43 = .ok (.iconst 0, 1) := by decide +kernel
theorem dX12_law_44 : decode cX12_law 44 = .ok (.goto 13, 3) := by decide +kernel
theorem dX12_law_47 : decode cX12_law 47 = .ok (.iload_n 1, 1) := by decide +kernel
theorem dX12_law_48 : decode cX12_law 48 = .ok (.iconst 1, 1) := by decide +kernel
theorem dX12_law_49 : decode cX12_law 49 = .ok (.if_icmp .ne 7, 3) := by decide +kernel
theorem dX12_law_52 : decode cX12_law 52 = .ok (.iconst 2, 1) := by decide +kernel
theorem dX12_law_53 : decode cX12_law 53 = .ok (.goto 4, 3) := by decide +kernel
theorem dX12_law_56 : decode cX12_law 56 = .ok (.iconst 1, 1) := by decide +kernel
theorem dX12_law_57 : decode cX12_law 57 = .ok (.istore 4, 2) := by decide +kernel
theorem dX12_law_59 : decode cX12_law 59 = .ok (.aload_n 0, 1) := by decide +kernel
theorem dX12_law_60 : decode cX12_law 60 = .ok (.getfield 57, 3) := by decide +kernel
theorem dX12_law_63 : decode cX12_law 63 = .ok (.iload 4, 2) := by decide +kernel
theorem dX12_law_65 : decode cX12_law 65 = .ok (.baload, 1) := by decide +kernel
theorem dX12_law_66 : decode cX12_law 66 = .ok (.ifCond .ne 7, 3) := by decide +kernel
theorem dX12_law_69 : decode cX12_law 69 = .ok (.ldc2_w 428, 3) := by decide +kernel
theorem dX12_law_72 : decode cX12_law 72 = .ok (.lreturn, 1) := by decide +kernel
theorem dX12_law_73 : decode cX12_law 73 = .ok (.iload_n 1, 1) := by decide +kernel
theorem dX12_law_74 : decode cX12_law 74 = .ok (.ifCond .ne 19, 3) := by decide +kernel
theorem dX12_law_77 : decode cX12_law 77 = .ok (.aload_n 0, 1) := by decide +kernel
theorem dX12_law_78 : decode cX12_law 78 = .ok (.iload_n 2, 1) := by decide +kernel
theorem dX12_law_79 : decode cX12_law 79 = .ok (.iload_n 3, 1) := by decide +kernel
theorem dX12_law_80 : decode cX12_law 80 = .ok (.aload_n 0, 1) := by decide +kernel
theorem dX12_law_81 : decode cX12_law 81 = .ok (.getfield 88, 3) := by decide +kernel
theorem dX12_law_84 : decode cX12_law 84 = .ok (.iload_n 2, 1) := by decide +kernel
theorem dX12_law_85 : decode cX12_law 85 = .ok (.iaload, 1) := by decide +kernel
theorem dX12_law_86 : decode cX12_law 86 = .ok (.invokevirtual 409, 3) := by decide +kernel
theorem dX12_law_89 : decode cX12_law 89 = .ok (.pop, 1) := by decide +kernel
theorem dX12_law_90 : decode cX12_law 90 = .ok (.goto 44, 3) := by decide +kernel
theorem dX12_law_93 : decode cX12_law 93 = .ok (.iload_n 1, 1) := by decide +kernel
theorem dX12_law_94 : decode cX12_law 94 = .ok (.iconst 1, 1) := by decide +kernel
theorem dX12_law_95 : decode cX12_law 95 = .ok (.if_icmp .ne 25, 3) := by decide +kernel
theorem dX12_law_98 : decode cX12_law 98 = .ok (.aload_n 0, 1) := by decide +kernel
theorem dX12_law_99 : decode cX12_law 99 = .ok (.iconst 0, 1) := by decide +kernel
theorem dX12_law_100 : decode cX12_law 100 = .ok (.iconst 0, 1) := by decide +kernel
theorem dX12_law_101 : decode cX12_law 101 = .ok (.aload_n 0, 1) := by decide +kernel
theorem dX12_law_102 : decode cX12_law 102 = .ok (.getfield 33, 3) := by decide +kernel
theorem dX12_law_105 : decode cX12_law 105 = .ok (.iload_n 2, 1) := by decide +kernel
theorem dX12_law_106 : decode cX12_law 106 = .ok (.iaload, 1) := by decide +kernel
theorem dX12_law_107 : decode cX12_law 107 = .ok (.iload_n 3, 1) := by decide +kernel
theorem dX12_law_108 : decode cX12_law 108 = .ok (.aload_n 0, 1) := by decide +kernel
theorem dX12_law_109 : decode cX12_law 109 = .ok (.getfield 48, 3) := by decide +kernel
theorem dX12_law_112 : decode cX12_law 112 = .ok (.iload_n 3, 1) := by decide +kernel
theorem dX12_law_113 : decode cX12_law 113 = .ok (.iaload, 1) := by decide +kernel
theorem dX12_law_114 : decode cX12_law 114 = .ok (.invokevirtual 392, 3) := by decide +kernel
theorem dX12_law_117 : decode cX12_law 117 = .ok (.goto 17, 3) := by decide +kernel
theorem dX12_law_120 : decode cX12_law 120 = .ok (.aload_n 0, 1) := by decide +kernel
theorem dX12_law_121 : decode cX12_law 121 = .ok (.iconst 0, 1) := by decide +kernel
theorem dX12_law_122 : decode cX12_law 122 = .ok (.iconst 0, 1) := by decide +kernel
theorem dX12_law_123 : decode cX12_law 123 = .ok (.iconst 0, 1) := by decide +kernel
theorem dX12_law_124 : decode cX12_law 124 = .ok (.iconst (-1), 1) := by decide +kernel
theorem dX12_law_125 : decode cX12_law 125 = .ok (.aload_n 0, 1) := by decide +kernel
theorem dX12_law_126 : decode cX12_law 126 = .ok (.getfield 106, 3) := by decide +kernel
theorem dX12_law_129 : decode cX12_law 129 = .ok (.iconst 0, 1) := by decide +kernel
theorem dX12_law_130 : decode cX12_law 130 = .ok (.iaload, 1) := by decide +kernel
theorem dX12_law_131 : decode cX12_law 131 = .ok (.invokevirtual 392, 3) := by decide +kernel
theorem dX12_law_134 : decode cX12_law 134 = .ok (.aload_n 0, 1) := by decide +kernel
theorem dX12_law_135 : decode cX12_law 135 = .ok (.iload 4, 2) := by decide +kernel
theorem dX12_law_137 : decode cX12_law 137 = .ok (.invokevirtual 389, 3) := by decide +kernel
theorem dX12_law_140 : decode cX12_law 140 = .ok (.lstore 5, 2) := by decide +kernel
theorem dX12_law_142 : decode cX12_law 142 = .ok (.aload_n 0, 1) := by decide +kernel
theorem dX12_law_143 : decode cX12_law 143 = .ok (.getfield 347, 3) := by decide +kernel
theorem dX12_law_146 : decode cX12_law 146 = .ok (.ifCond .eq 9, 3) := by decide +kernel
theorem dX12_law_149 : decode cX12_law 149 = .ok (.ldc2_w 428, 3) := by decide +kernel
theorem dX12_law_152 : decode cX12_law 152 = .ok (.goto 5, 3) := by decide +kernel
theorem dX12_law_155 : decode cX12_law 155 = .ok (.lload 5, 2) := by decide +kernel
theorem dX12_law_157 : decode cX12_law 157 = .ok (.lreturn, 1) := by decide +kernel
set_option maxRecDepth 20000 in
theorem ggX12_keyOf_X12_peakAt : GoodIn wsX12_keyOf wsX12_peakAt := goodIn_r _ [12, 13, 14, 4, 15, 16, 17, 11, 18, 19, 20, 21, 6, 22, 23, 24, 25, 26, 27, 28, 29, 30, 31, 32, 33, 34, 35, 36, 37, 38, 39, 40, 41, 42, 43, 44, 45, 46, 47, 48, 49, 50, 51, 52, 53, 54, 59, 60, 61, 62, 63, 64, 65, 66, 67, 68, 69, 70, 71, 72, 73, 74, 75, 76, 77, 78, 79, 80, 81, 82, 83, 84, 85, 86, 87, 88, 89, 90, 91, 92, 93, 94, 95, 96, 97, 98, 99, 100, 101, 102, 103, 104, 105, 106, 107, 108, 109, 110, 111, 112, 113, 114, 115, 116, 117, 118, 119, 120, 121, 122, 123, 124, 125, 126, 127, 128, 129, 130, 131, 132, 133, 134, 135, 136, 137, 138, 139, 140, 141, 142, 143, 144, 145] (by decide +kernel) (by decide +kernel)
set_option maxRecDepth 20000 in
theorem gX12_keyOf_X12_peakAt : GoodIn wsX12_keyOf (wsV RX12 400 RX12 yX12_peakAt wsX12_peakAt) := goodIn_app (goodIn_of _ (by decide +kernel)) ggX12_keyOf_X12_peakAt
set_option maxRecDepth 20000 in
theorem ggX12_keyOf_X12_far : GoodIn wsX12_keyOf wsX12_far := goodIn_r _ [58, 4, 59, 60, 61, 62, 63, 64, 65, 66, 67, 68, 69, 70, 71, 72, 73, 74, 75, 76, 77, 78, 79, 80, 81, 82, 83, 84, 85, 86, 87, 88, 89, 90, 91, 92, 93, 94, 95, 96, 97, 98, 99, 100, 101, 102, 103, 104, 105, 106, 107, 108, 109, 110, 111, 112, 113, 114, 115, 116, 117, 118, 119, 120, 121, 122, 123, 124, 125, 126, 127, 128, 129, 130, 131, 132, 133, 134, 135, 136, 137, 138, 139, 140, 141, 142, 143, 144, 145] (by decide +kernel) (by decide +kernel)
set_option maxRecDepth 20000 in
theorem gX12_keyOf_X12_far : GoodIn wsX12_keyOf (wsV RX12 403 RX12 yX12_far wsX12_far) := goodIn_app (goodIn_of _ (by decide +kernel)) ggX12_keyOf_X12_far
theorem dX12_keyOf_0 : decode cX12_keyOf 0 = .ok (.aload_n 0, 1) := by decide +kernel
theorem dX12_keyOf_1 : decode cX12_keyOf 1 = .ok (.getfield 88, 3) := by decide +kernel
theorem dX12_keyOf_4 : decode cX12_keyOf 4 = .ok (.iconst 5, 1) := by decide +kernel
theorem dX12_keyOf_5 : decode cX12_keyOf 5 = .ok (.iload_n 1, 1) := by decide +kernel
theorem dX12_keyOf_6 : decode cX12_keyOf 6 = .ok (.imul, 1) := by decide +kernel
theorem dX12_keyOf_7 : decode cX12_keyOf 7 = .ok (.iload_n 2, 1) := by decide +kernel
theorem dX12_keyOf_8 : decode cX12_keyOf 8 = .ok (.iadd, 1) := by decide +kernel
theorem dX12_keyOf_9 : decode cX12_keyOf 9 = .ok (.iaload, 1) := by decide +kernel
theorem dX12_keyOf_10 : decode cX12_keyOf 10 = .ok (.istore 5, 2) := by decide +kernel
theorem dX12_keyOf_12 : decode cX12_keyOf 12 = .ok (.aload_n 0, 1) := by decide +kernel
theorem dX12_keyOf_13 : decode cX12_keyOf 13 = .ok (.iload 5, 2) := by decide +kernel
theorem dX12_keyOf_15 : decode cX12_keyOf 15 = .ok (.aload_n 0, 1) := by decide +kernel
theorem dX12_keyOf_16 : decode cX12_keyOf 16 = .ok (.aload_n 0, 1) := by decide +kernel
theorem dX12_keyOf_17 : decode cX12_keyOf 17 = .ok (.getfield 48, 3) := by decide +kernel
theorem dX12_keyOf_20 : decode cX12_keyOf 20 = .ok (.iload_n 3, 1) := by decide +kernel
theorem dX12_keyOf_21 : decode cX12_keyOf 21 = .ok (.iaload, 1) := by decide +kernel
theorem dX12_keyOf_22 : decode cX12_keyOf 22 = .ok (.invokevirtual 400, 3) := by decide +kernel
theorem dX12_keyOf_25 : decode cX12_keyOf 25 = .ok (.invokevirtual 403, 3) := by decide +kernel
theorem dX12_keyOf_28 : decode cX12_keyOf 28 = .ok (.istore 6, 2) := by decide +kernel
theorem dX12_keyOf_30 : decode cX12_keyOf 30 = .ok (.iload 4, 2) := by decide +kernel
theorem dX12_keyOf_32 : decode cX12_keyOf 32 = .ok (.ifCond .ne 6, 3) := by decide +kernel
theorem dX12_keyOf_35 : decode cX12_keyOf 35 = .ok (.iload 6, 2) := by decide +kernel
theorem dX12_keyOf_37 : decode cX12_keyOf 37 = .ok (.ireturn, 1) := by decide +kernel
theorem dX12_keyOf_38 : decode cX12_keyOf 38 = .ok (.iload 4, 2) := by decide +kernel
theorem dX12_keyOf_40 : decode cX12_keyOf 40 = .ok (.iconst 1, 1) := by decide +kernel
theorem dX12_keyOf_41 : decode cX12_keyOf 41 = .ok (.if_icmp .ne 14, 3) := by decide +kernel
theorem dX12_keyOf_44 : decode cX12_keyOf 44 = .ok (.aload_n 0, 1) := by decide +kernel
theorem dX12_keyOf_45 : decode cX12_keyOf 45 = .ok (.getfield 91, 3) := by decide +kernel
theorem dX12_keyOf_48 : decode cX12_keyOf 48 = .ok (.iconst 5, 1) := by decide +kernel
theorem dX12_keyOf_49 : decode cX12_keyOf 49 = .ok (.iload_n 1, 1) := by decide +kernel
theorem dX12_keyOf_50 : decode cX12_keyOf 50 = .ok (.imul, 1) := by decide +kernel
theorem dX12_keyOf_51 : decode cX12_keyOf 51 = .ok (.iload_n 2, 1) := by decide +kernel
theorem dX12_keyOf_52 : decode cX12_keyOf 52 = .ok (.iadd, 1) := by decide +kernel
theorem dX12_keyOf_53 : decode cX12_keyOf 53 = .ok (.iaload, 1) := by decide +kernel
theorem dX12_keyOf_54 : decode cX12_keyOf 54 = .ok (.ireturn, 1) := by decide +kernel
theorem dX12_keyOf_55 : decode cX12_keyOf 55 = .ok (.iload 4, 2) := by decide +kernel
theorem dX12_keyOf_57 : decode cX12_keyOf 57 = .ok (.iconst 3, 1) := by decide +kernel
theorem dX12_keyOf_58 : decode cX12_keyOf 58 = .ok (.if_icmp .ne 12, 3) := by decide +kernel
theorem dX12_keyOf_61 : decode cX12_keyOf 61 = .ok (.iload 5, 2) := by decide +kernel
theorem dX12_keyOf_63 : decode cX12_keyOf 63 = .ok (.aload_n 0, 1) := by decide +kernel
theorem dX12_keyOf_64 : decode cX12_keyOf 64 = .ok (.getfield 241, 3) := by decide +kernel
theorem dX12_keyOf_67 : decode cX12_keyOf 67 = .ok (.idiv, 1) := by decide +kernel
theorem dX12_keyOf_68 : decode cX12_keyOf 68 = .ok (.ineg, 1) := by decide +kernel
theorem dX12_keyOf_69 : decode cX12_keyOf 69 = .ok (.ireturn, 1) := by decide +kernel
theorem dX12_keyOf_70 : decode cX12_keyOf 70 = .ok (.iconst 0, 1) := by decide +kernel
theorem dX12_keyOf_71 : decode cX12_keyOf 71 = .ok (.istore 7, 2) := by decide +kernel
theorem dX12_keyOf_73 : decode cX12_keyOf 73 = .ok (.iconst 0, 1) := by decide +kernel
theorem dX12_keyOf_74 : decode cX12_keyOf 74 = .ok (.istore 8, 2) := by decide +kernel
theorem dX12_keyOf_76 : decode cX12_keyOf 76 = .ok (.iload 8, 2) := by decide +kernel
theorem dX12_keyOf_78 : decode cX12_keyOf 78 = .ok (.aload_n 0, 1) := by decide +kernel
theorem dX12_keyOf_79 : decode cX12_keyOf 79 = .ok (.getfield 253, 3) := by decide +kernel
theorem dX12_keyOf_82 : decode cX12_keyOf 82 = .ok (.if_icmp .ge 53, 3) := by decide +kernel
theorem dX12_keyOf_85 : decode cX12_keyOf 85 = .ok (.iload 7, 2) := by decide +kernel
theorem dX12_keyOf_87 : decode cX12_keyOf 87 = .ok (.ifCond .ne 35, 3) := by decide +kernel
theorem dX12_keyOf_90 : decode cX12_keyOf 90 = .ok (.aload_n 0, 1) := by decide +kernel
theorem dX12_keyOf_91 : decode cX12_keyOf 91 = .ok (.getfield 54, 3) := by decide +kernel
theorem dX12_keyOf_94 : decode cX12_keyOf 94 = .ok (.iload 8, 2) := by decide +kernel
theorem dX12_keyOf_96 : decode cX12_keyOf 96 = .ok (.iaload, 1) := by decide +kernel
theorem dX12_keyOf_97 : decode cX12_keyOf 97 = .ok (.aload_n 0, 1) := by decide +kernel
theorem dX12_keyOf_98 : decode cX12_keyOf 98 = .ok (.getfield 54, 3) := by decide +kernel
theorem dX12_keyOf_101 : decode cX12_keyOf 101 = .ok (.iload_n 3, 1) := by decide +kernel
theorem dX12_keyOf_102 : decode cX12_keyOf 102 = .ok (.iaload, 1) := by decide +kernel
theorem dX12_keyOf_103 : decode cX12_keyOf 103 = .ok (.if_icmp .ne 23, 3) := by decide +kernel
theorem dX12_keyOf_106 : decode cX12_keyOf 106 = .ok (.aload_n 0, 1) := by decide +kernel
theorem dX12_keyOf_107 : decode cX12_keyOf 107 = .ok (.getfield 103, 3) := by decide +kernel
theorem dX12_keyOf_110 : decode cX12_keyOf 110 = .ok (.bipush 28, 2) := by decide +kernel
theorem dX12_keyOf_112 : decode cX12_keyOf 112 = .ok (.iload_n 1, 1) := by decide +kernel
theorem dX12_keyOf_113 : decode cX12_keyOf 113 = .ok (.imul, 1) := by decide +kernel
theorem dX12_keyOf_114 : decode cX12_keyOf 114 = .ok (.iload 8, 2) := by decide +kernel
theorem dX12_keyOf_116 : decode cX12_keyOf 116 = .ok (.iadd, 1) := by decide +kernel
theorem dX12_keyOf_117 : decode cX12_keyOf 117 = .ok (.iaload, 1) := by decide +kernel
theorem dX12_keyOf_118 : decode cX12_keyOf 118 = .ok (.iload_n 2, 1) := by decide +kernel
theorem dX12_keyOf_119 : decode cX12_keyOf 119 = .ok (.if_icmp .ne 7, 3) := by decide +kernel
theorem dX12_keyOf_122 : decode cX12_keyOf 122 = .ok (.iconst 1, 1) := by decide +kernel
theorem dX12_keyOf_123 : decode cX12_keyOf 123 = .ok (.goto 4, 3) := by decide +kernel
theorem dX12_keyOf_126 : decode cX12_keyOf 126 = .ok (.iconst 0, 1) := by decide +kernel
theorem dX12_keyOf_127 : decode cX12_keyOf 127 = .ok (.istore 7, 2) := by decide +kernel
theorem dX12_keyOf_129 : decode cX12_keyOf 129 = .ok (.iinc 8 1, 3) := by decide +kernel
theorem dX12_keyOf_132 : decode cX12_keyOf 132 = .ok (.goto (-56), 3) := by decide +kernel
theorem dX12_keyOf_135 : decode cX12_keyOf 135 = .ok (.iload 7, 2) := by decide +kernel
theorem dX12_keyOf_137 : decode cX12_keyOf 137 = .ok (.ifCond .eq 9, 3) := by decide +kernel
theorem dX12_keyOf_140 : decode cX12_keyOf 140 = .ok (.sipush 1000, 3) := by decide +kernel
theorem dX12_keyOf_143 : decode cX12_keyOf 143 = .ok (.goto 4, 3) := by decide +kernel
theorem dX12_keyOf_146 : decode cX12_keyOf 146 = .ok (.iconst 0, 1) := by decide +kernel
theorem dX12_keyOf_147 : decode cX12_keyOf 147 = .ok (.iload 6, 2) := by decide +kernel
theorem dX12_keyOf_149 : decode cX12_keyOf 149 = .ok (.iadd, 1) := by decide +kernel
theorem dX12_keyOf_150 : decode cX12_keyOf 150 = .ok (.ireturn, 1) := by decide +kernel
set_option maxRecDepth 20000 in
theorem ggX12_isGoing_X12_oddsOf : GoodIn wsX12_isGoing wsX12_oddsOf := goodIn_r _ [9, 10, 11, 12, 8, 13, 14, 15, 16, 17, 18, 19, 20, 2, 21, 22, 23, 24, 25, 26, 27, 28, 29, 30, 31, 32, 33, 34, 35, 36, 37, 38, 39, 40, 41, 42, 43, 44, 45, 46, 47, 48, 49, 50, 51, 52, 53, 54, 55, 56, 57, 58, 59, 60, 61, 62, 63, 64, 65, 66, 67, 68, 69, 70, 71, 72, 73, 74, 75, 76, 77, 78, 79, 80, 81, 82, 83, 84, 85, 86, 87, 88, 89, 90, 91, 92, 93, 94, 95, 96, 97, 98, 99, 100, 101, 102, 103, 104, 105, 106, 107, 108, 109, 110, 111, 112, 113, 114, 115, 116, 117, 118, 119, 120, 121, 122, 123, 124, 125, 126, 127, 128, 129, 130, 131, 132, 133, 134, 135, 136, 137, 138, 139, 140, 141, 142, 143, 144, 145, 146, 147, 148, 149, 150, 151, 152, 153, 154, 155, 156, 157] (by decide +kernel) (by decide +kernel)
set_option maxRecDepth 20000 in
theorem gX12_isGoing_X12_oddsOf : GoodIn wsX12_isGoing (wsV RX12 425 RX12 yX12_oddsOf wsX12_oddsOf) := goodIn_app (goodIn_of _ (by decide +kernel)) ggX12_isGoing_X12_oddsOf
theorem dX12_isGoing_0 : decode cX12_isGoing 0 = .ok (.aload_n 0, 1) := by decide +kernel
theorem dX12_isGoing_1 : decode cX12_isGoing 1 = .ok (.getfield 97, 3) := by decide +kernel
theorem dX12_isGoing_4 : decode cX12_isGoing 4 = .ok (.iconst 5, 1) := by decide +kernel
theorem dX12_isGoing_5 : decode cX12_isGoing 5 = .ok (.iload_n 1, 1) := by decide +kernel
theorem dX12_isGoing_6 : decode cX12_isGoing 6 = .ok (.imul, 1) := by decide +kernel
theorem dX12_isGoing_7 : decode cX12_isGoing 7 = .ok (.iload_n 2, 1) := by decide +kernel
theorem dX12_isGoing_8 : decode cX12_isGoing 8 = .ok (.iadd, 1) := by decide +kernel
theorem dX12_isGoing_9 : decode cX12_isGoing 9 = .ok (.iaload, 1) := by decide +kernel
theorem dX12_isGoing_10 : decode cX12_isGoing 10 = .ok (.ifCond .ne 42, 3) := by decide +kernel
theorem dX12_isGoing_13 : decode cX12_isGoing 13 = .ok (.aload_n 0, 1) := by decide +kernel
theorem dX12_isGoing_14 : decode cX12_isGoing 14 = .ok (.getfield 115, 3) := by decide +kernel
theorem dX12_isGoing_17 : decode cX12_isGoing 17 = .ok (.iconst 1, 1) := by decide +kernel
theorem dX12_isGoing_18 : decode cX12_isGoing 18 = .ok (.if_icmp .ne 11, 3) := by decide +kernel
theorem dX12_isGoing_21 : decode cX12_isGoing 21 = .ok (.aload_n 0, 1) := by decide +kernel
theorem dX12_isGoing_22 : decode cX12_isGoing 22 = .ok (.getfield 430, 3) := by decide +kernel
theorem dX12_isGoing_25 : decode cX12_isGoing 25 = .ok (.iload_n 2, 1) := by decide +kernel
theorem dX12_isGoing_26 : decode cX12_isGoing 26 = .ok (.if_icmp .eq 26, 3) := by decide +kernel
theorem dX12_isGoing_29 : decode cX12_isGoing 29 = .ok (.aload_n 0, 1) := by decide +kernel
theorem dX12_isGoing_30 : decode cX12_isGoing 30 = .ok (.iload_n 2, 1) := by decide +kernel
theorem dX12_isGoing_31 : decode cX12_isGoing 31 = .ok (.iload_n 3, 1) := by decide +kernel
theorem dX12_isGoing_32 : decode cX12_isGoing 32 = .ok (.aload_n 0, 1) := by decide +kernel
theorem dX12_isGoing_33 : decode cX12_isGoing 33 = .ok (.getfield 88, 3) := by decide +kernel
theorem dX12_isGoing_36 : decode cX12_isGoing 36 = .ok (.iconst 5, 1) := by decide +kernel
theorem dX12_isGoing_37 : decode cX12_isGoing 37 = .ok (.iload_n 1, 1) := by decide +kernel
theorem dX12_isGoing_38 : decode cX12_isGoing 38 = .ok (.imul, 1) := by decide +kernel
theorem dX12_isGoing_39 : decode cX12_isGoing 39 = .ok (.iload_n 2, 1) := by decide +kernel
theorem dX12_isGoing_40 : decode cX12_isGoing 40 = .ok (.iadd, 1) := by decide +kernel
theorem dX12_isGoing_41 : decode cX12_isGoing 41 = .ok (.iaload, 1) := by decide +kernel
theorem dX12_isGoing_42 : decode cX12_isGoing 42 = .ok (.invokevirtual 425, 3) := by decide +kernel
theorem dX12_isGoing_45 : decode cX12_isGoing 45 = .ok (.ifCond .le 7, 3) := by decide +kernel
theorem dX12_isGoing_48 : decode cX12_isGoing 48 = .ok (.iconst 1, 1) := by decide +kernel
theorem dX12_isGoing_49 : decode cX12_isGoing 49 = .ok (.goto 4, 3) := by decide +kernel
theorem dX12_isGoing_52 : decode cX12_isGoing 52 = .ok (.iconst 0, 1) := by decide +kernel
theorem dX12_isGoing_53 : decode cX12_isGoing 53 = .ok (.ireturn, 1) := by decide +kernel
set_option maxRecDepth 20000 in
theorem ggX12_layOrder_X12_isGoing : GoodIn wsX12_layOrder wsX12_isGoing := goodIn_r _ [8, 9, 10, 11, 12, 13, 14, 15, 7, 16, 17, 18, 19, 20, 21, 22, 23, 24, 25, 26, 27, 28, 29, 30, 31, 32, 33, 34, 35, 36, 37, 38, 39, 40, 41, 42, 43, 44, 45, 46, 47, 48, 49, 50, 51, 52, 53, 54, 55, 56, 57, 58, 59, 60, 61, 62, 63, 64, 65, 66, 67, 68, 69, 70, 71, 72, 73, 74, 75, 76, 77, 85, 86, 87, 88, 89, 90, 91, 92, 93, 94, 95, 96, 97, 98, 99, 100, 101, 102, 103, 104, 105, 106, 107, 108, 109, 110, 111, 112, 113, 114, 115, 116, 117, 118, 119, 120, 121, 122, 123, 124, 125, 126, 127, 128, 129, 130, 131, 132, 133, 134, 135, 136, 137, 138, 139, 140, 141, 142, 143, 144, 145, 146, 147, 148, 149, 150, 151, 152, 153, 154, 155, 156, 157, 158, 159, 160, 161, 162, 163, 164, 165, 166, 167, 168, 169, 170, 171] (by decide +kernel) (by decide +kernel)
set_option maxRecDepth 20000 in
theorem gX12_layOrder_X12_isGoing : GoodIn wsX12_layOrder (wsV RX12 436 RX12 yX12_isGoing wsX12_isGoing) := goodIn_app (goodIn_of _ (by decide +kernel)) ggX12_layOrder_X12_isGoing
set_option maxRecDepth 20000 in
theorem ggX12_layOrder_X12_keyOf : GoodIn wsX12_layOrder wsX12_keyOf := goodIn_r _ [81, 12, 21, 82, 22, 83, 35, 84, 23, 24, 25, 7, 26, 27, 10, 28, 29, 30, 31, 32, 33, 34, 36, 37, 38, 39, 40, 41, 42, 43, 44, 45, 46, 47, 48, 49, 50, 51, 52, 53, 54, 55, 56, 57, 58, 59, 60, 61, 62, 63, 64, 65, 66, 67, 68, 69, 70, 71, 72, 85, 86, 87, 88, 89, 90, 91, 92, 93, 94, 95, 96, 97, 98, 99, 100, 101, 102, 103, 104, 105, 106, 107, 108, 109, 110, 111, 112, 113, 114, 115, 116, 117, 118, 119, 120, 121, 122, 123, 124, 125, 126, 127, 128, 129, 130, 131, 132, 133, 134, 135, 136, 137, 138, 139, 140, 141, 142, 143, 144, 145, 146, 147, 148, 149, 150, 151, 152, 153, 154, 155, 156, 157, 158, 159, 160, 161, 162, 163, 164, 165, 166, 167, 168, 169, 170, 171] (by decide +kernel) (by decide +kernel)
set_option maxRecDepth 20000 in
theorem gX12_layOrder_X12_keyOf : GoodIn wsX12_layOrder (wsV RX12 439 RX12 yX12_keyOf wsX12_keyOf) := goodIn_app (goodIn_of _ (by decide +kernel)) ggX12_layOrder_X12_keyOf
theorem dX12_layOrder_0 : decode cX12_layOrder 0 = .ok (.aload_n 0, 1) := by decide +kernel
theorem dX12_layOrder_1 : decode cX12_layOrder 1 = .ok (.iconst 0, 1) := by decide +kernel
theorem dX12_layOrder_2 : decode cX12_layOrder 2 = .ok (.putfield 433, 3) := by decide +kernel
theorem dX12_layOrder_5 : decode cX12_layOrder 5 = .ok (.iconst 0, 1) := by decide +kernel
theorem dX12_layOrder_6 : decode cX12_layOrder 6 = .ok (.istore 4, 2) := by decide +kernel
theorem dX12_layOrder_8 : decode cX12_layOrder 8 = .ok (.iload 4, 2) := by decide +kernel
theorem dX12_layOrder_10 : decode cX12_layOrder 10 = .ok (.aload_n 0, 1) := by decide +kernel
theorem dX12_layOrder_11 : decode cX12_layOrder 11 = .ok (.getfield 247, 3) := by decide +kernel
theorem dX12_layOrder_14 : decode cX12_layOrder 14 = .ok (.if_icmp .ge 107, 3) := by decide +kernel
theorem dX12_layOrder_17 : decode cX12_layOrder 17 = .ok (.aload_n 0, 1) := by decide +kernel
theorem dX12_layOrder_18 : decode cX12_layOrder 18 = .ok (.iload_n 1, 1) := by decide +kernel
theorem dX12_layOrder_19 : decode cX12_layOrder 19 = .ok (.iload 4, 2) := by decide +kernel
theorem dX12_layOrder_21 : decode cX12_layOrder 21 = .ok (.iload_n 2, 1) := by decide +kernel
theorem dX12_layOrder_22 : decode cX12_layOrder 22 = .ok (.invokevirtual 436, 3) := by decide +kernel
theorem dX12_layOrder_25 : decode cX12_layOrder 25 = .ok (.ifCond .ne 6, 3) := by decide +kernel
theorem dX12_layOrder_28 : decode cX12_layOrder 28 = .ok (.goto 87, 3) := by decide +kernel
theorem dX12_layOrder_31 : decode cX12_layOrder 31 = .ok (.aload_n 0, 1) := by decide +kernel
theorem dX12_layOrder_32 : decode cX12_layOrder 32 = .ok (.iload_n 1, 1) := by decide +kernel
theorem dX12_layOrder_33 : decode cX12_layOrder 33 = .ok (.iload 4, 2) := by decide +kernel
theorem dX12_layOrder_35 : decode cX12_layOrder 35 = .ok (.iload_n 2, 1) := by decide +kernel
theorem dX12_layOrder_36 : decode cX12_layOrder 36 = .ok (.iload_n 3, 1) := by decide +kernel
theorem dX12_layOrder_37 : decode cX12_layOrder 37 = .ok (.invokevirtual 439, 3) := by decide +kernel
theorem dX12_layOrder_40 : decode cX12_layOrder 40 = .ok (.istore 5, 2) := by decide +kernel
theorem dX12_layOrder_42 : decode cX12_layOrder 42 = .ok (.aload_n 0, 1) := by decide +kernel
theorem dX12_layOrder_43 : decode cX12_layOrder 43 = .ok (.getfield 433, 3) := by decide +kernel
theorem dX12_layOrder_46 : decode cX12_layOrder 46 = .ok (.istore 6, 2) := by decide +kernel
theorem dX12_layOrder_48 : decode cX12_layOrder 48 = .ok (.iload 6, 2) := by decide +kernel
theorem dX12_layOrder_50 : decode cX12_layOrder 50 = .ok (.ifCond .le 46, 3) := by decide +kernel
theorem dX12_layOrder_53 : decode cX12_layOrder 53 = .ok (.aload_n 0, 1) := by decide +kernel
theorem dX12_layOrder_54 : decode cX12_layOrder 54 = .ok (.iload_n 1, 1) := by decide +kernel
theorem dX12_layOrder_55 : decode cX12_layOrder 55 = .ok (.aload_n 0, 1) := by decide +kernel
theorem dX12_layOrder_56 : decode cX12_layOrder 56 = .ok (.getfield 118, 3) := by decide +kernel
theorem dX12_layOrder_59 : decode cX12_layOrder 59 = .ok (.iload 6, 2) := by decide +kernel
theorem dX12_layOrder_61 : decode cX12_layOrder 61 = .ok (.iconst 1, 1) := by decide +kernel
theorem dX12_layOrder_62 : decode cX12_layOrder 62 = .ok (.isub, 1) := by decide +kernel
theorem dX12_layOrder_63 : decode cX12_layOrder 63 = .ok (.iaload, 1) := by decide +kernel
theorem dX12_layOrder_64 : decode cX12_layOrder 64 = .ok (.iload_n 2, 1) := by decide +kernel
theorem dX12_layOrder_65 : decode cX12_layOrder 65 = .ok (.iload_n 3, 1) := by decide +kernel
theorem dX12_layOrder_66 : decode cX12_layOrder 66 = .ok (.invokevirtual 439, 3) := by decide +kernel
theorem dX12_layOrder_69 : decode cX12_layOrder 69 = .ok (.iload 5, 2) := by decide +kernel
theorem dX12_layOrder_71 : decode cX12_layOrder 71 = .ok (.if_icmp .le 25, 3) := by decide +kernel
theorem dX12_layOrder_74 : decode cX12_layOrder 74 = .ok (.aload_n 0, 1) := by decide +kernel
theorem dX12_layOrder_75 : decode cX12_layOrder 75 = .ok (.getfield 118, 3) := by decide +kernel
theorem dX12_layOrder_78 : decode cX12_layOrder 78 = .ok (.iload 6, 2) := by decide +kernel
theorem dX12_layOrder_80 : decode cX12_layOrder 80 = .ok (.aload_n 0, 1) := by decide +kernel
theorem dX12_layOrder_81 : decode cX12_layOrder 81 = .ok (.getfield 118, 3) := by decide +kernel
theorem dX12_layOrder_84 : decode cX12_layOrder 84 = .ok (.iload 6, 2) := by decide +kernel
theorem dX12_layOrder_86 : decode cX12_layOrder 86 = .ok (.iconst 1, 1) := by decide +kernel
theorem dX12_layOrder_87 : decode cX12_layOrder 87 = .ok (.isub, 1) := by decide +kernel
theorem dX12_layOrder_88 : decode cX12_layOrder 88 = .ok (.iaload, 1) := by decide +kernel
theorem dX12_layOrder_89 : decode cX12_layOrder 89 = .ok (.iastore, 1) := by decide +kernel
theorem dX12_layOrder_90 : decode cX12_layOrder 90 = .ok (.iinc 6 (-1), 3) := by decide +kernel
theorem dX12_layOrder_93 : decode cX12_layOrder 93 = .ok (.goto (-45), 3) := by decide +kernel
theorem dX12_layOrder_96 : decode cX12_layOrder 96 = .ok (.aload_n 0, 1) := by decide +kernel
theorem dX12_layOrder_97 : decode cX12_layOrder 97 = .ok (.getfield 118, 3) := by decide +kernel
theorem dX12_layOrder_100 : decode cX12_layOrder 100 = .ok (.iload 6, 2) := by decide +kernel
theorem dX12_layOrder_102 : decode cX12_layOrder 102 = .ok (.iload 4, 2) := by decide +kernel
theorem dX12_layOrder_104 : decode cX12_layOrder 104 = .ok (.iastore, 1) := by decide +kernel
theorem dX12_layOrder_105 : decode cX12_layOrder 105 = .ok (.aload_n 0, 1) := by decide +kernel
theorem dX12_layOrder_106 : decode cX12_layOrder 106 = .ok (.dup, 1) := by decide +kernel
theorem dX12_layOrder_107 : decode cX12_layOrder 107 = .ok (.getfield 433, 3) := by decide +kernel
theorem dX12_layOrder_110 : decode cX12_layOrder 110 = .ok (.iconst 1, 1) := by decide +kernel
theorem dX12_layOrder_111 : decode cX12_layOrder 111 = .ok (.iadd, 1) := by decide +kernel
theorem dX12_layOrder_112 : decode cX12_layOrder 112 = .ok (.putfield 433, 3) := by decide +kernel
theorem dX12_layOrder_115 : decode cX12_layOrder 115 = .ok (.iinc 4 1, 3) := by decide +kernel
theorem dX12_layOrder_118 : decode cX12_layOrder 118 = .ok (.goto (-110), 3) := by decide +kernel
theorem dX12_layOrder_121 : decode cX12_layOrder 121 = .ok (.return_, 1) := by decide +kernel
theorem dX12_number1_0 : decode cX12_number1 0 = .ok (.aload_n 0, 1) := by decide +kernel
theorem dX12_number1_1 : decode cX12_number1 1 = .ok (.aload_n 0, 1) := by decide +kernel
theorem dX12_number1_2 : decode cX12_number1 2 = .ok (.getfield 372, 3) := by decide +kernel
theorem dX12_number1_5 : decode cX12_number1 5 = .ok (.ldc2_w 442, 3) := by decide +kernel
theorem dX12_number1_8 : decode cX12_number1 8 = .ok (.lmul, 1) := by decide +kernel
theorem dX12_number1_9 : decode cX12_number1 9 = .ok (.ldc2_w 444, 3) := by decide +kernel
theorem dX12_number1_12 : decode cX12_number1 12 = .ok (.ladd, 1) := by decide +kernel
theorem dX12_number1_13 : decode cX12_number1 13 = .ok (.ldc2_w 446, 3) := by decide +kernel
theorem dX12_number1_16 : decode cX12_number1 16 = .ok (.land, 1) := by decide +kernel
theorem dX12_number1_17 : decode cX12_number1 17 = .ok (.putfield 372, 3) := by decide +kernel
theorem dX12_number1_20 : decode cX12_number1 20 = .ok (.aload_n 0, 1) := by decide +kernel
theorem dX12_number1_21 : decode cX12_number1 21 = .ok (.getfield 372, 3) := by decide +kernel
theorem dX12_number1_24 : decode cX12_number1 24 = .ok (.ldc2_w 448, 3) := by decide +kernel
theorem dX12_number1_27 : decode cX12_number1 27 = .ok (.ldiv, 1) := by decide +kernel
theorem dX12_number1_28 : decode cX12_number1 28 = .ok (.iload_n 1, 1) := by decide +kernel
theorem dX12_number1_29 : decode cX12_number1 29 = .ok (.i2l, 1) := by decide +kernel
theorem dX12_number1_30 : decode cX12_number1 30 = .ok (.lrem, 1) := by decide +kernel
theorem dX12_number1_31 : decode cX12_number1 31 = .ok (.l2i, 1) := by decide +kernel
theorem dX12_number1_32 : decode cX12_number1 32 = .ok (.ireturn, 1) := by decide +kernel
set_option maxRecDepth 20000 in
theorem ggX12_goesAway_X12_awayOf : GoodIn wsX12_goesAway wsX12_awayOf := goodIn_r _ [7, 8, 9, 10, 11, 6, 12, 13, 14, 15, 16, 17, 18, 19, 20, 21, 22, 23, 24, 25, 26, 27, 28, 29, 30, 31, 32, 33, 34, 35, 36, 37, 38, 39, 40, 41, 42, 43, 44, 45, 46, 47, 48, 49, 50, 51, 52, 53, 54, 55, 56, 57, 58, 59, 60, 61, 62, 63, 64, 65, 66, 67, 68, 69, 70, 71, 72, 73, 74, 75, 76, 77, 78, 79, 80, 81, 82, 83, 84, 85, 86, 87, 88, 89, 90, 91, 92, 93, 94, 95, 96, 97, 98, 99, 100, 101, 102, 103, 104, 105, 106, 107, 108, 109, 110, 111, 112, 113, 114, 115, 116, 117, 118, 119, 120, 121, 122, 123, 124, 125, 126, 127, 128, 129, 130, 131, 132, 133, 134, 135, 136, 137, 138, 139, 140, 141, 142] (by decide +kernel) (by decide +kernel)
set_option maxRecDepth 20000 in
theorem gX12_goesAway_X12_awayOf : GoodIn wsX12_goesAway (wsV RX12 450 RX12 yX12_awayOf wsX12_awayOf) := goodIn_app (goodIn_of _ (by decide +kernel)) ggX12_goesAway_X12_awayOf
theorem dX12_goesAway_0 : decode cX12_goesAway 0 = .ok (.aload_n 0, 1) := by decide +kernel
theorem dX12_goesAway_1 : decode cX12_goesAway 1 = .ok (.getfield 97, 3) := by decide +kernel
theorem dX12_goesAway_4 : decode cX12_goesAway 4 = .ok (.iconst 5, 1) := by decide +kernel
theorem dX12_goesAway_5 : decode cX12_goesAway 5 = .ok (.iload_n 1, 1) := by decide +kernel
theorem dX12_goesAway_6 : decode cX12_goesAway 6 = .ok (.imul, 1) := by decide +kernel
theorem dX12_goesAway_7 : decode cX12_goesAway 7 = .ok (.iload_n 2, 1) := by decide +kernel
theorem dX12_goesAway_8 : decode cX12_goesAway 8 = .ok (.iadd, 1) := by decide +kernel
theorem dX12_goesAway_9 : decode cX12_goesAway 9 = .ok (.aload_n 0, 1) := by decide +kernel
theorem dX12_goesAway_10 : decode cX12_goesAway 10 = .ok (.getfield 106, 3) := by decide +kernel
theorem dX12_goesAway_13 : decode cX12_goesAway 13 = .ok (.iload_n 1, 1) := by decide +kernel
theorem dX12_goesAway_14 : decode cX12_goesAway 14 = .ok (.iaload, 1) := by decide +kernel
theorem dX12_goesAway_15 : decode cX12_goesAway 15 = .ok (.iload 4, 2) := by decide +kernel
theorem dX12_goesAway_17 : decode cX12_goesAway 17 = .ok (.aload_n 0, 1) := by decide +kernel
theorem dX12_goesAway_18 : decode cX12_goesAway 18 = .ok (.iload_n 2, 1) := by decide +kernel
theorem dX12_goesAway_19 : decode cX12_goesAway 19 = .ok (.iload_n 3, 1) := by decide +kernel
theorem dX12_goesAway_20 : decode cX12_goesAway 20 = .ok (.invokevirtual 450, 3) := by decide +kernel
theorem dX12_goesAway_23 : decode cX12_goesAway 23 = .ok (.imul, 1) := by decide +kernel
theorem dX12_goesAway_24 : decode cX12_goesAway 24 = .ok (.iadd, 1) := by decide +kernel
theorem dX12_goesAway_25 : decode cX12_goesAway 25 = .ok (.iastore, 1) := by decide +kernel
theorem dX12_goesAway_26 : decode cX12_goesAway 26 = .ok (.return_, 1) := by decide +kernel
set_option maxRecDepth 20000 in
theorem ggX12_comes_X12_layOrder : GoodIn wsX12_comes wsX12_layOrder := goodIn_r _ [15, 1, 16, 2, 17, 18, 19, 14, 20, 21, 6, 22, 3, 23, 24, 25, 26, 27, 28, 29, 30, 31, 32, 33, 34, 35, 36, 37, 38, 39, 40, 41, 42, 43, 44, 45, 46, 47, 48, 49, 50, 51, 52, 53, 54, 55, 56, 57, 58, 59, 60, 61, 62, 63, 64, 65, 66, 67, 68, 69, 70, 71, 72, 73, 74, 75, 76, 77, 78, 79, 80, 81, 82, 83, 84, 85, 86, 87, 88, 89, 90, 91, 10, 92, 4, 111, 112, 113, 114, 115, 116, 117, 118, 119, 120, 121, 122, 123, 124, 125, 126, 127, 128, 129, 130, 131, 132, 133, 134, 135, 136, 137, 138, 139, 140, 141, 142, 143, 144, 145, 146, 147, 148, 149, 150, 151, 152, 153, 154, 155, 156, 157, 158, 159, 160, 161, 162, 163, 164, 165, 166, 167, 168, 169, 170, 171, 172, 173, 174, 175, 176, 177, 178, 179, 180, 181, 182, 183, 184, 185, 186, 187, 188, 189, 190, 191, 192, 193, 194, 195, 196, 197] (by decide +kernel) (by decide +kernel)
set_option maxRecDepth 20000 in
theorem gX12_comes_X12_layOrder : GoodIn wsX12_comes (wsV RX12 453 RX12 yX12_layOrder wsX12_layOrder) := goodIn_app (goodIn_of _ (by decide +kernel)) ggX12_comes_X12_layOrder
set_option maxRecDepth 20000 in
theorem ggX12_comes_X12_number1 : GoodIn wsX12_comes wsX12_number1 := goodIn_r _ [96, 97, 98, 99, 100, 101, 111, 112, 113, 114, 115, 116, 117, 118, 119, 120, 121, 122, 123, 124, 125, 126, 127, 128, 129, 130, 131, 132, 133, 134, 135, 136, 137, 138, 139, 140, 141, 142, 143, 144, 145, 146, 147, 148, 149, 150, 151, 152, 153, 154, 155, 156, 157, 158, 159, 160, 161, 162, 163, 164, 165, 166, 167, 168, 169, 170, 171, 172, 173, 174, 175, 176, 177, 178, 179, 180, 181, 182, 183, 184, 185, 186, 187, 188, 189, 190, 191, 192, 193, 194, 195, 196, 197] (by decide +kernel) (by decide +kernel)
set_option maxRecDepth 20000 in
theorem gX12_comes_X12_number1 : GoodIn wsX12_comes (wsV RX12 456 RX12 yX12_number1 wsX12_number1) := goodIn_app (goodIn_of _ (by decide +kernel)) ggX12_comes_X12_number1
set_option maxRecDepth 20000 in
theorem ggX12_comes_X12_oddsOf : GoodIn wsX12_comes wsX12_oddsOf := goodIn_r _ [26, 27, 28, 29, 14, 30, 31, 32, 33, 34, 35, 36, 37, 6, 38, 39, 40, 41, 42, 43, 44, 45, 46, 47, 48, 49, 50, 51, 52, 53, 54, 55, 56, 57, 58, 59, 60, 61, 62, 63, 64, 65, 66, 67, 68, 69, 70, 71, 72, 73, 74, 75, 76, 77, 78, 79, 80, 81, 82, 83, 84, 85, 86, 87, 111, 112, 113, 114, 115, 116, 117, 118, 119, 120, 121, 122, 123, 124, 125, 126, 127, 128, 129, 130, 131, 132, 133, 134, 135, 136, 137, 138, 139, 140, 141, 142, 143, 144, 145, 146, 147, 148, 149, 150, 151, 152, 153, 154, 155, 156, 157, 158, 159, 160, 161, 162, 163, 164, 165, 166, 167, 168, 169, 170, 171, 172, 173, 174, 175, 176, 177, 178, 179, 180, 181, 182, 183, 184, 185, 186, 187, 188, 189, 190, 191, 192, 193, 194, 195, 196, 197] (by decide +kernel) (by decide +kernel)
set_option maxRecDepth 20000 in
theorem gX12_comes_X12_oddsOf : GoodIn wsX12_comes (wsV RX12 425 RX12 yX12_oddsOf wsX12_oddsOf) := goodIn_app (goodIn_of _ (by decide +kernel)) ggX12_comes_X12_oddsOf
set_option maxRecDepth 20000 in
theorem ggX12_comes_X12_goesAway : GoodIn wsX12_comes wsX12_goesAway := goodIn_r _ [105, 21, 106, 107, 108, 109, 14, 110, 31, 83, 84, 85, 86, 6, 87, 38, 39, 40, 41, 42, 43, 44, 45, 46, 47, 48, 49, 50, 51, 52, 53, 54, 55, 56, 57, 58, 59, 60, 61, 62, 63, 64, 65, 66, 67, 68, 69, 70, 71, 72, 73, 74, 75, 76, 77, 78, 111, 112, 113, 114, 115, 116, 117, 118, 119, 120, 121, 122, 123, 124, 125, 126, 127, 128, 129, 130, 131, 132, 133, 134, 135, 136, 137, 138, 139, 140, 141, 142, 143, 144, 145, 146, 147, 148, 149, 150, 151, 152, 153, 154, 155, 156, 157, 158, 159, 160, 161, 162, 163, 164, 165, 166, 167, 168, 169, 170, 171, 172, 173, 174, 175, 176, 177, 178, 179, 180, 181, 182, 183, 184, 185, 186, 187, 188, 189, 190, 191, 192, 193, 194, 195, 196, 197] (by decide +kernel) (by decide +kernel)
set_option maxRecDepth 20000 in
theorem gX12_comes_X12_goesAway : GoodIn wsX12_comes (wsV RX12 459 RX12 yX12_goesAway wsX12_goesAway) := goodIn_app (goodIn_of _ (by decide +kernel)) ggX12_comes_X12_goesAway
theorem dX12_comes_0 : decode cX12_comes 0 = .ok (.aload_n 0, 1) := by decide +kernel
theorem dX12_comes_1 : decode cX12_comes 1 = .ok (.iload_n 1, 1) := by decide +kernel
theorem dX12_comes_2 : decode cX12_comes 2 = .ok (.iload_n 2, 1) := by decide +kernel
theorem dX12_comes_3 : decode cX12_comes 3 = .ok (.iload_n 3, 1) := by decide +kernel
theorem dX12_comes_4 : decode cX12_comes 4 = .ok (.invokevirtual 453, 3) := by decide +kernel
theorem dX12_comes_7 : decode cX12_comes 7 = .ok (.iconst 0, 1) := by decide +kernel
theorem dX12_comes_8 : decode cX12_comes 8 = .ok (.istore 4, 2) := by decide +kernel
theorem dX12_comes_10 : decode cX12_comes 10 = .ok (.iload 4, 2) := by decide +kernel
theorem dX12_comes_12 : decode cX12_comes 12 = .ok (.aload_n 0, 1) := by decide +kernel
theorem dX12_comes_13 : decode cX12_comes 13 = .ok (.getfield 433, 3) := by decide +kernel
theorem dX12_comes_16 : decode cX12_comes 16 = .ok (.if_icmp .ge 46, 3) := by decide +kernel
theorem dX12_comes_19 : decode cX12_comes 19 = .ok (.aload_n 0, 1) := by decide +kernel
theorem dX12_comes_20 : decode cX12_comes 20 = .ok (.bipush 100, 2) := by decide +kernel
theorem dX12_comes_22 : decode cX12_comes 22 = .ok (.invokevirtual 456, 3) := by decide +kernel
theorem dX12_comes_25 : decode cX12_comes 25 = .ok (.aload_n 0, 1) := by decide +kernel
theorem dX12_comes_26 : decode cX12_comes 26 = .ok (.aload_n 0, 1) := by decide +kernel
theorem dX12_comes_27 : decode cX12_comes 27 = .ok (.getfield 118, 3) := by decide +kernel
theorem dX12_comes_30 : decode cX12_comes 30 = .ok (.iload 4, 2) := by decide +kernel
theorem dX12_comes_32 : decode cX12_comes 32 = .ok (.iaload, 1) := by decide +kernel
theorem dX12_comes_33 : decode cX12_comes 33 = .ok (.iload_n 2, 1) := by decide +kernel
theorem dX12_comes_34 : decode cX12_comes 34 = .ok (.aload_n 0, 1) := by decide +kernel
theorem dX12_comes_35 : decode cX12_comes 35 = .ok (.getfield 88, 3) := by decide +kernel
theorem dX12_comes_38 : decode cX12_comes 38 = .ok (.iconst 5, 1) := by decide +kernel
theorem dX12_comes_39 : decode cX12_comes 39 = .ok (.iload_n 1, 1) := by decide +kernel
theorem dX12_comes_40 : decode cX12_comes 40 = .ok (.imul, 1) := by decide +kernel
theorem dX12_comes_41 : decode cX12_comes 41 = .ok (.aload_n 0, 1) := by decide +kernel
theorem dX12_comes_42 : decode cX12_comes 42 = .ok (.getfield 118, 3) := by decide +kernel
theorem dX12_comes_45 : decode cX12_comes 45 = .ok (.iload 4, 2) := by decide +kernel
theorem dX12_comes_47 : decode cX12_comes 47 = .ok (.iaload, 1) := by decide +kernel
theorem dX12_comes_48 : decode cX12_comes 48 = .ok (.iadd, 1) := by decide +kernel
theorem dX12_comes_49 : decode cX12_comes 49 = .ok (.iaload, 1) := by decide +kernel
theorem dX12_comes_50 : decode cX12_comes 50 = .ok (.invokevirtual 425, 3) := by decide +kernel
theorem dX12_comes_53 : decode cX12_comes 53 = .ok (.if_icmp .lt 9, 3) := by decide +kernel
theorem dX12_comes_56 : decode cX12_comes 56 = .ok (.iinc 4 1, 3) := by decide +kernel
theorem dX12_comes_59 : decode cX12_comes 59 = .ok (.goto (-49), 3) := by decide +kernel
theorem dX12_comes_62 : decode cX12_comes 62 = .ok (.iload 4, 2) := by decide +kernel
theorem dX12_comes_64 : decode cX12_comes 64 = .ok (.aload_n 0, 1) := by decide +kernel
theorem dX12_comes_65 : decode cX12_comes 65 = .ok (.getfield 433, 3) := by decide +kernel
theorem dX12_comes_68 : decode cX12_comes 68 = .ok (.if_icmp .ne 26, 3) := by decide +kernel
theorem dX12_comes_71 : decode cX12_comes 71 = .ok (.aload_n 0, 1) := by decide +kernel
theorem dX12_comes_72 : decode cX12_comes 72 = .ok (.getfield 103, 3) := by decide +kernel
theorem dX12_comes_75 : decode cX12_comes 75 = .ok (.bipush 28, 2) := by decide +kernel
theorem dX12_comes_77 : decode cX12_comes 77 = .ok (.iload_n 1, 1) := by decide +kernel
theorem dX12_comes_78 : decode cX12_comes 78 = .ok (.imul, 1) := by decide +kernel
theorem dX12_comes_79 : decode cX12_comes 79 = .ok (.iload_n 2, 1) := by decide +kernel
theorem dX12_comes_80 : decode cX12_comes 80 = .ok (.iadd, 1) := by decide +kernel
theorem dX12_comes_81 : decode cX12_comes 81 = .ok (.iconst (-1), 1) := by decide +kernel
theorem dX12_comes_82 : decode cX12_comes 82 = .ok (.iastore, 1) := by decide +kernel
theorem dX12_comes_83 : decode cX12_comes 83 = .ok (.aload_n 0, 1) := by decide +kernel
theorem dX12_comes_84 : decode cX12_comes 84 = .ok (.getfield 112, 3) := by decide +kernel
theorem dX12_comes_87 : decode cX12_comes 87 = .ok (.iload_n 1, 1) := by decide +kernel
theorem dX12_comes_88 : decode cX12_comes 88 = .ok (.dup2, 1) := by decide +kernel
theorem dX12_comes_89 : decode cX12_comes 89 = .ok (.iaload, 1) := by decide +kernel
theorem dX12_comes_90 : decode cX12_comes 90 = .ok (.iconst 1, 1) := by decide +kernel
theorem dX12_comes_91 : decode cX12_comes 91 = .ok (.iadd, 1) := by decide +kernel
theorem dX12_comes_92 : decode cX12_comes 92 = .ok (.iastore, 1) := by decide +kernel
theorem dX12_comes_93 : decode cX12_comes 93 = .ok (.return_, 1) := by decide +kernel
theorem dX12_comes_94 : decode cX12_comes 94 = .ok (.aload_n 0, 1) := by decide +kernel
theorem dX12_comes_95 : decode cX12_comes 95 = .ok (.getfield 118, 3) := by decide +kernel
theorem dX12_comes_98 : decode cX12_comes 98 = .ok (.iload 4, 2) := by decide +kernel
theorem dX12_comes_100 : decode cX12_comes 100 = .ok (.iaload, 1) := by decide +kernel
theorem dX12_comes_101 : decode cX12_comes 101 = .ok (.istore 5, 2) := by decide +kernel
theorem dX12_comes_103 : decode cX12_comes 103 = .ok (.iload 4, 2) := by decide +kernel
theorem dX12_comes_105 : decode cX12_comes 105 = .ok (.iconst 1, 1) := by decide +kernel
theorem dX12_comes_106 : decode cX12_comes 106 = .ok (.iadd, 1) := by decide +kernel
theorem dX12_comes_107 : decode cX12_comes 107 = .ok (.istore 6, 2) := by decide +kernel
theorem dX12_comes_109 : decode cX12_comes 109 = .ok (.iload 6, 2) := by decide +kernel
theorem dX12_comes_111 : decode cX12_comes 111 = .ok (.aload_n 0, 1) := by decide +kernel
theorem dX12_comes_112 : decode cX12_comes 112 = .ok (.getfield 433, 3) := by decide +kernel
theorem dX12_comes_115 : decode cX12_comes 115 = .ok (.if_icmp .ge 135, 3) := by decide +kernel
theorem dX12_comes_118 : decode cX12_comes 118 = .ok (.aload_n 0, 1) := by decide +kernel
theorem dX12_comes_119 : decode cX12_comes 119 = .ok (.getfield 115, 3) := by decide +kernel
theorem dX12_comes_122 : decode cX12_comes 122 = .ok (.ifCond .ne 7, 3) := by decide +kernel
theorem dX12_comes_125 : decode cX12_comes 125 = .ok (.iconst 0, 1) := by decide +kernel
theorem dX12_comes_126 : decode cX12_comes 126 = .ok (.goto 15, 3) := by decide +kernel
theorem dX12_comes_129 : decode cX12_comes 129 = .ok (.aload_n 0, 1) := by decide +kernel
theorem dX12_comes_130 : decode cX12_comes 130 = .ok (.getfield 39, 3) := by decide +kernel
theorem dX12_comes_133 : decode cX12_comes 133 = .ok (.aload_n 0, 1) := by decide +kernel
theorem dX12_comes_134 : decode cX12_comes 134 = .ok (.getfield 118, 3) := by decide +kernel
theorem dX12_comes_137 : decode cX12_comes 137 = .ok (.iload 6, 2) := by decide +kernel
theorem dX12_comes_139 : decode cX12_comes 139 = .ok (.iaload, 1) := by decide +kernel
theorem dX12_comes_140 : decode cX12_comes 140 = .ok (.iaload, 1) := by decide +kernel
theorem dX12_comes_141 : decode cX12_comes 141 = .ok (.istore 7, 2) := by decide +kernel
theorem dX12_comes_143 : decode cX12_comes 143 = .ok (.iload 7, 2) := by decide +kernel
theorem dX12_comes_145 : decode cX12_comes 145 = .ok (.ifCond .eq 99, 3) := by decide +kernel
theorem dX12_comes_148 : decode cX12_comes 148 = .ok (.aload_n 0, 1) := by decide +kernel
theorem dX12_comes_149 : decode cX12_comes 149 = .ok (.bipush 100, 2) := by decide +kernel
theorem dX12_comes_151 : decode cX12_comes 151 = .ok (.invokevirtual 456, 3) := by decide +kernel
theorem dX12_comes_154 : decode cX12_comes 154 = .ok (.iload 7, 2) := by decide +kernel
theorem dX12_comes_156 : decode cX12_comes 156 = .ok (.if_icmp .lt 6, 3) := by decide +kernel
theorem dX12_comes_159 : decode cX12_comes 159 = .ok (.goto 85, 3) := by decide +kernel
theorem dX12_comes_162 : decode cX12_comes 162 = .ok (.aload_n 0, 1) := by decide +kernel
theorem dX12_comes_163 : decode cX12_comes 163 = .ok (.getfield 103, 3) := by decide +kernel
theorem dX12_comes_166 : decode cX12_comes 166 = .ok (.bipush 28, 2) := by decide +kernel
theorem dX12_comes_168 : decode cX12_comes 168 = .ok (.iload_n 1, 1) := by decide +kernel
theorem dX12_comes_169 : decode cX12_comes 169 = .ok (.imul, 1) := by decide +kernel
theorem dX12_comes_170 : decode cX12_comes 170 = .ok (.iload_n 2, 1) := by decide +kernel
theorem dX12_comes_171 : decode cX12_comes 171 = .ok (.iadd, 1) := by decide +kernel
theorem dX12_comes_172 : decode cX12_comes 172 = .ok (.bipush (-3), 2) := by decide +kernel
theorem dX12_comes_174 : decode cX12_comes 174 = .ok (.iastore, 1) := by decide +kernel
theorem dX12_comes_175 : decode cX12_comes 175 = .ok (.aload_n 0, 1) := by decide +kernel
theorem dX12_comes_176 : decode cX12_comes 176 = .ok (.getfield 109, 3) := by decide +kernel
theorem dX12_comes_179 : decode cX12_comes 179 = .ok (.iload_n 1, 1) := by decide +kernel
theorem dX12_comes_180 : decode cX12_comes 180 = .ok (.dup2, 1) := by decide +kernel
theorem dX12_comes_181 : decode cX12_comes 181 = .ok (.iaload, 1) := by decide +kernel
theorem dX12_comes_182 : decode cX12_comes 182 = .ok (.iconst 1, 1) := by decide +kernel
theorem dX12_comes_183 : decode cX12_comes 183 = .ok (.iadd, 1) := by decide +kernel
theorem dX12_comes_184 : decode cX12_comes 184 = .ok (.iastore, 1) := by decide +kernel
theorem dX12_comes_185 : decode cX12_comes 185 = .ok (.aload_n 0, 1) := by decide +kernel
theorem dX12_comes_186 : decode cX12_comes 186 = .ok (.getfield 94, 3) := by decide +kernel
theorem dX12_comes_189 : decode cX12_comes 189 = .ok (.iconst 5, 1) := by decide +kernel
theorem dX12_comes_190 : decode cX12_comes 190 = .ok (.iload_n 1, 1) := by decide +kernel
theorem dX12_comes_191 : decode cX12_comes 191 = .ok (.imul, 1) := by decide +kernel
theorem dX12_comes_192 : decode cX12_comes 192 = .ok (.iload 5, 2) := by decide +kernel
theorem dX12_comes_194 : decode cX12_comes 194 = .ok (.iadd, 1) := by decide +kernel
theorem dX12_comes_195 : decode cX12_comes 195 = .ok (.dup2, 1) := by decide +kernel
theorem dX12_comes_196 : decode cX12_comes 196 = .ok (.iaload, 1) := by decide +kernel
theorem dX12_comes_197 : decode cX12_comes 197 = .ok (.iconst 1, 1) := by decide +kernel
theorem dX12_comes_198 : decode cX12_comes 198 = .ok (.iadd, 1) := by decide +kernel
theorem dX12_comes_199 : decode cX12_comes 199 = .ok (.iastore, 1) := by decide +kernel
theorem dX12_comes_200 : decode cX12_comes 200 = .ok (.aload_n 0, 1) := by decide +kernel
theorem dX12_comes_201 : decode cX12_comes 201 = .ok (.getfield 94, 3) := by decide +kernel
theorem dX12_comes_204 : decode cX12_comes 204 = .ok (.iconst 5, 1) := by decide +kernel
theorem dX12_comes_205 : decode cX12_comes 205 = .ok (.iload_n 1, 1) := by decide +kernel
theorem dX12_comes_206 : decode cX12_comes 206 = .ok (.imul, 1) := by decide +kernel
theorem dX12_comes_207 : decode cX12_comes 207 = .ok (.aload_n 0, 1) := by decide +kernel
theorem dX12_comes_208 : decode cX12_comes 208 = .ok (.getfield 118, 3) := by decide +kernel
theorem dX12_comes_211 : decode cX12_comes 211 = .ok (.iload 6, 2) := by decide +kernel
theorem dX12_comes_213 : decode cX12_comes 213 = .ok (.iaload, 1) := by decide +kernel
theorem dX12_comes_214 : decode cX12_comes 214 = .ok (.iadd, 1) := by decide +kernel
theorem dX12_comes_215 : decode cX12_comes 215 = .ok (.dup2, 1) := by decide +kernel
theorem dX12_comes_216 : decode cX12_comes 216 = .ok (.iaload, 1) := by decide +kernel
theorem dX12_comes_217 : decode cX12_comes 217 = .ok (.iconst 1, 1) := by decide +kernel
theorem dX12_comes_218 : decode cX12_comes 218 = .ok (.iadd, 1) := by decide +kernel
theorem dX12_comes_219 : decode cX12_comes 219 = .ok (.iastore, 1) := by decide +kernel
theorem dX12_comes_220 : decode cX12_comes 220 = .ok (.aload_n 0, 1) := by decide +kernel
theorem dX12_comes_221 : decode cX12_comes 221 = .ok (.iload_n 1, 1) := by decide +kernel
theorem dX12_comes_222 : decode cX12_comes 222 = .ok (.iload 5, 2) := by decide +kernel
theorem dX12_comes_224 : decode cX12_comes 224 = .ok (.iload_n 2, 1) := by decide +kernel
theorem dX12_comes_225 : decode cX12_comes 225 = .ok (.iconst 2, 1) := by decide +kernel
theorem dX12_comes_226 : decode cX12_comes 226 = .ok (.invokevirtual 459, 3) := by decide +kernel
theorem dX12_comes_229 : decode cX12_comes 229 = .ok (.aload_n 0, 1) := by decide +kernel
theorem dX12_comes_230 : decode cX12_comes 230 = .ok (.iload_n 1, 1) := by decide +kernel
theorem dX12_comes_231 : decode cX12_comes 231 = .ok (.aload_n 0, 1) := by decide +kernel
theorem dX12_comes_232 : decode cX12_comes 232 = .ok (.getfield 118, 3) := by decide +kernel
theorem dX12_comes_235 : decode cX12_comes 235 = .ok (.iload 6, 2) := by decide +kernel
theorem dX12_comes_237 : decode cX12_comes 237 = .ok (.iaload, 1) := by decide +kernel
theorem dX12_comes_238 : decode cX12_comes 238 = .ok (.iload_n 2, 1) := by decide +kernel
theorem dX12_comes_239 : decode cX12_comes 239 = .ok (.iconst 2, 1) := by decide +kernel
theorem dX12_comes_240 : decode cX12_comes 240 = .ok (.invokevirtual 459, 3) := by decide +kernel
theorem dX12_comes_243 : decode cX12_comes 243 = .ok (.return_, 1) := by decide +kernel
theorem dX12_comes_244 : decode cX12_comes 244 = .ok (.iinc 6 1, 3) := by decide +kernel
theorem dX12_comes_247 : decode cX12_comes 247 = .ok (.goto (-138), 3) := by decide +kernel
theorem dX12_comes_250 : decode cX12_comes 250 = .ok (.aload_n 0, 1) := by decide +kernel
theorem dX12_comes_251 : decode cX12_comes 251 = .ok (.getfield 103, 3) := by decide +kernel
theorem dX12_comes_254 : decode cX12_comes 254 = .ok (.bipush 28, 2) := by decide +kernel
theorem dX12_comes_256 : decode cX12_comes 256 = .ok (.iload_n 1, 1) := by decide +kernel
theorem dX12_comes_257 : decode cX12_comes 257 = .ok (.imul, 1) := by decide +kernel
theorem dX12_comes_258 : decode cX12_comes 258 = .ok (.iload_n 2, 1) := by decide +kernel
theorem dX12_comes_259 : decode cX12_comes 259 = .ok (.iadd, 1) := by decide +kernel
theorem dX12_comes_260 : decode cX12_comes 260 = .ok (.iload 5, 2) := by decide +kernel
theorem dX12_comes_262 : decode cX12_comes 262 = .ok (.iastore, 1) := by decide +kernel
theorem dX12_comes_263 : decode cX12_comes 263 = .ok (.aload_n 0, 1) := by decide +kernel
theorem dX12_comes_264 : decode cX12_comes 264 = .ok (.getfield 91, 3) := by decide +kernel
theorem dX12_comes_267 : decode cX12_comes 267 = .ok (.iconst 5, 1) := by decide +kernel
theorem dX12_comes_268 : decode cX12_comes 268 = .ok (.iload_n 1, 1) := by decide +kernel
theorem dX12_comes_269 : decode cX12_comes 269 = .ok (.imul, 1) := by decide +kernel
theorem dX12_comes_270 : decode cX12_comes 270 = .ok (.iload 5, 2) := by decide +kernel
theorem dX12_comes_272 : decode cX12_comes 272 = .ok (.iadd, 1) := by decide +kernel
theorem dX12_comes_273 : decode cX12_comes 273 = .ok (.dup2, 1) := by decide +kernel
theorem dX12_comes_274 : decode cX12_comes 274 = .ok (.iaload, 1) := by decide +kernel
theorem dX12_comes_275 : decode cX12_comes 275 = .ok (.iconst 1, 1) := by decide +kernel
theorem dX12_comes_276 : decode cX12_comes 276 = .ok (.iadd, 1) := by decide +kernel
theorem dX12_comes_277 : decode cX12_comes 277 = .ok (.iastore, 1) := by decide +kernel
theorem dX12_comes_278 : decode cX12_comes 278 = .ok (.aload_n 0, 1) := by decide +kernel
theorem dX12_comes_279 : decode cX12_comes 279 = .ok (.iload_n 1, 1) := by decide +kernel
theorem dX12_comes_280 : decode cX12_comes 280 = .ok (.iload 5, 2) := by decide +kernel
theorem dX12_comes_282 : decode cX12_comes 282 = .ok (.iload_n 2, 1) := by decide +kernel
theorem dX12_comes_283 : decode cX12_comes 283 = .ok (.iconst 1, 1) := by decide +kernel
theorem dX12_comes_284 : decode cX12_comes 284 = .ok (.invokevirtual 459, 3) := by decide +kernel
theorem dX12_comes_287 : decode cX12_comes 287 = .ok (.return_, 1) := by decide +kernel
set_option maxRecDepth 20000 in
theorem ggX12_aMinute_X12_comes : GoodIn wsX12_aMinute wsX12_comes := goodIn_r _ [10, 11, 12, 13, 14, 15, 16, 17, 18, 19, 20, 21, 22, 23, 9, 24, 4, 25, 26, 27, 28, 5, 29, 30, 31, 32, 33, 34, 35, 36, 37, 2, 38, 39, 40, 41, 42, 43, 44, 45, 46, 47, 48, 49, 50, 51, 52, 53, 54, 55, 56, 57, 58, 59, 60, 61, 62, 63, 64, 65, 66, 67, 68, 69, 70, 71, 72, 73, 74, 75, 76, 77, 78, 79, 80, 81, 82, 83, 84, 85, 86, 87, 88, 89, 90, 91, 92, 93, 94, 95, 96, 97, 1, 98, 99, 100, 101, 102, 103, 104, 105, 106, 107, 108, 109, 110, 3, 111, 112, 113, 114, 115, 116, 117, 118, 119, 120, 121, 122, 123, 124, 125, 126, 127, 128, 129, 130, 131, 132, 133, 134, 135, 136, 137, 138, 139, 140, 141, 142, 143, 144, 145, 146, 147, 148, 149, 150, 151, 152, 153, 154, 155, 156, 157, 158, 159, 160, 161, 162, 163, 164, 165, 166, 167, 168, 169, 170, 171, 172, 173, 174, 175, 176, 177, 178, 179, 180, 181, 182, 183, 184, 185, 186, 187, 188, 189, 190, 191, 192, 193, 194, 195, 196, 197, 198, 199, 200, 201] (by decide +kernel) (by decide +kernel)
set_option maxRecDepth 20000 in
theorem gX12_aMinute_X12_comes : GoodIn wsX12_aMinute (wsV RX12 463 RX12 yX12_comes wsX12_comes) := goodIn_app (goodIn_of _ (by decide +kernel)) ggX12_aMinute_X12_comes
theorem dX12_aMinute_0 : decode cX12_aMinute 0 = .ok (.iconst 0, 1) := by decide +kernel
theorem dX12_aMinute_1 : decode cX12_aMinute 1 = .ok (.istore_n 3, 1) := by decide +kernel
theorem dX12_aMinute_2 : decode cX12_aMinute 2 = .ok (.iload_n 3, 1) := by decide +kernel
theorem dX12_aMinute_3 : decode cX12_aMinute 3 = .ok (.aload_n 0, 1) := by decide +kernel
theorem dX12_aMinute_4 : decode cX12_aMinute 4 = .ok (.getfield 253, 3) := by decide +kernel
theorem dX12_aMinute_7 : decode cX12_aMinute 7 = .ok (.if_icmp .ge 31, 3) := by decide +kernel
theorem dX12_aMinute_10 : decode cX12_aMinute 10 = .ok (.aload_n 0, 1) := by decide +kernel
theorem dX12_aMinute_11 : decode cX12_aMinute 11 = .ok (.getfield 48, 3) := by decide +kernel
theorem dX12_aMinute_14 : decode cX12_aMinute 14 = .ok (.iload_n 3, 1) := by decide +kernel
theorem dX12_aMinute_15 : decode cX12_aMinute 15 = .ok (.iaload, 1) := by decide +kernel
theorem dX12_aMinute_16 : decode cX12_aMinute 16 = .ok (.aload_n 0, 1) := by decide +kernel
theorem dX12_aMinute_17 : decode cX12_aMinute 17 = .ok (.getfield 106, 3) := by decide +kernel
theorem dX12_aMinute_20 : decode cX12_aMinute 20 = .ok (.iload_n 1, 1) := by decide +kernel
theorem dX12_aMinute_21 : decode cX12_aMinute 21 = .ok (.iaload, 1) := by decide +kernel
theorem dX12_aMinute_22 : decode cX12_aMinute 22 = .ok (.if_icmp .ne 10, 3) := by decide +kernel
theorem dX12_aMinute_25 : decode cX12_aMinute 25 = .ok (.aload_n 0, 1) := by decide +kernel
theorem dX12_aMinute_26 : decode cX12_aMinute 26 = .ok (.iload_n 1, 1) := by decide +kernel
theorem dX12_aMinute_27 : decode cX12_aMinute 27 = .ok (.iload_n 3, 1) := by decide +kernel
theorem dX12_aMinute_28 : decode cX12_aMinute 28 = .ok (.iload_n 2, 1) := by decide +kernel
theorem dX12_aMinute_29 : decode cX12_aMinute 29 = .ok (.invokevirtual 463, 3) := by decide +kernel
theorem dX12_aMinute_32 : decode cX12_aMinute 32 = .ok (.iinc 3 1, 3) := by decide +kernel
theorem dX12_aMinute_35 : decode cX12_aMinute 35 = .ok (.goto (-33), 3) := by decide +kernel
theorem dX12_aMinute_38 : decode cX12_aMinute 38 = .ok (.aload_n 0, 1) := by decide +kernel
theorem dX12_aMinute_39 : decode cX12_aMinute 39 = .ok (.getfield 106, 3) := by decide +kernel
theorem dX12_aMinute_42 : decode cX12_aMinute 42 = .ok (.iload_n 1, 1) := by decide +kernel
theorem dX12_aMinute_43 : decode cX12_aMinute 43 = .ok (.dup2, 1) := by decide +kernel
theorem dX12_aMinute_44 : decode cX12_aMinute 44 = .ok (.iaload, 1) := by decide +kernel
theorem dX12_aMinute_45 : decode cX12_aMinute 45 = .ok (.iconst 1, 1) := by decide +kernel
theorem dX12_aMinute_46 : decode cX12_aMinute 46 = .ok (.iadd, 1) := by decide +kernel
theorem dX12_aMinute_47 : decode cX12_aMinute 47 = .ok (.iastore, 1) := by decide +kernel
theorem dX12_aMinute_48 : decode cX12_aMinute 48 = .ok (.iconst 0, 1) := by decide +kernel
theorem dX12_aMinute_49 : decode cX12_aMinute 49 = .ok (.istore_n 3, 1) := by decide +kernel
theorem dX12_aMinute_50 : decode cX12_aMinute 50 = .ok (.iload_n 3, 1) := by decide +kernel
theorem dX12_aMinute_51 : decode cX12_aMinute 51 = .ok (.aload_n 0, 1) := by decide +kernel
theorem dX12_aMinute_52 : decode cX12_aMinute 52 = .ok (.getfield 247, 3) := by decide +kernel
theorem dX12_aMinute_55 : decode cX12_aMinute 55 = .ok (.if_icmp .ge 39, 3) := by decide +kernel
theorem dX12_aMinute_58 : decode cX12_aMinute 58 = .ok (.aload_n 0, 1) := by decide +kernel
theorem dX12_aMinute_59 : decode cX12_aMinute 59 = .ok (.getfield 97, 3) := by decide +kernel
theorem dX12_aMinute_62 : decode cX12_aMinute 62 = .ok (.iconst 5, 1) := by decide +kernel
theorem dX12_aMinute_63 : decode cX12_aMinute 63 = .ok (.iload_n 1, 1) := by decide +kernel
theorem dX12_aMinute_64 : decode cX12_aMinute 64 = .ok (.imul, 1) := by decide +kernel
theorem dX12_aMinute_65 : decode cX12_aMinute 65 = .ok (.iload_n 3, 1) := by decide +kernel
theorem dX12_aMinute_66 : decode cX12_aMinute 66 = .ok (.iadd, 1) := by decide +kernel
theorem dX12_aMinute_67 : decode cX12_aMinute 67 = .ok (.iaload, 1) := by decide +kernel
theorem dX12_aMinute_68 : decode cX12_aMinute 68 = .ok (.aload_n 0, 1) := by decide +kernel
theorem dX12_aMinute_69 : decode cX12_aMinute 69 = .ok (.getfield 106, 3) := by decide +kernel
theorem dX12_aMinute_72 : decode cX12_aMinute 72 = .ok (.iload_n 1, 1) := by decide +kernel
theorem dX12_aMinute_73 : decode cX12_aMinute 73 = .ok (.iaload, 1) := by decide +kernel
theorem dX12_aMinute_74 : decode cX12_aMinute 74 = .ok (.if_icmp .ne 14, 3) := by decide +kernel
theorem dX12_aMinute_77 : decode cX12_aMinute 77 = .ok (.aload_n 0, 1) := by decide +kernel
theorem dX12_aMinute_78 : decode cX12_aMinute 78 = .ok (.getfield 97, 3) := by decide +kernel
theorem dX12_aMinute_81 : decode cX12_aMinute 81 = .ok (.iconst 5, 1) := by decide +kernel
theorem dX12_aMinute_82 : decode cX12_aMinute 82 = .ok (.iload_n 1, 1) := by decide +kernel
theorem dX12_aMinute_83 : decode cX12_aMinute 83 = .ok (.imul, 1) := by decide +kernel
theorem dX12_aMinute_84 : decode cX12_aMinute 84 = .ok (.iload_n 3, 1) := by decide +kernel
theorem dX12_aMinute_85 : decode cX12_aMinute 85 = .ok (.iadd, 1) := by decide +kernel
theorem dX12_aMinute_86 : decode cX12_aMinute 86 = .ok (.iconst 0, 1) := by decide +kernel
theorem dX12_aMinute_87 : decode cX12_aMinute 87 = .ok (.iastore, 1) := by decide +kernel
theorem dX12_aMinute_88 : decode cX12_aMinute 88 = .ok (.iinc 3 1, 3) := by decide +kernel
theorem dX12_aMinute_91 : decode cX12_aMinute 91 = .ok (.goto (-41), 3) := by decide +kernel
theorem dX12_aMinute_94 : decode cX12_aMinute 94 = .ok (.return_, 1) := by decide +kernel
set_option maxRecDepth 20000 in
theorem ggX12_stroke_X12_isSurfer : GoodIn wsX12_stroke wsX12_isSurfer := goodIn_r _ [9, 10, 27, 28, 29, 30, 31, 32, 33, 34, 35, 36, 37, 38, 39, 40, 41, 42, 43, 44, 45, 46, 47, 48, 49, 50, 51, 52, 53, 54, 55, 56, 57, 58, 59, 60, 61, 62, 63, 64, 65, 66, 67, 68, 69, 70, 71, 72, 73, 74, 75, 76, 77, 78, 79, 80, 81, 82, 83, 84, 85, 86, 87, 88, 89, 90, 91, 92, 93, 94, 95, 96, 97, 98, 99, 100, 101, 102, 103, 104, 105, 106, 107, 108, 109, 110, 111, 112, 113] (by decide +kernel) (by decide +kernel)
set_option maxRecDepth 20000 in
theorem gX12_stroke_X12_isSurfer : GoodIn wsX12_stroke (wsV RX12 413 RX12 yX12_isSurfer wsX12_isSurfer) := goodIn_app (goodIn_of _ (by decide +kernel)) ggX12_stroke_X12_isSurfer
set_option maxRecDepth 20000 in
theorem ggX12_stroke_X12_isIn : GoodIn wsX12_stroke wsX12_isIn := goodIn_r _ [13] (by decide +kernel) (by decide +kernel)
set_option maxRecDepth 20000 in
theorem gX12_stroke_X12_isIn : GoodIn wsX12_stroke (va_wsS RX12 199 yX12_isIn wsX12_isIn) := goodIn_app (goodIn_of _ (by decide +kernel)) ggX12_stroke_X12_isIn
set_option maxRecDepth 20000 in
theorem ggX12_stroke_X12_beside : GoodIn wsX12_stroke wsX12_beside := goodIn_r _ [17, 18, 19, 11, 12, 8, 13, 27, 28, 29, 30, 31, 32, 33, 34, 35, 36, 37, 38, 39, 40, 41, 42, 43, 44, 45, 46, 47, 48, 49, 50, 51, 52, 53, 54, 55, 56, 57, 58, 59, 60, 61, 62, 63, 64, 65, 66, 67, 68, 69, 70, 71, 72, 73, 74, 75, 76, 77, 78, 79, 80, 81, 82, 83, 84, 85, 86, 87, 88, 89, 90, 91, 92, 93, 94, 95, 96, 97, 98, 99, 100, 101, 102, 103, 104, 105, 106, 107, 108, 109, 110, 111, 112, 113] (by decide +kernel) (by decide +kernel)
set_option maxRecDepth 20000 in
theorem gX12_stroke_X12_beside : GoodIn wsX12_stroke (wsV RX12 466 RX12 yX12_beside wsX12_beside) := goodIn_app (goodIn_of _ (by decide +kernel)) ggX12_stroke_X12_beside
set_option maxRecDepth 20000 in
theorem ggX12_stroke_X12_remember : GoodIn wsX12_stroke wsX12_remember := goodIn_r _ [23, 24, 25, 2, 4, 26, 27, 28, 29, 30, 31, 32, 33, 34, 35, 36, 37, 38, 39, 40, 41, 42, 43, 44, 45, 46, 47, 48, 49, 50, 51, 52, 53, 54, 55, 56, 57, 58, 59, 60, 61, 62, 63, 64, 65, 66, 67, 68, 69, 70, 71, 72, 73, 74, 75, 76, 77, 78, 79, 80, 81, 82, 83, 84, 85, 86, 87, 88, 89, 90, 91, 92, 93, 94, 95, 96, 97, 98, 99, 100, 101, 102, 103, 104, 105, 106, 107, 108, 109, 110, 111, 112, 113] (by decide +kernel) (by decide +kernel)
set_option maxRecDepth 20000 in
theorem gX12_stroke_X12_remember : GoodIn wsX12_stroke (wsV RX12 469 RX12 yX12_remember wsX12_remember) := goodIn_app (goodIn_of _ (by decide +kernel)) ggX12_stroke_X12_remember
theorem dX12_stroke_0 : decode cX12_stroke 0 = .ok (.aload_n 0, 1) := by decide +kernel
theorem dX12_stroke_1 : decode cX12_stroke 1 = .ok (.iconst 0, 1) := by decide +kernel
theorem dX12_stroke_2 : decode cX12_stroke 2 = .ok (.putfield 154, 3) := by decide +kernel
theorem dX12_stroke_5 : decode cX12_stroke 5 = .ok (.aload_n 0, 1) := by decide +kernel
theorem dX12_stroke_6 : decode cX12_stroke 6 = .ok (.iload_n 1, 1) := by decide +kernel
theorem dX12_stroke_7 : decode cX12_stroke 7 = .ok (.invokevirtual 413, 3) := by decide +kernel
theorem dX12_stroke_10 : decode cX12_stroke 10 = .ok (.ifCond .eq 12, 3) := by decide +kernel
theorem dX12_stroke_13 : decode cX12_stroke 13 = .ok (.iload_n 2, 1) := by decide +kernel
theorem dX12_stroke_14 : decode cX12_stroke 14 = .ok (.iconst 0, 1) := by decide +kernel
theorem dX12_stroke_15 : decode cX12_stroke 15 = .ok (.iconst 3, 1) := by decide +kernel
theorem dX12_stroke_16 : decode cX12_stroke 16 = .ok (.invokestatic 199, 3) := by decide +kernel
theorem dX12_stroke_19 : decode cX12_stroke 19 = .ok (.ifCond .ne 5, 3) := by decide +kernel
theorem dX12_stroke_22 : decode cX12_stroke 22 = .ok (.iconst (-1), 1) := by decide +kernel
theorem dX12_stroke_23 : decode cX12_stroke 23 = .ok (.ireturn, 1) := by decide +kernel
theorem dX12_stroke_24 : decode cX12_stroke 24 = .ok (.aload_n 0, 1) := by decide +kernel
theorem dX12_stroke_25 : decode cX12_stroke 25 = .ok (.aload_n 0, 1) := by decide +kernel
theorem dX12_stroke_26 : decode cX12_stroke 26 = .ok (.getfield 88, 3) := by decide +kernel
theorem dX12_stroke_29 : decode cX12_stroke 29 = .ok (.iload_n 1, 1) := by decide +kernel
theorem dX12_stroke_30 : decode cX12_stroke 30 = .ok (.iaload, 1) := by decide +kernel
theorem dX12_stroke_31 : decode cX12_stroke 31 = .ok (.iload_n 2, 1) := by decide +kernel
theorem dX12_stroke_32 : decode cX12_stroke 32 = .ok (.invokevirtual 466, 3) := by decide +kernel
theorem dX12_stroke_35 : decode cX12_stroke 35 = .ok (.istore_n 3, 1) := by decide +kernel
theorem dX12_stroke_36 : decode cX12_stroke 36 = .ok (.iload_n 3, 1) := by decide +kernel
theorem dX12_stroke_37 : decode cX12_stroke 37 = .ok (.ifCond .lt 21, 3) := by decide +kernel
theorem dX12_stroke_40 : decode cX12_stroke 40 = .ok (.aload_n 0, 1) := by decide +kernel
theorem dX12_stroke_41 : decode cX12_stroke 41 = .ok (.getfield 97, 3) := by decide +kernel
theorem dX12_stroke_44 : decode cX12_stroke 44 = .ok (.iload_n 1, 1) := by decide +kernel
theorem dX12_stroke_45 : decode cX12_stroke 45 = .ok (.iaload, 1) := by decide +kernel
theorem dX12_stroke_46 : decode cX12_stroke 46 = .ok (.ifCond .gt 12, 3) := by decide +kernel
theorem dX12_stroke_49 : decode cX12_stroke 49 = .ok (.aload_n 0, 1) := by decide +kernel
theorem dX12_stroke_50 : decode cX12_stroke 50 = .ok (.getfield 100, 3) := by decide +kernel
theorem dX12_stroke_53 : decode cX12_stroke 53 = .ok (.iload_n 1, 1) := by decide +kernel
theorem dX12_stroke_54 : decode cX12_stroke 54 = .ok (.iaload, 1) := by decide +kernel
theorem dX12_stroke_55 : decode cX12_stroke 55 = .ok (.ifCond .ne 6, 3) := by decide +kernel
theorem dX12_stroke_58 : decode cX12_stroke 58 = .ok (.bipush (-2), 2) := by decide +kernel
theorem dX12_stroke_60 : decode cX12_stroke 60 = .ok (.ireturn, 1) := by decide +kernel
theorem dX12_stroke_61 : decode cX12_stroke 61 = .ok (.aload_n 0, 1) := by decide +kernel
theorem dX12_stroke_62 : decode cX12_stroke 62 = .ok (.invokevirtual 469, 3) := by decide +kernel
theorem dX12_stroke_65 : decode cX12_stroke 65 = .ok (.aload_n 0, 1) := by decide +kernel
theorem dX12_stroke_66 : decode cX12_stroke 66 = .ok (.getfield 88, 3) := by decide +kernel
theorem dX12_stroke_69 : decode cX12_stroke 69 = .ok (.iload_n 1, 1) := by decide +kernel
theorem dX12_stroke_70 : decode cX12_stroke 70 = .ok (.iload_n 3, 1) := by decide +kernel
theorem dX12_stroke_71 : decode cX12_stroke 71 = .ok (.iastore, 1) := by decide +kernel
theorem dX12_stroke_72 : decode cX12_stroke 72 = .ok (.aload_n 0, 1) := by decide +kernel
theorem dX12_stroke_73 : decode cX12_stroke 73 = .ok (.getfield 100, 3) := by decide +kernel
theorem dX12_stroke_76 : decode cX12_stroke 76 = .ok (.iload_n 1, 1) := by decide +kernel
theorem dX12_stroke_77 : decode cX12_stroke 77 = .ok (.dup2, 1) := by decide +kernel
theorem dX12_stroke_78 : decode cX12_stroke 78 = .ok (.iaload, 1) := by decide +kernel
theorem dX12_stroke_79 : decode cX12_stroke 79 = .ok (.iconst 1, 1) := by decide +kernel
theorem dX12_stroke_80 : decode cX12_stroke 80 = .ok (.isub, 1) := by decide +kernel
theorem dX12_stroke_81 : decode cX12_stroke 81 = .ok (.iastore, 1) := by decide +kernel
theorem dX12_stroke_82 : decode cX12_stroke 82 = .ok (.iload_n 3, 1) := by decide +kernel
theorem dX12_stroke_83 : decode cX12_stroke 83 = .ok (.ireturn, 1) := by decide +kernel
set_option maxRecDepth 20000 in
theorem ggX12_rule_X12_isIn : GoodIn wsX12_rule wsX12_isIn := goodIn_r _ [6] (by decide +kernel) (by decide +kernel)
set_option maxRecDepth 20000 in
theorem gX12_rule_X12_isIn : GoodIn wsX12_rule (va_wsS RX12 199 yX12_isIn wsX12_isIn) := goodIn_app (goodIn_of _ (by decide +kernel)) ggX12_rule_X12_isIn
set_option maxRecDepth 20000 in
theorem ggX12_rule_X12_remember : GoodIn wsX12_rule wsX12_remember := goodIn_r _ [10, 11, 12, 13, 14, 2, 15, 16, 17, 18, 19, 20, 21, 22, 23, 24, 25, 26, 27, 28, 29, 30, 31, 32, 33, 34, 35, 36, 37, 38, 39, 40, 41, 42, 43, 44, 45, 46, 47, 48, 49, 50, 51, 52, 53, 54, 55, 56, 57, 58, 59, 60, 61, 62, 63, 64, 65, 66, 67, 68, 69, 70, 71, 72, 73, 74, 75, 76, 77, 78, 79, 80, 81, 82, 83, 84, 85, 86, 87, 88, 89, 90, 91, 92, 93, 94, 95, 96, 97, 98, 99, 100, 101] (by decide +kernel) (by decide +kernel)
set_option maxRecDepth 20000 in
theorem gX12_rule_X12_remember : GoodIn wsX12_rule (wsV RX12 469 RX12 yX12_remember wsX12_remember) := goodIn_app (goodIn_of _ (by decide +kernel)) ggX12_rule_X12_remember
theorem dX12_rule_0 : decode cX12_rule 0 = .ok (.aload_n 0, 1) := by decide +kernel
theorem dX12_rule_1 : decode cX12_rule 1 = .ok (.iconst 0, 1) := by decide +kernel
theorem dX12_rule_2 : decode cX12_rule 2 = .ok (.putfield 154, 3) := by decide +kernel
theorem dX12_rule_5 : decode cX12_rule 5 = .ok (.iload_n 1, 1) := by decide +kernel
theorem dX12_rule_6 : decode cX12_rule 6 = .ok (.iconst 0, 1) := by decide +kernel
theorem dX12_rule_7 : decode cX12_rule 7 = .ok (.iconst 3, 1) := by decide +kernel
theorem dX12_rule_8 : decode cX12_rule 8 = .ok (.invokestatic 199, 3) := by decide +kernel
theorem dX12_rule_11 : decode cX12_rule 11 = .ok (.ifCond .eq 11, 3) := by decide +kernel
theorem dX12_rule_14 : decode cX12_rule 14 = .ok (.iload_n 1, 1) := by decide +kernel
theorem dX12_rule_15 : decode cX12_rule 15 = .ok (.aload_n 0, 1) := by decide +kernel
theorem dX12_rule_16 : decode cX12_rule 16 = .ok (.getfield 369, 3) := by decide +kernel
theorem dX12_rule_19 : decode cX12_rule 19 = .ok (.if_icmp .ne 5, 3) := by decide +kernel
theorem dX12_rule_22 : decode cX12_rule 22 = .ok (.iconst 0, 1) := by decide +kernel
theorem dX12_rule_23 : decode cX12_rule 23 = .ok (.ireturn, 1) := by decide +kernel
theorem dX12_rule_24 : decode cX12_rule 24 = .ok (.aload_n 0, 1) := by decide +kernel
theorem dX12_rule_25 : decode cX12_rule 25 = .ok (.invokevirtual 469, 3) := by decide +kernel
theorem dX12_rule_28 : decode cX12_rule 28 = .ok (.aload_n 0, 1) := by decide +kernel
theorem dX12_rule_29 : decode cX12_rule 29 = .ok (.iload_n 1, 1) := by decide +kernel
theorem dX12_rule_30 : decode cX12_rule 30 = .ok (.putfield 369, 3) := by decide +kernel
theorem dX12_rule_33 : decode cX12_rule 33 = .ok (.iconst 1, 1) := by decide +kernel
theorem dX12_rule_34 : decode cX12_rule 34 = .ok (.ireturn, 1) := by decide +kernel
set_option maxRecDepth 20000 in
theorem ggX12_minutes_X12_isIn : GoodIn wsX12_minutes wsX12_isIn := goodIn_r _ [11] (by decide +kernel) (by decide +kernel)
set_option maxRecDepth 20000 in
theorem gX12_minutes_X12_isIn : GoodIn wsX12_minutes (va_wsS RX12 199 yX12_isIn wsX12_isIn) := goodIn_app (goodIn_of _ (by decide +kernel)) ggX12_minutes_X12_isIn
set_option maxRecDepth 20000 in
theorem ggX12_minutes_X12_aMinute : GoodIn wsX12_minutes wsX12_aMinute := goodIn_r _ [15, 16, 17, 2, 4, 18, 19, 20, 21, 10, 22, 23, 24, 25, 26, 27, 28, 29, 30, 31, 32, 33, 34, 35, 36, 37, 38, 39, 40, 41, 42, 43, 44, 45, 46, 47, 48, 49, 50, 51, 52, 53, 54, 55, 56, 57, 58, 59, 60, 61, 62, 63, 64, 65, 66, 67, 68, 69, 70, 71, 72, 73, 74, 75, 76, 77, 78, 79, 80, 81, 82, 83, 84, 85, 86, 87, 88, 89, 90, 91, 92, 93, 94, 95, 96, 97, 98, 99, 100, 101, 102, 103, 104, 105, 106, 107, 108, 109, 110, 111, 112, 113, 114, 115, 116, 117, 118, 119, 120, 121, 122, 123, 124, 125, 126, 127, 128, 129, 130, 131, 132, 133, 134, 135, 136, 137, 138, 139, 140, 141, 142, 143, 144, 145, 146, 147, 148, 149, 150, 151, 152, 153, 154, 155, 156, 157, 158, 159, 160, 161, 162, 163, 164, 165, 166, 167, 168, 169, 170, 171, 172, 173, 174, 175, 176, 177, 178, 179, 180, 181, 182, 183, 184, 185, 186, 187, 188, 189, 190, 191, 192, 193, 194, 195, 196, 197, 198, 199, 200, 201, 202, 203, 204, 205, 206, 207, 208, 209, 210, 211, 212, 213] (by decide +kernel) (by decide +kernel)
set_option maxRecDepth 20000 in
theorem gX12_minutes_X12_aMinute : GoodIn wsX12_minutes (wsV RX12 472 RX12 yX12_aMinute wsX12_aMinute) := goodIn_app (goodIn_of _ (by decide +kernel)) ggX12_minutes_X12_aMinute
theorem dX12_minutes_0 : decode cX12_minutes 0 = .ok (.aload_n 0, 1) := by decide +kernel
theorem dX12_minutes_1 : decode cX12_minutes 1 = .ok (.iconst 0, 1) := by decide +kernel
theorem dX12_minutes_2 : decode cX12_minutes 2 = .ok (.putfield 154, 3) := by decide +kernel
theorem dX12_minutes_5 : decode cX12_minutes 5 = .ok (.iload_n 1, 1) := by decide +kernel
theorem dX12_minutes_6 : decode cX12_minutes 6 = .ok (.iconst 0, 1) := by decide +kernel
theorem dX12_minutes_7 : decode cX12_minutes 7 = .ok (.bipush 99, 2) := by decide +kernel
theorem dX12_minutes_9 : decode cX12_minutes 9 = .ok (.invokestatic 199, 3) := by decide +kernel
theorem dX12_minutes_12 : decode cX12_minutes 12 = .ok (.ifCond .eq 17, 3) := by decide +kernel
theorem dX12_minutes_15 : decode cX12_minutes 15 = .ok (.aload_n 0, 1) := by decide +kernel
theorem dX12_minutes_16 : decode cX12_minutes 16 = .ok (.getfield 106, 3) := by decide +kernel
theorem dX12_minutes_19 : decode cX12_minutes 19 = .ok (.iconst 0, 1) := by decide +kernel
theorem dX12_minutes_20 : decode cX12_minutes 20 = .ok (.iaload, 1) := by decide +kernel
theorem dX12_minutes_21 : decode cX12_minutes 21 = .ok (.iload_n 1, 1) := by decide +kernel
theorem dX12_minutes_22 : decode cX12_minutes 22 = .ok (.iadd, 1) := by decide +kernel
theorem dX12_minutes_23 : decode cX12_minutes 23 = .ok (.sipush 199, 3) := by decide +kernel
theorem dX12_minutes_26 : decode cX12_minutes 26 = .ok (.if_icmp .le 5, 3) := by decide +kernel
theorem dX12_minutes_29 : decode cX12_minutes 29 = .ok (.iconst (-1), 1) := by decide +kernel
theorem dX12_minutes_30 : decode cX12_minutes 30 = .ok (.ireturn, 1) := by decide +kernel
theorem dX12_minutes_31 : decode cX12_minutes 31 = .ok (.iconst 0, 1) := by decide +kernel
theorem dX12_minutes_32 : decode cX12_minutes 32 = .ok (.istore_n 2, 1) := by decide +kernel
theorem dX12_minutes_33 : decode cX12_minutes 33 = .ok (.iload_n 2, 1) := by decide +kernel
theorem dX12_minutes_34 : decode cX12_minutes 34 = .ok (.iload_n 1, 1) := by decide +kernel
theorem dX12_minutes_35 : decode cX12_minutes 35 = .ok (.if_icmp .ge 46, 3) := by decide +kernel
theorem dX12_minutes_38 : decode cX12_minutes 38 = .ok (.aload_n 0, 1) := by decide +kernel
theorem dX12_minutes_39 : decode cX12_minutes 39 = .ok (.iconst 0, 1) := by decide +kernel
theorem dX12_minutes_40 : decode cX12_minutes 40 = .ok (.aload_n 0, 1) := by decide +kernel
theorem dX12_minutes_41 : decode cX12_minutes 41 = .ok (.getfield 369, 3) := by decide +kernel
theorem dX12_minutes_44 : decode cX12_minutes 44 = .ok (.invokevirtual 472, 3) := by decide +kernel
theorem dX12_minutes_47 : decode cX12_minutes 47 = .ok (.iconst 0, 1) := by decide +kernel
theorem dX12_minutes_48 : decode cX12_minutes 48 = .ok (.istore_n 3, 1) := by decide +kernel
theorem dX12_minutes_49 : decode cX12_minutes 49 = .ok (.iload_n 3, 1) := by decide +kernel
theorem dX12_minutes_50 : decode cX12_minutes 50 = .ok (.aload_n 0, 1) := by decide +kernel
theorem dX12_minutes_51 : decode cX12_minutes 51 = .ok (.getfield 247, 3) := by decide +kernel
theorem dX12_minutes_54 : decode cX12_minutes 54 = .ok (.if_icmp .ge 21, 3) := by decide +kernel
theorem dX12_minutes_57 : decode cX12_minutes 57 = .ok (.aload_n 0, 1) := by decide +kernel
theorem dX12_minutes_58 : decode cX12_minutes 58 = .ok (.getfield 100, 3) := by decide +kernel
theorem dX12_minutes_61 : decode cX12_minutes 61 = .ok (.iload_n 3, 1) := by decide +kernel
theorem dX12_minutes_62 : decode cX12_minutes 62 = .ok (.aload_n 0, 1) := by decide +kernel
theorem dX12_minutes_63 : decode cX12_minutes 63 = .ok (.getfield 36, 3) := by decide +kernel
theorem dX12_minutes_66 : decode cX12_minutes 66 = .ok (.iload_n 3, 1) := by decide +kernel
theorem dX12_minutes_67 : decode cX12_minutes 67 = .ok (.iaload, 1) := by decide +kernel
theorem dX12_minutes_68 : decode cX12_minutes 68 = .ok (.iastore, 1) := by decide +kernel
theorem dX12_minutes_69 : decode cX12_minutes 69 = .ok (.iinc 3 1, 3) := by decide +kernel
theorem dX12_minutes_72 : decode cX12_minutes 72 = .ok (.goto (-23), 3) := by decide +kernel
theorem dX12_minutes_75 : decode cX12_minutes 75 = .ok (.iinc 2 1, 3) := by decide +kernel
theorem dX12_minutes_78 : decode cX12_minutes 78 = .ok (.goto (-45), 3) := by decide +kernel
theorem dX12_minutes_81 : decode cX12_minutes 81 = .ok (.aload_n 0, 1) := by decide +kernel
theorem dX12_minutes_82 : decode cX12_minutes 82 = .ok (.iload_n 1, 1) := by decide +kernel
theorem dX12_minutes_83 : decode cX12_minutes 83 = .ok (.ifCond .le 7, 3) := by decide +kernel
theorem dX12_minutes_86 : decode cX12_minutes 86 = .ok (.iconst 0, 1) := by decide +kernel
theorem dX12_minutes_87 : decode cX12_minutes 87 = .ok (.goto 7, 3) := by decide +kernel
theorem dX12_minutes_90 : decode cX12_minutes 90 = .ok (.aload_n 0, 1) := by decide +kernel
theorem dX12_minutes_91 : decode cX12_minutes 91 = .ok (.getfield 379, 3) := by decide +kernel
theorem dX12_minutes_94 : decode cX12_minutes 94 = .ok (.putfield 379, 3) := by decide +kernel
theorem dX12_minutes_97 : decode cX12_minutes 97 = .ok (.aload_n 0, 1) := by decide +kernel
theorem dX12_minutes_98 : decode cX12_minutes 98 = .ok (.getfield 106, 3) := by decide +kernel
theorem dX12_minutes_101 : decode cX12_minutes 101 = .ok (.iconst 0, 1) := by decide +kernel
theorem dX12_minutes_102 : decode cX12_minutes 102 = .ok (.iaload, 1) := by decide +kernel
theorem dX12_minutes_103 : decode cX12_minutes 103 = .ok (.ireturn, 1) := by decide +kernel
set_option maxRecDepth 20000 in
theorem ggX12_isToCome_X12_isWave : GoodIn wsX12_isToCome wsX12_isWave := goodIn_r _ [6, 7, 8, 9, 10, 11, 12, 13, 14, 15, 16, 17, 18, 19, 20, 21, 22, 23, 24, 25, 26, 27, 28, 29, 30, 31, 32, 33, 34, 35, 36, 37, 38, 39, 40, 41, 42, 43, 44, 45, 46, 47, 48, 49, 50, 51, 52, 53, 54, 55, 56, 57, 58, 59, 60, 61, 62, 63, 64, 65, 66, 67, 68, 69, 70, 71, 72, 73, 74, 75, 76, 77, 78, 79, 80, 81, 82, 83, 84, 85, 86, 87, 88, 89, 90, 91, 92, 93, 94] (by decide +kernel) (by decide +kernel)
set_option maxRecDepth 20000 in
theorem gX12_isToCome_X12_isWave : GoodIn wsX12_isToCome (wsV RX12 419 RX12 yX12_isWave wsX12_isWave) := goodIn_app (goodIn_of _ (by decide +kernel)) ggX12_isToCome_X12_isWave
theorem dX12_isToCome_0 : decode cX12_isToCome 0 = .ok (.aload_n 0, 1) := by decide +kernel
theorem dX12_isToCome_1 : decode cX12_isToCome 1 = .ok (.iload_n 1, 1) := by decide +kernel
theorem dX12_isToCome_2 : decode cX12_isToCome 2 = .ok (.invokevirtual 419, 3) := by decide +kernel
theorem dX12_isToCome_5 : decode cX12_isToCome 5 = .ok (.ifCond .eq 18, 3) := by decide +kernel
theorem dX12_isToCome_8 : decode cX12_isToCome 8 = .ok (.aload_n 0, 1) := by decide +kernel
theorem dX12_isToCome_9 : decode cX12_isToCome 9 = .ok (.getfield 103, 3) := by decide +kernel
theorem dX12_isToCome_12 : decode cX12_isToCome 12 = .ok (.iload_n 1, 1) := by decide +kernel
theorem dX12_isToCome_13 : decode cX12_isToCome 13 = .ok (.iaload, 1) := by decide +kernel
theorem dX12_isToCome_14 : decode cX12_isToCome 14 = .ok (.bipush (-2), 2) := by decide +kernel
theorem dX12_isToCome_16 : decode cX12_isToCome 16 = .ok (.if_icmp .ne 7, 3) := by decide +kernel
theorem dX12_isToCome_19 : decode cX12_isToCome 19 = .ok (.iconst 1, 1) := by decide +kernel
theorem dX12_isToCome_20 : decode cX12_isToCome 20 = .ok (.goto 4, 3) := by decide +kernel
theorem dX12_isToCome_23 : decode cX12_isToCome 23 = .ok (.iconst 0, 1) := by decide +kernel
theorem dX12_isToCome_24 : decode cX12_isToCome 24 = .ok (.ireturn, 1) := by decide +kernel
set_option maxRecDepth 20000 in
theorem ggX12_order_X12_isToCome : GoodIn wsX12_order wsX12_isToCome := goodIn_r _ [9, 10, 11, 12, 13, 8, 14, 15, 99, 100, 101, 102, 103, 104, 105, 106, 107, 108, 109, 110, 111, 112, 113, 114, 115, 116, 117, 118, 119, 120, 121, 122, 123, 124, 125, 126, 127, 128, 129, 130, 131, 132, 133, 134, 135, 136, 137, 138, 139, 140, 141, 142, 143, 144, 145, 146, 147, 148, 149, 150, 151, 152, 153, 154, 155, 156, 157, 158, 159, 160, 161, 162, 163, 164, 165, 166, 167, 168, 169, 170, 171, 172, 173, 174, 175, 176, 177, 178, 179, 180, 181, 182, 183, 184, 185] (by decide +kernel) (by decide +kernel)
set_option maxRecDepth 20000 in
theorem gX12_order_X12_isToCome : GoodIn wsX12_order (wsV RX12 476 RX12 yX12_isToCome wsX12_isToCome) := goodIn_app (goodIn_of _ (by decide +kernel)) ggX12_order_X12_isToCome
set_option maxRecDepth 20000 in
theorem ggX12_order_X12_layOrder : GoodIn wsX12_order wsX12_layOrder := goodIn_r _ [19, 3, 20, 4, 21, 22, 23, 8, 24, 25, 26, 27, 28, 29, 30, 31, 32, 33, 34, 35, 36, 37, 38, 39, 40, 41, 42, 43, 44, 45, 46, 47, 48, 49, 50, 51, 52, 53, 54, 55, 56, 57, 58, 59, 60, 61, 62, 63, 64, 65, 66, 67, 68, 69, 70, 71, 72, 73, 74, 75, 76, 77, 78, 79, 80, 81, 82, 83, 84, 85, 86, 87, 88, 89, 90, 91, 92, 93, 94, 95, 96, 97, 98, 15, 10, 99, 100, 101, 102, 103, 104, 105, 106, 107, 108, 109, 110, 111, 112, 113, 114, 115, 116, 117, 118, 119, 120, 121, 122, 123, 124, 125, 126, 127, 128, 129, 130, 131, 132, 133, 134, 135, 136, 137, 138, 139, 140, 141, 142, 143, 144, 145, 146, 147, 148, 149, 150, 151, 152, 153, 154, 155, 156, 157, 158, 159, 160, 161, 162, 163, 164, 165, 166, 167, 168, 169, 170, 171, 172, 173, 174, 175, 176, 177, 178, 179, 180, 181, 182, 183, 184, 185] (by decide +kernel) (by decide +kernel)
set_option maxRecDepth 20000 in
theorem gX12_order_X12_layOrder : GoodIn wsX12_order (wsV RX12 453 RX12 yX12_layOrder wsX12_layOrder) := goodIn_app (goodIn_of _ (by decide +kernel)) ggX12_order_X12_layOrder
theorem dX12_order_0 : decode cX12_order 0 = .ok (.aload_n 0, 1) := by decide +kernel
theorem dX12_order_1 : decode cX12_order 1 = .ok (.iconst 0, 1) := by decide +kernel
theorem dX12_order_2 : decode cX12_order 2 = .ok (.putfield 154, 3) := by decide +kernel
theorem dX12_order_5 : decode cX12_order 5 = .ok (.aload_n 0, 1) := by decide +kernel
theorem dX12_order_6 : decode cX12_order 6 = .ok (.iload_n 1, 1) := by decide +kernel
theorem dX12_order_7 : decode cX12_order 7 = .ok (.invokevirtual 476, 3) := by decide +kernel
theorem dX12_order_10 : decode cX12_order 10 = .ok (.ifCond .eq 7, 3) := by decide +kernel
theorem dX12_order_13 : decode cX12_order 13 = .ok (.iload_n 2, 1) := by decide +kernel
theorem dX12_order_14 : decode cX12_order 14 = .ok (.ifCond .ge 5, 3) := by decide +kernel
theorem dX12_order_17 : decode cX12_order 17 = .ok (.iconst (-1), 1) := by decide +kernel
theorem dX12_order_18 : decode cX12_order 18 = .ok (.ireturn, 1) := by decide +kernel
theorem dX12_order_19 : decode cX12_order 19 = .ok (.aload_n 0, 1) := by decide +kernel
theorem dX12_order_20 : decode cX12_order 20 = .ok (.iconst 0, 1) := by decide +kernel
theorem dX12_order_21 : decode cX12_order 21 = .ok (.iload_n 1, 1) := by decide +kernel
theorem dX12_order_22 : decode cX12_order 22 = .ok (.aload_n 0, 1) := by decide +kernel
theorem dX12_order_23 : decode cX12_order 23 = .ok (.getfield 369, 3) := by decide +kernel
theorem dX12_order_26 : decode cX12_order 26 = .ok (.invokevirtual 453, 3) := by decide +kernel
theorem dX12_order_29 : decode cX12_order 29 = .ok (.iload_n 2, 1) := by decide +kernel
theorem dX12_order_30 : decode cX12_order 30 = .ok (.aload_n 0, 1) := by decide +kernel
theorem dX12_order_31 : decode cX12_order 31 = .ok (.getfield 433, 3) := by decide +kernel
theorem dX12_order_34 : decode cX12_order 34 = .ok (.if_icmp .lt 8, 3) := by decide +kernel
theorem dX12_order_37 : decode cX12_order 37 = .ok (.bipush (-2), 2) := by decide +kernel
theorem dX12_order_39 : decode cX12_order 39 = .ok (.goto 9, 3) := by decide +kernel
theorem dX12_order_42 : decode cX12_order 42 = .ok (.aload_n 0, 1) := by decide +kernel
theorem dX12_order_43 : decode cX12_order 43 = .ok (.getfield 118, 3) := by decide +kernel
theorem dX12_order_46 : decode cX12_order 46 = .ok (.iload_n 2, 1) := by decide +kernel
theorem dX12_order_47 : decode cX12_order 47 = .ok (.iaload, 1) := by decide +kernel
theorem dX12_order_48 : decode cX12_order 48 = .ok (.ireturn, 1) := by decide +kernel
set_option maxRecDepth 20000 in
theorem ggX12_deeper_X12_isSurfer : GoodIn wsX12_deeper wsX12_isSurfer := goodIn_r _ [8, 9, 62, 63, 64, 65, 66, 67, 68, 69, 70, 71, 72, 73, 74, 75, 76, 77, 78, 79, 80, 81, 82, 83, 84, 85, 86, 87, 88, 89, 90, 91, 92, 93, 94, 95, 96, 97, 98, 99, 100, 101, 102, 103, 104, 105, 106, 107, 108, 109, 110, 111, 112, 113, 114, 115, 116, 117, 118, 119, 120, 121, 122, 123, 124, 125, 126, 127, 128, 129, 130, 131, 132, 133, 134, 135, 136, 137, 138, 139, 140, 141, 142, 143, 144, 145, 146, 147, 148] (by decide +kernel) (by decide +kernel)
set_option maxRecDepth 20000 in
theorem gX12_deeper_X12_isSurfer : GoodIn wsX12_deeper (wsV RX12 413 RX12 yX12_isSurfer wsX12_isSurfer) := goodIn_app (goodIn_of _ (by decide +kernel)) ggX12_deeper_X12_isSurfer
set_option maxRecDepth 20000 in
theorem ggX12_deeper_X12_peakAt : GoodIn wsX12_deeper wsX12_peakAt := goodIn_r _ [13, 14, 15, 16, 17, 18, 19, 7, 20, 21, 22, 23, 24, 25, 26, 27, 28, 29, 30, 31, 32, 33, 34, 35, 36, 37, 38, 39, 40, 41, 42, 43, 44, 45, 46, 47, 48, 49, 50, 51, 52, 53, 54, 55, 56, 57, 62, 63, 64, 65, 66, 67, 68, 69, 70, 71, 72, 73, 74, 75, 76, 77, 78, 79, 80, 81, 82, 83, 84, 85, 86, 87, 88, 89, 90, 91, 92, 93, 94, 95, 96, 97, 98, 99, 100, 101, 102, 103, 104, 105, 106, 107, 108, 109, 110, 111, 112, 113, 114, 115, 116, 117, 118, 119, 120, 121, 122, 123, 124, 125, 126, 127, 128, 129, 130, 131, 132, 133, 134, 135, 136, 137, 138, 139, 140, 141, 142, 143, 144, 145, 146, 147, 148] (by decide +kernel) (by decide +kernel)
set_option maxRecDepth 20000 in
theorem gX12_deeper_X12_peakAt : GoodIn wsX12_deeper (wsV RX12 400 RX12 yX12_peakAt wsX12_peakAt) := goodIn_app (goodIn_of _ (by decide +kernel)) ggX12_deeper_X12_peakAt
set_option maxRecDepth 20000 in
theorem ggX12_deeper_X12_far : GoodIn wsX12_deeper wsX12_far := goodIn_r _ [61, 16, 62, 63, 64, 65, 66, 67, 68, 69, 70, 71, 72, 73, 74, 75, 76, 77, 78, 79, 80, 81, 82, 83, 84, 85, 86, 87, 88, 89, 90, 91, 92, 93, 94, 95, 96, 97, 98, 99, 100, 101, 102, 103, 104, 105, 106, 107, 108, 109, 110, 111, 112, 113, 114, 115, 116, 117, 118, 119, 120, 121, 122, 123, 124, 125, 126, 127, 128, 129, 130, 131, 132, 133, 134, 135, 136, 137, 138, 139, 140, 141, 142, 143, 144, 145, 146, 147, 148] (by decide +kernel) (by decide +kernel)
set_option maxRecDepth 20000 in
theorem gX12_deeper_X12_far : GoodIn wsX12_deeper (wsV RX12 403 RX12 yX12_far wsX12_far) := goodIn_app (goodIn_of _ (by decide +kernel)) ggX12_deeper_X12_far
theorem dX12_deeper_0 : decode cX12_deeper 0 = .ok (.aload_n 0, 1) := by decide +kernel
theorem dX12_deeper_1 : decode cX12_deeper 1 = .ok (.iconst 0, 1) := by decide +kernel
theorem dX12_deeper_2 : decode cX12_deeper 2 = .ok (.putfield 154, 3) := by decide +kernel
theorem dX12_deeper_5 : decode cX12_deeper 5 = .ok (.aload_n 0, 1) := by decide +kernel
theorem dX12_deeper_6 : decode cX12_deeper 6 = .ok (.iload_n 1, 1) := by decide +kernel
theorem dX12_deeper_7 : decode cX12_deeper 7 = .ok (.invokevirtual 413, 3) := by decide +kernel
theorem dX12_deeper_10 : decode cX12_deeper 10 = .ok (.ifCond .eq 11, 3) := by decide +kernel
theorem dX12_deeper_13 : decode cX12_deeper 13 = .ok (.aload_n 0, 1) := by decide +kernel
theorem dX12_deeper_14 : decode cX12_deeper 14 = .ok (.iload_n 2, 1) := by decide +kernel
theorem dX12_deeper_15 : decode cX12_deeper 15 = .ok (.invokevirtual 413, 3) := by decide +kernel
theorem dX12_deeper_18 : decode cX12_deeper 18 = .ok (.ifCond .ne 5, 3) := by decide +kernel
theorem dX12_deeper_21 : decode cX12_deeper 21 = .ok (.iconst (-1), 1) := by decide +kernel
theorem dX12_deeper_22 : decode cX12_deeper 22 = .ok (.ireturn, 1) := by decide +kernel
theorem dX12_deeper_23 : decode cX12_deeper 23 = .ok (.aload_n 0, 1) := by decide +kernel
theorem dX12_deeper_24 : decode cX12_deeper 24 = .ok (.aload_n 0, 1) := by decide +kernel
theorem dX12_deeper_25 : decode cX12_deeper 25 = .ok (.getfield 106, 3) := by decide +kernel
theorem dX12_deeper_28 : decode cX12_deeper 28 = .ok (.iconst 0, 1) := by decide +kernel
theorem dX12_deeper_29 : decode cX12_deeper 29 = .ok (.iaload, 1) := by decide +kernel
theorem dX12_deeper_30 : decode cX12_deeper 30 = .ok (.invokevirtual 400, 3) := by decide +kernel
theorem dX12_deeper_33 : decode cX12_deeper 33 = .ok (.istore_n 3, 1) := by decide +kernel
theorem dX12_deeper_34 : decode cX12_deeper 34 = .ok (.aload_n 0, 1) := by decide +kernel
theorem dX12_deeper_35 : decode cX12_deeper 35 = .ok (.aload_n 0, 1) := by decide +kernel
theorem dX12_deeper_36 : decode cX12_deeper 36 = .ok (.getfield 88, 3) := by decide +kernel
theorem dX12_deeper_39 : decode cX12_deeper 39 = .ok (.iload_n 1, 1) := by decide +kernel
theorem dX12_deeper_40 : decode cX12_deeper 40 = .ok (.iaload, 1) := by decide +kernel
theorem dX12_deeper_41 : decode cX12_deeper 41 = .ok (.iload_n 3, 1) := by decide +kernel
theorem dX12_deeper_42 : decode cX12_deeper 42 = .ok (.invokevirtual 403, 3) := by decide +kernel
theorem dX12_deeper_45 : decode cX12_deeper 45 = .ok (.istore 4, 2) := by decide +kernel
theorem dX12_deeper_47 : decode cX12_deeper 47 = .ok (.aload_n 0, 1) := by decide +kernel
theorem dX12_deeper_48 : decode cX12_deeper 48 = .ok (.aload_n 0, 1) := by decide +kernel
theorem dX12_deeper_49 : decode cX12_deeper 49 = .ok (.getfield 88, 3) := by decide +kernel
theorem dX12_deeper_52 : decode cX12_deeper 52 = .ok (.iload_n 2, 1) := by decide +kernel
theorem dX12_deeper_53 : decode cX12_deeper 53 = .ok (.iaload, 1) := by decide +kernel
theorem dX12_deeper_54 : decode cX12_deeper 54 = .ok (.iload_n 3, 1) := by decide +kernel
theorem dX12_deeper_55 : decode cX12_deeper 55 = .ok (.invokevirtual 403, 3) := by decide +kernel
theorem dX12_deeper_58 : decode cX12_deeper 58 = .ok (.istore 5, 2) := by decide +kernel
theorem dX12_deeper_60 : decode cX12_deeper 60 = .ok (.iload 4, 2) := by decide +kernel
theorem dX12_deeper_62 : decode cX12_deeper 62 = .ok (.iload 5, 2) := by decide +kernel
theorem dX12_deeper_64 : decode cX12_deeper 64 = .ok (.if_icmp .ge 7, 3) := by decide +kernel
theorem dX12_deeper_67 : decode cX12_deeper 67 = .ok (.iconst 1, 1) := by decide +kernel
theorem dX12_deeper_68 : decode cX12_deeper 68 = .ok (.goto 15, 3) := by decide +kernel
theorem dX12_deeper_71 : decode cX12_deeper 71 = .ok (.iload 5, 2) := by decide +kernel
theorem dX12_deeper_73 : decode cX12_deeper 73 = .ok (.iload 4, 2) := by decide +kernel
theorem dX12_deeper_75 : decode cX12_deeper 75 = .ok (.if_icmp .ge 7, 3) := by decide +kernel
theorem dX12_deeper_78 : decode cX12_deeper 78 = .ok (.iconst 2, 1) := by decide +kernel
theorem dX12_deeper_79 : decode cX12_deeper 79 = .ok (.goto 4, 3) := by decide +kernel
theorem dX12_deeper_82 : decode cX12_deeper 82 = .ok (.iconst 0, 1) := by decide +kernel
theorem dX12_deeper_83 : decode cX12_deeper 83 = .ok (.ireturn, 1) := by decide +kernel
set_option maxRecDepth 20000 in
theorem ggX12_gainOf_X12_oddsOf : GoodIn wsX12_gainOf wsX12_oddsOf := goodIn_r _ [6, 7, 8, 9, 5, 10, 11, 12, 13, 14, 15, 16, 17, 18, 19, 20, 21, 22, 23, 1, 24, 25, 26, 27, 28, 29, 30, 31, 32, 33, 34, 35, 36, 37, 38, 39, 40, 41, 42, 43, 44, 45, 46, 47, 48, 49, 50, 51, 52, 53, 54, 55, 56, 57, 58, 59, 60, 61, 62, 63, 64, 65, 66, 67, 68, 69, 70, 71, 72, 73, 74, 75, 76, 77, 78, 79, 80, 81, 82, 83, 84, 85, 86, 87, 88, 89, 90, 91, 92, 93, 94, 95, 96, 97, 98, 99, 100, 101, 102, 103, 104, 105, 106, 107, 108, 109, 110, 111, 112, 113, 114, 115, 116, 117, 118, 119, 120, 121, 122, 123, 124, 125, 126, 127, 128, 129, 130, 131, 132, 133, 134, 135, 136, 137, 138, 139, 140, 141, 142, 143, 144, 145, 146, 147, 148, 149, 150, 151, 152, 153, 154] (by decide +kernel) (by decide +kernel)
set_option maxRecDepth 20000 in
theorem gX12_gainOf_X12_oddsOf : GoodIn wsX12_gainOf (wsV RX12 425 RX12 yX12_oddsOf wsX12_oddsOf) := goodIn_app (goodIn_of _ (by decide +kernel)) ggX12_gainOf_X12_oddsOf
theorem dX12_gainOf_0 : decode cX12_gainOf 0 = .ok (.aload_n 0, 1) := by decide +kernel
theorem dX12_gainOf_1 : decode cX12_gainOf 1 = .ok (.iload_n 1, 1) := by decide +kernel
theorem dX12_gainOf_2 : decode cX12_gainOf 2 = .ok (.iload_n 2, 1) := by decide +kernel
theorem dX12_gainOf_3 : decode cX12_gainOf 3 = .ok (.iload_n 3, 1) := by decide +kernel
theorem dX12_gainOf_4 : decode cX12_gainOf 4 = .ok (.invokevirtual 425, 3) := by decide +kernel
theorem dX12_gainOf_7 : decode cX12_gainOf 7 = .ok (.aload_n 0, 1) := by decide +kernel
theorem dX12_gainOf_8 : decode cX12_gainOf 8 = .ok (.getfield 51, 3) := by decide +kernel
theorem dX12_gainOf_11 : decode cX12_gainOf 11 = .ok (.iload_n 2, 1) := by decide +kernel
theorem dX12_gainOf_12 : decode cX12_gainOf 12 = .ok (.iaload, 1) := by decide +kernel
theorem dX12_gainOf_13 : decode cX12_gainOf 13 = .ok (.imul, 1) := by decide +kernel
theorem dX12_gainOf_14 : decode cX12_gainOf 14 = .ok (.ireturn, 1) := by decide +kernel
set_option maxRecDepth 20000 in
theorem ggX12_seatFrom_X12_gainOf : GoodIn wsX12_seatFrom wsX12_gainOf := goodIn_r _ [7, 8, 9, 10, 11, 6, 12, 13, 14, 15, 16, 2, 17, 18, 19, 20, 21, 22, 23, 24, 25, 26, 27, 28, 29, 30, 31, 32, 33, 34, 35, 36, 37, 38, 39, 40, 41, 42, 43, 44, 45, 46, 47, 48, 49, 50, 51, 52, 53, 54, 55, 56, 57, 58, 59, 60, 61, 62, 63, 64, 65, 66, 67, 68, 69, 70, 71, 72, 73, 74, 75, 76, 77, 78, 79, 80, 81, 82, 83, 84, 85, 86, 87, 88, 89, 90, 91, 92, 93, 94, 95, 96, 97, 98, 99, 100, 101, 102, 103, 104, 105, 106, 107, 108, 109, 110, 111, 112, 113, 114, 115, 116, 117, 118, 119, 120, 121, 122, 123, 124, 125, 126, 127, 128, 129, 130, 131, 132, 133, 134, 135, 136, 137, 138, 139, 140, 141, 142, 143, 144, 145, 146, 147, 148, 149, 150, 151, 152, 153, 154, 155, 156, 157, 158, 159] (by decide +kernel) (by decide +kernel)
set_option maxRecDepth 20000 in
theorem gX12_seatFrom_X12_gainOf : GoodIn wsX12_seatFrom (wsV RX12 479 RX12 yX12_gainOf wsX12_gainOf) := goodIn_app (goodIn_of _ (by decide +kernel)) ggX12_seatFrom_X12_gainOf
theorem dX12_seatFrom_0 : decode cX12_seatFrom 0 = .ok (.iconst 0, 1) := by decide +kernel
theorem dX12_seatFrom_1 : decode cX12_seatFrom 1 = .ok (.istore 4, 2) := by decide +kernel
theorem dX12_seatFrom_3 : decode cX12_seatFrom 3 = .ok (.iconst 0, 1) := by decide +kernel
theorem dX12_seatFrom_4 : decode cX12_seatFrom 4 = .ok (.istore 5, 2) := by decide +kernel
theorem dX12_seatFrom_6 : decode cX12_seatFrom 6 = .ok (.iload 5, 2) := by decide +kernel
theorem dX12_seatFrom_8 : decode cX12_seatFrom 8 = .ok (.aload_n 0, 1) := by decide +kernel
theorem dX12_seatFrom_9 : decode cX12_seatFrom 9 = .ok (.getfield 253, 3) := by decide +kernel
theorem dX12_seatFrom_12 : decode cX12_seatFrom 12 = .ok (.if_icmp .ge 37, 3) := by decide +kernel
theorem dX12_seatFrom_15 : decode cX12_seatFrom 15 = .ok (.iload 4, 2) := by decide +kernel
theorem dX12_seatFrom_17 : decode cX12_seatFrom 17 = .ok (.aload_n 0, 1) := by decide +kernel
theorem dX12_seatFrom_18 : decode cX12_seatFrom 18 = .ok (.getfield 48, 3) := by decide +kernel
theorem dX12_seatFrom_21 : decode cX12_seatFrom 21 = .ok (.iload 5, 2) := by decide +kernel
theorem dX12_seatFrom_23 : decode cX12_seatFrom 23 = .ok (.iaload, 1) := by decide +kernel
theorem dX12_seatFrom_24 : decode cX12_seatFrom 24 = .ok (.iload_n 3, 1) := by decide +kernel
theorem dX12_seatFrom_25 : decode cX12_seatFrom 25 = .ok (.if_icmp .lt 14, 3) := by decide +kernel
theorem dX12_seatFrom_28 : decode cX12_seatFrom 28 = .ok (.aload_n 0, 1) := by decide +kernel
theorem dX12_seatFrom_29 : decode cX12_seatFrom 29 = .ok (.iload_n 1, 1) := by decide +kernel
theorem dX12_seatFrom_30 : decode cX12_seatFrom 30 = .ok (.iload 5, 2) := by decide +kernel
theorem dX12_seatFrom_32 : decode cX12_seatFrom 32 = .ok (.iload_n 2, 1) := by decide +kernel
theorem dX12_seatFrom_33 : decode cX12_seatFrom 33 = .ok (.invokevirtual 479, 3) := by decide +kernel
theorem dX12_seatFrom_36 : decode cX12_seatFrom 36 = .ok (.goto 4, 3) := by decide +kernel
theorem dX12_seatFrom_39 : decode cX12_seatFrom 39 = .ok (.iconst 0, 1) := by decide +kernel
theorem dX12_seatFrom_40 : decode cX12_seatFrom 40 = .ok (.iadd, 1) := by decide +kernel
theorem dX12_seatFrom_41 : decode cX12_seatFrom 41 = .ok (.istore 4, 2) := by decide +kernel
theorem dX12_seatFrom_43 : decode cX12_seatFrom 43 = .ok (.iinc 5 1, 3) := by decide +kernel
theorem dX12_seatFrom_46 : decode cX12_seatFrom 46 = .ok (.goto (-40), 3) := by decide +kernel
theorem dX12_seatFrom_49 : decode cX12_seatFrom 49 = .ok (.iload 4, 2) := by decide +kernel
theorem dX12_seatFrom_51 : decode cX12_seatFrom 51 = .ok (.ireturn, 1) := by decide +kernel
set_option maxRecDepth 20000 in
theorem ggX12_seat_X12_isSurfer : GoodIn wsX12_seat wsX12_isSurfer := goodIn_r _ [7, 8, 93, 94, 95, 96, 97, 98, 99, 100, 101, 102, 103, 104, 105, 106, 107, 108, 109, 110, 111, 112, 113, 114, 115, 116, 117, 118, 119, 120, 121, 122, 123, 124, 125, 126, 127, 128, 129, 130, 131, 132, 133, 134, 135, 136, 137, 138, 139, 140, 141, 142, 143, 144, 145, 146, 147, 148, 149, 150, 151, 152, 153, 154, 155, 156, 157, 158, 159, 160, 161, 162, 163, 164, 165, 166, 167, 168, 169, 170, 171, 172, 173, 174, 175, 176, 177, 178, 179] (by decide +kernel) (by decide +kernel)
set_option maxRecDepth 20000 in
theorem gX12_seat_X12_isSurfer : GoodIn wsX12_seat (wsV RX12 413 RX12 yX12_isSurfer wsX12_isSurfer) := goodIn_app (goodIn_of _ (by decide +kernel)) ggX12_seat_X12_isSurfer
set_option maxRecDepth 20000 in
theorem ggX12_seat_X12_isCell : GoodIn wsX12_seat wsX12_isCell := goodIn_r _ [12, 13, 14, 15, 6, 16, 17, 18, 93, 94, 95, 96, 97, 98, 99, 100, 101, 102, 103, 104, 105, 106, 107, 108, 109, 110, 111, 112, 113, 114, 115, 116, 117, 118, 119, 120, 121, 122, 123, 124, 125, 126, 127, 128, 129, 130, 131, 132, 133, 134, 135, 136, 137, 138, 139, 140, 141, 142, 143, 144, 145, 146, 147, 148, 149, 150, 151, 152, 153, 154, 155, 156, 157, 158, 159, 160, 161, 162, 163, 164, 165, 166, 167, 168, 169, 170, 171, 172, 173, 174, 175, 176, 177, 178, 179] (by decide +kernel) (by decide +kernel)
set_option maxRecDepth 20000 in
theorem gX12_seat_X12_isCell : GoodIn wsX12_seat (wsV RX12 422 RX12 yX12_isCell wsX12_isCell) := goodIn_app (goodIn_of _ (by decide +kernel)) ggX12_seat_X12_isCell
set_option maxRecDepth 20000 in
theorem ggX12_seat_X12_seatFrom : GoodIn wsX12_seat wsX12_seatFrom := goodIn_r _ [22, 23, 24, 25, 26, 27, 6, 28, 29, 30, 31, 32, 33, 34, 35, 36, 37, 17, 38, 39, 40, 41, 42, 43, 44, 45, 46, 47, 48, 49, 50, 51, 52, 53, 54, 55, 56, 57, 58, 59, 60, 61, 62, 63, 64, 65, 66, 67, 68, 69, 70, 71, 72, 73, 74, 75, 76, 77, 78, 79, 80, 81, 82, 83, 84, 85, 86, 87, 88, 89, 90, 91, 92, 93, 94, 95, 96, 97, 98, 99, 100, 101, 102, 103, 104, 105, 106, 107, 108, 109, 110, 111, 112, 113, 114, 115, 116, 117, 118, 119, 120, 121, 122, 123, 124, 125, 126, 127, 128, 129, 130, 131, 132, 133, 134, 135, 136, 137, 138, 139, 140, 141, 142, 143, 144, 145, 146, 147, 148, 149, 150, 151, 152, 153, 154, 155, 156, 157, 158, 159, 160, 161, 162, 163, 164, 165, 166, 167, 168, 169, 170, 171, 172, 173, 174, 175, 176, 177, 178, 179] (by decide +kernel) (by decide +kernel)
set_option maxRecDepth 20000 in
theorem gX12_seat_X12_seatFrom : GoodIn wsX12_seat (wsV RX12 482 RX12 yX12_seatFrom wsX12_seatFrom) := goodIn_app (goodIn_of _ (by decide +kernel)) ggX12_seat_X12_seatFrom
theorem dX12_seat_0 : decode cX12_seat 0 = .ok (.aload_n 0, 1) := by decide +kernel
theorem dX12_seat_1 : decode cX12_seat 1 = .ok (.iconst 0, 1) := by decide +kernel
theorem dX12_seat_2 : decode cX12_seat 2 = .ok (.putfield 154, 3) := by decide +kernel
theorem dX12_seat_5 : decode cX12_seat 5 = .ok (.aload_n 0, 1) := by decide +kernel
theorem dX12_seat_6 : decode cX12_seat 6 = .ok (.iload_n 1, 1) := by decide +kernel
theorem dX12_seat_7 : decode cX12_seat 7 = .ok (.invokevirtual 413, 3) := by decide +kernel
theorem dX12_seat_10 : decode cX12_seat 10 = .ok (.ifCond .eq 26, 3) := by decide +kernel
theorem dX12_seat_13 : decode cX12_seat 13 = .ok (.aload_n 0, 1) := by decide +kernel
theorem dX12_seat_14 : decode cX12_seat 14 = .ok (.iload_n 2, 1) := by decide +kernel
theorem dX12_seat_15 : decode cX12_seat 15 = .ok (.invokevirtual 422, 3) := by decide +kernel
theorem dX12_seat_18 : decode cX12_seat 18 = .ok (.ifCond .eq 18, 3) := by decide +kernel
theorem dX12_seat_21 : decode cX12_seat 21 = .ok (.aload_n 0, 1) := by decide +kernel
theorem dX12_seat_22 : decode cX12_seat 22 = .ok (.iload_n 1, 1) := by decide +kernel
theorem dX12_seat_23 : decode cX12_seat 23 = .ok (.iload_n 2, 1) := by decide +kernel
theorem dX12_seat_24 : decode cX12_seat 24 = .ok (.aload_n 0, 1) := by decide +kernel
theorem dX12_seat_25 : decode cX12_seat 25 = .ok (.getfield 106, 3) := by decide +kernel
theorem dX12_seat_28 : decode cX12_seat 28 = .ok (.iconst 0, 1) := by decide +kernel
theorem dX12_seat_29 : decode cX12_seat 29 = .ok (.iaload, 1) := by decide +kernel
theorem dX12_seat_30 : decode cX12_seat 30 = .ok (.invokevirtual 482, 3) := by decide +kernel
theorem dX12_seat_33 : decode cX12_seat 33 = .ok (.goto 4, 3) := by decide +kernel
theorem dX12_seat_36 : decode cX12_seat 36 = .ok (.iconst (-1), 1) := by decide +kernel
theorem dX12_seat_37 : decode cX12_seat 37 = .ok (.ireturn, 1) := by decide +kernel
set_option maxRecDepth 20000 in
theorem ggX12_best_X12_isSurfer : GoodIn wsX12_best wsX12_isSurfer := goodIn_r _ [7, 8, 89, 90, 91, 92, 93, 94, 95, 96, 97, 98, 99, 100, 101, 102, 103, 104, 105, 106, 107, 108, 109, 110, 111, 112, 113, 114, 115, 116, 117, 118, 119, 120, 121, 122, 123, 124, 125, 126, 127, 128, 129, 130, 131, 132, 133, 134, 135, 136, 137, 138, 139, 140, 141, 142, 143, 144, 145, 146, 147, 148, 149, 150, 151, 152, 153, 154, 155, 156, 157, 158, 159, 160, 161, 162, 163, 164, 165, 166, 167, 168, 169, 170, 171, 172, 173, 174, 175] (by decide +kernel) (by decide +kernel)
set_option maxRecDepth 20000 in
theorem gX12_best_X12_isSurfer : GoodIn wsX12_best (wsV RX12 413 RX12 yX12_isSurfer wsX12_isSurfer) := goodIn_app (goodIn_of _ (by decide +kernel)) ggX12_best_X12_isSurfer
set_option maxRecDepth 20000 in
theorem ggX12_best_X12_cells : GoodIn wsX12_best wsX12_cells := goodIn_r _ [12, 13, 14, 89, 90, 91, 92, 93, 94, 95, 96, 97, 98, 99, 100, 101, 102, 103, 104, 105, 106, 107, 108, 109, 110, 111, 112, 113, 114, 115, 116, 117, 118, 119, 120, 121, 122, 123, 124, 125, 126, 127, 128, 129, 130, 131, 132, 133, 134, 135, 136, 137, 138, 139, 140, 141, 142, 143, 144, 145, 146, 147, 148, 149, 150, 151, 152, 153, 154, 155, 156, 157, 158, 159, 160, 161, 162, 163, 164, 165, 166, 167, 168, 169, 170, 171, 172, 173, 174, 175] (by decide +kernel) (by decide +kernel)
set_option maxRecDepth 20000 in
theorem gX12_best_X12_cells : GoodIn wsX12_best (wsV RX12 366 RX12 yX12_cells wsX12_cells) := goodIn_app (goodIn_of _ (by decide +kernel)) ggX12_best_X12_cells
set_option maxRecDepth 20000 in
theorem ggX12_best_X12_seatFrom : GoodIn wsX12_best wsX12_seatFrom := goodIn_r _ [18, 19, 20, 21, 22, 23, 6, 24, 25, 26, 27, 28, 29, 30, 31, 32, 33, 13, 34, 35, 36, 37, 38, 39, 40, 41, 42, 43, 44, 45, 46, 47, 48, 49, 50, 51, 52, 53, 54, 55, 56, 57, 58, 59, 60, 61, 62, 63, 64, 65, 66, 67, 68, 69, 70, 71, 72, 73, 74, 75, 76, 77, 78, 79, 80, 81, 82, 83, 84, 85, 86, 87, 88, 89, 90, 91, 92, 93, 94, 95, 96, 97, 98, 99, 100, 101, 102, 103, 104, 105, 106, 107, 108, 109, 110, 111, 112, 113, 114, 115, 116, 117, 118, 119, 120, 121, 122, 123, 124, 125, 126, 127, 128, 129, 130, 131, 132, 133, 134, 135, 136, 137, 138, 139, 140, 141, 142, 143, 144, 145, 146, 147, 148, 149, 150, 151, 152, 153, 154, 155, 156, 157, 158, 159, 160, 161, 162, 163, 164, 165, 166, 167, 168, 169, 170, 171, 172, 173, 174, 175] (by decide +kernel) (by decide +kernel)
set_option maxRecDepth 20000 in
theorem gX12_best_X12_seatFrom : GoodIn wsX12_best (wsV RX12 482 RX12 yX12_seatFrom wsX12_seatFrom) := goodIn_app (goodIn_of _ (by decide +kernel)) ggX12_best_X12_seatFrom
theorem dX12_best_0 : decode cX12_best 0 = .ok (.aload_n 0, 1) := by decide +kernel
theorem dX12_best_1 : decode cX12_best 1 = .ok (.iconst 0, 1) := by decide +kernel
theorem dX12_best_2 : decode cX12_best 2 = .ok (.putfield 154, 3) := by decide +kernel
theorem dX12_best_5 : decode cX12_best 5 = .ok (.aload_n 0, 1) := by decide +kernel
theorem dX12_best_6 : decode cX12_best 6 = .ok (.iload_n 1, 1) := by decide +kernel
theorem dX12_best_7 : decode cX12_best 7 = .ok (.invokevirtual 413, 3) := by decide +kernel
theorem dX12_best_10 : decode cX12_best 10 = .ok (.ifCond .ne 5, 3) := by decide +kernel
theorem dX12_best_13 : decode cX12_best 13 = .ok (.iconst (-1), 1) := by decide +kernel
theorem dX12_best_14 : decode cX12_best 14 = .ok (.ireturn, 1) := by decide +kernel
theorem dX12_best_15 : decode cX12_best 15 = .ok (.iconst 0, 1) := by decide +kernel
theorem dX12_best_16 : decode cX12_best 16 = .ok (.istore_n 2, 1) := by decide +kernel
theorem dX12_best_17 : decode cX12_best 17 = .ok (.iconst (-1), 1) := by decide +kernel
theorem dX12_best_18 : decode cX12_best 18 = .ok (.istore_n 3, 1) := by decide +kernel
theorem dX12_best_19 : decode cX12_best 19 = .ok (.iconst 0, 1) := by decide +kernel
theorem dX12_best_20 : decode cX12_best 20 = .ok (.istore 4, 2) := by decide +kernel
theorem dX12_best_22 : decode cX12_best 22 = .ok (.iload 4, 2) := by decide +kernel
theorem dX12_best_24 : decode cX12_best 24 = .ok (.aload_n 0, 1) := by decide +kernel
theorem dX12_best_25 : decode cX12_best 25 = .ok (.invokevirtual 366, 3) := by decide +kernel
theorem dX12_best_28 : decode cX12_best 28 = .ok (.if_icmp .ge 39, 3) := by decide +kernel
theorem dX12_best_31 : decode cX12_best 31 = .ok (.aload_n 0, 1) := by decide +kernel
theorem dX12_best_32 : decode cX12_best 32 = .ok (.iload_n 1, 1) := by decide +kernel
theorem dX12_best_33 : decode cX12_best 33 = .ok (.iload 4, 2) := by decide +kernel
theorem dX12_best_35 : decode cX12_best 35 = .ok (.aload_n 0, 1) := by decide +kernel
theorem dX12_best_36 : decode cX12_best 36 = .ok (.getfield 106, 3) := by decide +kernel
theorem dX12_best_39 : decode cX12_best 39 = .ok (.iconst 0, 1) := by decide +kernel
theorem dX12_best_40 : decode cX12_best 40 = .ok (.iaload, 1) := by decide +kernel
theorem dX12_best_41 : decode cX12_best 41 = .ok (.invokevirtual 482, 3) := by decide +kernel
