theorem dX12_init_0 : decode cX12_init 0 = .ok (.aload_n 0, 1) := by decide +kernel
theorem dX12_init_1 : decode cX12_init 1 = .ok (.invokespecial 1, 3) := by decide +kernel
theorem dX12_init_4 : decode cX12_init 4 = .ok (.aload_n 0, 1) := by decide +kernel
theorem dX12_init_5 : decode cX12_init 5 = .ok (.sipush 700, 3) := by decide +kernel
theorem dX12_init_8 : decode cX12_init 8 = .ok (.newarray .int, 2) := by decide +kernel
theorem dX12_init_10 : decode cX12_init 10 = .ok (.putfield 7, 3) := by decide +kernel
theorem dX12_init_13 : decode cX12_init 13 = .ok (.aload_n 0, 1) := by decide +kernel
theorem dX12_init_14 : decode cX12_init 14 = .ok (.bipush 120, 2) := by decide +kernel
theorem dX12_init_16 : decode cX12_init 16 = .ok (.newarray .int, 2) := by decide +kernel
theorem dX12_init_18 : decode cX12_init 18 = .ok (.dup, 1) := by decide +kernel
theorem dX12_init_19 : decode cX12_init 19 = .ok (.iconst 0, 1) := by decide +kernel
theorem dX12_init_20 : decode cX12_init 20 = .ok (.bipush 115, 2) := by decide +kernel
theorem dX12_init_22 : decode cX12_init 22 = .ok (.iastore, 1) := by decide +kernel
theorem dX12_init_23 : decode cX12_init 23 = .ok (.dup, 1) := by decide +kernel
theorem dX12_init_24 : decode cX12_init 24 = .ok (.iconst 1, 1) := by decide +kernel
theorem dX12_init_25 : decode cX12_init 25 = .ok (.bipush 101, 2) := by decide +kernel
theorem dX12_init_27 : decode cX12_init 27 = .ok (.iastore, 1) := by decide +kernel
theorem dX12_init_28 : decode cX12_init 28 = .ok (.dup, 1) := by decide +kernel
theorem dX12_init_29 : decode cX12_init 29 = .ok (.iconst 2, 1) := by decide +kernel
theorem dX12_init_30 : decode cX12_init 30 = .ok (.bipush 97, 2) := by decide +kernel
theorem dX12_init_32 : decode cX12_init 32 = .ok (.iastore, 1) := by decide +kernel
theorem dX12_init_33 : decode cX12_init 33 = .ok (.dup, 1) := by decide +kernel
theorem dX12_init_34 : decode cX12_init 34 = .ok (.iconst 3, 1) := by decide +kernel
theorem dX12_init_35 : decode cX12_init 35 = .ok (.bipush 32, 2) := by decide +kernel
theorem dX12_init_37 : decode cX12_init 37 = .ok (.iastore, 1) := by decide +kernel
theorem dX12_init_38 : decode cX12_init 38 = .ok (.dup, 1) := by decide +kernel
theorem dX12_init_39 : decode cX12_init 39 = .ok (.iconst 4, 1) := by decide +kernel
theorem dX12_init_40 : decode cX12_init 40 = .ok (.bipush 112, 2) := by decide +kernel
theorem dX12_init_42 : decode cX12_init 42 = .ok (.iastore, 1) := by decide +kernel
theorem dX12_init_43 : decode cX12_init 43 = .ok (.dup, 1) := by decide +kernel
theorem dX12_init_44 : decode cX12_init 44 = .ok (.iconst 5, 1) := by decide +kernel
theorem dX12_init_45 : decode cX12_init 45 = .ok (.bipush 101, 2) := by decide +kernel
theorem dX12_init_47 : decode cX12_init 47 = .ok (.iastore, 1) := by decide +kernel
theorem dX12_init_48 : decode cX12_init 48 = .ok (.dup, 1) := by decide +kernel
theorem dX12_init_49 : decode cX12_init 49 = .ok (.bipush 6, 2) := by decide +kernel
theorem dX12_init_51 : decode cX12_init 51 = .ok (.bipush 97, 2) := by decide +kernel
theorem dX12_init_53 : decode cX12_init 53 = .ok (.iastore, 1) := by decide +kernel
theorem dX12_init_54 : decode cX12_init 54 = .ok (.dup, 1) := by decide +kernel
theorem dX12_init_55 : decode cX12_init 55 = .ok (.bipush 7, 2) := by decide +kernel
theorem dX12_init_57 : decode cX12_init 57 = .ok (.bipush 107, 2) := by decide +kernel
theorem dX12_init_59 : decode cX12_init 59 = .ok (.iastore, 1) := by decide +kernel
theorem dX12_init_60 : decode cX12_init 60 = .ok (.dup, 1) := by decide +kernel
theorem dX12_init_61 : decode cX12_init 61 = .ok (.bipush 8, 2) := by decide +kernel
theorem dX12_init_63 : decode cX12_init 63 = .ok (.bipush 32, 2) := by decide +kernel
theorem dX12_init_65 : decode cX12_init 65 = .ok (.iastore, 1) := by decide +kernel
theorem dX12_init_66 : decode cX12_init 66 = .ok (.dup, 1) := by decide +kernel
theorem dX12_init_67 : decode cX12_init 67 = .ok (.bipush 9, 2) := by decide +kernel
theorem dX12_init_69 : decode cX12_init 69 = .ok (.bipush 115, 2) := by decide +kernel
theorem dX12_init_71 : decode cX12_init 71 = .ok (.iastore, 1) := by decide +kernel
theorem dX12_init_72 : decode cX12_init 72 = .ok (.dup, 1) := by decide +kernel
theorem dX12_init_73 : decode cX12_init 73 = .ok (.bipush 10, 2) := by decide +kernel
theorem dX12_init_75 : decode cX12_init 75 = .ok (.bipush 117, 2) := by decide +kernel
theorem dX12_init_77 : decode cX12_init 77 = .ok (.iastore, 1) := by decide +kernel
theorem dX12_init_78 : decode cX12_init 78 = .ok (.dup, 1) := by decide +kernel
theorem dX12_init_79 : decode cX12_init 79 = .ok (.bipush 11, 2) := by decide +kernel
theorem dX12_init_81 : decode cX12_init 81 = .ok (.bipush 114, 2) := by decide +kernel
theorem dX12_init_83 : decode cX12_init 83 = .ok (.iastore, 1) := by decide +kernel
theorem dX12_init_84 : decode cX12_init 84 = .ok (.dup, 1) := by decide +kernel
theorem dX12_init_85 : decode cX12_init 85 = .ok (.bipush 12, 2) := by decide +kernel
theorem dX12_init_87 : decode cX12_init 87 = .ok (.bipush 102, 2) := by decide +kernel
theorem dX12_init_89 : decode cX12_init 89 = .ok (.iastore, 1) := by decide +kernel
theorem dX12_init_90 : decode cX12_init 90 = .ok (.dup, 1) := by decide +kernel
theorem dX12_init_91 : decode cX12_init 91 = .ok (.bipush 13, 2) := by decide +kernel
theorem dX12_init_93 : decode cX12_init 93 = .ok (.bipush 101, 2) := by decide +kernel
theorem dX12_init_95 : decode cX12_init 95 = .ok (.iastore, 1) := by decide +kernel
theorem dX12_init_96 : decode cX12_init 96 = .ok (.dup, 1) := by decide +kernel
theorem dX12_init_97 : decode cX12_init 97 = .ok (.bipush 14, 2) := by decide +kernel
theorem dX12_init_99 : decode cX12_init 99 = .ok (.bipush 114, 2) := by decide +kernel
theorem dX12_init_101 : decode cX12_init 101 = .ok (.iastore, 1) := by decide +kernel
theorem dX12_init_102 : decode cX12_init 102 = .ok (.dup, 1) := by decide +kernel
theorem dX12_init_103 : decode cX12_init 103 = .ok (.bipush 15, 2) := by decide +kernel
theorem dX12_init_105 : decode cX12_init 105 = .ok (.bipush 32, 2) := by decide +kernel
theorem dX12_init_107 : decode cX12_init 107 = .ok (.iastore, 1) := by decide +kernel
theorem dX12_init_108 : decode cX12_init 108 = .ok (.dup, 1) := by decide +kernel
theorem dX12_init_109 : decode cX12_init 109 = .ok (.bipush 16, 2) := by decide +kernel
theorem dX12_init_111 : decode cX12_init 111 = .ok (.bipush 115, 2) := by decide +kernel
theorem dX12_init_113 : decode cX12_init 113 = .ok (.iastore, 1) := by decide +kernel
theorem dX12_init_114 : decode cX12_init 114 = .ok (.dup, 1) := by decide +kernel
theorem dX12_init_115 : decode cX12_init 115 = .ok (.bipush 17, 2) := by decide +kernel
theorem dX12_init_117 : decode cX12_init 117 = .ok (.bipush 101, 2) := by decide +kernel
theorem dX12_init_119 : decode cX12_init 119 = .ok (.iastore, 1) := by decide +kernel
theorem dX12_init_120 : decode cX12_init 120 = .ok (.dup, 1) := by decide +kernel
theorem dX12_init_121 : decode cX12_init 121 = .ok (.bipush 18, 2) := by decide +kernel
theorem dX12_init_123 : decode cX12_init 123 = .ok (.bipush 116, 2) := by decide +kernel
theorem dX12_init_125 : decode cX12_init 125 = .ok (.iastore, 1) := by decide +kernel
theorem dX12_init_126 : decode cX12_init 126 = .ok (.dup, 1) := by decide +kernel
theorem dX12_init_127 : decode cX12_init 127 = .ok (.bipush 19, 2) := by decide +kernel
theorem dX12_init_129 : decode cX12_init 129 = .ok (.bipush 32, 2) := by decide +kernel
theorem dX12_init_131 : decode cX12_init 131 = .ok (.iastore, 1) := by decide +kernel
theorem dX12_init_132 : decode cX12_init 132 = .ok (.dup, 1) := by decide +kernel
theorem dX12_init_133 : decode cX12_init 133 = .ok (.bipush 20, 2) := by decide +kernel
theorem dX12_init_135 : decode cX12_init 135 = .ok (.bipush 98, 2) := by decide +kernel
theorem dX12_init_137 : decode cX12_init 137 = .ok (.iastore, 1) := by decide +kernel
theorem dX12_init_138 : decode cX12_init 138 = .ok (.dup, 1) := by decide +kernel
theorem dX12_init_139 : decode cX12_init 139 = .ok (.bipush 21, 2) := by decide +kernel
theorem dX12_init_141 : decode cX12_init 141 = .ok (.bipush 97, 2) := by decide +kernel
theorem dX12_init_143 : decode cX12_init 143 = .ok (.iastore, 1) := by decide +kernel
theorem dX12_init_144 : decode cX12_init 144 = .ok (.dup, 1) := by decide +kernel
theorem dX12_init_145 : decode cX12_init 145 = .ok (.bipush 22, 2) := by decide +kernel
theorem dX12_init_147 : decode cX12_init 147 = .ok (.bipush 110, 2) := by decide +kernel
theorem dX12_init_149 : decode cX12_init 149 = .ok (.iastore, 1) := by decide +kernel
theorem dX12_init_150 : decode cX12_init 150 = .ok (.dup, 1) := by decide +kernel
theorem dX12_init_151 : decode cX12_init 151 = .ok (.bipush 23, 2) := by decide +kernel
theorem dX12_init_153 : decode cX12_init 153 = .ok (.bipush 107, 2) := by decide +kernel
theorem dX12_init_155 : decode cX12_init 155 = .ok (.iastore, 1) := by decide +kernel
theorem dX12_init_156 : decode cX12_init 156 = .ok (.dup, 1) := by decide +kernel
theorem dX12_init_157 : decode cX12_init 157 = .ok (.bipush 24, 2) := by decide +kernel
theorem dX12_init_159 : decode cX12_init 159 = .ok (.bipush 32, 2) := by decide +kernel
theorem dX12_init_161 : decode cX12_init 161 = .ok (.iastore, 1) := by decide +kernel
theorem dX12_init_162 : decode cX12_init 162 = .ok (.dup, 1) := by decide +kernel
theorem dX12_init_163 : decode cX12_init 163 = .ok (.bipush 25, 2) := by decide +kernel
theorem dX12_init_165 : decode cX12_init 165 = .ok (.bipush 114, 2) := by decide +kernel
theorem dX12_init_167 : decode cX12_init 167 = .ok (.iastore, 1) := by decide +kernel
theorem dX12_init_168 : decode cX12_init 168 = .ok (.dup, 1) := by decide +kernel
theorem dX12_init_169 : decode cX12_init 169 = .ok (.bipush 26, 2) := by decide +kernel
theorem dX12_init_171 : decode cX12_init 171 = .ok (.bipush 117, 2) := by decide +kernel
theorem dX12_init_173 : decode cX12_init 173 = .ok (.iastore, 1) := by decide +kernel
theorem dX12_init_174 : decode cX12_init 174 = .ok (.dup, 1) := by decide +kernel
theorem dX12_init_175 : decode cX12_init 175 = .ok (.bipush 27, 2) := by decide +kernel
theorem dX12_init_177 : decode cX12_init 177 = .ok (.bipush 108, 2) := by decide +kernel
theorem dX12_init_179 : decode cX12_init 179 = .ok (.iastore, 1) := by decide +kernel
theorem dX12_init_180 : decode cX12_init 180 = .ok (.dup, 1) := by decide +kernel
theorem dX12_init_181 : decode cX12_init 181 = .ok (.bipush 28, 2) := by decide +kernel
theorem dX12_init_183 : decode cX12_init 183 = .ok (.bipush 101, 2) := by decide +kernel
theorem dX12_init_185 : decode cX12_init 185 = .ok (.iastore, 1) := by decide +kernel
theorem dX12_init_186 : decode cX12_init 186 = .ok (.dup, 1) := by decide +kernel
theorem dX12_init_187 : decode cX12_init 187 = .ok (.bipush 29, 2) := by decide +kernel
theorem dX12_init_189 : decode cX12_init 189 = .ok (.bipush 32, 2) := by decide +kernel
theorem dX12_init_191 : decode cX12_init 191 = .ok (.iastore, 1) := by decide +kernel
theorem dX12_init_192 : decode cX12_init 192 = .ok (.dup, 1) := by decide +kernel
theorem dX12_init_193 : decode cX12_init 193 = .ok (.bipush 30, 2) := by decide +kernel
theorem dX12_init_195 : decode cX12_init 195 = .ok (.bipush 115, 2) := by decide +kernel
theorem dX12_init_197 : decode cX12_init 197 = .ok (.iastore, 1) := by decide +kernel
theorem dX12_init_198 : decode cX12_init 198 = .ok (.dup, 1) := by decide +kernel
theorem dX12_init_199 : decode cX12_init 199 = .ok (.bipush 31, 2) := by decide +kernel
theorem dX12_init_201 : decode cX12_init 201 = .ok (.bipush 101, 2) := by decide +kernel
theorem dX12_init_203 : decode cX12_init 203 = .ok (.iastore, 1) := by decide +kernel
theorem dX12_init_204 : decode cX12_init 204 = .ok (.dup, 1) := by decide +kernel
theorem dX12_init_205 : decode cX12_init 205 = .ok (.bipush 32, 2) := by decide +kernel
theorem dX12_init_207 : decode cX12_init 207 = .ok (.bipush 101, 2) := by decide +kernel
theorem dX12_init_209 : decode cX12_init 209 = .ok (.iastore, 1) := by decide +kernel
theorem dX12_init_210 : decode cX12_init 210 = .ok (.dup, 1) := by decide +kernel
theorem dX12_init_211 : decode cX12_init 211 = .ok (.bipush 33, 2) := by decide +kernel
theorem dX12_init_213 : decode cX12_init 213 = .ok (.bipush 100, 2) := by decide +kernel
theorem dX12_init_215 : decode cX12_init 215 = .ok (.iastore, 1) := by decide +kernel
theorem dX12_init_216 : decode cX12_init 216 = .ok (.dup, 1) := by decide +kernel
theorem dX12_init_217 : decode cX12_init 217 = .ok (.bipush 34, 2) := by decide +kernel
theorem dX12_init_219 : decode cX12_init 219 = .ok (.bipush 32, 2) := by decide +kernel
theorem dX12_init_221 : decode cX12_init 221 = .ok (.iastore, 1) := by decide +kernel
theorem dX12_init_222 : decode cX12_init 222 = .ok (.dup, 1) := by decide +kernel
theorem dX12_init_223 : decode cX12_init 223 = .ok (.bipush 35, 2) := by decide +kernel
theorem dX12_init_225 : decode cX12_init 225 = .ok (.bipush 108, 2) := by decide +kernel
theorem dX12_init_227 : decode cX12_init 227 = .ok (.iastore, 1) := by decide +kernel
theorem dX12_init_228 : decode cX12_init 228 = .ok (.dup, 1) := by decide +kernel
theorem dX12_init_229 : decode cX12_init 229 = .ok (.bipush 36, 2) := by decide +kernel
theorem dX12_init_231 : decode cX12_init 231 = .ok (.bipush 97, 2) := by decide +kernel
theorem dX12_init_233 : decode cX12_init 233 = .ok (.iastore, 1) := by decide +kernel
theorem dX12_init_234 : decode cX12_init 234 = .ok (.dup, 1) := by decide +kernel
theorem dX12_init_235 : decode cX12_init 235 = .ok (.bipush 37, 2) := by decide +kernel
theorem dX12_init_237 : decode cX12_init 237 = .ok (.bipush 119, 2) := by decide +kernel
theorem dX12_init_239 : decode cX12_init 239 = .ok (.iastore, 1) := by decide +kernel
theorem dX12_init_240 : decode cX12_init 240 = .ok (.dup, 1) := by decide +kernel
theorem dX12_init_241 : decode cX12_init 241 = .ok (.bipush 38, 2) := by decide +kernel
theorem dX12_init_243 : decode cX12_init 243 = .ok (.bipush 32, 2) := by decide +kernel
theorem dX12_init_245 : decode cX12_init 245 = .ok (.iastore, 1) := by decide +kernel
theorem dX12_init_246 : decode cX12_init 246 = .ok (.dup, 1) := by decide +kernel
theorem dX12_init_247 : decode cX12_init 247 = .ok (.bipush 39, 2) := by decide +kernel
theorem dX12_init_249 : decode cX12_init 249 = .ok (.bipush 100, 2) := by decide +kernel
theorem dX12_init_251 : decode cX12_init 251 = .ok (.iastore, 1) := by decide +kernel
theorem dX12_init_252 : decode cX12_init 252 = .ok (.dup, 1) := by decide +kernel
theorem dX12_init_253 : decode cX12_init 253 = .ok (.bipush 40, 2) := by decide +kernel
theorem dX12_init_255 : decode cX12_init 255 = .ok (.bipush 101, 2) := by decide +kernel
theorem dX12_init_257 : decode cX12_init 257 = .ok (.iastore, 1) := by decide +kernel
theorem dX12_init_258 : decode cX12_init 258 = .ok (.dup, 1) := by decide +kernel
theorem dX12_init_259 : decode cX12_init 259 = .ok (.bipush 41, 2) := by decide +kernel
theorem dX12_init_261 : decode cX12_init 261 = .ok (.bipush 101, 2) := by decide +kernel
theorem dX12_init_263 : decode cX12_init 263 = .ok (.iastore, 1) := by decide +kernel
theorem dX12_init_264 : decode cX12_init 264 = .ok (.dup, 1) := by decide +kernel
theorem dX12_init_265 : decode cX12_init 265 = .ok (.bipush 42, 2) := by decide +kernel
theorem dX12_init_267 : decode cX12_init 267 = .ok (.bipush 112, 2) := by decide +kernel
theorem dX12_init_269 : decode cX12_init 269 = .ok (.iastore, 1) := by decide +kernel
theorem dX12_init_270 : decode cX12_init 270 = .ok (.dup, 1) := by decide +kernel
theorem dX12_init_271 : decode cX12_init 271 = .ok (.bipush 43, 2) := by decide +kernel
theorem dX12_init_273 : decode cX12_init 273 = .ok (.bipush 32, 2) := by decide +kernel
theorem dX12_init_275 : decode cX12_init 275 = .ok (.iastore, 1) := by decide +kernel
theorem dX12_init_276 : decode cX12_init 276 = .ok (.dup, 1) := by decide +kernel
theorem dX12_init_277 : decode cX12_init 277 = .ok (.bipush 44, 2) := by decide +kernel
theorem dX12_init_279 : decode cX12_init 279 = .ok (.bipush 116, 2) := by decide +kernel
theorem dX12_init_281 : decode cX12_init 281 = .ok (.iastore, 1) := by decide +kernel
theorem dX12_init_282 : decode cX12_init 282 = .ok (.dup, 1) := by decide +kernel
theorem dX12_init_283 : decode cX12_init 283 = .ok (.bipush 45, 2) := by decide +kernel
theorem dX12_init_285 : decode cX12_init 285 = .ok (.bipush 117, 2) := by decide +kernel
theorem dX12_init_287 : decode cX12_init 287 = .ok (.iastore, 1) := by decide +kernel
theorem dX12_init_288 : decode cX12_init 288 = .ok (.dup, 1) := by decide +kernel
theorem dX12_init_289 : decode cX12_init 289 = .ok (.bipush 46, 2) := by decide +kernel
theorem dX12_init_291 : decode cX12_init 291 = .ok (.bipush 114, 2) := by decide +kernel
theorem dX12_init_293 : decode cX12_init 293 = .ok (.iastore, 1) := by decide +kernel
theorem dX12_init_294 : decode cX12_init 294 = .ok (.dup, 1) := by decide +kernel
theorem dX12_init_295 : decode cX12_init 295 = .ok (.bipush 47, 2) := by decide +kernel
theorem dX12_init_297 : decode cX12_init 297 = .ok (.bipush 110, 2) := by decide +kernel
theorem dX12_init_299 : decode cX12_init 299 = .ok (.iastore, 1) := by decide +kernel
theorem dX12_init_300 : decode cX12_init 300 = .ok (.dup, 1) := by decide +kernel
theorem dX12_init_301 : decode cX12_init 301 = .ok (.bipush 48, 2) := by decide +kernel
theorem dX12_init_303 : decode cX12_init 303 = .ok (.bipush 115, 2) := by decide +kernel
theorem dX12_init_305 : decode cX12_init 305 = .ok (.iastore, 1) := by decide +kernel
theorem dX12_init_306 : decode cX12_init 306 = .ok (.dup, 1) := by decide +kernel
theorem dX12_init_307 : decode cX12_init 307 = .ok (.bipush 49, 2) := by decide +kernel
theorem dX12_init_309 : decode cX12_init 309 = .ok (.bipush 32, 2) := by decide +kernel
theorem dX12_init_311 : decode cX12_init 311 = .ok (.iastore, 1) := by decide +kernel
theorem dX12_init_312 : decode cX12_init 312 = .ok (.dup, 1) := by decide +kernel
theorem dX12_init_313 : decode cX12_init 313 = .ok (.bipush 50, 2) := by decide +kernel
theorem dX12_init_315 : decode cX12_init 315 = .ok (.bipush 101, 2) := by decide +kernel
theorem dX12_init_317 : decode cX12_init 317 = .ok (.iastore, 1) := by decide +kernel
theorem dX12_init_318 : decode cX12_init 318 = .ok (.dup, 1) := by decide +kernel
theorem dX12_init_319 : decode cX12_init 319 = .ok (.bipush 51, 2) := by decide +kernel
theorem dX12_init_321 : decode cX12_init 321 = .ok (.bipush 97, 2) := by decide +kernel
theorem dX12_init_323 : decode cX12_init 323 = .ok (.iastore, 1) := by decide +kernel
theorem dX12_init_324 : decode cX12_init 324 = .ok (.dup, 1) := by decide +kernel
theorem dX12_init_325 : decode cX12_init 325 = .ok (.bipush 52, 2) := by decide +kernel
theorem dX12_init_327 : decode cX12_init 327 = .ok (.bipush 99, 2) := by decide +kernel
theorem dX12_init_329 : decode cX12_init 329 = .ok (.iastore, 1) := by decide +kernel
theorem dX12_init_330 : decode cX12_init 330 = .ok (.dup, 1) := by decide +kernel
theorem dX12_init_331 : decode cX12_init 331 = .ok (.bipush 53, 2) := by decide +kernel
theorem dX12_init_333 : decode cX12_init 333 = .ok (.bipush 104, 2) := by decide +kernel
theorem dX12_init_335 : decode cX12_init 335 = .ok (.iastore, 1) := by decide +kernel
theorem dX12_init_336 : decode cX12_init 336 = .ok (.dup, 1) := by decide +kernel
theorem dX12_init_337 : decode cX12_init 337 = .ok (.bipush 54, 2) := by decide +kernel
theorem dX12_init_339 : decode cX12_init 339 = .ok (.bipush 32, 2) := by decide +kernel
theorem dX12_init_341 : decode cX12_init 341 = .ok (.iastore, 1) := by decide +kernel
theorem dX12_init_342 : decode cX12_init 342 = .ok (.dup, 1) := by decide +kernel
theorem dX12_init_343 : decode cX12_init 343 = .ok (.bipush 55, 2) := by decide +kernel
theorem dX12_init_345 : decode cX12_init 345 = .ok (.bipush 111, 2) := by decide +kernel
theorem dX12_init_347 : decode cX12_init 347 = .ok (.iastore, 1) := by decide +kernel
theorem dX12_init_348 : decode cX12_init 348 = .ok (.dup, 1) := by decide +kernel
theorem dX12_init_349 : decode cX12_init 349 = .ok (.bipush 56, 2) := by decide +kernel
theorem dX12_init_351 : decode cX12_init 351 = .ok (.bipush 117, 2) := by decide +kernel
theorem dX12_init_353 : decode cX12_init 353 = .ok (.iastore, 1) := by decide +kernel
theorem dX12_init_354 : decode cX12_init 354 = .ok (.dup, 1) := by decide +kernel
theorem dX12_init_355 : decode cX12_init 355 = .ok (.bipush 57, 2) := by decide +kernel
theorem dX12_init_357 : decode cX12_init 357 = .ok (.bipush 116, 2) := by decide +kernel
theorem dX12_init_359 : decode cX12_init 359 = .ok (.iastore, 1) := by decide +kernel
theorem dX12_init_360 : decode cX12_init 360 = .ok (.dup, 1) := by decide +kernel
theorem dX12_init_361 : decode cX12_init 361 = .ok (.bipush 58, 2) := by decide +kernel
theorem dX12_init_363 : decode cX12_init 363 = .ok (.bipush 32, 2) := by decide +kernel
theorem dX12_init_365 : decode cX12_init 365 = .ok (.iastore, 1) := by decide +kernel
theorem dX12_init_366 : decode cX12_init 366 = .ok (.dup, 1) := by decide +kernel
theorem dX12_init_367 : decode cX12_init 367 = .ok (.bipush 59, 2) := by decide +kernel
theorem dX12_init_369 : decode cX12_init 369 = .ok (.bipush 99, 2) := by decide +kernel
theorem dX12_init_371 : decode cX12_init 371 = .ok (.iastore, 1) := by decide +kernel
theorem dX12_init_372 : decode cX12_init 372 = .ok (.dup, 1) := by decide +kernel
theorem dX12_init_373 : decode cX12_init 373 = .ok (.bipush 60, 2) := by decide +kernel
theorem dX12_init_375 : decode cX12_init 375 = .ok (.bipush 97, 2) := by decide +kernel
theorem dX12_init_377 : decode cX12_init 377 = .ok (.iastore, 1) := by decide +kernel
theorem dX12_init_378 : decode cX12_init 378 = .ok (.dup, 1) := by decide +kernel
theorem dX12_init_379 : decode cX12_init 379 = .ok (.bipush 61, 2) := by decide +kernel
theorem dX12_init_381 : decode cX12_init 381 = .ok (.bipush 116, 2) := by decide +kernel
theorem dX12_init_383 : decode cX12_init 383 = .ok (.iastore, 1) := by decide +kernel
theorem dX12_init_384 : decode cX12_init 384 = .ok (.dup, 1) := by decide +kernel
theorem dX12_init_385 : decode cX12_init 385 = .ok (.bipush 62, 2) := by decide +kernel
theorem dX12_init_387 : decode cX12_init 387 = .ok (.bipush 99, 2) := by decide +kernel
theorem dX12_init_389 : decode cX12_init 389 = .ok (.iastore, 1) := by decide +kernel
theorem dX12_init_390 : decode cX12_init 390 = .ok (.dup, 1) := by decide +kernel
theorem dX12_init_391 : decode cX12_init 391 = .ok (.bipush 63, 2) := by decide +kernel
theorem dX12_init_393 : decode cX12_init 393 = .ok (.bipush 104, 2) := by decide +kernel
theorem dX12_init_395 : decode cX12_init 395 = .ok (.iastore, 1) := by decide +kernel
theorem dX12_init_396 : decode cX12_init 396 = .ok (.dup, 1) := by decide +kernel
theorem dX12_init_397 : decode cX12_init 397 = .ok (.bipush 64, 2) := by decide +kernel
theorem dX12_init_399 : decode cX12_init 399 = .ok (.bipush 32, 2) := by decide +kernel
theorem dX12_init_401 : decode cX12_init 401 = .ok (.iastore, 1) := by decide +kernel
theorem dX12_init_402 : decode cX12_init 402 = .ok (.dup, 1) := by decide +kernel
theorem dX12_init_403 : decode cX12_init 403 = .ok (.bipush 65, 2) := by decide +kernel
theorem dX12_init_405 : decode cX12_init 405 = .ok (.bipush 100, 2) := by decide +kernel
theorem dX12_init_407 : decode cX12_init 407 = .ok (.iastore, 1) := by decide +kernel
theorem dX12_init_408 : decode cX12_init 408 = .ok (.dup, 1) := by decide +kernel
theorem dX12_init_409 : decode cX12_init 409 = .ok (.bipush 66, 2) := by decide +kernel
theorem dX12_init_411 : decode cX12_init 411 = .ok (.bipush 114, 2) := by decide +kernel
theorem dX12_init_413 : decode cX12_init 413 = .ok (.iastore, 1) := by decide +kernel
theorem dX12_init_414 : decode cX12_init 414 = .ok (.dup, 1) := by decide +kernel
theorem dX12_init_415 : decode cX12_init 415 = .ok (.bipush 67, 2) := by decide +kernel
theorem dX12_init_417 : decode cX12_init 417 = .ok (.bipush 105, 2) := by decide +kernel
theorem dX12_init_419 : decode cX12_init 419 = .ok (.iastore, 1) := by decide +kernel
theorem dX12_init_420 : decode cX12_init 420 = .ok (.dup, 1) := by decide +kernel
theorem dX12_init_421 : decode cX12_init 421 = .ok (.bipush 68, 2) := by decide +kernel
theorem dX12_init_423 : decode cX12_init 423 = .ok (.bipush 102, 2) := by decide +kernel
theorem dX12_init_425 : decode cX12_init 425 = .ok (.iastore, 1) := by decide +kernel
theorem dX12_init_426 : decode cX12_init 426 = .ok (.dup, 1) := by decide +kernel
theorem dX12_init_427 : decode cX12_init 427 = .ok (.bipush 69, 2) := by decide +kernel
theorem dX12_init_429 : decode cX12_init 429 = .ok (.bipush 116, 2) := by decide +kernel
theorem dX12_init_431 : decode cX12_init 431 = .ok (.iastore, 1) := by decide +kernel
theorem dX12_init_432 : decode cX12_init 432 = .ok (.dup, 1) := by decide +kernel
theorem dX12_init_433 : decode cX12_init 433 = .ok (.bipush 70, 2) := by decide +kernel
theorem dX12_init_435 : decode cX12_init 435 = .ok (.bipush 32, 2) := by decide +kernel
theorem dX12_init_437 : decode cX12_init 437 = .ok (.iastore, 1) := by decide +kernel
theorem dX12_init_438 : decode cX12_init 438 = .ok (.dup, 1) := by decide +kernel
theorem dX12_init_439 : decode cX12_init 439 = .ok (.bipush 71, 2) := by decide +kernel
theorem dX12_init_441 : decode cX12_init 441 = .ok (.bipush 97, 2) := by decide +kernel
theorem dX12_init_443 : decode cX12_init 443 = .ok (.iastore, 1) := by decide +kernel
theorem dX12_init_444 : decode cX12_init 444 = .ok (.dup, 1) := by decide +kernel
theorem dX12_init_445 : decode cX12_init 445 = .ok (.bipush 72, 2) := by decide +kernel
theorem dX12_init_447 : decode cX12_init 447 = .ok (.bipush 119, 2) := by decide +kernel
theorem dX12_init_449 : decode cX12_init 449 = .ok (.iastore, 1) := by decide +kernel
theorem dX12_init_450 : decode cX12_init 450 = .ok (.dup, 1) := by decide +kernel
theorem dX12_init_451 : decode cX12_init 451 = .ok (.bipush 73, 2) := by decide +kernel
theorem dX12_init_453 : decode cX12_init 453 = .ok (.bipush 97, 2) := by decide +kernel
theorem dX12_init_455 : decode cX12_init 455 = .ok (.iastore, 1) := by decide +kernel
theorem dX12_init_456 : decode cX12_init 456 = .ok (.dup, 1) := by decide +kernel
theorem dX12_init_457 : decode cX12_init 457 = .ok (.bipush 74, 2) := by decide +kernel
theorem dX12_init_459 : decode cX12_init 459 = .ok (.bipush 121, 2) := by decide +kernel
theorem dX12_init_461 : decode cX12_init 461 = .ok (.iastore, 1) := by decide +kernel
theorem dX12_init_462 : decode cX12_init 462 = .ok (.dup, 1) := by decide +kernel
theorem dX12_init_463 : decode cX12_init 463 = .ok (.bipush 75, 2) := by decide +kernel
theorem dX12_init_465 : decode cX12_init 465 = .ok (.bipush 32, 2) := by decide +kernel
theorem dX12_init_467 : decode cX12_init 467 = .ok (.iastore, 1) := by decide +kernel
theorem dX12_init_468 : decode cX12_init 468 = .ok (.dup, 1) := by decide +kernel
theorem dX12_init_469 : decode cX12_init 469 = .ok (.bipush 76, 2) := by decide +kernel
theorem dX12_init_471 : decode cX12_init 471 = .ok (.bipush 97, 2) := by decide +kernel
theorem dX12_init_473 : decode cX12_init 473 = .ok (.iastore, 1) := by decide +kernel
theorem dX12_init_474 : decode cX12_init 474 = .ok (.dup, 1) := by decide +kernel
theorem dX12_init_475 : decode cX12_init 475 = .ok (.bipush 77, 2) := by decide +kernel
theorem dX12_init_477 : decode cX12_init 477 = .ok (.bipush 110, 2) := by decide +kernel
theorem dX12_init_479 : decode cX12_init 479 = .ok (.iastore, 1) := by decide +kernel
theorem dX12_init_480 : decode cX12_init 480 = .ok (.dup, 1) := by decide +kernel
theorem dX12_init_481 : decode cX12_init 481 = .ok (.bipush 78, 2) := by decide +kernel
theorem dX12_init_483 : decode cX12_init 483 = .ok (.bipush 100, 2) := by decide +kernel
theorem dX12_init_485 : decode cX12_init 485 = .ok (.iastore, 1) := by decide +kernel
theorem dX12_init_486 : decode cX12_init 486 = .ok (.dup, 1) := by decide +kernel
theorem dX12_init_487 : decode cX12_init 487 = .ok (.bipush 79, 2) := by decide +kernel
theorem dX12_init_489 : decode cX12_init 489 = .ok (.bipush 32, 2) := by decide +kernel
theorem dX12_init_491 : decode cX12_init 491 = .ok (.iastore, 1) := by decide +kernel
theorem dX12_init_492 : decode cX12_init 492 = .ok (.dup, 1) := by decide +kernel
theorem dX12_init_493 : decode cX12_init 493 = .ok (.bipush 80, 2) := by decide +kernel
theorem dX12_init_495 : decode cX12_init 495 = .ok (.bipush 111, 2) := by decide +kernel
theorem dX12_init_497 : decode cX12_init 497 = .ok (.iastore, 1) := by decide +kernel
theorem dX12_init_498 : decode cX12_init 498 = .ok (.dup, 1) := by decide +kernel
theorem dX12_init_499 : decode cX12_init 499 = .ok (.bipush 81, 2) := by decide +kernel
theorem dX12_init_501 : decode cX12_init 501 = .ok (.bipush 114, 2) := by decide +kernel
theorem dX12_init_503 : decode cX12_init 503 = .ok (.iastore, 1) := by decide +kernel
theorem dX12_init_504 : decode cX12_init 504 = .ok (.dup, 1) := by decide +kernel
theorem dX12_init_505 : decode cX12_init 505 = .ok (.bipush 82, 2) := by decide +kernel
theorem dX12_init_507 : decode cX12_init 507 = .ok (.bipush 32, 2) := by decide +kernel
theorem dX12_init_509 : decode cX12_init 509 = .ok (.iastore, 1) := by decide +kernel
theorem dX12_init_510 : decode cX12_init 510 = .ok (.dup, 1) := by decide +kernel
theorem dX12_init_511 : decode cX12_init 511 = .ok (.bipush 83, 2) := by decide +kernel
theorem dX12_init_513 : decode cX12_init 513 = .ok (.bipush 110, 2) := by decide +kernel
theorem dX12_init_515 : decode cX12_init 515 = .ok (.iastore, 1) := by decide +kernel
theorem dX12_init_516 : decode cX12_init 516 = .ok (.dup, 1) := by decide +kernel
theorem dX12_init_517 : decode cX12_init 517 = .ok (.bipush 84, 2) := by decide +kernel
theorem dX12_init_519 : decode cX12_init 519 = .ok (.bipush 111, 2) := by decide +kernel
theorem dX12_init_521 : decode cX12_init 521 = .ok (.iastore, 1) := by decide +kernel
theorem dX12_init_522 : decode cX12_init 522 = .ok (.dup, 1) := by decide +kernel
theorem dX12_init_523 : decode cX12_init 523 = .ok (.bipush 85, 2) := by decide +kernel
theorem dX12_init_525 : decode cX12_init 525 = .ok (.bipush 116, 2) := by decide +kernel
theorem dX12_init_527 : decode cX12_init 527 = .ok (.iastore, 1) := by decide +kernel
theorem dX12_init_528 : decode cX12_init 528 = .ok (.dup, 1) := by decide +kernel
theorem dX12_init_529 : decode cX12_init 529 = .ok (.bipush 86, 2) := by decide +kernel
theorem dX12_init_531 : decode cX12_init 531 = .ok (.bipush 32, 2) := by decide +kernel
theorem dX12_init_533 : decode cX12_init 533 = .ok (.iastore, 1) := by decide +kernel
theorem dX12_init_534 : decode cX12_init 534 = .ok (.dup, 1) := by decide +kernel
theorem dX12_init_535 : decode cX12_init 535 = .ok (.bipush 87, 2) := by decide +kernel
theorem dX12_init_537 : decode cX12_init 537 = .ok (.bipush 102, 2) := by decide +kernel
theorem dX12_init_539 : decode cX12_init 539 = .ok (.iastore, 1) := by decide +kernel
theorem dX12_init_540 : decode cX12_init 540 = .ok (.dup, 1) := by decide +kernel
theorem dX12_init_541 : decode cX12_init 541 = .ok (.bipush 88, 2) := by decide +kernel
theorem dX12_init_543 : decode cX12_init 543 = .ok (.bipush 97, 2) := by decide +kernel
theorem dX12_init_545 : decode cX12_init 545 = .ok (.iastore, 1) := by decide +kernel
theorem dX12_init_546 : decode cX12_init 546 = .ok (.dup, 1) := by decide +kernel
theorem dX12_init_547 : decode cX12_init 547 = .ok (.bipush 89, 2) := by decide +kernel
theorem dX12_init_549 : decode cX12_init 549 = .ok (.bipush 114, 2) := by decide +kernel
theorem dX12_init_551 : decode cX12_init 551 = .ok (.iastore, 1) := by decide +kernel
theorem dX12_init_552 : decode cX12_init 552 = .ok (.dup, 1) := by decide +kernel
theorem dX12_init_553 : decode cX12_init 553 = .ok (.bipush 90, 2) := by decide +kernel
theorem dX12_init_555 : decode cX12_init 555 = .ok (.bipush 32, 2) := by decide +kernel
theorem dX12_init_557 : decode cX12_init 557 = .ok (.iastore, 1) := by decide +kernel
theorem dX12_init_558 : decode cX12_init 558 = .ok (.dup, 1) := by decide +kernel
theorem dX12_init_559 : decode cX12_init 559 = .ok (.bipush 91, 2) := by decide +kernel
theorem dX12_init_561 : decode cX12_init 561 = .ok (.bipush 115, 2) := by decide +kernel
theorem dX12_init_563 : decode cX12_init 563 = .ok (.iastore, 1) := by decide +kernel
theorem dX12_init_564 : decode cX12_init 564 = .ok (.dup, 1) := by decide +kernel
theorem dX12_init_565 : decode cX12_init 565 = .ok (.bipush 92, 2) := by decide +kernel
theorem dX12_init_567 : decode cX12_init 567 = .ok (.bipush 105, 2) := by decide +kernel
theorem dX12_init_569 : decode cX12_init 569 = .ok (.iastore, 1) := by decide +kernel
theorem dX12_init_570 : decode cX12_init 570 = .ok (.dup, 1) := by decide +kernel
theorem dX12_init_571 : decode cX12_init 571 = .ok (.bipush 93, 2) := by decide +kernel
theorem dX12_init_573 : decode cX12_init 573 = .ok (.bipush 100, 2) := by decide +kernel
theorem dX12_init_575 : decode cX12_init 575 = .ok (.iastore, 1) := by decide +kernel
theorem dX12_init_576 : decode cX12_init 576 = .ok (.dup, 1) := by decide +kernel
theorem dX12_init_577 : decode cX12_init 577 = .ok (.bipush 94, 2) := by decide +kernel
theorem dX12_init_579 : decode cX12_init 579 = .ok (.bipush 101, 2) := by decide +kernel
theorem dX12_init_581 : decode cX12_init 581 = .ok (.iastore, 1) := by decide +kernel
theorem dX12_init_582 : decode cX12_init 582 = .ok (.dup, 1) := by decide +kernel
theorem dX12_init_583 : decode cX12_init 583 = .ok (.bipush 95, 2) := by decide +kernel
theorem dX12_init_585 : decode cX12_init 585 = .ok (.bipush 32, 2) := by decide +kernel
theorem dX12_init_587 : decode cX12_init 587 = .ok (.iastore, 1) := by decide +kernel
theorem dX12_init_588 : decode cX12_init 588 = .ok (.dup, 1) := by decide +kernel
theorem dX12_init_589 : decode cX12_init 589 = .ok (.bipush 96, 2) := by decide +kernel
theorem dX12_init_591 : decode cX12_init 591 = .ok (.bipush 98, 2) := by decide +kernel
theorem dX12_init_593 : decode cX12_init 593 = .ok (.iastore, 1) := by decide +kernel
theorem dX12_init_594 : decode cX12_init 594 = .ok (.dup, 1) := by decide +kernel
theorem dX12_init_595 : decode cX12_init 595 = .ok (.bipush 97, 2) := by decide +kernel
theorem dX12_init_597 : decode cX12_init 597 = .ok (.bipush 111, 2) := by decide +kernel
theorem dX12_init_599 : decode cX12_init 599 = .ok (.iastore, 1) := by decide +kernel
theorem dX12_init_600 : decode cX12_init 600 = .ok (.dup, 1) := by decide +kernel
theorem dX12_init_601 : decode cX12_init 601 = .ok (.bipush 98, 2) := by decide +kernel
theorem dX12_init_603 : decode cX12_init 603 = .ok (.bipush 97, 2) := by decide +kernel
theorem dX12_init_605 : decode cX12_init 605 = .ok (.iastore, 1) := by decide +kernel
theorem dX12_init_606 : decode cX12_init 606 = .ok (.dup, 1) := by decide +kernel
theorem dX12_init_607 : decode cX12_init 607 = .ok (.bipush 99, 2) := by decide +kernel
theorem dX12_init_609 : decode cX12_init 609 = .ok (.bipush 114, 2) := by decide +kernel
theorem dX12_init_611 : decode cX12_init 611 = .ok (.iastore, 1) := by decide +kernel
theorem dX12_init_612 : decode cX12_init 612 = .ok (.dup, 1) := by decide +kernel
theorem dX12_init_613 : decode cX12_init 613 = .ok (.bipush 100, 2) := by decide +kernel
theorem dX12_init_615 : decode cX12_init 615 = .ok (.bipush 100, 2) := by decide +kernel
theorem dX12_init_617 : decode cX12_init 617 = .ok (.iastore, 1) := by decide +kernel
theorem dX12_init_618 : decode cX12_init 618 = .ok (.dup, 1) := by decide +kernel
theorem dX12_init_619 : decode cX12_init 619 = .ok (.bipush 101, 2) := by decide +kernel
theorem dX12_init_621 : decode cX12_init 621 = .ok (.bipush 32, 2) := by decide +kernel
theorem dX12_init_623 : decode cX12_init 623 = .ok (.iastore, 1) := by decide +kernel
theorem dX12_init_624 : decode cX12_init 624 = .ok (.dup, 1) := by decide +kernel
theorem dX12_init_625 : decode cX12_init 625 = .ok (.bipush 102, 2) := by decide +kernel
theorem dX12_init_627 : decode cX12_init 627 = .ok (.bipush 115, 2) := by decide +kernel
theorem dX12_init_629 : decode cX12_init 629 = .ok (.iastore, 1) := by decide +kernel
theorem dX12_init_630 : decode cX12_init 630 = .ok (.dup, 1) := by decide +kernel
theorem dX12_init_631 : decode cX12_init 631 = .ok (.bipush 103, 2) := by decide +kernel
theorem dX12_init_633 : decode cX12_init 633 = .ok (.bipush 105, 2) := by decide +kernel
theorem dX12_init_635 : decode cX12_init 635 = .ok (.iastore, 1) := by decide +kernel
theorem dX12_init_636 : decode cX12_init 636 = .ok (.dup, 1) := by decide +kernel
theorem dX12_init_637 : decode cX12_init 637 = .ok (.bipush 104, 2) := by decide +kernel
theorem dX12_init_639 : decode cX12_init 639 = .ok (.bipush 122, 2) := by decide +kernel
theorem dX12_init_641 : decode cX12_init 641 = .ok (.iastore, 1) := by decide +kernel
theorem dX12_init_642 : decode cX12_init 642 = .ok (.dup, 1) := by decide +kernel
theorem dX12_init_643 : decode cX12_init 643 = .ok (.bipush 105, 2) := by decide +kernel
theorem dX12_init_645 : decode cX12_init 645 = .ok (.bipush 101, 2) := by decide +kernel
theorem dX12_init_647 : decode cX12_init 647 = .ok (.iastore, 1) := by decide +kernel
theorem dX12_init_648 : decode cX12_init 648 = .ok (.dup, 1) := by decide +kernel
theorem dX12_init_649 : decode cX12_init 649 = .ok (.bipush 106, 2) := by decide +kernel
theorem dX12_init_651 : decode cX12_init 651 = .ok (.bipush 32, 2) := by decide +kernel
theorem dX12_init_653 : decode cX12_init 653 = .ok (.iastore, 1) := by decide +kernel
theorem dX12_init_654 : decode cX12_init 654 = .ok (.dup, 1) := by decide +kernel
theorem dX12_init_655 : decode cX12_init 655 = .ok (.bipush 107, 2) := by decide +kernel
theorem dX12_init_657 : decode cX12_init 657 = .ok (.bipush 109, 2) := by decide +kernel
theorem dX12_init_659 : decode cX12_init 659 = .ok (.iastore, 1) := by decide +kernel
theorem dX12_init_660 : decode cX12_init 660 = .ok (.dup, 1) := by decide +kernel
theorem dX12_init_661 : decode cX12_init 661 = .ok (.bipush 108, 2) := by decide +kernel
theorem dX12_init_663 : decode cX12_init 663 = .ok (.bipush 105, 2) := by decide +kernel
theorem dX12_init_665 : decode cX12_init 665 = .ok (.iastore, 1) := by decide +kernel
theorem dX12_init_666 : decode cX12_init 666 = .ok (.dup, 1) := by decide +kernel
theorem dX12_init_667 : decode cX12_init 667 = .ok (.bipush 109, 2) := by decide +kernel
theorem dX12_init_669 : decode cX12_init 669 = .ok (.bipush 110, 2) := by decide +kernel
theorem dX12_init_671 : decode cX12_init 671 = .ok (.iastore, 1) := by decide +kernel
theorem dX12_init_672 : decode cX12_init 672 = .ok (.dup, 1) := by decide +kernel
theorem dX12_init_673 : decode cX12_init 673 = .ok (.bipush 110, 2) := by decide +kernel
theorem dX12_init_675 : decode cX12_init 675 = .ok (.bipush 117, 2) := by decide +kernel
theorem dX12_init_677 : decode cX12_init 677 = .ok (.iastore, 1) := by decide +kernel
theorem dX12_init_678 : decode cX12_init 678 = .ok (.dup, 1) := by decide +kernel
theorem dX12_init_679 : decode cX12_init 679 = .ok (.bipush 111, 2) := by decide +kernel
theorem dX12_init_681 : decode cX12_init 681 = .ok (.bipush 116, 2) := by decide +kernel
theorem dX12_init_683 : decode cX12_init 683 = .ok (.iastore, 1) := by decide +kernel
theorem dX12_init_684 : decode cX12_init 684 = .ok (.dup, 1) := by decide +kernel
theorem dX12_init_685 : decode cX12_init 685 = .ok (.bipush 112, 2) := by decide +kernel
theorem dX12_init_687 : decode cX12_init 687 = .ok (.bipush 101, 2) := by decide +kernel
theorem dX12_init_689 : decode cX12_init 689 = .ok (.iastore, 1) := by decide +kernel
theorem dX12_init_690 : decode cX12_init 690 = .ok (.dup, 1) := by decide +kernel
theorem dX12_init_691 : decode cX12_init 691 = .ok (.bipush 113, 2) := by decide +kernel
theorem dX12_init_693 : decode cX12_init 693 = .ok (.bipush 32, 2) := by decide +kernel
theorem dX12_init_695 : decode cX12_init 695 = .ok (.iastore, 1) := by decide +kernel
theorem dX12_init_696 : decode cX12_init 696 = .ok (.dup, 1) := by decide +kernel
theorem dX12_init_697 : decode cX12_init 697 = .ok (.bipush 114, 2) := by decide +kernel
theorem dX12_init_699 : decode cX12_init 699 = .ok (.bipush 119, 2) := by decide +kernel
theorem dX12_init_701 : decode cX12_init 701 = .ok (.iastore, 1) := by decide +kernel
theorem dX12_init_702 : decode cX12_init 702 = .ok (.dup, 1) := by decide +kernel
theorem dX12_init_703 : decode cX12_init 703 = .ok (.bipush 115, 2) := by decide +kernel
theorem dX12_init_705 : decode cX12_init 705 = .ok (.bipush 104, 2) := by decide +kernel
theorem dX12_init_707 : decode cX12_init 707 = .ok (.iastore, 1) := by decide +kernel
theorem dX12_init_708 : decode cX12_init 708 = .ok (.dup, 1) := by decide +kernel
theorem dX12_init_709 : decode cX12_init 709 = .ok (.bipush 116, 2) := by decide +kernel
theorem dX12_init_711 : decode cX12_init 711 = .ok (.bipush 105, 2) := by decide +kernel
theorem dX12_init_713 : decode cX12_init 713 = .ok (.iastore, 1) := by decide +kernel
theorem dX12_init_714 : decode cX12_init 714 = .ok (.dup, 1) := by decide +kernel
theorem dX12_init_715 : decode cX12_init 715 = .ok (.bipush 117, 2) := by decide +kernel
theorem dX12_init_717 : decode cX12_init 717 = .ok (.bipush 99, 2) := by decide +kernel
theorem dX12_init_719 : decode cX12_init 719 = .ok (.iastore, 1) := by decide +kernel
theorem dX12_init_720 : decode cX12_init 720 = .ok (.dup, 1) := by decide +kernel
theorem dX12_init_721 : decode cX12_init 721 = .ok (.bipush 118, 2) := by decide +kernel
theorem dX12_init_723 : decode cX12_init 723 = .ok (.bipush 104, 2) := by decide +kernel
theorem dX12_init_725 : decode cX12_init 725 = .ok (.iastore, 1) := by decide +kernel
theorem dX12_init_726 : decode cX12_init 726 = .ok (.dup, 1) := by decide +kernel
theorem dX12_init_727 : decode cX12_init 727 = .ok (.bipush 119, 2) := by decide +kernel
theorem dX12_init_729 : decode cX12_init 729 = .ok (.bipush 32, 2) := by decide +kernel
theorem dX12_init_731 : decode cX12_init 731 = .ok (.iastore, 1) := by decide +kernel
theorem dX12_init_732 : decode cX12_init 732 = .ok (.putfield 13, 3) := by decide +kernel
theorem dX12_init_735 : decode cX12_init 735 = .ok (.aload_n 0, 1) := by decide +kernel
theorem dX12_init_736 : decode cX12_init 736 = .ok (.iconst (-1), 1) := by decide +kernel
theorem dX12_init_737 : decode cX12_init 737 = .ok (.putfield 16, 3) := by decide +kernel
theorem dX12_init_740 : decode cX12_init 740 = .ok (.aload_n 0, 1) := by decide +kernel
theorem dX12_init_741 : decode cX12_init 741 = .ok (.iconst 5, 1) := by decide +kernel
theorem dX12_init_742 : decode cX12_init 742 = .ok (.newarray .boolean, 2) := by decide +kernel
theorem dX12_init_744 : decode cX12_init 744 = .ok (.putfield 20, 3) := by decide +kernel
theorem dX12_init_747 : decode cX12_init 747 = .ok (.aload_n 0, 1) := by decide +kernel
theorem dX12_init_748 : decode cX12_init 748 = .ok (.bipush 14, 2) := by decide +kernel
theorem dX12_init_750 : decode cX12_init 750 = .ok (.newarray .int, 2) := by decide +kernel
theorem dX12_init_752 : decode cX12_init 752 = .ok (.putfield 24, 3) := by decide +kernel
theorem dX12_init_755 : decode cX12_init 755 = .ok (.aload_n 0, 1) := by decide +kernel
theorem dX12_init_756 : decode cX12_init 756 = .ok (.bipush 10, 2) := by decide +kernel
theorem dX12_init_758 : decode cX12_init 758 = .ok (.newarray .int, 2) := by decide +kernel
theorem dX12_init_760 : decode cX12_init 760 = .ok (.putfield 27, 3) := by decide +kernel
theorem dX12_init_763 : decode cX12_init 763 = .ok (.aload_n 0, 1) := by decide +kernel
theorem dX12_init_764 : decode cX12_init 764 = .ok (.bipush 10, 2) := by decide +kernel
theorem dX12_init_766 : decode cX12_init 766 = .ok (.newarray .int, 2) := by decide +kernel
theorem dX12_init_768 : decode cX12_init 768 = .ok (.putfield 30, 3) := by decide +kernel
theorem dX12_init_771 : decode cX12_init 771 = .ok (.aload_n 0, 1) := by decide +kernel
theorem dX12_init_772 : decode cX12_init 772 = .ok (.bipush 10, 2) := by decide +kernel
theorem dX12_init_774 : decode cX12_init 774 = .ok (.newarray .int, 2) := by decide +kernel
theorem dX12_init_776 : decode cX12_init 776 = .ok (.putfield 33, 3) := by decide +kernel
theorem dX12_init_779 : decode cX12_init 779 = .ok (.aload_n 0, 1) := by decide +kernel
theorem dX12_init_780 : decode cX12_init 780 = .ok (.bipush 10, 2) := by decide +kernel
theorem dX12_init_782 : decode cX12_init 782 = .ok (.newarray .int, 2) := by decide +kernel
theorem dX12_init_784 : decode cX12_init 784 = .ok (.putfield 36, 3) := by decide +kernel
theorem dX12_init_787 : decode cX12_init 787 = .ok (.aload_n 0, 1) := by decide +kernel
theorem dX12_init_788 : decode cX12_init 788 = .ok (.bipush 10, 2) := by decide +kernel
theorem dX12_init_790 : decode cX12_init 790 = .ok (.newarray .int, 2) := by decide +kernel
theorem dX12_init_792 : decode cX12_init 792 = .ok (.putfield 39, 3) := by decide +kernel
theorem dX12_init_795 : decode cX12_init 795 = .ok (.aload_n 0, 1) := by decide +kernel
theorem dX12_init_796 : decode cX12_init 796 = .ok (.bipush 10, 2) := by decide +kernel
theorem dX12_init_798 : decode cX12_init 798 = .ok (.newarray .int, 2) := by decide +kernel
theorem dX12_init_800 : decode cX12_init 800 = .ok (.putfield 42, 3) := by decide +kernel
theorem dX12_init_803 : decode cX12_init 803 = .ok (.aload_n 0, 1) := by decide +kernel
theorem dX12_init_804 : decode cX12_init 804 = .ok (.bipush 8, 2) := by decide +kernel
theorem dX12_init_806 : decode cX12_init 806 = .ok (.newarray .int, 2) := by decide +kernel
theorem dX12_init_808 : decode cX12_init 808 = .ok (.putfield 45, 3) := by decide +kernel
theorem dX12_init_811 : decode cX12_init 811 = .ok (.aload_n 0, 1) := by decide +kernel
theorem dX12_init_812 : decode cX12_init 812 = .ok (.bipush 56, 2) := by decide +kernel
theorem dX12_init_814 : decode cX12_init 814 = .ok (.newarray .int, 2) := by decide +kernel
theorem dX12_init_816 : decode cX12_init 816 = .ok (.putfield 48, 3) := by decide +kernel
theorem dX12_init_819 : decode cX12_init 819 = .ok (.aload_n 0, 1) := by decide +kernel
theorem dX12_init_820 : decode cX12_init 820 = .ok (.bipush 56, 2) := by decide +kernel
theorem dX12_init_822 : decode cX12_init 822 = .ok (.newarray .int, 2) := by decide +kernel
theorem dX12_init_824 : decode cX12_init 824 = .ok (.putfield 51, 3) := by decide +kernel
theorem dX12_init_827 : decode cX12_init 827 = .ok (.aload_n 0, 1) := by decide +kernel
theorem dX12_init_828 : decode cX12_init 828 = .ok (.bipush 56, 2) := by decide +kernel
theorem dX12_init_830 : decode cX12_init 830 = .ok (.newarray .int, 2) := by decide +kernel
theorem dX12_init_832 : decode cX12_init 832 = .ok (.putfield 54, 3) := by decide +kernel
theorem dX12_init_835 : decode cX12_init 835 = .ok (.aload_n 0, 1) := by decide +kernel
theorem dX12_init_836 : decode cX12_init 836 = .ok (.bipush 6, 2) := by decide +kernel
theorem dX12_init_838 : decode cX12_init 838 = .ok (.newarray .boolean, 2) := by decide +kernel
theorem dX12_init_840 : decode cX12_init 840 = .ok (.putfield 57, 3) := by decide +kernel
theorem dX12_init_843 : decode cX12_init 843 = .ok (.aload_n 0, 1) := by decide +kernel
theorem dX12_init_844 : decode cX12_init 844 = .ok (.bipush 6, 2) := by decide +kernel
theorem dX12_init_846 : decode cX12_init 846 = .ok (.newarray .int, 2) := by decide +kernel
theorem dX12_init_848 : decode cX12_init 848 = .ok (.putfield 60, 3) := by decide +kernel
theorem dX12_init_851 : decode cX12_init 851 = .ok (.aload_n 0, 1) := by decide +kernel
theorem dX12_init_852 : decode cX12_init 852 = .ok (.bipush 6, 2) := by decide +kernel
theorem dX12_init_854 : decode cX12_init 854 = .ok (.newarray .int, 2) := by decide +kernel
theorem dX12_init_856 : decode cX12_init 856 = .ok (.putfield 63, 3) := by decide +kernel
theorem dX12_init_859 : decode cX12_init 859 = .ok (.aload_n 0, 1) := by decide +kernel
theorem dX12_init_860 : decode cX12_init 860 = .ok (.sipush 128, 3) := by decide +kernel
theorem dX12_init_863 : decode cX12_init 863 = .ok (.newarray .int, 2) := by decide +kernel
theorem dX12_init_865 : decode cX12_init 865 = .ok (.putfield 66, 3) := by decide +kernel
theorem dX12_init_868 : decode cX12_init 868 = .ok (.aload_n 0, 1) := by decide +kernel
theorem dX12_init_869 : decode cX12_init 869 = .ok (.sipush 128, 3) := by decide +kernel
theorem dX12_init_872 : decode cX12_init 872 = .ok (.newarray .int, 2) := by decide +kernel
theorem dX12_init_874 : decode cX12_init 874 = .ok (.putfield 69, 3) := by decide +kernel
theorem dX12_init_877 : decode cX12_init 877 = .ok (.aload_n 0, 1) := by decide +kernel
theorem dX12_init_878 : decode cX12_init 878 = .ok (.sipush 128, 3) := by decide +kernel
theorem dX12_init_881 : decode cX12_init 881 = .ok (.newarray .int, 2) := by decide +kernel
theorem dX12_init_883 : decode cX12_init 883 = .ok (.putfield 72, 3) := by decide +kernel
theorem dX12_init_886 : decode cX12_init 886 = .ok (.aload_n 0, 1) := by decide +kernel
theorem dX12_init_887 : decode cX12_init 887 = .ok (.bipush 96, 2) := by decide +kernel
theorem dX12_init_889 : decode cX12_init 889 = .ok (.newarray .int, 2) := by decide +kernel
theorem dX12_init_891 : decode cX12_init 891 = .ok (.putfield 75, 3) := by decide +kernel
theorem dX12_init_894 : decode cX12_init 894 = .ok (.aload_n 0, 1) := by decide +kernel
theorem dX12_init_895 : decode cX12_init 895 = .ok (.bipush 96, 2) := by decide +kernel
theorem dX12_init_897 : decode cX12_init 897 = .ok (.newarray .int, 2) := by decide +kernel
theorem dX12_init_899 : decode cX12_init 899 = .ok (.putfield 78, 3) := by decide +kernel
theorem dX12_init_902 : decode cX12_init 902 = .ok (.aload_n 0, 1) := by decide +kernel
theorem dX12_init_903 : decode cX12_init 903 = .ok (.bipush 6, 2) := by decide +kernel
theorem dX12_init_905 : decode cX12_init 905 = .ok (.newarray .long, 2) := by decide +kernel
theorem dX12_init_907 : decode cX12_init 907 = .ok (.putfield 81, 3) := by decide +kernel
theorem dX12_init_910 : decode cX12_init 910 = .ok (.aload_n 0, 1) := by decide +kernel
theorem dX12_init_911 : decode cX12_init 911 = .ok (.bipush 64, 2) := by decide +kernel
theorem dX12_init_913 : decode cX12_init 913 = .ok (.newarray .long, 2) := by decide +kernel
theorem dX12_init_915 : decode cX12_init 915 = .ok (.putfield 85, 3) := by decide +kernel
theorem dX12_init_918 : decode cX12_init 918 = .ok (.aload_n 0, 1) := by decide +kernel
theorem dX12_init_919 : decode cX12_init 919 = .ok (.bipush 10, 2) := by decide +kernel
theorem dX12_init_921 : decode cX12_init 921 = .ok (.newarray .int, 2) := by decide +kernel
theorem dX12_init_923 : decode cX12_init 923 = .ok (.putfield 88, 3) := by decide +kernel
theorem dX12_init_926 : decode cX12_init 926 = .ok (.aload_n 0, 1) := by decide +kernel
theorem dX12_init_927 : decode cX12_init 927 = .ok (.bipush 10, 2) := by decide +kernel
theorem dX12_init_929 : decode cX12_init 929 = .ok (.newarray .int, 2) := by decide +kernel
theorem dX12_init_931 : decode cX12_init 931 = .ok (.putfield 91, 3) := by decide +kernel
theorem dX12_init_934 : decode cX12_init 934 = .ok (.aload_n 0, 1) := by decide +kernel
theorem dX12_init_935 : decode cX12_init 935 = .ok (.bipush 10, 2) := by decide +kernel
theorem dX12_init_937 : decode cX12_init 937 = .ok (.newarray .int, 2) := by decide +kernel
theorem dX12_init_939 : decode cX12_init 939 = .ok (.putfield 94, 3) := by decide +kernel
theorem dX12_init_942 : decode cX12_init 942 = .ok (.aload_n 0, 1) := by decide +kernel
theorem dX12_init_943 : decode cX12_init 943 = .ok (.bipush 10, 2) := by decide +kernel
theorem dX12_init_945 : decode cX12_init 945 = .ok (.newarray .int, 2) := by decide +kernel
theorem dX12_init_947 : decode cX12_init 947 = .ok (.putfield 97, 3) := by decide +kernel
theorem dX12_init_950 : decode cX12_init 950 = .ok (.aload_n 0, 1) := by decide +kernel
theorem dX12_init_951 : decode cX12_init 951 = .ok (.iconst 5, 1) := by decide +kernel
theorem dX12_init_952 : decode cX12_init 952 = .ok (.newarray .int, 2) := by decide +kernel
theorem dX12_init_954 : decode cX12_init 954 = .ok (.putfield 100, 3) := by decide +kernel
theorem dX12_init_957 : decode cX12_init 957 = .ok (.aload_n 0, 1) := by decide +kernel
theorem dX12_init_958 : decode cX12_init 958 = .ok (.bipush 56, 2) := by decide +kernel
theorem dX12_init_960 : decode cX12_init 960 = .ok (.newarray .int, 2) := by decide +kernel
theorem dX12_init_962 : decode cX12_init 962 = .ok (.putfield 103, 3) := by decide +kernel
theorem dX12_init_965 : decode cX12_init 965 = .ok (.aload_n 0, 1) := by decide +kernel
theorem dX12_init_966 : decode cX12_init 966 = .ok (.iconst 2, 1) := by decide +kernel
theorem dX12_init_967 : decode cX12_init 967 = .ok (.newarray .int, 2) := by decide +kernel
theorem dX12_init_969 : decode cX12_init 969 = .ok (.putfield 106, 3) := by decide +kernel
theorem dX12_init_972 : decode cX12_init 972 = .ok (.aload_n 0, 1) := by decide +kernel
theorem dX12_init_973 : decode cX12_init 973 = .ok (.iconst 2, 1) := by decide +kernel
theorem dX12_init_974 : decode cX12_init 974 = .ok (.newarray .int, 2) := by decide +kernel
theorem dX12_init_976 : decode cX12_init 976 = .ok (.putfield 109, 3) := by decide +kernel
theorem dX12_init_979 : decode cX12_init 979 = .ok (.aload_n 0, 1) := by decide +kernel
theorem dX12_init_980 : decode cX12_init 980 = .ok (.iconst 2, 1) := by decide +kernel
theorem dX12_init_981 : decode cX12_init 981 = .ok (.newarray .int, 2) := by decide +kernel
theorem dX12_init_983 : decode cX12_init 983 = .ok (.putfield 112, 3) := by decide +kernel
theorem dX12_init_986 : decode cX12_init 986 = .ok (.aload_n 0, 1) := by decide +kernel
theorem dX12_init_987 : decode cX12_init 987 = .ok (.iconst (-1), 1) := by decide +kernel
theorem dX12_init_988 : decode cX12_init 988 = .ok (.putfield 115, 3) := by decide +kernel
theorem dX12_init_991 : decode cX12_init 991 = .ok (.aload_n 0, 1) := by decide +kernel
theorem dX12_init_992 : decode cX12_init 992 = .ok (.iconst 5, 1) := by decide +kernel
theorem dX12_init_993 : decode cX12_init 993 = .ok (.newarray .int, 2) := by decide +kernel
theorem dX12_init_995 : decode cX12_init 995 = .ok (.putfield 118, 3) := by decide +kernel
theorem dX12_init_998 : decode cX12_init 998 = .ok (.aload_n 0, 1) := by decide +kernel
theorem dX12_init_999 : decode cX12_init 999 = .ok (.bipush 25, 2) := by decide +kernel
theorem dX12_init_1001 : decode cX12_init 1001 = .ok (.newarray .int, 2) := by decide +kernel
theorem dX12_init_1003 : decode cX12_init 1003 = .ok (.putfield 121, 3) := by decide +kernel
theorem dX12_init_1006 : decode cX12_init 1006 = .ok (.aload_n 0, 1) := by decide +kernel
theorem dX12_init_1007 : decode cX12_init 1007 = .ok (.bipush 25, 2) := by decide +kernel
theorem dX12_init_1009 : decode cX12_init 1009 = .ok (.newarray .int, 2) := by decide +kernel
theorem dX12_init_1011 : decode cX12_init 1011 = .ok (.putfield 124, 3) := by decide +kernel
theorem dX12_init_1014 : decode cX12_init 1014 = .ok (.aload_n 0, 1) := by decide +kernel
theorem dX12_init_1015 : decode cX12_init 1015 = .ok (.bipush 29, 2) := by decide +kernel
theorem dX12_init_1017 : decode cX12_init 1017 = .ok (.newarray .int, 2) := by decide +kernel
theorem dX12_init_1019 : decode cX12_init 1019 = .ok (.putfield 127, 3) := by decide +kernel
theorem dX12_init_1022 : decode cX12_init 1022 = .ok (.aload_n 0, 1) := by decide +kernel
theorem dX12_init_1023 : decode cX12_init 1023 = .ok (.bipush 28, 2) := by decide +kernel
theorem dX12_init_1025 : decode cX12_init 1025 = .ok (.newarray .int, 2) := by decide +kernel
theorem dX12_init_1027 : decode cX12_init 1027 = .ok (.putfield 130, 3) := by decide +kernel
theorem dX12_init_1030 : decode cX12_init 1030 = .ok (.aload_n 0, 1) := by decide +kernel
theorem dX12_init_1031 : decode cX12_init 1031 = .ok (.iconst (-1), 1) := by decide +kernel
theorem dX12_init_1032 : decode cX12_init 1032 = .ok (.putfield 133, 3) := by decide +kernel
theorem dX12_init_1035 : decode cX12_init 1035 = .ok (.aload_n 0, 1) := by decide +kernel
theorem dX12_init_1036 : decode cX12_init 1036 = .ok (.bipush 72, 2) := by decide +kernel
theorem dX12_init_1038 : decode cX12_init 1038 = .ok (.newarray .int, 2) := by decide +kernel
theorem dX12_init_1040 : decode cX12_init 1040 = .ok (.putfield 136, 3) := by decide +kernel
theorem dX12_init_1043 : decode cX12_init 1043 = .ok (.aload_n 0, 1) := by decide +kernel
theorem dX12_init_1044 : decode cX12_init 1044 = .ok (.bipush 24, 2) := by decide +kernel
theorem dX12_init_1046 : decode cX12_init 1046 = .ok (.newarray .boolean, 2) := by decide +kernel
theorem dX12_init_1048 : decode cX12_init 1048 = .ok (.putfield 139, 3) := by decide +kernel
theorem dX12_init_1051 : decode cX12_init 1051 = .ok (.aload_n 0, 1) := by decide +kernel
theorem dX12_init_1052 : decode cX12_init 1052 = .ok (.sipush 220, 3) := by decide +kernel
theorem dX12_init_1055 : decode cX12_init 1055 = .ok (.newarray .int, 2) := by decide +kernel
theorem dX12_init_1057 : decode cX12_init 1057 = .ok (.putfield 142, 3) := by decide +kernel
theorem dX12_init_1060 : decode cX12_init 1060 = .ok (.aload_n 0, 1) := by decide +kernel
theorem dX12_init_1061 : decode cX12_init 1061 = .ok (.bipush 53, 2) := by decide +kernel
theorem dX12_init_1063 : decode cX12_init 1063 = .ok (.newarray .int, 2) := by decide +kernel
theorem dX12_init_1065 : decode cX12_init 1065 = .ok (.putfield 145, 3) := by decide +kernel
theorem dX12_init_1068 : decode cX12_init 1068 = .ok (.aload_n 0, 1) := by decide +kernel
theorem dX12_init_1069 : decode cX12_init 1069 = .ok (.invokevirtual 148, 3) := by decide +kernel
theorem dX12_init_1072 : decode cX12_init 1072 = .ok (.aload_n 0, 1) := by decide +kernel
theorem dX12_init_1073 : decode cX12_init 1073 = .ok (.invokevirtual 151, 3) := by decide +kernel
theorem dX12_init_1076 : decode cX12_init 1076 = .ok (.return_, 1) := by decide +kernel
