theorem zd_dX12_init_141 : dq cX12_init [(141, .bipush 97, 2), (143, .iastore, 1), (144, .dup, 1), (145, .bipush 22, 2), (147, .bipush 110, 2), (149, .iastore, 1), (150, .dup, 1), (151, .bipush 23, 2), (153, .bipush 107, 2), (155, .iastore, 1), (156, .dup, 1), (157, .bipush 24, 2), (159, .bipush 32, 2), (161, .iastore, 1), (162, .dup, 1), (163, .bipush 25, 2), (165, .bipush 114, 2), (167, .iastore, 1), (168, .dup, 1), (169, .bipush 26, 2), (171, .bipush 117, 2), (173, .iastore, 1), (174, .dup, 1), (175, .bipush 27, 2)] = true := by decide +kernel
theorem dX12_init_141 : decode cX12_init 141 = .ok (.bipush 97, 2) := dq_at zd_dX12_init_141 0 rfl
theorem dX12_init_143 : decode cX12_init 143 = .ok (.iastore, 1) := dq_at zd_dX12_init_141 1 rfl
theorem dX12_init_144 : decode cX12_init 144 = .ok (.dup, 1) := dq_at zd_dX12_init_141 2 rfl
theorem dX12_init_145 : decode cX12_init 145 = .ok (.bipush 22, 2) := dq_at zd_dX12_init_141 3 rfl
theorem dX12_init_147 : decode cX12_init 147 = .ok (.bipush 110, 2) := dq_at zd_dX12_init_141 4 rfl
theorem dX12_init_149 : decode cX12_init 149 = .ok (.iastore, 1) := dq_at zd_dX12_init_141 5 rfl
theorem dX12_init_150 : decode cX12_init 150 = .ok (.dup, 1) := dq_at zd_dX12_init_141 6 rfl
theorem dX12_init_151 : decode cX12_init 151 = .ok (.bipush 23, 2) := dq_at zd_dX12_init_141 7 rfl
theorem dX12_init_153 : decode cX12_init 153 = .ok (.bipush 107, 2) := dq_at zd_dX12_init_141 8 rfl
theorem dX12_init_155 : decode cX12_init 155 = .ok (.iastore, 1) := dq_at zd_dX12_init_141 9 rfl
theorem dX12_init_156 : decode cX12_init 156 = .ok (.dup, 1) := dq_at zd_dX12_init_141 10 rfl
theorem dX12_init_157 : decode cX12_init 157 = .ok (.bipush 24, 2) := dq_at zd_dX12_init_141 11 rfl
theorem dX12_init_159 : decode cX12_init 159 = .ok (.bipush 32, 2) := dq_at zd_dX12_init_141 12 rfl
theorem dX12_init_161 : decode cX12_init 161 = .ok (.iastore, 1) := dq_at zd_dX12_init_141 13 rfl
theorem dX12_init_162 : decode cX12_init 162 = .ok (.dup, 1) := dq_at zd_dX12_init_141 14 rfl
theorem dX12_init_163 : decode cX12_init 163 = .ok (.bipush 25, 2) := dq_at zd_dX12_init_141 15 rfl
theorem dX12_init_165 : decode cX12_init 165 = .ok (.bipush 114, 2) := dq_at zd_dX12_init_141 16 rfl
theorem dX12_init_167 : decode cX12_init 167 = .ok (.iastore, 1) := dq_at zd_dX12_init_141 17 rfl
theorem dX12_init_168 : decode cX12_init 168 = .ok (.dup, 1) := dq_at zd_dX12_init_141 18 rfl
theorem dX12_init_169 : decode cX12_init 169 = .ok (.bipush 26, 2) := dq_at zd_dX12_init_141 19 rfl
theorem dX12_init_171 : decode cX12_init 171 = .ok (.bipush 117, 2) := dq_at zd_dX12_init_141 20 rfl
theorem dX12_init_173 : decode cX12_init 173 = .ok (.iastore, 1) := dq_at zd_dX12_init_141 21 rfl
theorem dX12_init_174 : decode cX12_init 174 = .ok (.dup, 1) := dq_at zd_dX12_init_141 22 rfl
theorem dX12_init_175 : decode cX12_init 175 = .ok (.bipush 27, 2) := dq_at zd_dX12_init_141 23 rfl
theorem zd_dX12_init_177 : dq cX12_init [(177, .bipush 108, 2), (179, .iastore, 1), (180, .dup, 1), (181, .bipush 28, 2), (183, .bipush 101, 2), (185, .iastore, 1), (186, .dup, 1), (187, .bipush 29, 2), (189, .bipush 32, 2), (191, .iastore, 1), (192, .dup, 1), (193, .bipush 30, 2), (195, .bipush 115, 2), (197, .iastore, 1), (198, .dup, 1), (199, .bipush 31, 2), (201, .bipush 101, 2), (203, .iastore, 1), (204, .dup, 1), (205, .bipush 32, 2), (207, .bipush 101, 2), (209, .iastore, 1), (210, .dup, 1), (211, .bipush 33, 2)] = true := by decide +kernel
theorem dX12_init_177 : decode cX12_init 177 = .ok (.bipush 108, 2) := dq_at zd_dX12_init_177 0 rfl
theorem dX12_init_179 : decode cX12_init 179 = .ok (.iastore, 1) := dq_at zd_dX12_init_177 1 rfl
theorem dX12_init_180 : decode cX12_init 180 = .ok (.dup, 1) := dq_at zd_dX12_init_177 2 rfl
theorem dX12_init_181 : decode cX12_init 181 = .ok (.bipush 28, 2) := dq_at zd_dX12_init_177 3 rfl
theorem dX12_init_183 : decode cX12_init 183 = .ok (.bipush 101, 2) := dq_at zd_dX12_init_177 4 rfl
theorem dX12_init_185 : decode cX12_init 185 = .ok (.iastore, 1) := dq_at zd_dX12_init_177 5 rfl
theorem dX12_init_186 : decode cX12_init 186 = .ok (.dup, 1) := dq_at zd_dX12_init_177 6 rfl
theorem dX12_init_187 : decode cX12_init 187 = .ok (.bipush 29, 2) := dq_at zd_dX12_init_177 7 rfl
theorem dX12_init_189 : decode cX12_init 189 = .ok (.bipush 32, 2) := dq_at zd_dX12_init_177 8 rfl
theorem dX12_init_191 : decode cX12_init 191 = .ok (.iastore, 1) := dq_at zd_dX12_init_177 9 rfl
theorem dX12_init_192 : decode cX12_init 192 = .ok (.dup, 1) := dq_at zd_dX12_init_177 10 rfl
theorem dX12_init_193 : decode cX12_init 193 = .ok (.bipush 30, 2) := dq_at zd_dX12_init_177 11 rfl
theorem dX12_init_195 : decode cX12_init 195 = .ok (.bipush 115, 2) := dq_at zd_dX12_init_177 12 rfl
theorem dX12_init_197 : decode cX12_init 197 = .ok (.iastore, 1) := dq_at zd_dX12_init_177 13 rfl
theorem dX12_init_198 : decode cX12_init 198 = .ok (.dup, 1) := dq_at zd_dX12_init_177 14 rfl
theorem dX12_init_199 : decode cX12_init 199 = .ok (.bipush 31, 2) := dq_at zd_dX12_init_177 15 rfl
theorem dX12_init_201 : decode cX12_init 201 = .ok (.bipush 101, 2) := dq_at zd_dX12_init_177 16 rfl
theorem dX12_init_203 : decode cX12_init 203 = .ok (.iastore, 1) := dq_at zd_dX12_init_177 17 rfl
theorem dX12_init_204 : decode cX12_init 204 = .ok (.dup, 1) := dq_at zd_dX12_init_177 18 rfl
theorem dX12_init_205 : decode cX12_init 205 = .ok (.bipush 32, 2) := dq_at zd_dX12_init_177 19 rfl
theorem dX12_init_207 : decode cX12_init 207 = .ok (.bipush 101, 2) := dq_at zd_dX12_init_177 20 rfl
theorem dX12_init_209 : decode cX12_init 209 = .ok (.iastore, 1) := dq_at zd_dX12_init_177 21 rfl
theorem dX12_init_210 : decode cX12_init 210 = .ok (.dup, 1) := dq_at zd_dX12_init_177 22 rfl
theorem dX12_init_211 : decode cX12_init 211 = .ok (.bipush 33, 2) := dq_at zd_dX12_init_177 23 rfl
theorem zd_dX12_init_213 : dq cX12_init [(213, .bipush 100, 2), (215, .iastore, 1), (216, .dup, 1), (217, .bipush 34, 2), (219, .bipush 32, 2), (221, .iastore, 1), (222, .dup, 1), (223, .bipush 35, 2), (225, .bipush 108, 2), (227, .iastore, 1), (228, .dup, 1), (229, .bipush 36, 2), (231, .bipush 97, 2), (233, .iastore, 1), (234, .dup, 1), (235, .bipush 37, 2), (237, .bipush 119, 2), (239, .iastore, 1), (240, .dup, 1), (241, .bipush 38, 2), (243, .bipush 32, 2), (245, .iastore, 1), (246, .dup, 1), (247, .bipush 39, 2)] = true := by decide +kernel
theorem dX12_init_213 : decode cX12_init 213 = .ok (.bipush 100, 2) := dq_at zd_dX12_init_213 0 rfl
theorem dX12_init_215 : decode cX12_init 215 = .ok (.iastore, 1) := dq_at zd_dX12_init_213 1 rfl
theorem dX12_init_216 : decode cX12_init 216 = .ok (.dup, 1) := dq_at zd_dX12_init_213 2 rfl
theorem dX12_init_217 : decode cX12_init 217 = .ok (.bipush 34, 2) := dq_at zd_dX12_init_213 3 rfl
theorem dX12_init_219 : decode cX12_init 219 = .ok (.bipush 32, 2) := dq_at zd_dX12_init_213 4 rfl
theorem dX12_init_221 : decode cX12_init 221 = .ok (.iastore, 1) := dq_at zd_dX12_init_213 5 rfl
theorem dX12_init_222 : decode cX12_init 222 = .ok (.dup, 1) := dq_at zd_dX12_init_213 6 rfl
theorem dX12_init_223 : decode cX12_init 223 = .ok (.bipush 35, 2) := dq_at zd_dX12_init_213 7 rfl
theorem dX12_init_225 : decode cX12_init 225 = .ok (.bipush 108, 2) := dq_at zd_dX12_init_213 8 rfl
theorem dX12_init_227 : decode cX12_init 227 = .ok (.iastore, 1) := dq_at zd_dX12_init_213 9 rfl
theorem dX12_init_228 : decode cX12_init 228 = .ok (.dup, 1) := dq_at zd_dX12_init_213 10 rfl
theorem dX12_init_229 : decode cX12_init 229 = .ok (.bipush 36, 2) := dq_at zd_dX12_init_213 11 rfl
theorem dX12_init_231 : decode cX12_init 231 = .ok (.bipush 97, 2) := dq_at zd_dX12_init_213 12 rfl
theorem dX12_init_233 : decode cX12_init 233 = .ok (.iastore, 1) := dq_at zd_dX12_init_213 13 rfl
theorem dX12_init_234 : decode cX12_init 234 = .ok (.dup, 1) := dq_at zd_dX12_init_213 14 rfl
theorem dX12_init_235 : decode cX12_init 235 = .ok (.bipush 37, 2) := dq_at zd_dX12_init_213 15 rfl
theorem dX12_init_237 : decode cX12_init 237 = .ok (.bipush 119, 2) := dq_at zd_dX12_init_213 16 rfl
theorem dX12_init_239 : decode cX12_init 239 = .ok (.iastore, 1) := dq_at zd_dX12_init_213 17 rfl
theorem dX12_init_240 : decode cX12_init 240 = .ok (.dup, 1) := dq_at zd_dX12_init_213 18 rfl
theorem dX12_init_241 : decode cX12_init 241 = .ok (.bipush 38, 2) := dq_at zd_dX12_init_213 19 rfl
theorem dX12_init_243 : decode cX12_init 243 = .ok (.bipush 32, 2) := dq_at zd_dX12_init_213 20 rfl
theorem dX12_init_245 : decode cX12_init 245 = .ok (.iastore, 1) := dq_at zd_dX12_init_213 21 rfl
theorem dX12_init_246 : decode cX12_init 246 = .ok (.dup, 1) := dq_at zd_dX12_init_213 22 rfl
theorem dX12_init_247 : decode cX12_init 247 = .ok (.bipush 39, 2) := dq_at zd_dX12_init_213 23 rfl
theorem zd_dX12_init_249 : dq cX12_init [(249, .bipush 100, 2), (251, .iastore, 1), (252, .dup, 1), (253, .bipush 40, 2), (255, .bipush 101, 2), (257, .iastore, 1), (258, .dup, 1), (259, .bipush 41, 2), (261, .bipush 101, 2), (263, .iastore, 1), (264, .dup, 1), (265, .bipush 42, 2), (267, .bipush 112, 2), (269, .iastore, 1), (270, .dup, 1), (271, .bipush 43, 2), (273, .bipush 32, 2), (275, .iastore, 1), (276, .dup, 1), (277, .bipush 44, 2), (279, .bipush 116, 2), (281, .iastore, 1), (282, .dup, 1), (283, .bipush 45, 2)] = true := by decide +kernel
theorem dX12_init_249 : decode cX12_init 249 = .ok (.bipush 100, 2) := dq_at zd_dX12_init_249 0 rfl
theorem dX12_init_251 : decode cX12_init 251 = .ok (.iastore, 1) := dq_at zd_dX12_init_249 1 rfl
theorem dX12_init_252 : decode cX12_init 252 = .ok (.dup, 1) := dq_at zd_dX12_init_249 2 rfl
theorem dX12_init_253 : decode cX12_init 253 = .ok (.bipush 40, 2) := dq_at zd_dX12_init_249 3 rfl
theorem dX12_init_255 : decode cX12_init 255 = .ok (.bipush 101, 2) := dq_at zd_dX12_init_249 4 rfl
theorem dX12_init_257 : decode cX12_init 257 = .ok (.iastore, 1) := dq_at zd_dX12_init_249 5 rfl
theorem dX12_init_258 : decode cX12_init 258 = .ok (.dup, 1) := dq_at zd_dX12_init_249 6 rfl
theorem dX12_init_259 : decode cX12_init 259 = .ok (.bipush 41, 2) := dq_at zd_dX12_init_249 7 rfl
theorem dX12_init_261 : decode cX12_init 261 = .ok (.bipush 101, 2) := dq_at zd_dX12_init_249 8 rfl
theorem dX12_init_263 : decode cX12_init 263 = .ok (.iastore, 1) := dq_at zd_dX12_init_249 9 rfl
theorem dX12_init_264 : decode cX12_init 264 = .ok (.dup, 1) := dq_at zd_dX12_init_249 10 rfl
theorem dX12_init_265 : decode cX12_init 265 = .ok (.bipush 42, 2) := dq_at zd_dX12_init_249 11 rfl
theorem dX12_init_267 : decode cX12_init 267 = .ok (.bipush 112, 2) := dq_at zd_dX12_init_249 12 rfl
theorem dX12_init_269 : decode cX12_init 269 = .ok (.iastore, 1) := dq_at zd_dX12_init_249 13 rfl
theorem dX12_init_270 : decode cX12_init 270 = .ok (.dup, 1) := dq_at zd_dX12_init_249 14 rfl
theorem dX12_init_271 : decode cX12_init 271 = .ok (.bipush 43, 2) := dq_at zd_dX12_init_249 15 rfl
theorem dX12_init_273 : decode cX12_init 273 = .ok (.bipush 32, 2) := dq_at zd_dX12_init_249 16 rfl
theorem dX12_init_275 : decode cX12_init 275 = .ok (.iastore, 1) := dq_at zd_dX12_init_249 17 rfl
theorem dX12_init_276 : decode cX12_init 276 = .ok (.dup, 1) := dq_at zd_dX12_init_249 18 rfl
theorem dX12_init_277 : decode cX12_init 277 = .ok (.bipush 44, 2) := dq_at zd_dX12_init_249 19 rfl
theorem dX12_init_279 : decode cX12_init 279 = .ok (.bipush 116, 2) := dq_at zd_dX12_init_249 20 rfl
theorem dX12_init_281 : decode cX12_init 281 = .ok (.iastore, 1) := dq_at zd_dX12_init_249 21 rfl
theorem dX12_init_282 : decode cX12_init 282 = .ok (.dup, 1) := dq_at zd_dX12_init_249 22 rfl
theorem dX12_init_283 : decode cX12_init 283 = .ok (.bipush 45, 2) := dq_at zd_dX12_init_249 23 rfl
theorem zd_dX12_init_285 : dq cX12_init [(285, .bipush 117, 2), (287, .iastore, 1), (288, .dup, 1), (289, .bipush 46, 2), (291, .bipush 114, 2), (293, .iastore, 1), (294, .dup, 1), (295, .bipush 47, 2), (297, .bipush 110, 2), (299, .iastore, 1), (300, .dup, 1), (301, .bipush 48, 2), (303, .bipush 115, 2), (305, .iastore, 1), (306, .dup, 1), (307, .bipush 49, 2), (309, .bipush 32, 2), (311, .iastore, 1), (312, .dup, 1), (313, .bipush 50, 2), (315, .bipush 101, 2), (317, .iastore, 1), (318, .dup, 1), (319, .bipush 51, 2)] = true := by decide +kernel
theorem dX12_init_285 : decode cX12_init 285 = .ok (.bipush 117, 2) := dq_at zd_dX12_init_285 0 rfl
theorem dX12_init_287 : decode cX12_init 287 = .ok (.iastore, 1) := dq_at zd_dX12_init_285 1 rfl
theorem dX12_init_288 : decode cX12_init 288 = .ok (.dup, 1) := dq_at zd_dX12_init_285 2 rfl
theorem dX12_init_289 : decode cX12_init 289 = .ok (.bipush 46, 2) := dq_at zd_dX12_init_285 3 rfl
theorem dX12_init_291 : decode cX12_init 291 = .ok (.bipush 114, 2) := dq_at zd_dX12_init_285 4 rfl
theorem dX12_init_293 : decode cX12_init 293 = .ok (.iastore, 1) := dq_at zd_dX12_init_285 5 rfl
theorem dX12_init_294 : decode cX12_init 294 = .ok (.dup, 1) := dq_at zd_dX12_init_285 6 rfl
theorem dX12_init_295 : decode cX12_init 295 = .ok (.bipush 47, 2) := dq_at zd_dX12_init_285 7 rfl
theorem dX12_init_297 : decode cX12_init 297 = .ok (.bipush 110, 2) := dq_at zd_dX12_init_285 8 rfl
theorem dX12_init_299 : decode cX12_init 299 = .ok (.iastore, 1) := dq_at zd_dX12_init_285 9 rfl
theorem dX12_init_300 : decode cX12_init 300 = .ok (.dup, 1) := dq_at zd_dX12_init_285 10 rfl
theorem dX12_init_301 : decode cX12_init 301 = .ok (.bipush 48, 2) := dq_at zd_dX12_init_285 11 rfl
theorem dX12_init_303 : decode cX12_init 303 = .ok (.bipush 115, 2) := dq_at zd_dX12_init_285 12 rfl
theorem dX12_init_305 : decode cX12_init 305 = .ok (.iastore, 1) := dq_at zd_dX12_init_285 13 rfl
theorem dX12_init_306 : decode cX12_init 306 = .ok (.dup, 1) := dq_at zd_dX12_init_285 14 rfl
theorem dX12_init_307 : decode cX12_init 307 = .ok (.bipush 49, 2) := dq_at zd_dX12_init_285 15 rfl
theorem dX12_init_309 : decode cX12_init 309 = .ok (.bipush 32, 2) := dq_at zd_dX12_init_285 16 rfl
theorem dX12_init_311 : decode cX12_init 311 = .ok (.iastore, 1) := dq_at zd_dX12_init_285 17 rfl
theorem dX12_init_312 : decode cX12_init 312 = .ok (.dup, 1) := dq_at zd_dX12_init_285 18 rfl
theorem dX12_init_313 : decode cX12_init 313 = .ok (.bipush 50, 2) := dq_at zd_dX12_init_285 19 rfl
theorem dX12_init_315 : decode cX12_init 315 = .ok (.bipush 101, 2) := dq_at zd_dX12_init_285 20 rfl
theorem dX12_init_317 : decode cX12_init 317 = .ok (.iastore, 1) := dq_at zd_dX12_init_285 21 rfl
theorem dX12_init_318 : decode cX12_init 318 = .ok (.dup, 1) := dq_at zd_dX12_init_285 22 rfl
theorem dX12_init_319 : decode cX12_init 319 = .ok (.bipush 51, 2) := dq_at zd_dX12_init_285 23 rfl
theorem zd_dX12_init_321 : dq cX12_init [(321, .bipush 97, 2), (323, .iastore, 1), (324, .dup, 1), (325, .bipush 52, 2), (327, .bipush 99, 2), (329, .iastore, 1), (330, .dup, 1), (331, .bipush 53, 2), (333, .bipush 104, 2), (335, .iastore, 1), (336, .dup, 1), (337, .bipush 54, 2), (339, .bipush 32, 2), (341, .iastore, 1), (342, .dup, 1), (343, .bipush 55, 2), (345, .bipush 111, 2), (347, .iastore, 1), (348, .dup, 1), (349, .bipush 56, 2), (351, .bipush 117, 2), (353, .iastore, 1), (354, .dup, 1), (355, .bipush 57, 2)] = true := by decide +kernel
theorem dX12_init_321 : decode cX12_init 321 = .ok (.bipush 97, 2) := dq_at zd_dX12_init_321 0 rfl
theorem dX12_init_323 : decode cX12_init 323 = .ok (.iastore, 1) := dq_at zd_dX12_init_321 1 rfl
theorem dX12_init_324 : decode cX12_init 324 = .ok (.dup, 1) := dq_at zd_dX12_init_321 2 rfl
theorem dX12_init_325 : decode cX12_init 325 = .ok (.bipush 52, 2) := dq_at zd_dX12_init_321 3 rfl
theorem dX12_init_327 : decode cX12_init 327 = .ok (.bipush 99, 2) := dq_at zd_dX12_init_321 4 rfl
theorem dX12_init_329 : decode cX12_init 329 = .ok (.iastore, 1) := dq_at zd_dX12_init_321 5 rfl
theorem dX12_init_330 : decode cX12_init 330 = .ok (.dup, 1) := dq_at zd_dX12_init_321 6 rfl
theorem dX12_init_331 : decode cX12_init 331 = .ok (.bipush 53, 2) := dq_at zd_dX12_init_321 7 rfl
theorem dX12_init_333 : decode cX12_init 333 = .ok (.bipush 104, 2) := dq_at zd_dX12_init_321 8 rfl
theorem dX12_init_335 : decode cX12_init 335 = .ok (.iastore, 1) := dq_at zd_dX12_init_321 9 rfl
theorem dX12_init_336 : decode cX12_init 336 = .ok (.dup, 1) := dq_at zd_dX12_init_321 10 rfl
theorem dX12_init_337 : decode cX12_init 337 = .ok (.bipush 54, 2) := dq_at zd_dX12_init_321 11 rfl
theorem dX12_init_339 : decode cX12_init 339 = .ok (.bipush 32, 2) := dq_at zd_dX12_init_321 12 rfl
theorem dX12_init_341 : decode cX12_init 341 = .ok (.iastore, 1) := dq_at zd_dX12_init_321 13 rfl
theorem dX12_init_342 : decode cX12_init 342 = .ok (.dup, 1) := dq_at zd_dX12_init_321 14 rfl
theorem dX12_init_343 : decode cX12_init 343 = .ok (.bipush 55, 2) := dq_at zd_dX12_init_321 15 rfl
theorem dX12_init_345 : decode cX12_init 345 = .ok (.bipush 111, 2) := dq_at zd_dX12_init_321 16 rfl
theorem dX12_init_347 : decode cX12_init 347 = .ok (.iastore, 1) := dq_at zd_dX12_init_321 17 rfl
theorem dX12_init_348 : decode cX12_init 348 = .ok (.dup, 1) := dq_at zd_dX12_init_321 18 rfl
theorem dX12_init_349 : decode cX12_init 349 = .ok (.bipush 56, 2) := dq_at zd_dX12_init_321 19 rfl
theorem dX12_init_351 : decode cX12_init 351 = .ok (.bipush 117, 2) := dq_at zd_dX12_init_321 20 rfl
theorem dX12_init_353 : decode cX12_init 353 = .ok (.iastore, 1) := dq_at zd_dX12_init_321 21 rfl
theorem dX12_init_354 : decode cX12_init 354 = .ok (.dup, 1) := dq_at zd_dX12_init_321 22 rfl
theorem dX12_init_355 : decode cX12_init 355 = .ok (.bipush 57, 2) := dq_at zd_dX12_init_321 23 rfl
theorem zd_dX12_init_357 : dq cX12_init [(357, .bipush 116, 2), (359, .iastore, 1), (360, .dup, 1), (361, .bipush 58, 2), (363, .bipush 32, 2), (365, .iastore, 1), (366, .dup, 1), (367, .bipush 59, 2), (369, .bipush 99, 2), (371, .iastore, 1), (372, .dup, 1), (373, .bipush 60, 2), (375, .bipush 97, 2), (377, .iastore, 1), (378, .dup, 1), (379, .bipush 61, 2), (381, .bipush 116, 2), (383, .iastore, 1), (384, .dup, 1), (385, .bipush 62, 2), (387, .bipush 99, 2), (389, .iastore, 1), (390, .dup, 1), (391, .bipush 63, 2)] = true := by decide +kernel
theorem dX12_init_357 : decode cX12_init 357 = .ok (.bipush 116, 2) := dq_at zd_dX12_init_357 0 rfl
theorem dX12_init_359 : decode cX12_init 359 = .ok (.iastore, 1) := dq_at zd_dX12_init_357 1 rfl
theorem dX12_init_360 : decode cX12_init 360 = .ok (.dup, 1) := dq_at zd_dX12_init_357 2 rfl
theorem dX12_init_361 : decode cX12_init 361 = .ok (.bipush 58, 2) := dq_at zd_dX12_init_357 3 rfl
theorem dX12_init_363 : decode cX12_init 363 = .ok (.bipush 32, 2) := dq_at zd_dX12_init_357 4 rfl
theorem dX12_init_365 : decode cX12_init 365 = .ok (.iastore, 1) := dq_at zd_dX12_init_357 5 rfl
theorem dX12_init_366 : decode cX12_init 366 = .ok (.dup, 1) := dq_at zd_dX12_init_357 6 rfl
theorem dX12_init_367 : decode cX12_init 367 = .ok (.bipush 59, 2) := dq_at zd_dX12_init_357 7 rfl
theorem dX12_init_369 : decode cX12_init 369 = .ok (.bipush 99, 2) := dq_at zd_dX12_init_357 8 rfl
theorem dX12_init_371 : decode cX12_init 371 = .ok (.iastore, 1) := dq_at zd_dX12_init_357 9 rfl
theorem dX12_init_372 : decode cX12_init 372 = .ok (.dup, 1) := dq_at zd_dX12_init_357 10 rfl
theorem dX12_init_373 : decode cX12_init 373 = .ok (.bipush 60, 2) := dq_at zd_dX12_init_357 11 rfl
theorem dX12_init_375 : decode cX12_init 375 = .ok (.bipush 97, 2) := dq_at zd_dX12_init_357 12 rfl
theorem dX12_init_377 : decode cX12_init 377 = .ok (.iastore, 1) := dq_at zd_dX12_init_357 13 rfl
theorem dX12_init_378 : decode cX12_init 378 = .ok (.dup, 1) := dq_at zd_dX12_init_357 14 rfl
theorem dX12_init_379 : decode cX12_init 379 = .ok (.bipush 61, 2) := dq_at zd_dX12_init_357 15 rfl
theorem dX12_init_381 : decode cX12_init 381 = .ok (.bipush 116, 2) := dq_at zd_dX12_init_357 16 rfl
theorem dX12_init_383 : decode cX12_init 383 = .ok (.iastore, 1) := dq_at zd_dX12_init_357 17 rfl
theorem dX12_init_384 : decode cX12_init 384 = .ok (.dup, 1) := dq_at zd_dX12_init_357 18 rfl
theorem dX12_init_385 : decode cX12_init 385 = .ok (.bipush 62, 2) := dq_at zd_dX12_init_357 19 rfl
theorem dX12_init_387 : decode cX12_init 387 = .ok (.bipush 99, 2) := dq_at zd_dX12_init_357 20 rfl
theorem dX12_init_389 : decode cX12_init 389 = .ok (.iastore, 1) := dq_at zd_dX12_init_357 21 rfl
theorem dX12_init_390 : decode cX12_init 390 = .ok (.dup, 1) := dq_at zd_dX12_init_357 22 rfl
theorem dX12_init_391 : decode cX12_init 391 = .ok (.bipush 63, 2) := dq_at zd_dX12_init_357 23 rfl
theorem zd_dX12_init_393 : dq cX12_init [(393, .bipush 104, 2), (395, .iastore, 1), (396, .dup, 1), (397, .bipush 64, 2), (399, .bipush 32, 2), (401, .iastore, 1), (402, .dup, 1), (403, .bipush 65, 2), (405, .bipush 100, 2), (407, .iastore, 1), (408, .dup, 1), (409, .bipush 66, 2), (411, .bipush 114, 2), (413, .iastore, 1), (414, .dup, 1), (415, .bipush 67, 2), (417, .bipush 105, 2), (419, .iastore, 1), (420, .dup, 1), (421, .bipush 68, 2), (423, .bipush 102, 2), (425, .iastore, 1), (426, .dup, 1), (427, .bipush 69, 2)] = true := by decide +kernel
theorem dX12_init_393 : decode cX12_init 393 = .ok (.bipush 104, 2) := dq_at zd_dX12_init_393 0 rfl
theorem dX12_init_395 : decode cX12_init 395 = .ok (.iastore, 1) := dq_at zd_dX12_init_393 1 rfl
theorem dX12_init_396 : decode cX12_init 396 = .ok (.dup, 1) := dq_at zd_dX12_init_393 2 rfl
theorem dX12_init_397 : decode cX12_init 397 = .ok (.bipush 64, 2) := dq_at zd_dX12_init_393 3 rfl
theorem dX12_init_399 : decode cX12_init 399 = .ok (.bipush 32, 2) := dq_at zd_dX12_init_393 4 rfl
theorem dX12_init_401 : decode cX12_init 401 = .ok (.iastore, 1) := dq_at zd_dX12_init_393 5 rfl
theorem dX12_init_402 : decode cX12_init 402 = .ok (.dup, 1) := dq_at zd_dX12_init_393 6 rfl
theorem dX12_init_403 : decode cX12_init 403 = .ok (.bipush 65, 2) := dq_at zd_dX12_init_393 7 rfl
theorem dX12_init_405 : decode cX12_init 405 = .ok (.bipush 100, 2) := dq_at zd_dX12_init_393 8 rfl
theorem dX12_init_407 : decode cX12_init 407 = .ok (.iastore, 1) := dq_at zd_dX12_init_393 9 rfl
theorem dX12_init_408 : decode cX12_init 408 = .ok (.dup, 1) := dq_at zd_dX12_init_393 10 rfl
theorem dX12_init_409 : decode cX12_init 409 = .ok (.bipush 66, 2) := dq_at zd_dX12_init_393 11 rfl
theorem dX12_init_411 : decode cX12_init 411 = .ok (.bipush 114, 2) := dq_at zd_dX12_init_393 12 rfl
theorem dX12_init_413 : decode cX12_init 413 = .ok (.iastore, 1) := dq_at zd_dX12_init_393 13 rfl
theorem dX12_init_414 : decode cX12_init 414 = .ok (.dup, 1) := dq_at zd_dX12_init_393 14 rfl
theorem dX12_init_415 : decode cX12_init 415 = .ok (.bipush 67, 2) := dq_at zd_dX12_init_393 15 rfl
theorem dX12_init_417 : decode cX12_init 417 = .ok (.bipush 105, 2) := dq_at zd_dX12_init_393 16 rfl
theorem dX12_init_419 : decode cX12_init 419 = .ok (.iastore, 1) := dq_at zd_dX12_init_393 17 rfl
theorem dX12_init_420 : decode cX12_init 420 = .ok (.dup, 1) := dq_at zd_dX12_init_393 18 rfl
theorem dX12_init_421 : decode cX12_init 421 = .ok (.bipush 68, 2) := dq_at zd_dX12_init_393 19 rfl
theorem dX12_init_423 : decode cX12_init 423 = .ok (.bipush 102, 2) := dq_at zd_dX12_init_393 20 rfl
theorem dX12_init_425 : decode cX12_init 425 = .ok (.iastore, 1) := dq_at zd_dX12_init_393 21 rfl
theorem dX12_init_426 : decode cX12_init 426 = .ok (.dup, 1) := dq_at zd_dX12_init_393 22 rfl
theorem dX12_init_427 : decode cX12_init 427 = .ok (.bipush 69, 2) := dq_at zd_dX12_init_393 23 rfl
theorem zd_dX12_init_429 : dq cX12_init [(429, .bipush 116, 2), (431, .iastore, 1), (432, .dup, 1), (433, .bipush 70, 2), (435, .bipush 32, 2), (437, .iastore, 1), (438, .dup, 1), (439, .bipush 71, 2), (441, .bipush 97, 2), (443, .iastore, 1), (444, .dup, 1), (445, .bipush 72, 2), (447, .bipush 119, 2), (449, .iastore, 1), (450, .dup, 1), (451, .bipush 73, 2), (453, .bipush 97, 2), (455, .iastore, 1), (456, .dup, 1), (457, .bipush 74, 2), (459, .bipush 121, 2), (461, .iastore, 1), (462, .dup, 1), (463, .bipush 75, 2)] = true := by decide +kernel
theorem dX12_init_429 : decode cX12_init 429 = .ok (.bipush 116, 2) := dq_at zd_dX12_init_429 0 rfl
theorem dX12_init_431 : decode cX12_init 431 = .ok (.iastore, 1) := dq_at zd_dX12_init_429 1 rfl
theorem dX12_init_432 : decode cX12_init 432 = .ok (.dup, 1) := dq_at zd_dX12_init_429 2 rfl
theorem dX12_init_433 : decode cX12_init 433 = .ok (.bipush 70, 2) := dq_at zd_dX12_init_429 3 rfl
theorem dX12_init_435 : decode cX12_init 435 = .ok (.bipush 32, 2) := dq_at zd_dX12_init_429 4 rfl
theorem dX12_init_437 : decode cX12_init 437 = .ok (.iastore, 1) := dq_at zd_dX12_init_429 5 rfl
theorem dX12_init_438 : decode cX12_init 438 = .ok (.dup, 1) := dq_at zd_dX12_init_429 6 rfl
theorem dX12_init_439 : decode cX12_init 439 = .ok (.bipush 71, 2) := dq_at zd_dX12_init_429 7 rfl
theorem dX12_init_441 : decode cX12_init 441 = .ok (.bipush 97, 2) := dq_at zd_dX12_init_429 8 rfl
theorem dX12_init_443 : decode cX12_init 443 = .ok (.iastore, 1) := dq_at zd_dX12_init_429 9 rfl
theorem dX12_init_444 : decode cX12_init 444 = .ok (.dup, 1) := dq_at zd_dX12_init_429 10 rfl
theorem dX12_init_445 : decode cX12_init 445 = .ok (.bipush 72, 2) := dq_at zd_dX12_init_429 11 rfl
theorem dX12_init_447 : decode cX12_init 447 = .ok (.bipush 119, 2) := dq_at zd_dX12_init_429 12 rfl
theorem dX12_init_449 : decode cX12_init 449 = .ok (.iastore, 1) := dq_at zd_dX12_init_429 13 rfl
theorem dX12_init_450 : decode cX12_init 450 = .ok (.dup, 1) := dq_at zd_dX12_init_429 14 rfl
theorem dX12_init_451 : decode cX12_init 451 = .ok (.bipush 73, 2) := dq_at zd_dX12_init_429 15 rfl
theorem dX12_init_453 : decode cX12_init 453 = .ok (.bipush 97, 2) := dq_at zd_dX12_init_429 16 rfl
theorem dX12_init_455 : decode cX12_init 455 = .ok (.iastore, 1) := dq_at zd_dX12_init_429 17 rfl
theorem dX12_init_456 : decode cX12_init 456 = .ok (.dup, 1) := dq_at zd_dX12_init_429 18 rfl
theorem dX12_init_457 : decode cX12_init 457 = .ok (.bipush 74, 2) := dq_at zd_dX12_init_429 19 rfl
theorem dX12_init_459 : decode cX12_init 459 = .ok (.bipush 121, 2) := dq_at zd_dX12_init_429 20 rfl
theorem dX12_init_461 : decode cX12_init 461 = .ok (.iastore, 1) := dq_at zd_dX12_init_429 21 rfl
theorem dX12_init_462 : decode cX12_init 462 = .ok (.dup, 1) := dq_at zd_dX12_init_429 22 rfl
theorem dX12_init_463 : decode cX12_init 463 = .ok (.bipush 75, 2) := dq_at zd_dX12_init_429 23 rfl
theorem zd_dX12_init_465 : dq cX12_init [(465, .bipush 32, 2), (467, .iastore, 1), (468, .dup, 1), (469, .bipush 76, 2), (471, .bipush 97, 2), (473, .iastore, 1), (474, .dup, 1), (475, .bipush 77, 2), (477, .bipush 110, 2), (479, .iastore, 1), (480, .dup, 1), (481, .bipush 78, 2), (483, .bipush 100, 2), (485, .iastore, 1), (486, .dup, 1), (487, .bipush 79, 2), (489, .bipush 32, 2), (491, .iastore, 1)] = true := by decide +kernel
theorem dX12_init_465 : decode cX12_init 465 = .ok (.bipush 32, 2) := dq_at zd_dX12_init_465 0 rfl
theorem dX12_init_467 : decode cX12_init 467 = .ok (.iastore, 1) := dq_at zd_dX12_init_465 1 rfl
theorem dX12_init_468 : decode cX12_init 468 = .ok (.dup, 1) := dq_at zd_dX12_init_465 2 rfl
theorem dX12_init_469 : decode cX12_init 469 = .ok (.bipush 76, 2) := dq_at zd_dX12_init_465 3 rfl
theorem dX12_init_471 : decode cX12_init 471 = .ok (.bipush 97, 2) := dq_at zd_dX12_init_465 4 rfl
theorem dX12_init_473 : decode cX12_init 473 = .ok (.iastore, 1) := dq_at zd_dX12_init_465 5 rfl
theorem dX12_init_474 : decode cX12_init 474 = .ok (.dup, 1) := dq_at zd_dX12_init_465 6 rfl
theorem dX12_init_475 : decode cX12_init 475 = .ok (.bipush 77, 2) := dq_at zd_dX12_init_465 7 rfl
theorem dX12_init_477 : decode cX12_init 477 = .ok (.bipush 110, 2) := dq_at zd_dX12_init_465 8 rfl
theorem dX12_init_479 : decode cX12_init 479 = .ok (.iastore, 1) := dq_at zd_dX12_init_465 9 rfl
theorem dX12_init_480 : decode cX12_init 480 = .ok (.dup, 1) := dq_at zd_dX12_init_465 10 rfl
theorem dX12_init_481 : decode cX12_init 481 = .ok (.bipush 78, 2) := dq_at zd_dX12_init_465 11 rfl
theorem dX12_init_483 : decode cX12_init 483 = .ok (.bipush 100, 2) := dq_at zd_dX12_init_465 12 rfl
theorem dX12_init_485 : decode cX12_init 485 = .ok (.iastore, 1) := dq_at zd_dX12_init_465 13 rfl
theorem dX12_init_486 : decode cX12_init 486 = .ok (.dup, 1) := dq_at zd_dX12_init_465 14 rfl
theorem dX12_init_487 : decode cX12_init 487 = .ok (.bipush 79, 2) := dq_at zd_dX12_init_465 15 rfl
theorem dX12_init_489 : decode cX12_init 489 = .ok (.bipush 32, 2) := dq_at zd_dX12_init_465 16 rfl
theorem dX12_init_491 : decode cX12_init 491 = .ok (.iastore, 1) := dq_at zd_dX12_init_465 17 rfl
