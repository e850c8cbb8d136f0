theorem zd_dL_law_40 : dq cL_law [(40, .tableswitch 1486 0 38 #[172, 245, 270, 295, 320, 360, 397, 422, 471, 520, 557, 582, 607, 644, 681, 718, 743, 780, 829, 866, 891, 928, 977, 1026, 1075, 1100, 1125, 1138, 1175, 1200, 1249, 1274, 1299, 1324, 1373, 1422, 1435, 1448, 1461], 172), (212, .aload_n 1, 1), (213, .aload_n 0, 1), (214, .iload 4, 2), (216, .iconst 1, 1), (217, .iadd, 1), (218, .iaload, 1), (219, .aload_n 0, 1), (220, .iload 4, 2), (222, .iconst 2, 1), (223, .iadd, 1), (224, .iaload, 1), (225, .aload_n 0, 1), (226, .iload 4, 2), (228, .iconst 3, 1), (229, .iadd, 1), (230, .iaload, 1), (231, .aload_n 0, 1), (232, .iload 4, 2), (234, .iconst 4, 1), (235, .iadd, 1), (236, .iaload, 1), (237, .aload_n 0, 1), (238, .iload 4, 2)] = true := by decide +kernel
theorem dL_law_40 : decode cL_law 40 = .ok (.tableswitch 1486 0 38 #[172, 245, 270, 295, 320, 360, 397, 422, 471, 520, 557, 582, 607, 644, 681, 718, 743, 780, 829, 866, 891, 928, 977, 1026, 1075, 1100, 1125, 1138, 1175, 1200, 1249, 1274, 1299, 1324, 1373, 1422, 1435, 1448, 1461], 172) := dq_at zd_dL_law_40 0 rfl
theorem dL_law_212 : decode cL_law 212 = .ok (.aload_n 1, 1) := dq_at zd_dL_law_40 1 rfl
theorem dL_law_213 : decode cL_law 213 = .ok (.aload_n 0, 1) := dq_at zd_dL_law_40 2 rfl
theorem dL_law_214 : decode cL_law 214 = .ok (.iload 4, 2) := dq_at zd_dL_law_40 3 rfl
theorem dL_law_216 : decode cL_law 216 = .ok (.iconst 1, 1) := dq_at zd_dL_law_40 4 rfl
theorem dL_law_217 : decode cL_law 217 = .ok (.iadd, 1) := dq_at zd_dL_law_40 5 rfl
theorem dL_law_218 : decode cL_law 218 = .ok (.iaload, 1) := dq_at zd_dL_law_40 6 rfl
theorem dL_law_219 : decode cL_law 219 = .ok (.aload_n 0, 1) := dq_at zd_dL_law_40 7 rfl
theorem dL_law_220 : decode cL_law 220 = .ok (.iload 4, 2) := dq_at zd_dL_law_40 8 rfl
theorem dL_law_222 : decode cL_law 222 = .ok (.iconst 2, 1) := dq_at zd_dL_law_40 9 rfl
theorem dL_law_223 : decode cL_law 223 = .ok (.iadd, 1) := dq_at zd_dL_law_40 10 rfl
theorem dL_law_224 : decode cL_law 224 = .ok (.iaload, 1) := dq_at zd_dL_law_40 11 rfl
theorem dL_law_225 : decode cL_law 225 = .ok (.aload_n 0, 1) := dq_at zd_dL_law_40 12 rfl
theorem dL_law_226 : decode cL_law 226 = .ok (.iload 4, 2) := dq_at zd_dL_law_40 13 rfl
theorem dL_law_228 : decode cL_law 228 = .ok (.iconst 3, 1) := dq_at zd_dL_law_40 14 rfl
theorem dL_law_229 : decode cL_law 229 = .ok (.iadd, 1) := dq_at zd_dL_law_40 15 rfl
theorem dL_law_230 : decode cL_law 230 = .ok (.iaload, 1) := dq_at zd_dL_law_40 16 rfl
theorem dL_law_231 : decode cL_law 231 = .ok (.aload_n 0, 1) := dq_at zd_dL_law_40 17 rfl
theorem dL_law_232 : decode cL_law 232 = .ok (.iload 4, 2) := dq_at zd_dL_law_40 18 rfl
theorem dL_law_234 : decode cL_law 234 = .ok (.iconst 4, 1) := dq_at zd_dL_law_40 19 rfl
theorem dL_law_235 : decode cL_law 235 = .ok (.iadd, 1) := dq_at zd_dL_law_40 20 rfl
theorem dL_law_236 : decode cL_law 236 = .ok (.iaload, 1) := dq_at zd_dL_law_40 21 rfl
theorem dL_law_237 : decode cL_law 237 = .ok (.aload_n 0, 1) := dq_at zd_dL_law_40 22 rfl
theorem dL_law_238 : decode cL_law 238 = .ok (.iload 4, 2) := dq_at zd_dL_law_40 23 rfl
theorem zd_dL_law_240 : dq cL_law [(240, .iconst 5, 1), (241, .iadd, 1), (242, .iaload, 1), (243, .invokevirtual 21, 3), (246, .pop, 1), (247, .aload_n 2, 1), (248, .aload_n 0, 1), (249, .iload 4, 2), (251, .iconst 1, 1), (252, .iadd, 1), (253, .iaload, 1), (254, .aload_n 0, 1), (255, .iload 4, 2), (257, .iconst 2, 1), (258, .iadd, 1), (259, .iaload, 1), (260, .aload_n 0, 1), (261, .iload 4, 2), (263, .iconst 3, 1), (264, .iadd, 1), (265, .iaload, 1), (266, .aload_n 0, 1), (267, .iload 4, 2), (269, .iconst 4, 1)] = true := by decide +kernel
theorem dL_law_240 : decode cL_law 240 = .ok (.iconst 5, 1) := dq_at zd_dL_law_240 0 rfl
theorem dL_law_241 : decode cL_law 241 = .ok (.iadd, 1) := dq_at zd_dL_law_240 1 rfl
theorem dL_law_242 : decode cL_law 242 = .ok (.iaload, 1) := dq_at zd_dL_law_240 2 rfl
theorem dL_law_243 : decode cL_law 243 = .ok (.invokevirtual 21, 3) := dq_at zd_dL_law_240 3 rfl
theorem dL_law_246 : decode cL_law 246 = .ok (.pop, 1) := dq_at zd_dL_law_240 4 rfl
theorem dL_law_247 : decode cL_law 247 = .ok (.aload_n 2, 1) := dq_at zd_dL_law_240 5 rfl
theorem dL_law_248 : decode cL_law 248 = .ok (.aload_n 0, 1) := dq_at zd_dL_law_240 6 rfl
theorem dL_law_249 : decode cL_law 249 = .ok (.iload 4, 2) := dq_at zd_dL_law_240 7 rfl
theorem dL_law_251 : decode cL_law 251 = .ok (.iconst 1, 1) := dq_at zd_dL_law_240 8 rfl
theorem dL_law_252 : decode cL_law 252 = .ok (.iadd, 1) := dq_at zd_dL_law_240 9 rfl
theorem dL_law_253 : decode cL_law 253 = .ok (.iaload, 1) := dq_at zd_dL_law_240 10 rfl
theorem dL_law_254 : decode cL_law 254 = .ok (.aload_n 0, 1) := dq_at zd_dL_law_240 11 rfl
theorem dL_law_255 : decode cL_law 255 = .ok (.iload 4, 2) := dq_at zd_dL_law_240 12 rfl
theorem dL_law_257 : decode cL_law 257 = .ok (.iconst 2, 1) := dq_at zd_dL_law_240 13 rfl
theorem dL_law_258 : decode cL_law 258 = .ok (.iadd, 1) := dq_at zd_dL_law_240 14 rfl
theorem dL_law_259 : decode cL_law 259 = .ok (.iaload, 1) := dq_at zd_dL_law_240 15 rfl
theorem dL_law_260 : decode cL_law 260 = .ok (.aload_n 0, 1) := dq_at zd_dL_law_240 16 rfl
theorem dL_law_261 : decode cL_law 261 = .ok (.iload 4, 2) := dq_at zd_dL_law_240 17 rfl
theorem dL_law_263 : decode cL_law 263 = .ok (.iconst 3, 1) := dq_at zd_dL_law_240 18 rfl
theorem dL_law_264 : decode cL_law 264 = .ok (.iadd, 1) := dq_at zd_dL_law_240 19 rfl
theorem dL_law_265 : decode cL_law 265 = .ok (.iaload, 1) := dq_at zd_dL_law_240 20 rfl
theorem dL_law_266 : decode cL_law 266 = .ok (.aload_n 0, 1) := dq_at zd_dL_law_240 21 rfl
theorem dL_law_267 : decode cL_law 267 = .ok (.iload 4, 2) := dq_at zd_dL_law_240 22 rfl
theorem dL_law_269 : decode cL_law 269 = .ok (.iconst 4, 1) := dq_at zd_dL_law_240 23 rfl
theorem zd_dL_law_270 : dq cL_law [(270, .iadd, 1), (271, .iaload, 1), (272, .aload_n 0, 1), (273, .iload 4, 2), (275, .iconst 5, 1), (276, .iadd, 1), (277, .iaload, 1), (278, .invokevirtual 25, 3), (281, .pop, 1), (282, .goto 1244, 3), (285, .aload_n 1, 1), (286, .aload_n 0, 1), (287, .iload 4, 2), (289, .iconst 1, 1), (290, .iadd, 1), (291, .iaload, 1), (292, .invokevirtual 26, 3), (295, .pop, 1), (296, .aload_n 2, 1), (297, .aload_n 0, 1), (298, .iload 4, 2), (300, .iconst 1, 1), (301, .iadd, 1), (302, .iaload, 1)] = true := by decide +kernel
theorem dL_law_270 : decode cL_law 270 = .ok (.iadd, 1) := dq_at zd_dL_law_270 0 rfl
theorem dL_law_271 : decode cL_law 271 = .ok (.iaload, 1) := dq_at zd_dL_law_270 1 rfl
theorem dL_law_272 : decode cL_law 272 = .ok (.aload_n 0, 1) := dq_at zd_dL_law_270 2 rfl
theorem dL_law_273 : decode cL_law 273 = .ok (.iload 4, 2) := dq_at zd_dL_law_270 3 rfl
theorem dL_law_275 : decode cL_law 275 = .ok (.iconst 5, 1) := dq_at zd_dL_law_270 4 rfl
theorem dL_law_276 : decode cL_law 276 = .ok (.iadd, 1) := dq_at zd_dL_law_270 5 rfl
theorem dL_law_277 : decode cL_law 277 = .ok (.iaload, 1) := dq_at zd_dL_law_270 6 rfl
theorem dL_law_278 : decode cL_law 278 = .ok (.invokevirtual 25, 3) := dq_at zd_dL_law_270 7 rfl
theorem dL_law_281 : decode cL_law 281 = .ok (.pop, 1) := dq_at zd_dL_law_270 8 rfl
theorem dL_law_282 : decode cL_law 282 = .ok (.goto 1244, 3) := dq_at zd_dL_law_270 9 rfl
theorem dL_law_285 : decode cL_law 285 = .ok (.aload_n 1, 1) := dq_at zd_dL_law_270 10 rfl
theorem dL_law_286 : decode cL_law 286 = .ok (.aload_n 0, 1) := dq_at zd_dL_law_270 11 rfl
theorem dL_law_287 : decode cL_law 287 = .ok (.iload 4, 2) := dq_at zd_dL_law_270 12 rfl
theorem dL_law_289 : decode cL_law 289 = .ok (.iconst 1, 1) := dq_at zd_dL_law_270 13 rfl
theorem dL_law_290 : decode cL_law 290 = .ok (.iadd, 1) := dq_at zd_dL_law_270 14 rfl
theorem dL_law_291 : decode cL_law 291 = .ok (.iaload, 1) := dq_at zd_dL_law_270 15 rfl
theorem dL_law_292 : decode cL_law 292 = .ok (.invokevirtual 26, 3) := dq_at zd_dL_law_270 16 rfl
theorem dL_law_295 : decode cL_law 295 = .ok (.pop, 1) := dq_at zd_dL_law_270 17 rfl
theorem dL_law_296 : decode cL_law 296 = .ok (.aload_n 2, 1) := dq_at zd_dL_law_270 18 rfl
theorem dL_law_297 : decode cL_law 297 = .ok (.aload_n 0, 1) := dq_at zd_dL_law_270 19 rfl
theorem dL_law_298 : decode cL_law 298 = .ok (.iload 4, 2) := dq_at zd_dL_law_270 20 rfl
theorem dL_law_300 : decode cL_law 300 = .ok (.iconst 1, 1) := dq_at zd_dL_law_270 21 rfl
theorem dL_law_301 : decode cL_law 301 = .ok (.iadd, 1) := dq_at zd_dL_law_270 22 rfl
theorem dL_law_302 : decode cL_law 302 = .ok (.iaload, 1) := dq_at zd_dL_law_270 23 rfl
theorem zd_dL_law_303 : dq cL_law [(303, .invokevirtual 30, 3), (306, .pop, 1), (307, .goto 1219, 3), (310, .aload_n 1, 1), (311, .aload_n 0, 1), (312, .iload 4, 2), (314, .iconst 1, 1), (315, .iadd, 1), (316, .iaload, 1), (317, .invokevirtual 31, 3), (320, .pop, 1), (321, .aload_n 2, 1), (322, .aload_n 0, 1), (323, .iload 4, 2), (325, .iconst 1, 1), (326, .iadd, 1), (327, .iaload, 1), (328, .invokevirtual 34, 3), (331, .pop, 1), (332, .goto 1194, 3), (335, .aload_n 1, 1), (336, .aload_n 0, 1), (337, .iload 4, 2), (339, .iconst 1, 1)] = true := by decide +kernel
theorem dL_law_303 : decode cL_law 303 = .ok (.invokevirtual 30, 3) := dq_at zd_dL_law_303 0 rfl
theorem dL_law_306 : decode cL_law 306 = .ok (.pop, 1) := dq_at zd_dL_law_303 1 rfl
theorem dL_law_307 : decode cL_law 307 = .ok (.goto 1219, 3) := dq_at zd_dL_law_303 2 rfl
theorem dL_law_310 : decode cL_law 310 = .ok (.aload_n 1, 1) := dq_at zd_dL_law_303 3 rfl
theorem dL_law_311 : decode cL_law 311 = .ok (.aload_n 0, 1) := dq_at zd_dL_law_303 4 rfl
theorem dL_law_312 : decode cL_law 312 = .ok (.iload 4, 2) := dq_at zd_dL_law_303 5 rfl
theorem dL_law_314 : decode cL_law 314 = .ok (.iconst 1, 1) := dq_at zd_dL_law_303 6 rfl
theorem dL_law_315 : decode cL_law 315 = .ok (.iadd, 1) := dq_at zd_dL_law_303 7 rfl
theorem dL_law_316 : decode cL_law 316 = .ok (.iaload, 1) := dq_at zd_dL_law_303 8 rfl
theorem dL_law_317 : decode cL_law 317 = .ok (.invokevirtual 31, 3) := dq_at zd_dL_law_303 9 rfl
theorem dL_law_320 : decode cL_law 320 = .ok (.pop, 1) := dq_at zd_dL_law_303 10 rfl
theorem dL_law_321 : decode cL_law 321 = .ok (.aload_n 2, 1) := dq_at zd_dL_law_303 11 rfl
theorem dL_law_322 : decode cL_law 322 = .ok (.aload_n 0, 1) := dq_at zd_dL_law_303 12 rfl
theorem dL_law_323 : decode cL_law 323 = .ok (.iload 4, 2) := dq_at zd_dL_law_303 13 rfl
theorem dL_law_325 : decode cL_law 325 = .ok (.iconst 1, 1) := dq_at zd_dL_law_303 14 rfl
theorem dL_law_326 : decode cL_law 326 = .ok (.iadd, 1) := dq_at zd_dL_law_303 15 rfl
theorem dL_law_327 : decode cL_law 327 = .ok (.iaload, 1) := dq_at zd_dL_law_303 16 rfl
theorem dL_law_328 : decode cL_law 328 = .ok (.invokevirtual 34, 3) := dq_at zd_dL_law_303 17 rfl
theorem dL_law_331 : decode cL_law 331 = .ok (.pop, 1) := dq_at zd_dL_law_303 18 rfl
theorem dL_law_332 : decode cL_law 332 = .ok (.goto 1194, 3) := dq_at zd_dL_law_303 19 rfl
theorem dL_law_335 : decode cL_law 335 = .ok (.aload_n 1, 1) := dq_at zd_dL_law_303 20 rfl
theorem dL_law_336 : decode cL_law 336 = .ok (.aload_n 0, 1) := dq_at zd_dL_law_303 21 rfl
theorem dL_law_337 : decode cL_law 337 = .ok (.iload 4, 2) := dq_at zd_dL_law_303 22 rfl
theorem dL_law_339 : decode cL_law 339 = .ok (.iconst 1, 1) := dq_at zd_dL_law_303 23 rfl
theorem zd_dL_law_340 : dq cL_law [(340, .iadd, 1), (341, .iaload, 1), (342, .invokevirtual 35, 3), (345, .aload_n 2, 1), (346, .aload_n 0, 1), (347, .iload 4, 2), (349, .iconst 1, 1), (350, .iadd, 1), (351, .iaload, 1), (352, .invokevirtual 38, 3), (355, .if_icmp .eq 1171, 3), (360, .aload_n 1, 1), (361, .aload_n 0, 1), (362, .iload 4, 2), (364, .iconst 1, 1), (365, .iadd, 1), (366, .iaload, 1), (367, .aload_n 0, 1), (368, .iload 4, 2), (370, .iconst 2, 1), (371, .iadd, 1), (372, .iaload, 1), (373, .aload_n 3, 1), (374, .invokestatic 39, 3)] = true := by decide +kernel
theorem dL_law_340 : decode cL_law 340 = .ok (.iadd, 1) := dq_at zd_dL_law_340 0 rfl
theorem dL_law_341 : decode cL_law 341 = .ok (.iaload, 1) := dq_at zd_dL_law_340 1 rfl
theorem dL_law_342 : decode cL_law 342 = .ok (.invokevirtual 35, 3) := dq_at zd_dL_law_340 2 rfl
theorem dL_law_345 : decode cL_law 345 = .ok (.aload_n 2, 1) := dq_at zd_dL_law_340 3 rfl
theorem dL_law_346 : decode cL_law 346 = .ok (.aload_n 0, 1) := dq_at zd_dL_law_340 4 rfl
theorem dL_law_347 : decode cL_law 347 = .ok (.iload 4, 2) := dq_at zd_dL_law_340 5 rfl
theorem dL_law_349 : decode cL_law 349 = .ok (.iconst 1, 1) := dq_at zd_dL_law_340 6 rfl
theorem dL_law_350 : decode cL_law 350 = .ok (.iadd, 1) := dq_at zd_dL_law_340 7 rfl
theorem dL_law_351 : decode cL_law 351 = .ok (.iaload, 1) := dq_at zd_dL_law_340 8 rfl
theorem dL_law_352 : decode cL_law 352 = .ok (.invokevirtual 38, 3) := dq_at zd_dL_law_340 9 rfl
theorem dL_law_355 : decode cL_law 355 = .ok (.if_icmp .eq 1171, 3) := dq_at zd_dL_law_340 10 rfl
theorem dL_law_360 : decode cL_law 360 = .ok (.aload_n 1, 1) := dq_at zd_dL_law_340 11 rfl
theorem dL_law_361 : decode cL_law 361 = .ok (.aload_n 0, 1) := dq_at zd_dL_law_340 12 rfl
theorem dL_law_362 : decode cL_law 362 = .ok (.iload 4, 2) := dq_at zd_dL_law_340 13 rfl
theorem dL_law_364 : decode cL_law 364 = .ok (.iconst 1, 1) := dq_at zd_dL_law_340 14 rfl
theorem dL_law_365 : decode cL_law 365 = .ok (.iadd, 1) := dq_at zd_dL_law_340 15 rfl
theorem dL_law_366 : decode cL_law 366 = .ok (.iaload, 1) := dq_at zd_dL_law_340 16 rfl
theorem dL_law_367 : decode cL_law 367 = .ok (.aload_n 0, 1) := dq_at zd_dL_law_340 17 rfl
theorem dL_law_368 : decode cL_law 368 = .ok (.iload 4, 2) := dq_at zd_dL_law_340 18 rfl
theorem dL_law_370 : decode cL_law 370 = .ok (.iconst 2, 1) := dq_at zd_dL_law_340 19 rfl
theorem dL_law_371 : decode cL_law 371 = .ok (.iadd, 1) := dq_at zd_dL_law_340 20 rfl
theorem dL_law_372 : decode cL_law 372 = .ok (.iaload, 1) := dq_at zd_dL_law_340 21 rfl
theorem dL_law_373 : decode cL_law 373 = .ok (.aload_n 3, 1) := dq_at zd_dL_law_340 22 rfl
theorem dL_law_374 : decode cL_law 374 = .ok (.invokestatic 39, 3) := dq_at zd_dL_law_340 23 rfl
