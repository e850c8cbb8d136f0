theorem dL_law_40 : decode cL_law 40 = .ok (.tableswitch 1486 0 38 #[172, 245, 270, 295, 320, 360, 397, 422, 471, 520, 557, 582, 607, 644, 681, 718, 743, 780, 829, 866, 891, 928, 977, 1026, 1075, 1100, 1125, 1138, 1175, 1200, 1249, 1274, 1299, 1324, 1373, 1422, 1435, 1448, 1461], 172) := zd_dL_law_40.1.1.1.1.1
theorem dL_law_212 : decode cL_law 212 = .ok (.aload_n 1, 1) := zd_dL_law_40.1.1.1.1.2
theorem dL_law_213 : decode cL_law 213 = .ok (.aload_n 0, 1) := zd_dL_law_40.1.1.1.2
theorem dL_law_214 : decode cL_law 214 = .ok (.iload 4, 2) := zd_dL_law_40.1.1.2.1.1
theorem dL_law_216 : decode cL_law 216 = .ok (.iconst 1, 1) := zd_dL_law_40.1.1.2.1.2
theorem dL_law_217 : decode cL_law 217 = .ok (.iadd, 1) := zd_dL_law_40.1.1.2.2
theorem dL_law_218 : decode cL_law 218 = .ok (.iaload, 1) := zd_dL_law_40.1.2.1.1.1
theorem dL_law_219 : decode cL_law 219 = .ok (.aload_n 0, 1) := zd_dL_law_40.1.2.1.1.2
theorem dL_law_220 : decode cL_law 220 = .ok (.iload 4, 2) := zd_dL_law_40.1.2.1.2
theorem dL_law_222 : decode cL_law 222 = .ok (.iconst 2, 1) := zd_dL_law_40.1.2.2.1.1
theorem dL_law_223 : decode cL_law 223 = .ok (.iadd, 1) := zd_dL_law_40.1.2.2.1.2
theorem dL_law_224 : decode cL_law 224 = .ok (.iaload, 1) := zd_dL_law_40.1.2.2.2
theorem dL_law_225 : decode cL_law 225 = .ok (.aload_n 0, 1) := zd_dL_law_40.2.1.1.1.1
theorem dL_law_226 : decode cL_law 226 = .ok (.iload 4, 2) := zd_dL_law_40.2.1.1.1.2
theorem dL_law_228 : decode cL_law 228 = .ok (.iconst 3, 1) := zd_dL_law_40.2.1.1.2
theorem dL_law_229 : decode cL_law 229 = .ok (.iadd, 1) := zd_dL_law_40.2.1.2.1.1
theorem dL_law_230 : decode cL_law 230 = .ok (.iaload, 1) := zd_dL_law_40.2.1.2.1.2
theorem dL_law_231 : decode cL_law 231 = .ok (.aload_n 0, 1) := zd_dL_law_40.2.1.2.2
theorem dL_law_232 : decode cL_law 232 = .ok (.iload 4, 2) := zd_dL_law_40.2.2.1.1.1
theorem dL_law_234 : decode cL_law 234 = .ok (.iconst 4, 1) := zd_dL_law_40.2.2.1.1.2
theorem dL_law_235 : decode cL_law 235 = .ok (.iadd, 1) := zd_dL_law_40.2.2.1.2
theorem dL_law_236 : decode cL_law 236 = .ok (.iaload, 1) := zd_dL_law_40.2.2.2.1.1
theorem dL_law_237 : decode cL_law 237 = .ok (.aload_n 0, 1) := zd_dL_law_40.2.2.2.1.2
theorem dL_law_238 : decode cL_law 238 = .ok (.iload 4, 2) := zd_dL_law_40.2.2.2.2
theorem zd_dL_law_240 : ((((((decode cL_law 240 = .ok (.iconst 5, 1)) ∧ (decode cL_law 241 = .ok (.iadd, 1))) ∧ (decode cL_law 242 = .ok (.iaload, 1))) ∧ (((decode cL_law 243 = .ok (.invokevirtual 21, 3)) ∧ (decode cL_law 246 = .ok (.pop, 1))) ∧ (decode cL_law 247 = .ok (.aload_n 2, 1)))) ∧ ((((decode cL_law 248 = .ok (.aload_n 0, 1)) ∧ (decode cL_law 249 = .ok (.iload 4, 2))) ∧ (decode cL_law 251 = .ok (.iconst 1, 1))) ∧ (((decode cL_law 252 = .ok (.iadd, 1)) ∧ (decode cL_law 253 = .ok (.iaload, 1))) ∧ (decode cL_law 254 = .ok (.aload_n 0, 1))))) ∧ (((((decode cL_law 255 = .ok (.iload 4, 2)) ∧ (decode cL_law 257 = .ok (.iconst 2, 1))) ∧ (decode cL_law 258 = .ok (.iadd, 1))) ∧ (((decode cL_law 259 = .ok (.iaload, 1)) ∧ (decode cL_law 260 = .ok (.aload_n 0, 1))) ∧ (decode cL_law 261 = .ok (.iload 4, 2)))) ∧ ((((decode cL_law 263 = .ok (.iconst 3, 1)) ∧ (decode cL_law 264 = .ok (.iadd, 1))) ∧ (decode cL_law 265 = .ok (.iaload, 1))) ∧ (((decode cL_law 266 = .ok (.aload_n 0, 1)) ∧ (decode cL_law 267 = .ok (.iload 4, 2))) ∧ (decode cL_law 269 = .ok (.iconst 4, 1)))))) := by decide +kernel
theorem dL_law_240 : decode cL_law 240 = .ok (.iconst 5, 1) := zd_dL_law_240.1.1.1.1.1
theorem dL_law_241 : decode cL_law 241 = .ok (.iadd, 1) := zd_dL_law_240.1.1.1.1.2
theorem dL_law_242 : decode cL_law 242 = .ok (.iaload, 1) := zd_dL_law_240.1.1.1.2
theorem dL_law_243 : decode cL_law 243 = .ok (.invokevirtual 21, 3) := zd_dL_law_240.1.1.2.1.1
theorem dL_law_246 : decode cL_law 246 = .ok (.pop, 1) := zd_dL_law_240.1.1.2.1.2
theorem dL_law_247 : decode cL_law 247 = .ok (.aload_n 2, 1) := zd_dL_law_240.1.1.2.2
theorem dL_law_248 : decode cL_law 248 = .ok (.aload_n 0, 1) := zd_dL_law_240.1.2.1.1.1
theorem dL_law_249 : decode cL_law 249 = .ok (.iload 4, 2) := zd_dL_law_240.1.2.1.1.2
theorem dL_law_251 : decode cL_law 251 = .ok (.iconst 1, 1) := zd_dL_law_240.1.2.1.2
theorem dL_law_252 : decode cL_law 252 = .ok (.iadd, 1) := zd_dL_law_240.1.2.2.1.1
theorem dL_law_253 : decode cL_law 253 = .ok (.iaload, 1) := zd_dL_law_240.1.2.2.1.2
theorem dL_law_254 : decode cL_law 254 = .ok (.aload_n 0, 1) := zd_dL_law_240.1.2.2.2
theorem dL_law_255 : decode cL_law 255 = .ok (.iload 4, 2) := zd_dL_law_240.2.1.1.1.1
theorem dL_law_257 : decode cL_law 257 = .ok (.iconst 2, 1) := zd_dL_law_240.2.1.1.1.2
theorem dL_law_258 : decode cL_law 258 = .ok (.iadd, 1) := zd_dL_law_240.2.1.1.2
theorem dL_law_259 : decode cL_law 259 = .ok (.iaload, 1) := zd_dL_law_240.2.1.2.1.1
theorem dL_law_260 : decode cL_law 260 = .ok (.aload_n 0, 1) := zd_dL_law_240.2.1.2.1.2
theorem dL_law_261 : decode cL_law 261 = .ok (.iload 4, 2) := zd_dL_law_240.2.1.2.2
theorem dL_law_263 : decode cL_law 263 = .ok (.iconst 3, 1) := zd_dL_law_240.2.2.1.1.1
theorem dL_law_264 : decode cL_law 264 = .ok (.iadd, 1) := zd_dL_law_240.2.2.1.1.2
theorem dL_law_265 : decode cL_law 265 = .ok (.iaload, 1) := zd_dL_law_240.2.2.1.2
theorem dL_law_266 : decode cL_law 266 = .ok (.aload_n 0, 1) := zd_dL_law_240.2.2.2.1.1
theorem dL_law_267 : decode cL_law 267 = .ok (.iload 4, 2) := zd_dL_law_240.2.2.2.1.2
theorem dL_law_269 : decode cL_law 269 = .ok (.iconst 4, 1) := zd_dL_law_240.2.2.2.2
theorem zd_dL_law_270 : ((((((decode cL_law 270 = .ok (.iadd, 1)) ∧ (decode cL_law 271 = .ok (.iaload, 1))) ∧ (decode cL_law 272 = .ok (.aload_n 0, 1))) ∧ (((decode cL_law 273 = .ok (.iload 4, 2)) ∧ (decode cL_law 275 = .ok (.iconst 5, 1))) ∧ (decode cL_law 276 = .ok (.iadd, 1)))) ∧ ((((decode cL_law 277 = .ok (.iaload, 1)) ∧ (decode cL_law 278 = .ok (.invokevirtual 25, 3))) ∧ (decode cL_law 281 = .ok (.pop, 1))) ∧ (((decode cL_law 282 = .ok (.goto 1244, 3)) ∧ (decode cL_law 285 = .ok (.aload_n 1, 1))) ∧ (decode cL_law 286 = .ok (.aload_n 0, 1))))) ∧ (((((decode cL_law 287 = .ok (.iload 4, 2)) ∧ (decode cL_law 289 = .ok (.iconst 1, 1))) ∧ (decode cL_law 290 = .ok (.iadd, 1))) ∧ (((decode cL_law 291 = .ok (.iaload, 1)) ∧ (decode cL_law 292 = .ok (.invokevirtual 26, 3))) ∧ (decode cL_law 295 = .ok (.pop, 1)))) ∧ ((((decode cL_law 296 = .ok (.aload_n 2, 1)) ∧ (decode cL_law 297 = .ok (.aload_n 0, 1))) ∧ (decode cL_law 298 = .ok (.iload 4, 2))) ∧ (((decode cL_law 300 = .ok (.iconst 1, 1)) ∧ (decode cL_law 301 = .ok (.iadd, 1))) ∧ (decode cL_law 302 = .ok (.iaload, 1)))))) := by decide +kernel
theorem dL_law_270 : decode cL_law 270 = .ok (.iadd, 1) := zd_dL_law_270.1.1.1.1.1
theorem dL_law_271 : decode cL_law 271 = .ok (.iaload, 1) := zd_dL_law_270.1.1.1.1.2
theorem dL_law_272 : decode cL_law 272 = .ok (.aload_n 0, 1) := zd_dL_law_270.1.1.1.2
theorem dL_law_273 : decode cL_law 273 = .ok (.iload 4, 2) := zd_dL_law_270.1.1.2.1.1
theorem dL_law_275 : decode cL_law 275 = .ok (.iconst 5, 1) := zd_dL_law_270.1.1.2.1.2
theorem dL_law_276 : decode cL_law 276 = .ok (.iadd, 1) := zd_dL_law_270.1.1.2.2
theorem dL_law_277 : decode cL_law 277 = .ok (.iaload, 1) := zd_dL_law_270.1.2.1.1.1
theorem dL_law_278 : decode cL_law 278 = .ok (.invokevirtual 25, 3) := zd_dL_law_270.1.2.1.1.2
theorem dL_law_281 : decode cL_law 281 = .ok (.pop, 1) := zd_dL_law_270.1.2.1.2
theorem dL_law_282 : decode cL_law 282 = .ok (.goto 1244, 3) := zd_dL_law_270.1.2.2.1.1
theorem dL_law_285 : decode cL_law 285 = .ok (.aload_n 1, 1) := zd_dL_law_270.1.2.2.1.2
theorem dL_law_286 : decode cL_law 286 = .ok (.aload_n 0, 1) := zd_dL_law_270.1.2.2.2
theorem dL_law_287 : decode cL_law 287 = .ok (.iload 4, 2) := zd_dL_law_270.2.1.1.1.1
theorem dL_law_289 : decode cL_law 289 = .ok (.iconst 1, 1) := zd_dL_law_270.2.1.1.1.2
theorem dL_law_290 : decode cL_law 290 = .ok (.iadd, 1) := zd_dL_law_270.2.1.1.2
theorem dL_law_291 : decode cL_law 291 = .ok (.iaload, 1) := zd_dL_law_270.2.1.2.1.1
theorem dL_law_292 : decode cL_law 292 = .ok (.invokevirtual 26, 3) := zd_dL_law_270.2.1.2.1.2
theorem dL_law_295 : decode cL_law 295 = .ok (.pop, 1) := zd_dL_law_270.2.1.2.2
theorem dL_law_296 : decode cL_law 296 = .ok (.aload_n 2, 1) := zd_dL_law_270.2.2.1.1.1
theorem dL_law_297 : decode cL_law 297 = .ok (.aload_n 0, 1) := zd_dL_law_270.2.2.1.1.2
theorem dL_law_298 : decode cL_law 298 = .ok (.iload 4, 2) := zd_dL_law_270.2.2.1.2
theorem dL_law_300 : decode cL_law 300 = .ok (.iconst 1, 1) := zd_dL_law_270.2.2.2.1.1
theorem dL_law_301 : decode cL_law 301 = .ok (.iadd, 1) := zd_dL_law_270.2.2.2.1.2
theorem dL_law_302 : decode cL_law 302 = .ok (.iaload, 1) := zd_dL_law_270.2.2.2.2
theorem zd_dL_law_303 : ((((((decode cL_law 303 = .ok (.invokevirtual 30, 3)) ∧ (decode cL_law 306 = .ok (.pop, 1))) ∧ (decode cL_law 307 = .ok (.goto 1219, 3))) ∧ (((decode cL_law 310 = .ok (.aload_n 1, 1)) ∧ (decode cL_law 311 = .ok (.aload_n 0, 1))) ∧ (decode cL_law 312 = .ok (.iload 4, 2)))) ∧ ((((decode cL_law 314 = .ok (.iconst 1, 1)) ∧ (decode cL_law 315 = .ok (.iadd, 1))) ∧ (decode cL_law 316 = .ok (.iaload, 1))) ∧ (((decode cL_law 317 = .ok (.invokevirtual 31, 3)) ∧ (decode cL_law 320 = .ok (.pop, 1))) ∧ (decode cL_law 321 = .ok (.aload_n 2, 1))))) ∧ (((((decode cL_law 322 = .ok (.aload_n 0, 1)) ∧ (decode cL_law 323 = .ok (.iload 4, 2))) ∧ (decode cL_law 325 = .ok (.iconst 1, 1))) ∧ (((decode cL_law 326 = .ok (.iadd, 1)) ∧ (decode cL_law 327 = .ok (.iaload, 1))) ∧ (decode cL_law 328 = .ok (.invokevirtual 34, 3)))) ∧ ((((decode cL_law 331 = .ok (.pop, 1)) ∧ (decode cL_law 332 = .ok (.goto 1194, 3))) ∧ (decode cL_law 335 = .ok (.aload_n 1, 1))) ∧ (((decode cL_law 336 = .ok (.aload_n 0, 1)) ∧ (decode cL_law 337 = .ok (.iload 4, 2))) ∧ (decode cL_law 339 = .ok (.iconst 1, 1)))))) := by decide +kernel
theorem dL_law_303 : decode cL_law 303 = .ok (.invokevirtual 30, 3) := zd_dL_law_303.1.1.1.1.1
theorem dL_law_306 : decode cL_law 306 = .ok (.pop, 1) := zd_dL_law_303.1.1.1.1.2
theorem dL_law_307 : decode cL_law 307 = .ok (.goto 1219, 3) := zd_dL_law_303.1.1.1.2
theorem dL_law_310 : decode cL_law 310 = .ok (.aload_n 1, 1) := zd_dL_law_303.1.1.2.1.1
theorem dL_law_311 : decode cL_law 311 = .ok (.aload_n 0, 1) := zd_dL_law_303.1.1.2.1.2
theorem dL_law_312 : decode cL_law 312 = .ok (.iload 4, 2) := zd_dL_law_303.1.1.2.2
theorem dL_law_314 : decode cL_law 314 = .ok (.iconst 1, 1) := zd_dL_law_303.1.2.1.1.1
theorem dL_law_315 : decode cL_law 315 = .ok (.iadd, 1) := zd_dL_law_303.1.2.1.1.2
theorem dL_law_316 : decode cL_law 316 = .ok (.iaload, 1) := zd_dL_law_303.1.2.1.2
theorem dL_law_317 : decode cL_law 317 = .ok (.invokevirtual 31, 3) := zd_dL_law_303.1.2.2.1.1
theorem dL_law_320 : decode cL_law 320 = .ok (.pop, 1) := zd_dL_law_303.1.2.2.1.2
theorem dL_law_321 : decode cL_law 321 = .ok (.aload_n 2, 1) := zd_dL_law_303.1.2.2.2
theorem dL_law_322 : decode cL_law 322 = .ok (.aload_n 0, 1) := zd_dL_law_303.2.1.1.1.1
theorem dL_law_323 : decode cL_law 323 = .ok (.iload 4, 2) := zd_dL_law_303.2.1.1.1.2
theorem dL_law_325 : decode cL_law 325 = .ok (.iconst 1, 1) := zd_dL_law_303.2.1.1.2
theorem dL_law_326 : decode cL_law 326 = .ok (.iadd, 1) := zd_dL_law_303.2.1.2.1.1
theorem dL_law_327 : decode cL_law 327 = .ok (.iaload, 1) := zd_dL_law_303.2.1.2.1.2
theorem dL_law_328 : decode cL_law 328 = .ok (.invokevirtual 34, 3) := zd_dL_law_303.2.1.2.2
theorem dL_law_331 : decode cL_law 331 = .ok (.pop, 1) := zd_dL_law_303.2.2.1.1.1
theorem dL_law_332 : decode cL_law 332 = .ok (.goto 1194, 3) := zd_dL_law_303.2.2.1.1.2
theorem dL_law_335 : decode cL_law 335 = .ok (.aload_n 1, 1) := zd_dL_law_303.2.2.1.2
theorem dL_law_336 : decode cL_law 336 = .ok (.aload_n 0, 1) := zd_dL_law_303.2.2.2.1.1
theorem dL_law_337 : decode cL_law 337 = .ok (.iload 4, 2) := zd_dL_law_303.2.2.2.1.2
theorem dL_law_339 : decode cL_law 339 = .ok (.iconst 1, 1) := zd_dL_law_303.2.2.2.2
theorem zd_dL_law_340 : ((((((decode cL_law 340 = .ok (.iadd, 1)) ∧ (decode cL_law 341 = .ok (.iaload, 1))) ∧ (decode cL_law 342 = .ok (.invokevirtual 35, 3))) ∧ (((decode cL_law 345 = .ok (.aload_n 2, 1)) ∧ (decode cL_law 346 = .ok (.aload_n 0, 1))) ∧ (decode cL_law 347 = .ok (.iload 4, 2)))) ∧ ((((decode cL_law 349 = .ok (.iconst 1, 1)) ∧ (decode cL_law 350 = .ok (.iadd, 1))) ∧ (decode cL_law 351 = .ok (.iaload, 1))) ∧ (((decode cL_law 352 = .ok (.invokevirtual 38, 3)) ∧ (decode cL_law 355 = .ok (.if_icmp .eq 1171, 3))) ∧ (decode cL_law 360 = .ok (.aload_n 1, 1))))) ∧ (((((decode cL_law 361 = .ok (.aload_n 0, 1)) ∧ (decode cL_law 362 = .ok (.iload 4, 2))) ∧ (decode cL_law 364 = .ok (.iconst 1, 1))) ∧ (((decode cL_law 365 = .ok (.iadd, 1)) ∧ (decode cL_law 366 = .ok (.iaload, 1))) ∧ (decode cL_law 367 = .ok (.aload_n 0, 1)))) ∧ ((((decode cL_law 368 = .ok (.iload 4, 2)) ∧ (decode cL_law 370 = .ok (.iconst 2, 1))) ∧ (decode cL_law 371 = .ok (.iadd, 1))) ∧ (((decode cL_law 372 = .ok (.iaload, 1)) ∧ (decode cL_law 373 = .ok (.aload_n 3, 1))) ∧ (decode cL_law 374 = .ok (.invokestatic 39, 3)))))) := by decide +kernel
theorem dL_law_340 : decode cL_law 340 = .ok (.iadd, 1) := zd_dL_law_340.1.1.1.1.1
theorem dL_law_341 : decode cL_law 341 = .ok (.iaload, 1) := zd_dL_law_340.1.1.1.1.2
theorem dL_law_342 : decode cL_law 342 = .ok (.invokevirtual 35, 3) := zd_dL_law_340.1.1.1.2
theorem dL_law_345 : decode cL_law 345 = .ok (.aload_n 2, 1) := zd_dL_law_340.1.1.2.1.1
theorem dL_law_346 : decode cL_law 346 = .ok (.aload_n 0, 1) := zd_dL_law_340.1.1.2.1.2
theorem dL_law_347 : decode cL_law 347 = .ok (.iload 4, 2) := zd_dL_law_340.1.1.2.2
theorem dL_law_349 : decode cL_law 349 = .ok (.iconst 1, 1) := zd_dL_law_340.1.2.1.1.1
theorem dL_law_350 : decode cL_law 350 = .ok (.iadd, 1) := zd_dL_law_340.1.2.1.1.2
theorem dL_law_351 : decode cL_law 351 = .ok (.iaload, 1) := zd_dL_law_340.1.2.1.2
theorem dL_law_352 : decode cL_law 352 = .ok (.invokevirtual 38, 3) := zd_dL_law_340.1.2.2.1.1
theorem dL_law_355 : decode cL_law 355 = .ok (.if_icmp .eq 1171, 3) := zd_dL_law_340.1.2.2.1.2
theorem dL_law_360 : decode cL_law 360 = .ok (.aload_n 1, 1) := zd_dL_law_340.1.2.2.2
theorem dL_law_361 : decode cL_law 361 = .ok (.aload_n 0, 1) := zd_dL_law_340.2.1.1.1.1
theorem dL_law_362 : decode cL_law 362 = .ok (.iload 4, 2) := zd_dL_law_340.2.1.1.1.2
theorem dL_law_364 : decode cL_law 364 = .ok (.iconst 1, 1) := zd_dL_law_340.2.1.1.2
theorem dL_law_365 : decode cL_law 365 = .ok (.iadd, 1) := zd_dL_law_340.2.1.2.1.1
theorem dL_law_366 : decode cL_law 366 = .ok (.iaload, 1) := zd_dL_law_340.2.1.2.1.2
theorem dL_law_367 : decode cL_law 367 = .ok (.aload_n 0, 1) := zd_dL_law_340.2.1.2.2
theorem dL_law_368 : decode cL_law 368 = .ok (.iload 4, 2) := zd_dL_law_340.2.2.1.1.1
theorem dL_law_370 : decode cL_law 370 = .ok (.iconst 2, 1) := zd_dL_law_340.2.2.1.1.2
theorem dL_law_371 : decode cL_law 371 = .ok (.iadd, 1) := zd_dL_law_340.2.2.1.2
theorem dL_law_372 : decode cL_law 372 = .ok (.iaload, 1) := zd_dL_law_340.2.2.2.1.1
theorem dL_law_373 : decode cL_law 373 = .ok (.aload_n 3, 1) := zd_dL_law_340.2.2.2.1.2
theorem dL_law_374 : decode cL_law 374 = .ok (.invokestatic 39, 3) := zd_dL_law_340.2.2.2.2
theorem zd_dL_law_377 : ((((((decode cL_law 377 = .ok (.istore 5, 2)) ∧ (decode cL_law 379 = .ok (.aload_n 2, 1))) ∧ (decode cL_law 380 = .ok (.aload_n 0, 1))) ∧ (((decode cL_law 381 = .ok (.iload 4, 2)) ∧ (decode cL_law 383 = .ok (.iconst 1, 1))) ∧ (decode cL_law 384 = .ok (.iadd, 1)))) ∧ ((((decode cL_law 385 = .ok (.iaload, 1)) ∧ (decode cL_law 386 = .ok (.aload_n 0, 1))) ∧ (decode cL_law 387 = .ok (.iload 4, 2))) ∧ (((decode cL_law 389 = .ok (.iconst 2, 1)) ∧ (decode cL_law 390 = .ok (.iadd, 1))) ∧ (decode cL_law 391 = .ok (.iaload, 1))))) ∧ (((((decode cL_law 392 = .ok (.invokevirtual 44, 3)) ∧ (decode cL_law 395 = .ok (.istore 6, 2))) ∧ (decode cL_law 397 = .ok (.goto 1129, 3))) ∧ (((decode cL_law 400 = .ok (.aload_n 1, 1)) ∧ (decode cL_law 401 = .ok (.aload_n 0, 1))) ∧ (decode cL_law 402 = .ok (.iload 4, 2)))) ∧ ((((decode cL_law 404 = .ok (.iconst 1, 1)) ∧ (decode cL_law 405 = .ok (.iadd, 1))) ∧ (decode cL_law 406 = .ok (.iaload, 1))) ∧ (((decode cL_law 407 = .ok (.aload_n 0, 1)) ∧ (decode cL_law 408 = .ok (.iload 4, 2))) ∧ (decode cL_law 410 = .ok (.iconst 2, 1)))))) := by decide +kernel
