theorem dJ6_bitCount_0f7a4_0 : decode cJ6_bitCount_0f7a4 0 = .ok (.iload_n 0, 1) := by decide +kernel
theorem dJ6_bitCount_0f7a4_1 : decode cJ6_bitCount_0f7a4 1 = .ok (.iload_n 0, 1) := by decide +kernel
theorem dJ6_bitCount_0f7a4_2 : decode cJ6_bitCount_0f7a4 2 = .ok (.iconst 1, 1) := by decide +kernel
theorem dJ6_bitCount_0f7a4_3 : decode cJ6_bitCount_0f7a4 3 = .ok (.iushr, 1) := by decide +kernel
theorem dJ6_bitCount_0f7a4_4 : decode cJ6_bitCount_0f7a4 4 = .ok (.ldc_w 265, 3) := by decide +kernel
theorem dJ6_bitCount_0f7a4_7 : decode cJ6_bitCount_0f7a4 7 = .ok (.iand, 1) := by decide +kernel
theorem dJ6_bitCount_0f7a4_8 : decode cJ6_bitCount_0f7a4 8 = .ok (.isub, 1) := by decide +kernel
theorem dJ6_bitCount_0f7a4_9 : decode cJ6_bitCount_0f7a4 9 = .ok (.istore_n 0, 1) := by decide +kernel
theorem dJ6_bitCount_0f7a4_10 : decode cJ6_bitCount_0f7a4 10 = .ok (.iload_n 0, 1) := by decide +kernel
theorem dJ6_bitCount_0f7a4_11 : decode cJ6_bitCount_0f7a4 11 = .ok (.ldc_w 266, 3) := by decide +kernel
theorem dJ6_bitCount_0f7a4_14 : decode cJ6_bitCount_0f7a4 14 = .ok (.iand, 1) := by decide +kernel
theorem dJ6_bitCount_0f7a4_15 : decode cJ6_bitCount_0f7a4 15 = .ok (.iload_n 0, 1) := by decide +kernel
theorem dJ6_bitCount_0f7a4_16 : decode cJ6_bitCount_0f7a4 16 = .ok (.iconst 2, 1) := by decide +kernel
theorem dJ6_bitCount_0f7a4_17 : decode cJ6_bitCount_0f7a4 17 = .ok (.iushr, 1) := by decide +kernel
theorem dJ6_bitCount_0f7a4_18 : decode cJ6_bitCount_0f7a4 18 = .ok (.ldc_w 266, 3) := by decide +kernel
theorem dJ6_bitCount_0f7a4_21 : decode cJ6_bitCount_0f7a4 21 = .ok (.iand, 1) := by decide +kernel
theorem dJ6_bitCount_0f7a4_22 : decode cJ6_bitCount_0f7a4 22 = .ok (.iadd, 1) := by decide +kernel
theorem dJ6_bitCount_0f7a4_23 : decode cJ6_bitCount_0f7a4 23 = .ok (.istore_n 0, 1) := by decide +kernel
theorem dJ6_bitCount_0f7a4_24 : decode cJ6_bitCount_0f7a4 24 = .ok (.iload_n 0, 1) := by decide +kernel
theorem dJ6_bitCount_0f7a4_25 : decode cJ6_bitCount_0f7a4 25 = .ok (.iload_n 0, 1) := by decide +kernel
theorem dJ6_bitCount_0f7a4_26 : decode cJ6_bitCount_0f7a4 26 = .ok (.iconst 4, 1) := by decide +kernel
theorem dJ6_bitCount_0f7a4_27 : decode cJ6_bitCount_0f7a4 27 = .ok (.iushr, 1) := by decide +kernel
theorem dJ6_bitCount_0f7a4_28 : decode cJ6_bitCount_0f7a4 28 = .ok (.iadd, 1) := by decide +kernel
theorem dJ6_bitCount_0f7a4_29 : decode cJ6_bitCount_0f7a4 29 = .ok (.ldc_w 267, 3) := by decide +kernel
theorem dJ6_bitCount_0f7a4_32 : decode cJ6_bitCount_0f7a4 32 = .ok (.iand, 1) := by decide +kernel
theorem dJ6_bitCount_0f7a4_33 : decode cJ6_bitCount_0f7a4 33 = .ok (.istore_n 0, 1) := by decide +kernel
theorem dJ6_bitCount_0f7a4_34 : decode cJ6_bitCount_0f7a4 34 = .ok (.iload_n 0, 1) := by decide +kernel
theorem dJ6_bitCount_0f7a4_35 : decode cJ6_bitCount_0f7a4 35 = .ok (.iload_n 0, 1) := by decide +kernel
theorem dJ6_bitCount_0f7a4_36 : decode cJ6_bitCount_0f7a4 36 = .ok (.bipush 8, 2) := by decide +kernel
theorem dJ6_bitCount_0f7a4_38 : decode cJ6_bitCount_0f7a4 38 = .ok (.iushr, 1) := by decide +kernel
theorem dJ6_bitCount_0f7a4_39 : decode cJ6_bitCount_0f7a4 39 = .ok (.iadd, 1) := by decide +kernel
theorem dJ6_bitCount_0f7a4_40 : decode cJ6_bitCount_0f7a4 40 = .ok (.istore_n 0, 1) := by decide +kernel
theorem dJ6_bitCount_0f7a4_41 : decode cJ6_bitCount_0f7a4 41 = .ok (.iload_n 0, 1) := by decide +kernel
theorem dJ6_bitCount_0f7a4_42 : decode cJ6_bitCount_0f7a4 42 = .ok (.iload_n 0, 1) := by decide +kernel
theorem dJ6_bitCount_0f7a4_43 : decode cJ6_bitCount_0f7a4 43 = .ok (.bipush 16, 2) := by decide +kernel
theorem dJ6_bitCount_0f7a4_45 : decode cJ6_bitCount_0f7a4 45 = .ok (.iushr, 1) := by decide +kernel
theorem dJ6_bitCount_0f7a4_46 : decode cJ6_bitCount_0f7a4 46 = .ok (.iadd, 1) := by decide +kernel
theorem dJ6_bitCount_0f7a4_47 : decode cJ6_bitCount_0f7a4 47 = .ok (.istore_n 0, 1) := by decide +kernel
theorem dJ6_bitCount_0f7a4_48 : decode cJ6_bitCount_0f7a4 48 = .ok (.iload_n 0, 1) := by decide +kernel
theorem dJ6_bitCount_0f7a4_49 : decode cJ6_bitCount_0f7a4 49 = .ok (.bipush 63, 2) := by decide +kernel
theorem dJ6_bitCount_0f7a4_51 : decode cJ6_bitCount_0f7a4 51 = .ok (.iand, 1) := by decide +kernel
theorem dJ6_bitCount_0f7a4_52 : decode cJ6_bitCount_0f7a4 52 = .ok (.ireturn, 1) := by decide +kernel
theorem dJ7_fill_53178_0 : decode cJ7_fill_53178 0 = .ok (.iconst 0, 1) := by decide +kernel
theorem dJ7_fill_53178_1 : decode cJ7_fill_53178 1 = .ok (.istore_n 2, 1) := by decide +kernel
theorem dJ7_fill_53178_2 : decode cJ7_fill_53178 2 = .ok (.aload_n 0, 1) := by decide +kernel
theorem dJ7_fill_53178_3 : decode cJ7_fill_53178 3 = .ok (.arraylength, 1) := by decide +kernel
theorem dJ7_fill_53178_4 : decode cJ7_fill_53178 4 = .ok (.istore_n 3, 1) := by decide +kernel
theorem dJ7_fill_53178_5 : decode cJ7_fill_53178 5 = .ok (.iload_n 2, 1) := by decide +kernel
theorem dJ7_fill_53178_6 : decode cJ7_fill_53178 6 = .ok (.iload_n 3, 1) := by decide +kernel
theorem dJ7_fill_53178_7 : decode cJ7_fill_53178 7 = .ok (.if_icmp .ge 13, 3) := by decide +kernel
theorem dJ7_fill_53178_10 : decode cJ7_fill_53178 10 = .ok (.aload_n 0, 1) := by decide +kernel
theorem dJ7_fill_53178_11 : decode cJ7_fill_53178 11 = .ok (.iload_n 2, 1) := by decide +kernel
theorem dJ7_fill_53178_12 : decode cJ7_fill_53178 12 = .ok (.iload_n 1, 1) := by decide +kernel
theorem dJ7_fill_53178_13 : decode cJ7_fill_53178 13 = .ok (.iastore, 1) := by decide +kernel
theorem dJ7_fill_53178_14 : decode cJ7_fill_53178 14 = .ok (.iinc 2 1, 3) := by decide +kernel
theorem dJ7_fill_53178_17 : decode cJ7_fill_53178 17 = .ok (.goto (-12), 3) := by decide +kernel
theorem dJ7_fill_53178_20 : decode cJ7_fill_53178 20 = .ok (.return_, 1) := by decide +kernel
theorem dL_law_0 : decode cL_law 0 = .ok (.new 7, 3) := by decide +kernel
theorem dL_law_3 : decode cL_law 3 = .ok (.dup, 1) := by decide +kernel
theorem dL_law_4 : decode cL_law 4 = .ok (.invokespecial 9, 3) := by decide +kernel
theorem dL_law_7 : decode cL_law 7 = .ok (.astore_n 1, 1) := by decide +kernel
theorem dL_law_8 : decode cL_law 8 = .ok (.new 10, 3) := by decide +kernel
theorem dL_law_11 : decode cL_law 11 = .ok (.dup, 1) := by decide +kernel
theorem dL_law_12 : decode cL_law 12 = .ok (.invokespecial 12, 3) := by decide +kernel
theorem dL_law_15 : decode cL_law 15 = .ok (.astore_n 2, 1) := by decide +kernel
theorem dL_law_16 : decode cL_law 16 = .ok (.iconst 0, 1) := by decide +kernel
theorem dL_law_17 : decode cL_law 17 = .ok (.istore_n 3, 1) := by decide +kernel
theorem dL_law_18 : decode cL_law 18 = .ok (.iload_n 3, 1) := by decide +kernel
theorem dL_law_19 : decode cL_law 19 = .ok (.aload_n 0, 1) := by decide +kernel
theorem dL_law_20 : decode cL_law 20 = .ok (.arraylength, 1) := by decide +kernel
theorem dL_law_21 : decode cL_law 21 = .ok (.bipush 6, 2) := by decide +kernel
theorem dL_law_23 : decode cL_law 23 = .ok (.isub, 1) := by decide +kernel
theorem dL_law_24 : decode cL_law 24 = .ok (.if_icmp .gt 1255, 3) := by decide +kernel
theorem dL_law_27 : decode cL_law 27 = .ok (.aload_n 0, 1) := by decide +kernel
theorem dL_law_28 : decode cL_law 28 = .ok (.iload_n 3, 1) := by decide +kernel
theorem dL_law_29 : decode cL_law 29 = .ok (.iaload, 1) := by decide +kernel
theorem dL_law_30 : decode cL_law 30 = .ok (.bipush 63, 2) := by decide +kernel
theorem dL_law_32 : decode cL_law 32 = .ok (.iand, 1) := by decide +kernel
theorem dL_law_33 : decode cL_law 33 = .ok (.tableswitch 1240 0 40 #[179, 192, 255, 278, 301, 324, 357, 400, 423, 446, 469, 502, 545, 578, 611, 644, 657, 680, 723, 746, 779, 802, 825, 848, 861, 894, 907, 930, 973, 986, 999, 1012, 1025, 1064, 1113, 1162, 1175, 1188, 1201, 1214, 1227], 179) := by decide +kernel
theorem dL_law_212 : decode cL_law 212 = .ok (.aload_n 1, 1) := by decide +kernel
theorem dL_law_213 : decode cL_law 213 = .ok (.invokevirtual 13, 3) := by decide +kernel
theorem dL_law_216 : decode cL_law 216 = .ok (.aload_n 2, 1) := by decide +kernel
theorem dL_law_217 : decode cL_law 217 = .ok (.invokevirtual 17, 3) := by decide +kernel
theorem dL_law_220 : decode cL_law 220 = .ok (.if_icmp .eq 1053, 3) := by decide +kernel
theorem dL_law_225 : decode cL_law 225 = .ok (.aload_n 1, 1) := by decide +kernel
theorem dL_law_226 : decode cL_law 226 = .ok (.aload_n 0, 1) := by decide +kernel
theorem dL_law_227 : decode cL_law 227 = .ok (.iload_n 3, 1) := by decide +kernel
theorem dL_law_228 : decode cL_law 228 = .ok (.iconst 1, 1) := by decide +kernel
theorem dL_law_229 : decode cL_law 229 = .ok (.iadd, 1) := by decide +kernel
theorem dL_law_230 : decode cL_law 230 = .ok (.iaload, 1) := by decide +kernel
theorem dL_law_231 : decode cL_law 231 = .ok (.aload_n 0, 1) := by decide +kernel
theorem dL_law_232 : decode cL_law 232 = .ok (.iload_n 3, 1) := by decide +kernel
theorem dL_law_233 : decode cL_law 233 = .ok (.iconst 2, 1) := by decide +kernel
theorem dL_law_234 : decode cL_law 234 = .ok (.iadd, 1) := by decide +kernel
theorem dL_law_235 : decode cL_law 235 = .ok (.iaload, 1) := by decide +kernel
theorem dL_law_236 : decode cL_law 236 = .ok (.aload_n 0, 1) := by decide +kernel
theorem dL_law_237 : decode cL_law 237 = .ok (.iload_n 3, 1) := by decide +kernel
theorem dL_law_238 : decode cL_law 238 = .ok (.iconst 3, 1) := by decide +kernel
theorem dL_law_239 : decode cL_law 239 = .ok (.iadd, 1) := by decide +kernel
theorem dL_law_240 : decode cL_law 240 = .ok (.iaload, 1) := by decide +kernel
theorem dL_law_241 : decode cL_law 241 = .ok (.aload_n 0, 1) := by decide +kernel
theorem dL_law_242 : decode cL_law 242 = .ok (.iload_n 3, 1) := by decide +kernel
theorem dL_law_243 : decode cL_law 243 = .ok (.iconst 4, 1) := by decide +kernel
theorem dL_law_244 : decode cL_law 244 = .ok (.iadd, 1) := by decide +kernel
theorem dL_law_245 : decode cL_law 245 = .ok (.iaload, 1) := by decide +kernel
theorem dL_law_246 : decode cL_law 246 = .ok (.aload_n 0, 1) := by decide +kernel
theorem dL_law_247 : decode cL_law 247 = .ok (.iload_n 3, 1) := by decide +kernel
theorem dL_law_248 : decode cL_law 248 = .ok (.iconst 5, 1) := by decide +kernel
theorem dL_law_249 : decode cL_law 249 = .ok (.iadd, 1) := by decide +kernel
theorem dL_law_250 : decode cL_law 250 = .ok (.iaload, 1) := by decide +kernel
theorem dL_law_251 : decode cL_law 251 = .ok (.invokevirtual 18, 3) := by decide +kernel
theorem dL_law_254 : decode cL_law 254 = .ok (.aload_n 2, 1) := by decide +kernel
theorem dL_law_255 : decode cL_law 255 = .ok (.aload_n 0, 1) := by decide +kernel
theorem dL_law_256 : decode cL_law 256 = .ok (.iload_n 3, 1) := by decide +kernel
theorem dL_law_257 : decode cL_law 257 = .ok (.iconst 1, 1) := by decide +kernel
theorem dL_law_258 : decode cL_law 258 = .ok (.iadd, 1) := by decide +kernel
theorem dL_law_259 : decode cL_law 259 = .ok (.iaload, 1) := by decide +kernel
theorem dL_law_260 : decode cL_law 260 = .ok (.aload_n 0, 1) := by decide +kernel
theorem dL_law_261 : decode cL_law 261 = .ok (.iload_n 3, 1) := by decide +kernel
theorem dL_law_262 : decode cL_law 262 = .ok (.iconst 2, 1) := by decide +kernel
theorem dL_law_263 : decode cL_law 263 = .ok (.iadd, 1) := by decide +kernel
theorem dL_law_264 : decode cL_law 264 = .ok (.iaload, 1) := by decide +kernel
theorem dL_law_265 : decode cL_law 265 = .ok (.aload_n 0, 1) := by decide +kernel
theorem dL_law_266 : decode cL_law 266 = .ok (.iload_n 3, 1) := by decide +kernel
theorem dL_law_267 : decode cL_law 267 = .ok (.iconst 3, 1) := by decide +kernel
theorem dL_law_268 : decode cL_law 268 = .ok (.iadd, 1) := by decide +kernel
theorem dL_law_269 : decode cL_law 269 = .ok (.iaload, 1) := by decide +kernel
theorem dL_law_270 : decode cL_law 270 = .ok (.aload_n 0, 1) := by decide +kernel
theorem dL_law_271 : decode cL_law 271 = .ok (.iload_n 3, 1) := by decide +kernel
theorem dL_law_272 : decode cL_law 272 = .ok (.iconst 4, 1) := by decide +kernel
theorem dL_law_273 : decode cL_law 273 = .ok (.iadd, 1) := by decide +kernel
theorem dL_law_274 : decode cL_law 274 = .ok (.iaload, 1) := by decide +kernel
theorem dL_law_275 : decode cL_law 275 = .ok (.aload_n 0, 1) := by decide +kernel
theorem dL_law_276 : decode cL_law 276 = .ok (.iload_n 3, 1) := by decide +kernel
theorem dL_law_277 : decode cL_law 277 = .ok (.iconst 5, 1) := by decide +kernel
theorem dL_law_278 : decode cL_law 278 = .ok (.iadd, 1) := by decide +kernel
theorem dL_law_279 : decode cL_law 279 = .ok (.iaload, 1) := by decide +kernel
theorem dL_law_280 : decode cL_law 280 = .ok (.invokevirtual 22, 3) := by decide +kernel
theorem dL_law_283 : decode cL_law 283 = .ok (.if_icmp .eq 990, 3) := by decide +kernel
theorem dL_law_288 : decode cL_law 288 = .ok (.aload_n 1, 1) := by decide +kernel
theorem dL_law_289 : decode cL_law 289 = .ok (.aload_n 0, 1) := by decide +kernel
theorem dL_law_290 : decode cL_law 290 = .ok (.iload_n 3, 1) := by decide +kernel
theorem dL_law_291 : decode cL_law 291 = .ok (.iconst 1, 1) := by decide +kernel
theorem dL_law_292 : decode cL_law 292 = .ok (.iadd, 1) := by decide +kernel
theorem dL_law_293 : decode cL_law 293 = .ok (.iaload, 1) := by decide +kernel
theorem dL_law_294 : decode cL_law 294 = .ok (.invokevirtual 23, 3) := by decide +kernel
theorem dL_law_297 : decode cL_law 297 = .ok (.aload_n 2, 1) := by decide +kernel
theorem dL_law_298 : decode cL_law 298 = .ok (.aload_n 0, 1) := by decide +kernel
theorem dL_law_299 : decode cL_law 299 = .ok (.iload_n 3, 1) := by decide +kernel
theorem dL_law_300 : decode cL_law 300 = .ok (.iconst 1, 1) := by decide +kernel
theorem dL_law_301 : decode cL_law 301 = .ok (.iadd, 1) := by decide +kernel
theorem dL_law_302 : decode cL_law 302 = .ok (.iaload, 1) := by decide +kernel
theorem dL_law_303 : decode cL_law 303 = .ok (.invokevirtual 27, 3) := by decide +kernel
theorem dL_law_306 : decode cL_law 306 = .ok (.if_icmp .eq 967, 3) := by decide +kernel
theorem dL_law_311 : decode cL_law 311 = .ok (.aload_n 1, 1) := by decide +kernel
theorem dL_law_312 : decode cL_law 312 = .ok (.aload_n 0, 1) := by decide +kernel
theorem dL_law_313 : decode cL_law 313 = .ok (.iload_n 3, 1) := by decide +kernel
theorem dL_law_314 : decode cL_law 314 = .ok (.iconst 1, 1) := by decide +kernel
theorem dL_law_315 : decode cL_law 315 = .ok (.iadd, 1) := by decide +kernel
theorem dL_law_316 : decode cL_law 316 = .ok (.iaload, 1) := by decide +kernel
theorem dL_law_317 : decode cL_law 317 = .ok (.invokevirtual 28, 3) := by decide +kernel
theorem dL_law_320 : decode cL_law 320 = .ok (.aload_n 2, 1) := by decide +kernel
theorem dL_law_321 : decode cL_law 321 = .ok (.aload_n 0, 1) := by decide +kernel
theorem dL_law_322 : decode cL_law 322 = .ok (.iload_n 3, 1) := by decide +kernel
theorem dL_law_323 : decode cL_law 323 = .ok (.iconst 1, 1) := by decide +kernel
theorem dL_law_324 : decode cL_law 324 = .ok (.iadd, 1) := by decide +kernel
theorem dL_law_325 : decode cL_law 325 = .ok (.iaload, 1) := by decide +kernel
theorem dL_law_326 : decode cL_law 326 = .ok (.invokevirtual 31, 3) := by decide +kernel
theorem dL_law_329 : decode cL_law 329 = .ok (.if_icmp .eq 944, 3) := by decide +kernel
theorem dL_law_334 : decode cL_law 334 = .ok (.aload_n 1, 1) := by decide +kernel
theorem dL_law_335 : decode cL_law 335 = .ok (.aload_n 0, 1) := by decide +kernel
theorem dL_law_336 : decode cL_law 336 = .ok (.iload_n 3, 1) := by decide +kernel
theorem dL_law_337 : decode cL_law 337 = .ok (.iconst 1, 1) := by decide +kernel
theorem dL_law_338 : decode cL_law 338 = .ok (.iadd, 1) := by decide +kernel
theorem dL_law_339 : decode cL_law 339 = .ok (.iaload, 1) := by decide +kernel
theorem dL_law_340 : decode cL_law 340 = .ok (.invokevirtual 32, 3) := by decide +kernel
theorem dL_law_343 : decode cL_law 343 = .ok (.aload_n 2, 1) := by decide +kernel
theorem dL_law_344 : decode cL_law 344 = .ok (.aload_n 0, 1) := by decide +kernel
theorem dL_law_345 : decode cL_law 345 = .ok (.iload_n 3, 1) := by decide +kernel
theorem dL_law_346 : decode cL_law 346 = .ok (.iconst 1, 1) := by decide +kernel
theorem dL_law_347 : decode cL_law 347 = .ok (.iadd, 1) := by decide +kernel
theorem dL_law_348 : decode cL_law 348 = .ok (.iaload, 1) := by decide +kernel
theorem dL_law_349 : decode cL_law 349 = .ok (.invokevirtual 35, 3) := by decide +kernel
theorem dL_law_352 : decode cL_law 352 = .ok (.if_icmp .eq 921, 3) := by decide +kernel
theorem dL_law_357 : decode cL_law 357 = .ok (.aload_n 1, 1) := by decide +kernel
theorem dL_law_358 : decode cL_law 358 = .ok (.aload_n 0, 1) := by decide +kernel
theorem dL_law_359 : decode cL_law 359 = .ok (.iload_n 3, 1) := by decide +kernel
theorem dL_law_360 : decode cL_law 360 = .ok (.iconst 1, 1) := by decide +kernel
theorem dL_law_361 : decode cL_law 361 = .ok (.iadd, 1) := by decide +kernel
theorem dL_law_362 : decode cL_law 362 = .ok (.iaload, 1) := by decide +kernel
theorem dL_law_363 : decode cL_law 363 = .ok (.aload_n 0, 1) := by decide +kernel
theorem dL_law_364 : decode cL_law 364 = .ok (.iload_n 3, 1) := by decide +kernel
theorem dL_law_365 : decode cL_law 365 = .ok (.iconst 2, 1) := by decide +kernel
theorem dL_law_366 : decode cL_law 366 = .ok (.iadd, 1) := by decide +kernel
theorem dL_law_367 : decode cL_law 367 = .ok (.iaload, 1) := by decide +kernel
theorem dL_law_368 : decode cL_law 368 = .ok (.invokevirtual 36, 3) := by decide +kernel
theorem dL_law_371 : decode cL_law 371 = .ok (.aload_n 2, 1) := by decide +kernel
theorem dL_law_372 : decode cL_law 372 = .ok (.aload_n 0, 1) := by decide +kernel
theorem dL_law_373 : decode cL_law 373 = .ok (.iload_n 3, 1) := by decide +kernel
theorem dL_law_374 : decode cL_law 374 = .ok (.iconst 1, 1) := by decide +kernel
theorem dL_law_375 : decode cL_law 375 = .ok (.iadd, 1) := by decide +kernel
theorem dL_law_376 : decode cL_law 376 = .ok (.iaload, 1) := by decide +kernel
theorem dL_law_377 : decode cL_law 377 = .ok (.aload_n 0, 1) := by decide +kernel
theorem dL_law_378 : decode cL_law 378 = .ok (.iload_n 3, 1) := by decide +kernel
theorem dL_law_379 : decode cL_law 379 = .ok (.iconst 2, 1) := by decide +kernel
theorem dL_law_380 : decode cL_law 380 = .ok (.iadd, 1) := by decide +kernel
theorem dL_law_381 : decode cL_law 381 = .ok (.iaload, 1) := by decide +kernel
theorem dL_law_382 : decode cL_law 382 = .ok (.invokevirtual 40, 3) := by decide +kernel
theorem dL_law_385 : decode cL_law 385 = .ok (.if_icmp .eq 888, 3) := by decide +kernel
theorem dL_law_390 : decode cL_law 390 = .ok (.aload_n 1, 1) := by decide +kernel
theorem dL_law_391 : decode cL_law 391 = .ok (.aload_n 0, 1) := by decide +kernel
theorem dL_law_392 : decode cL_law 392 = .ok (.iload_n 3, 1) := by decide +kernel
theorem dL_law_393 : decode cL_law 393 = .ok (.iconst 1, 1) := by decide +kernel
theorem dL_law_394 : decode cL_law 394 = .ok (.iadd, 1) := by decide +kernel
theorem dL_law_395 : decode cL_law 395 = .ok (.iaload, 1) := by decide +kernel
theorem dL_law_396 : decode cL_law 396 = .ok (.aload_n 0, 1) := by decide +kernel
theorem dL_law_397 : decode cL_law 397 = .ok (.iload_n 3, 1) := by decide +kernel
theorem dL_law_398 : decode cL_law 398 = .ok (.iconst 2, 1) := by decide +kernel
theorem dL_law_399 : decode cL_law 399 = .ok (.iadd, 1) := by decide +kernel
theorem dL_law_400 : decode cL_law 400 = .ok (.iaload, 1) := by decide +kernel
theorem dL_law_401 : decode cL_law 401 = .ok (.aload_n 0, 1) := by decide +kernel
theorem dL_law_402 : decode cL_law 402 = .ok (.iload_n 3, 1) := by decide +kernel
theorem dL_law_403 : decode cL_law 403 = .ok (.iconst 3, 1) := by decide +kernel
theorem dL_law_404 : decode cL_law 404 = .ok (.iadd, 1) := by decide +kernel
theorem dL_law_405 : decode cL_law 405 = .ok (.iaload, 1) := by decide +kernel
theorem dL_law_406 : decode cL_law 406 = .ok (.invokevirtual 41, 3) := by decide +kernel
theorem dL_law_409 : decode cL_law 409 = .ok (.aload_n 2, 1) := by decide +kernel
theorem dL_law_410 : decode cL_law 410 = .ok (.aload_n 0, 1) := by decide +kernel
theorem dL_law_411 : decode cL_law 411 = .ok (.iload_n 3, 1) := by decide +kernel
theorem dL_law_412 : decode cL_law 412 = .ok (.iconst 1, 1) := by decide +kernel
theorem dL_law_413 : decode cL_law 413 = .ok (.iadd, 1) := by decide +kernel
theorem dL_law_414 : decode cL_law 414 = .ok (.iaload, 1) := by decide +kernel
theorem dL_law_415 : decode cL_law 415 = .ok (.aload_n 0, 1) := by decide +kernel
theorem dL_law_416 : decode cL_law 416 = .ok (.iload_n 3, 1) := by decide +kernel
theorem dL_law_417 : decode cL_law 417 = .ok (.iconst 2, 1) := by decide +kernel
theorem dL_law_418 : decode cL_law 418 = .ok (.iadd, 1) := by decide +kernel
theorem dL_law_419 : decode cL_law 419 = .ok (.iaload, 1) := by decide +kernel
theorem dL_law_420 : decode cL_law 420 = .ok (.aload_n 0, 1) := by decide +kernel
theorem dL_law_421 : decode cL_law 421 = .ok (.iload_n 3, 1) := by decide +kernel
theorem dL_law_422 : decode cL_law 422 = .ok (.iconst 3, 1) := by decide +kernel
theorem dL_law_423 : decode cL_law 423 = .ok (.iadd, 1) := by decide +kernel
theorem dL_law_424 : decode cL_law 424 = .ok (.iaload, 1) := by decide +kernel
theorem dL_law_425 : decode cL_law 425 = .ok (.invokevirtual 45, 3) := by decide +kernel
theorem dL_law_428 : decode cL_law 428 = .ok (.if_icmp .eq 845, 3) := by decide +kernel
theorem dL_law_433 : decode cL_law 433 = .ok (.aload_n 1, 1) := by decide +kernel
theorem dL_law_434 : decode cL_law 434 = .ok (.aload_n 0, 1) := by decide +kernel
theorem dL_law_435 : decode cL_law 435 = .ok (.iload_n 3, 1) := by decide +kernel
theorem dL_law_436 : decode cL_law 436 = .ok (.iconst 1, 1) := by decide +kernel
theorem dL_law_437 : decode cL_law 437 = .ok (.iadd, 1) := by decide +kernel
theorem dL_law_438 : decode cL_law 438 = .ok (.iaload, 1) := by decide +kernel
theorem dL_law_439 : decode cL_law 439 = .ok (.invokevirtual 46, 3) := by decide +kernel
theorem dL_law_442 : decode cL_law 442 = .ok (.aload_n 2, 1) := by decide +kernel
theorem dL_law_443 : decode cL_law 443 = .ok (.aload_n 0, 1) := by decide +kernel
theorem dL_law_444 : decode cL_law 444 = .ok (.iload_n 3, 1) := by decide +kernel
theorem dL_law_445 : decode cL_law 445 = .ok (.iconst 1, 1) := by decide +kernel
theorem dL_law_446 : decode cL_law 446 = .ok (.iadd, 1) := by decide +kernel
theorem dL_law_447 : decode cL_law 447 = .ok (.iaload, 1) := by decide +kernel
theorem dL_law_448 : decode cL_law 448 = .ok (.invokevirtual 49, 3) := by decide +kernel
theorem dL_law_451 : decode cL_law 451 = .ok (.if_icmp .eq 822, 3) := by decide +kernel
theorem dL_law_456 : decode cL_law 456 = .ok (.aload_n 1, 1) := by decide +kernel
theorem dL_law_457 : decode cL_law 457 = .ok (.aload_n 0, 1) := by decide +kernel
theorem dL_law_458 : decode cL_law 458 = .ok (.iload_n 3, 1) := by decide +kernel
theorem dL_law_459 : decode cL_law 459 = .ok (.iconst 1, 1) := by decide +kernel
theorem dL_law_460 : decode cL_law 460 = .ok (.iadd, 1) := by decide +kernel
theorem dL_law_461 : decode cL_law 461 = .ok (.iaload, 1) := by decide +kernel
theorem dL_law_462 : decode cL_law 462 = .ok (.invokevirtual 50, 3) := by decide +kernel
theorem dL_law_465 : decode cL_law 465 = .ok (.aload_n 2, 1) := by decide +kernel
theorem dL_law_466 : decode cL_law 466 = .ok (.aload_n 0, 1) := by decide +kernel
theorem dL_law_467 : decode cL_law 467 = .ok (.iload_n 3, 1) := by decide +kernel
theorem dL_law_468 : decode cL_law 468 = .ok (.iconst 1, 1) := by decide +kernel
theorem dL_law_469 : decode cL_law 469 = .ok (.iadd, 1) := by decide +kernel
theorem dL_law_470 : decode cL_law 470 = .ok (.iaload, 1) := by decide +kernel
theorem dL_law_471 : decode cL_law 471 = .ok (.invokevirtual 53, 3) := by decide +kernel
theorem dL_law_474 : decode cL_law 474 = .ok (.if_icmp .eq 799, 3) := by decide +kernel
theorem dL_law_479 : decode cL_law 479 = .ok (.aload_n 1, 1) := by decide +kernel
theorem dL_law_480 : decode cL_law 480 = .ok (.aload_n 0, 1) := by decide +kernel
theorem dL_law_481 : decode cL_law 481 = .ok (.iload_n 3, 1) := by decide +kernel
theorem dL_law_482 : decode cL_law 482 = .ok (.iconst 1, 1) := by decide +kernel
theorem dL_law_483 : decode cL_law 483 = .ok (.iadd, 1) := by decide +kernel
theorem dL_law_484 : decode cL_law 484 = .ok (.iaload, 1) := by decide +kernel
theorem dL_law_485 : decode cL_law 485 = .ok (.invokevirtual 54, 3) := by decide +kernel
theorem dL_law_488 : decode cL_law 488 = .ok (.aload_n 2, 1) := by decide +kernel
theorem dL_law_489 : decode cL_law 489 = .ok (.aload_n 0, 1) := by decide +kernel
theorem dL_law_490 : decode cL_law 490 = .ok (.iload_n 3, 1) := by decide +kernel
theorem dL_law_491 : decode cL_law 491 = .ok (.iconst 1, 1) := by decide +kernel
theorem dL_law_492 : decode cL_law 492 = .ok (.iadd, 1) := by decide +kernel
theorem dL_law_493 : decode cL_law 493 = .ok (.iaload, 1) := by decide +kernel
theorem dL_law_494 : decode cL_law 494 = .ok (.invokevirtual 57, 3) := by decide +kernel
theorem dL_law_497 : decode cL_law 497 = .ok (.if_icmp .eq 776, 3) := by decide +kernel
theorem dL_law_502 : decode cL_law 502 = .ok (.aload_n 1, 1) := by decide +kernel
theorem dL_law_503 : decode cL_law 503 = .ok (.aload_n 0, 1) := by decide +kernel
theorem dL_law_504 : decode cL_law 504 = .ok (.iload_n 3, 1) := by decide +kernel
theorem dL_law_505 : decode cL_law 505 = .ok (.iconst 1, 1) := by decide +kernel
theorem dL_law_506 : decode cL_law 506 = .ok (.iadd, 1) := by decide +kernel
theorem dL_law_507 : decode cL_law 507 = .ok (.iaload, 1) := by decide +kernel
theorem dL_law_508 : decode cL_law 508 = .ok (.aload_n 0, 1) := by decide +kernel
theorem dL_law_509 : decode cL_law 509 = .ok (.iload_n 3, 1) := by decide +kernel
theorem dL_law_510 : decode cL_law 510 = .ok (.iconst 2, 1) := by decide +kernel
theorem dL_law_511 : decode cL_law 511 = .ok (.iadd, 1) := by decide +kernel
theorem dL_law_512 : decode cL_law 512 = .ok (.iaload, 1) := by decide +kernel
theorem dL_law_513 : decode cL_law 513 = .ok (.invokevirtual 58, 3) := by decide +kernel
theorem dL_law_516 : decode cL_law 516 = .ok (.aload_n 2, 1) := by decide +kernel
theorem dL_law_517 : decode cL_law 517 = .ok (.aload_n 0, 1) := by decide +kernel
theorem dL_law_518 : decode cL_law 518 = .ok (.iload_n 3, 1) := by decide +kernel
theorem dL_law_519 : decode cL_law 519 = .ok (.iconst 1, 1) := by decide +kernel
theorem dL_law_520 : decode cL_law 520 = .ok (.iadd, 1) := by decide +kernel
theorem dL_law_521 : decode cL_law 521 = .ok (.iaload, 1) := by decide +kernel
theorem dL_law_522 : decode cL_law 522 = .ok (.aload_n 0, 1) := by decide +kernel
theorem dL_law_523 : decode cL_law 523 = .ok (.iload_n 3, 1) := by decide +kernel
theorem dL_law_524 : decode cL_law 524 = .ok (.iconst 2, 1) := by decide +kernel
theorem dL_law_525 : decode cL_law 525 = .ok (.iadd, 1) := by decide +kernel
theorem dL_law_526 : decode cL_law 526 = .ok (.iaload, 1) := by decide +kernel
theorem dL_law_527 : decode cL_law 527 = .ok (.invokevirtual 61, 3) := by decide +kernel
theorem dL_law_530 : decode cL_law 530 = .ok (.if_icmp .eq 743, 3) := by decide +kernel
theorem dL_law_535 : decode cL_law 535 = .ok (.aload_n 1, 1) := by decide +kernel
theorem dL_law_536 : decode cL_law 536 = .ok (.aload_n 0, 1) := by decide +kernel
theorem dL_law_537 : decode cL_law 537 = .ok (.iload_n 3, 1) := by decide +kernel
theorem dL_law_538 : decode cL_law 538 = .ok (.iconst 1, 1) := by decide +kernel
theorem dL_law_539 : decode cL_law 539 = .ok (.iadd, 1) := by decide +kernel
theorem dL_law_540 : decode cL_law 540 = .ok (.iaload, 1) := by decide +kernel
theorem dL_law_541 : decode cL_law 541 = .ok (.aload_n 0, 1) := by decide +kernel
theorem dL_law_542 : decode cL_law 542 = .ok (.iload_n 3, 1) := by decide +kernel
theorem dL_law_543 : decode cL_law 543 = .ok (.iconst 2, 1) := by decide +kernel
theorem dL_law_544 : decode cL_law 544 = .ok (.iadd, 1) := by decide +kernel
theorem dL_law_545 : decode cL_law 545 = .ok (.iaload, 1) := by decide +kernel
theorem dL_law_546 : decode cL_law 546 = .ok (.aload_n 0, 1) := by decide +kernel
theorem dL_law_547 : decode cL_law 547 = .ok (.iload_n 3, 1) := by decide +kernel
theorem dL_law_548 : decode cL_law 548 = .ok (.iconst 3, 1) := by decide +kernel
theorem dL_law_549 : decode cL_law 549 = .ok (.iadd, 1) := by decide +kernel
theorem dL_law_550 : decode cL_law 550 = .ok (.iaload, 1) := by decide +kernel
theorem dL_law_551 : decode cL_law 551 = .ok (.invokevirtual 62, 3) := by decide +kernel
theorem dL_law_554 : decode cL_law 554 = .ok (.aload_n 2, 1) := by decide +kernel
theorem dL_law_555 : decode cL_law 555 = .ok (.aload_n 0, 1) := by decide +kernel
theorem dL_law_556 : decode cL_law 556 = .ok (.iload_n 3, 1) := by decide +kernel
theorem dL_law_557 : decode cL_law 557 = .ok (.iconst 1, 1) := by decide +kernel
theorem dL_law_558 : decode cL_law 558 = .ok (.iadd, 1) := by decide +kernel
theorem dL_law_559 : decode cL_law 559 = .ok (.iaload, 1) := by decide +kernel
theorem dL_law_560 : decode cL_law 560 = .ok (.aload_n 0, 1) := by decide +kernel
theorem dL_law_561 : decode cL_law 561 = .ok (.iload_n 3, 1) := by decide +kernel
theorem dL_law_562 : decode cL_law 562 = .ok (.iconst 2, 1) := by decide +kernel
theorem dL_law_563 : decode cL_law 563 = .ok (.iadd, 1) := by decide +kernel
theorem dL_law_564 : decode cL_law 564 = .ok (.iaload, 1) := by decide +kernel
theorem dL_law_565 : decode cL_law 565 = .ok (.aload_n 0, 1) := by decide +kernel
theorem dL_law_566 : decode cL_law 566 = .ok (.iload_n 3, 1) := by decide +kernel
theorem dL_law_567 : decode cL_law 567 = .ok (.iconst 3, 1) := by decide +kernel
theorem dL_law_568 : decode cL_law 568 = .ok (.iadd, 1) := by decide +kernel
theorem dL_law_569 : decode cL_law 569 = .ok (.iaload, 1) := by decide +kernel
theorem dL_law_570 : decode cL_law 570 = .ok (.invokevirtual 65, 3) := by decide +kernel
theorem dL_law_573 : decode cL_law 573 = .ok (.if_icmp .eq 700, 3) := by decide +kernel
theorem dL_law_578 : decode cL_law 578 = .ok (.aload_n 1, 1) := by decide +kernel
theorem dL_law_579 : decode cL_law 579 = .ok (.aload_n 0, 1) := by decide +kernel
theorem dL_law_580 : decode cL_law 580 = .ok (.iload_n 3, 1) := by decide +kernel
theorem dL_law_581 : decode cL_law 581 = .ok (.iconst 1, 1) := by decide +kernel
theorem dL_law_582 : decode cL_law 582 = .ok (.iadd, 1) := by decide +kernel
theorem dL_law_583 : decode cL_law 583 = .ok (.iaload, 1) := by decide +kernel
theorem dL_law_584 : decode cL_law 584 = .ok (.aload_n 0, 1) := by decide +kernel
theorem dL_law_585 : decode cL_law 585 = .ok (.iload_n 3, 1) := by decide +kernel
theorem dL_law_586 : decode cL_law 586 = .ok (.iconst 2, 1) := by decide +kernel
theorem dL_law_587 : decode cL_law 587 = .ok (.iadd, 1) := by decide +kernel
theorem dL_law_588 : decode cL_law 588 = .ok (.iaload, 1) := by decide +kernel
theorem dL_law_589 : decode cL_law 589 = .ok (.invokevirtual 66, 3) := by decide +kernel
theorem dL_law_592 : decode cL_law 592 = .ok (.aload_n 2, 1) := by decide +kernel
theorem dL_law_593 : decode cL_law 593 = .ok (.aload_n 0, 1) := by decide +kernel
theorem dL_law_594 : decode cL_law 594 = .ok (.iload_n 3, 1) := by decide +kernel
theorem dL_law_595 : decode cL_law 595 = .ok (.iconst 1, 1) := by decide +kernel
theorem dL_law_596 : decode cL_law 596 = .ok (.iadd, 1) := by decide +kernel
theorem dL_law_597 : decode cL_law 597 = .ok (.iaload, 1) := by decide +kernel
theorem dL_law_598 : decode cL_law 598 = .ok (.aload_n 0, 1) := by decide +kernel
theorem dL_law_599 : decode cL_law 599 = .ok (.iload_n 3, 1) := by decide +kernel
theorem dL_law_600 : decode cL_law 600 = .ok (.iconst 2, 1) := by decide +kernel
theorem dL_law_601 : decode cL_law 601 = .ok (.iadd, 1) := by decide +kernel
theorem dL_law_602 : decode cL_law 602 = .ok (.iaload, 1) := by decide +kernel
theorem dL_law_603 : decode cL_law 603 = .ok (.invokevirtual 69, 3) := by decide +kernel
theorem dL_law_606 : decode cL_law 606 = .ok (.if_icmp .eq 667, 3) := by decide +kernel
theorem dL_law_611 : decode cL_law 611 = .ok (.aload_n 1, 1) := by decide +kernel
theorem dL_law_612 : decode cL_law 612 = .ok (.aload_n 0, 1) := by decide +kernel
theorem dL_law_613 : decode cL_law 613 = .ok (.iload_n 3, 1) := by decide +kernel
theorem dL_law_614 : decode cL_law 614 = .ok (.iconst 1, 1) := by decide +kernel
theorem dL_law_615 : decode cL_law 615 = .ok (.iadd, 1) := by decide +kernel
theorem dL_law_616 : decode cL_law 616 = .ok (.iaload, 1) := by decide +kernel
theorem dL_law_617 : decode cL_law 617 = .ok (.aload_n 0, 1) := by decide +kernel
theorem dL_law_618 : decode cL_law 618 = .ok (.iload_n 3, 1) := by decide +kernel
theorem dL_law_619 : decode cL_law 619 = .ok (.iconst 2, 1) := by decide +kernel
theorem dL_law_620 : decode cL_law 620 = .ok (.iadd, 1) := by decide +kernel
theorem dL_law_621 : decode cL_law 621 = .ok (.iaload, 1) := by decide +kernel
theorem dL_law_622 : decode cL_law 622 = .ok (.invokevirtual 70, 3) := by decide +kernel
theorem dL_law_625 : decode cL_law 625 = .ok (.aload_n 2, 1) := by decide +kernel
theorem dL_law_626 : decode cL_law 626 = .ok (.aload_n 0, 1) := by decide +kernel
theorem dL_law_627 : decode cL_law 627 = .ok (.iload_n 3, 1) := by decide +kernel
theorem dL_law_628 : decode cL_law 628 = .ok (.iconst 1, 1) := by decide +kernel
theorem dL_law_629 : decode cL_law 629 = .ok (.iadd, 1) := by decide +kernel
theorem dL_law_630 : decode cL_law 630 = .ok (.iaload, 1) := by decide +kernel
theorem dL_law_631 : decode cL_law 631 = .ok (.aload_n 0, 1) := by decide +kernel
theorem dL_law_632 : decode cL_law 632 = .ok (.iload_n 3, 1) := by decide +kernel
theorem dL_law_633 : decode cL_law 633 = .ok (.iconst 2, 1) := by decide +kernel
theorem dL_law_634 : decode cL_law 634 = .ok (.iadd, 1) := by decide +kernel
theorem dL_law_635 : decode cL_law 635 = .ok (.iaload, 1) := by decide +kernel
theorem dL_law_636 : decode cL_law 636 = .ok (.invokevirtual 73, 3) := by decide +kernel
theorem dL_law_639 : decode cL_law 639 = .ok (.if_icmp .eq 634, 3) := by decide +kernel
theorem dL_law_644 : decode cL_law 644 = .ok (.aload_n 1, 1) := by decide +kernel
theorem dL_law_645 : decode cL_law 645 = .ok (.aload_n 0, 1) := by decide +kernel
theorem dL_law_646 : decode cL_law 646 = .ok (.iload_n 3, 1) := by decide +kernel
theorem dL_law_647 : decode cL_law 647 = .ok (.iconst 1, 1) := by decide +kernel
theorem dL_law_648 : decode cL_law 648 = .ok (.iadd, 1) := by decide +kernel
theorem dL_law_649 : decode cL_law 649 = .ok (.iaload, 1) := by decide +kernel
theorem dL_law_650 : decode cL_law 650 = .ok (.aload_n 0, 1) := by decide +kernel
theorem dL_law_651 : decode cL_law 651 = .ok (.iload_n 3, 1) := by decide +kernel
theorem dL_law_652 : decode cL_law 652 = .ok (.iconst 2, 1) := by decide +kernel
theorem dL_law_653 : decode cL_law 653 = .ok (.iadd, 1) := by decide +kernel
theorem dL_law_654 : decode cL_law 654 = .ok (.iaload, 1) := by decide +kernel
theorem dL_law_655 : decode cL_law 655 = .ok (.invokevirtual 74, 3) := by decide +kernel
theorem dL_law_658 : decode cL_law 658 = .ok (.aload_n 2, 1) := by decide +kernel
theorem dL_law_659 : decode cL_law 659 = .ok (.aload_n 0, 1) := by decide +kernel
theorem dL_law_660 : decode cL_law 660 = .ok (.iload_n 3, 1) := by decide +kernel
theorem dL_law_661 : decode cL_law 661 = .ok (.iconst 1, 1) := by decide +kernel
theorem dL_law_662 : decode cL_law 662 = .ok (.iadd, 1) := by decide +kernel
theorem dL_law_663 : decode cL_law 663 = .ok (.iaload, 1) := by decide +kernel
theorem dL_law_664 : decode cL_law 664 = .ok (.aload_n 0, 1) := by decide +kernel
theorem dL_law_665 : decode cL_law 665 = .ok (.iload_n 3, 1) := by decide +kernel
theorem dL_law_666 : decode cL_law 666 = .ok (.iconst 2, 1) := by decide +kernel
theorem dL_law_667 : decode cL_law 667 = .ok (.iadd, 1) := by decide +kernel
theorem dL_law_668 : decode cL_law 668 = .ok (.iaload, 1) := by decide +kernel
theorem dL_law_669 : decode cL_law 669 = .ok (.invokevirtual 77, 3) := by decide +kernel
theorem dL_law_672 : decode cL_law 672 = .ok (.if_icmp .eq 601, 3) := by decide +kernel
theorem dL_law_677 : decode cL_law 677 = .ok (.aload_n 1, 1) := by decide +kernel
theorem dL_law_678 : decode cL_law 678 = .ok (.invokevirtual 78, 3) := by decide +kernel
theorem dL_law_681 : decode cL_law 681 = .ok (.aload_n 2, 1) := by decide +kernel
theorem dL_law_682 : decode cL_law 682 = .ok (.invokevirtual 81, 3) := by decide +kernel
theorem dL_law_685 : decode cL_law 685 = .ok (.if_icmp .eq 588, 3) := by decide +kernel
theorem dL_law_690 : decode cL_law 690 = .ok (.aload_n 1, 1) := by decide +kernel
theorem dL_law_691 : decode cL_law 691 = .ok (.aload_n 0, 1) := by decide +kernel
theorem dL_law_692 : decode cL_law 692 = .ok (.iload_n 3, 1) := by decide +kernel
theorem dL_law_693 : decode cL_law 693 = .ok (.iconst 1, 1) := by decide +kernel
theorem dL_law_694 : decode cL_law 694 = .ok (.iadd, 1) := by decide +kernel
theorem dL_law_695 : decode cL_law 695 = .ok (.iaload, 1) := by decide +kernel
theorem dL_law_696 : decode cL_law 696 = .ok (.invokevirtual 82, 3) := by decide +kernel
theorem dL_law_699 : decode cL_law 699 = .ok (.aload_n 2, 1) := by decide +kernel
theorem dL_law_700 : decode cL_law 700 = .ok (.aload_n 0, 1) := by decide +kernel
theorem dL_law_701 : decode cL_law 701 = .ok (.iload_n 3, 1) := by decide +kernel
theorem dL_law_702 : decode cL_law 702 = .ok (.iconst 1, 1) := by decide +kernel
theorem dL_law_703 : decode cL_law 703 = .ok (.iadd, 1) := by decide +kernel
theorem dL_law_704 : decode cL_law 704 = .ok (.iaload, 1) := by decide +kernel
theorem dL_law_705 : decode cL_law 705 = .ok (.invokevirtual 85, 3) := by decide +kernel
theorem dL_law_708 : decode cL_law 708 = .ok (.if_icmp .eq 565, 3) := by decide +kernel
theorem dL_law_713 : decode cL_law 713 = .ok (.aload_n 1, 1) := by decide +kernel
theorem dL_law_714 : decode cL_law 714 = .ok (.aload_n 0, 1) := by decide +kernel
theorem dL_law_715 : decode cL_law 715 = .ok (.iload_n 3, 1) := by decide +kernel
theorem dL_law_716 : decode cL_law 716 = .ok (.iconst 1, 1) := by decide +kernel
theorem dL_law_717 : decode cL_law 717 = .ok (.iadd, 1) := by decide +kernel
theorem dL_law_718 : decode cL_law 718 = .ok (.iaload, 1) := by decide +kernel
theorem dL_law_719 : decode cL_law 719 = .ok (.aload_n 0, 1) := by decide +kernel
theorem dL_law_720 : decode cL_law 720 = .ok (.iload_n 3, 1) := by decide +kernel
theorem dL_law_721 : decode cL_law 721 = .ok (.iconst 2, 1) := by decide +kernel
theorem dL_law_722 : decode cL_law 722 = .ok (.iadd, 1) := by decide +kernel
theorem dL_law_723 : decode cL_law 723 = .ok (.iaload, 1) := by decide +kernel
theorem dL_law_724 : decode cL_law 724 = .ok (.aload_n 0, 1) := by decide +kernel
theorem dL_law_725 : decode cL_law 725 = .ok (.iload_n 3, 1) := by decide +kernel
theorem dL_law_726 : decode cL_law 726 = .ok (.iconst 3, 1) := by decide +kernel
theorem dL_law_727 : decode cL_law 727 = .ok (.iadd, 1) := by decide +kernel
theorem dL_law_728 : decode cL_law 728 = .ok (.iaload, 1) := by decide +kernel
theorem dL_law_729 : decode cL_law 729 = .ok (.invokevirtual 86, 3) := by decide +kernel
theorem dL_law_732 : decode cL_law 732 = .ok (.aload_n 2, 1) := by decide +kernel
theorem dL_law_733 : decode cL_law 733 = .ok (.aload_n 0, 1) := by decide +kernel
theorem dL_law_734 : decode cL_law 734 = .ok (.iload_n 3, 1) := by decide +kernel
theorem dL_law_735 : decode cL_law 735 = .ok (.iconst 1, 1) := by decide +kernel
theorem dL_law_736 : decode cL_law 736 = .ok (.iadd, 1) := by decide +kernel
theorem dL_law_737 : decode cL_law 737 = .ok (.iaload, 1) := by decide +kernel
theorem dL_law_738 : decode cL_law 738 = .ok (.aload_n 0, 1) := by decide +kernel
theorem dL_law_739 : decode cL_law 739 = .ok (.iload_n 3, 1) := by decide +kernel
theorem dL_law_740 : decode cL_law 740 = .ok (.iconst 2, 1) := by decide +kernel
theorem dL_law_741 : decode cL_law 741 = .ok (.iadd, 1) := by decide +kernel
theorem dL_law_742 : decode cL_law 742 = .ok (.iaload, 1) := by decide +kernel
theorem dL_law_743 : decode cL_law 743 = .ok (.aload_n 0, 1) := by decide +kernel
theorem dL_law_744 : decode cL_law 744 = .ok (.iload_n 3, 1) := by decide +kernel
theorem dL_law_745 : decode cL_law 745 = .ok (.iconst 3, 1) := by decide +kernel
theorem dL_law_746 : decode cL_law 746 = .ok (.iadd, 1) := by decide +kernel
theorem dL_law_747 : decode cL_law 747 = .ok (.iaload, 1) := by decide +kernel
theorem dL_law_748 : decode cL_law 748 = .ok (.invokevirtual 89, 3) := by decide +kernel
theorem dL_law_751 : decode cL_law 751 = .ok (.if_icmp .eq 522, 3) := by decide +kernel
theorem dL_law_756 : decode cL_law 756 = .ok (.aload_n 1, 1) := by decide +kernel
theorem dL_law_757 : decode cL_law 757 = .ok (.aload_n 0, 1) := by decide +kernel
theorem dL_law_758 : decode cL_law 758 = .ok (.iload_n 3, 1) := by decide +kernel
theorem dL_law_759 : decode cL_law 759 = .ok (.iconst 1, 1) := by decide +kernel
theorem dL_law_760 : decode cL_law 760 = .ok (.iadd, 1) := by decide +kernel
theorem dL_law_761 : decode cL_law 761 = .ok (.iaload, 1) := by decide +kernel
theorem dL_law_762 : decode cL_law 762 = .ok (.invokevirtual 90, 3) := by decide +kernel
theorem dL_law_765 : decode cL_law 765 = .ok (.aload_n 2, 1) := by decide +kernel
theorem dL_law_766 : decode cL_law 766 = .ok (.aload_n 0, 1) := by decide +kernel
theorem dL_law_767 : decode cL_law 767 = .ok (.iload_n 3, 1) := by decide +kernel
theorem dL_law_768 : decode cL_law 768 = .ok (.iconst 1, 1) := by decide +kernel
theorem dL_law_769 : decode cL_law 769 = .ok (.iadd, 1) := by decide +kernel
theorem dL_law_770 : decode cL_law 770 = .ok (.iaload, 1) := by decide +kernel
theorem dL_law_771 : decode cL_law 771 = .ok (.invokevirtual 93, 3) := by decide +kernel
theorem dL_law_774 : decode cL_law 774 = .ok (.if_icmp .eq 499, 3) := by decide +kernel
theorem dL_law_779 : decode cL_law 779 = .ok (.aload_n 1, 1) := by decide +kernel
theorem dL_law_780 : decode cL_law 780 = .ok (.aload_n 0, 1) := by decide +kernel
theorem dL_law_781 : decode cL_law 781 = .ok (.iload_n 3, 1) := by decide +kernel
theorem dL_law_782 : decode cL_law 782 = .ok (.iconst 1, 1) := by decide +kernel
theorem dL_law_783 : decode cL_law 783 = .ok (.iadd, 1) := by decide +kernel
theorem dL_law_784 : decode cL_law 784 = .ok (.iaload, 1) := by decide +kernel
theorem dL_law_785 : decode cL_law 785 = .ok (.aload_n 0, 1) := by decide +kernel
theorem dL_law_786 : decode cL_law 786 = .ok (.iload_n 3, 1) := by decide +kernel
theorem dL_law_787 : decode cL_law 787 = .ok (.iconst 2, 1) := by decide +kernel
theorem dL_law_788 : decode cL_law 788 = .ok (.iadd, 1) := by decide +kernel
theorem dL_law_789 : decode cL_law 789 = .ok (.iaload, 1) := by decide +kernel
theorem dL_law_790 : decode cL_law 790 = .ok (.invokevirtual 94, 3) := by decide +kernel
theorem dL_law_793 : decode cL_law 793 = .ok (.aload_n 2, 1) := by decide +kernel
theorem dL_law_794 : decode cL_law 794 = .ok (.aload_n 0, 1) := by decide +kernel
theorem dL_law_795 : decode cL_law 795 = .ok (.iload_n 3, 1) := by decide +kernel
theorem dL_law_796 : decode cL_law 796 = .ok (.iconst 1, 1) := by decide +kernel
theorem dL_law_797 : decode cL_law 797 = .ok (.iadd, 1) := by decide +kernel
theorem dL_law_798 : decode cL_law 798 = .ok (.iaload, 1) := by decide +kernel
theorem dL_law_799 : decode cL_law 799 = .ok (.aload_n 0, 1) := by decide +kernel
theorem dL_law_800 : decode cL_law 800 = .ok (.iload_n 3, 1) := by decide +kernel
theorem dL_law_801 : decode cL_law 801 = .ok (.iconst 2, 1) := by decide +kernel
theorem dL_law_802 : decode cL_law 802 = .ok (.iadd, 1) := by decide +kernel
theorem dL_law_803 : decode cL_law 803 = .ok (.iaload, 1) := by decide +kernel
theorem dL_law_804 : decode cL_law 804 = .ok (.invokevirtual 97, 3) := by decide +kernel
theorem dL_law_807 : decode cL_law 807 = .ok (.if_icmp .eq 466, 3) := by decide +kernel
theorem dL_law_812 : decode cL_law 812 = .ok (.aload_n 1, 1) := by decide +kernel
theorem dL_law_813 : decode cL_law 813 = .ok (.aload_n 0, 1) := by decide +kernel
theorem dL_law_814 : decode cL_law 814 = .ok (.iload_n 3, 1) := by decide +kernel
theorem dL_law_815 : decode cL_law 815 = .ok (.iconst 1, 1) := by decide +kernel
theorem dL_law_816 : decode cL_law 816 = .ok (.iadd, 1) := by decide +kernel
theorem dL_law_817 : decode cL_law 817 = .ok (.iaload, 1) := by decide +kernel
theorem dL_law_818 : decode cL_law 818 = .ok (.invokevirtual 98, 3) := by decide +kernel
theorem dL_law_821 : decode cL_law 821 = .ok (.aload_n 2, 1) := by decide +kernel
theorem dL_law_822 : decode cL_law 822 = .ok (.aload_n 0, 1) := by decide +kernel
theorem dL_law_823 : decode cL_law 823 = .ok (.iload_n 3, 1) := by decide +kernel
theorem dL_law_824 : decode cL_law 824 = .ok (.iconst 1, 1) := by decide +kernel
theorem dL_law_825 : decode cL_law 825 = .ok (.iadd, 1) := by decide +kernel
theorem dL_law_826 : decode cL_law 826 = .ok (.iaload, 1) := by decide +kernel
theorem dL_law_827 : decode cL_law 827 = .ok (.invokevirtual 102, 3) := by decide +kernel
theorem dL_law_830 : decode cL_law 830 = .ok (.if_icmp .eq 443, 3) := by decide +kernel
theorem dL_law_835 : decode cL_law 835 = .ok (.aload_n 1, 1) := by decide +kernel
theorem dL_law_836 : decode cL_law 836 = .ok (.aload_n 0, 1) := by decide +kernel
theorem dL_law_837 : decode cL_law 837 = .ok (.iload_n 3, 1) := by decide +kernel
theorem dL_law_838 : decode cL_law 838 = .ok (.iconst 1, 1) := by decide +kernel
theorem dL_law_839 : decode cL_law 839 = .ok (.iadd, 1) := by decide +kernel
theorem dL_law_840 : decode cL_law 840 = .ok (.iaload, 1) := by decide +kernel
theorem dL_law_841 : decode cL_law 841 = .ok (.invokevirtual 103, 3) := by decide +kernel
theorem dL_law_844 : decode cL_law 844 = .ok (.aload_n 2, 1) := by decide +kernel
theorem dL_law_845 : decode cL_law 845 = .ok (.aload_n 0, 1) := by decide +kernel
theorem dL_law_846 : decode cL_law 846 = .ok (.iload_n 3, 1) := by decide +kernel
theorem dL_law_847 : decode cL_law 847 = .ok (.iconst 1, 1) := by decide +kernel
theorem dL_law_848 : decode cL_law 848 = .ok (.iadd, 1) := by decide +kernel
theorem dL_law_849 : decode cL_law 849 = .ok (.iaload, 1) := by decide +kernel
theorem dL_law_850 : decode cL_law 850 = .ok (.invokevirtual 106, 3) := by decide +kernel
theorem dL_law_853 : decode cL_law 853 = .ok (.if_icmp .eq 420, 3) := by decide +kernel
theorem dL_law_858 : decode cL_law 858 = .ok (.aload_n 1, 1) := by decide +kernel
theorem dL_law_859 : decode cL_law 859 = .ok (.aload_n 0, 1) := by decide +kernel
theorem dL_law_860 : decode cL_law 860 = .ok (.iload_n 3, 1) := by decide +kernel
theorem dL_law_861 : decode cL_law 861 = .ok (.iconst 1, 1) := by decide +kernel
theorem dL_law_862 : decode cL_law 862 = .ok (.iadd, 1) := by decide +kernel
theorem dL_law_863 : decode cL_law 863 = .ok (.iaload, 1) := by decide +kernel
theorem dL_law_864 : decode cL_law 864 = .ok (.invokevirtual 107, 3) := by decide +kernel
theorem dL_law_867 : decode cL_law 867 = .ok (.aload_n 2, 1) := by decide +kernel
theorem dL_law_868 : decode cL_law 868 = .ok (.aload_n 0, 1) := by decide +kernel
theorem dL_law_869 : decode cL_law 869 = .ok (.iload_n 3, 1) := by decide +kernel
theorem dL_law_870 : decode cL_law 870 = .ok (.iconst 1, 1) := by decide +kernel
theorem dL_law_871 : decode cL_law 871 = .ok (.iadd, 1) := by decide +kernel
theorem dL_law_872 : decode cL_law 872 = .ok (.iaload, 1) := by decide +kernel
theorem dL_law_873 : decode cL_law 873 = .ok (.invokevirtual 110, 3) := by decide +kernel
theorem dL_law_876 : decode cL_law 876 = .ok (.if_icmp .eq 397, 3) := by decide +kernel
theorem dL_law_881 : decode cL_law 881 = .ok (.aload_n 1, 1) := by decide +kernel
theorem dL_law_882 : decode cL_law 882 = .ok (.invokevirtual 111, 3) := by decide +kernel
theorem dL_law_885 : decode cL_law 885 = .ok (.aload_n 2, 1) := by decide +kernel
theorem dL_law_886 : decode cL_law 886 = .ok (.invokevirtual 115, 3) := by decide +kernel
theorem dL_law_889 : decode cL_law 889 = .ok (.if_icmp .eq 384, 3) := by decide +kernel
theorem dL_law_894 : decode cL_law 894 = .ok (.aload_n 1, 1) := by decide +kernel
theorem dL_law_895 : decode cL_law 895 = .ok (.aload_n 0, 1) := by decide +kernel
theorem dL_law_896 : decode cL_law 896 = .ok (.iload_n 3, 1) := by decide +kernel
theorem dL_law_897 : decode cL_law 897 = .ok (.iconst 1, 1) := by decide +kernel
theorem dL_law_898 : decode cL_law 898 = .ok (.iadd, 1) := by decide +kernel
theorem dL_law_899 : decode cL_law 899 = .ok (.iaload, 1) := by decide +kernel
theorem dL_law_900 : decode cL_law 900 = .ok (.aload_n 0, 1) := by decide +kernel
theorem dL_law_901 : decode cL_law 901 = .ok (.iload_n 3, 1) := by decide +kernel
theorem dL_law_902 : decode cL_law 902 = .ok (.iconst 2, 1) := by decide +kernel
theorem dL_law_903 : decode cL_law 903 = .ok (.iadd, 1) := by decide +kernel
theorem dL_law_904 : decode cL_law 904 = .ok (.iaload, 1) := by decide +kernel
theorem dL_law_905 : decode cL_law 905 = .ok (.invokevirtual 116, 3) := by decide +kernel
theorem dL_law_908 : decode cL_law 908 = .ok (.aload_n 2, 1) := by decide +kernel
theorem dL_law_909 : decode cL_law 909 = .ok (.aload_n 0, 1) := by decide +kernel
theorem dL_law_910 : decode cL_law 910 = .ok (.iload_n 3, 1) := by decide +kernel
theorem dL_law_911 : decode cL_law 911 = .ok (.iconst 1, 1) := by decide +kernel
theorem dL_law_912 : decode cL_law 912 = .ok (.iadd, 1) := by decide +kernel
theorem dL_law_913 : decode cL_law 913 = .ok (.iaload, 1) := by decide +kernel
theorem dL_law_914 : decode cL_law 914 = .ok (.aload_n 0, 1) := by decide +kernel
theorem dL_law_915 : decode cL_law 915 = .ok (.iload_n 3, 1) := by decide +kernel
theorem dL_law_916 : decode cL_law 916 = .ok (.iconst 2, 1) := by decide +kernel
theorem dL_law_917 : decode cL_law 917 = .ok (.iadd, 1) := by decide +kernel
theorem dL_law_918 : decode cL_law 918 = .ok (.iaload, 1) := by decide +kernel
theorem dL_law_919 : decode cL_law 919 = .ok (.invokevirtual 120, 3) := by decide +kernel
theorem dL_law_922 : decode cL_law 922 = .ok (.if_icmp .eq 351, 3) := by decide +kernel
theorem dL_law_927 : decode cL_law 927 = .ok (.aload_n 1, 1) := by decide +kernel
theorem dL_law_928 : decode cL_law 928 = .ok (.invokevirtual 121, 3) := by decide +kernel
theorem dL_law_931 : decode cL_law 931 = .ok (.aload_n 2, 1) := by decide +kernel
theorem dL_law_932 : decode cL_law 932 = .ok (.invokevirtual 124, 3) := by decide +kernel
theorem dL_law_935 : decode cL_law 935 = .ok (.if_icmp .eq 338, 3) := by decide +kernel
theorem dL_law_940 : decode cL_law 940 = .ok (.aload_n 1, 1) := by decide +kernel
theorem dL_law_941 : decode cL_law 941 = .ok (.aload_n 0, 1) := by decide +kernel
theorem dL_law_942 : decode cL_law 942 = .ok (.iload_n 3, 1) := by decide +kernel
theorem dL_law_943 : decode cL_law 943 = .ok (.iconst 1, 1) := by decide +kernel
theorem dL_law_944 : decode cL_law 944 = .ok (.iadd, 1) := by decide +kernel
theorem dL_law_945 : decode cL_law 945 = .ok (.iaload, 1) := by decide +kernel
theorem dL_law_946 : decode cL_law 946 = .ok (.invokevirtual 125, 3) := by decide +kernel
theorem dL_law_949 : decode cL_law 949 = .ok (.aload_n 2, 1) := by decide +kernel
theorem dL_law_950 : decode cL_law 950 = .ok (.aload_n 0, 1) := by decide +kernel
theorem dL_law_951 : decode cL_law 951 = .ok (.iload_n 3, 1) := by decide +kernel
theorem dL_law_952 : decode cL_law 952 = .ok (.iconst 1, 1) := by decide +kernel
theorem dL_law_953 : decode cL_law 953 = .ok (.iadd, 1) := by decide +kernel
theorem dL_law_954 : decode cL_law 954 = .ok (.iaload, 1) := by decide +kernel
theorem dL_law_955 : decode cL_law 955 = .ok (.invokevirtual 128, 3) := by decide +kernel
theorem dL_law_958 : decode cL_law 958 = .ok (.if_icmp .eq 315, 3) := by decide +kernel
theorem dL_law_963 : decode cL_law 963 = .ok (.aload_n 1, 1) := by decide +kernel
theorem dL_law_964 : decode cL_law 964 = .ok (.aload_n 0, 1) := by decide +kernel
theorem dL_law_965 : decode cL_law 965 = .ok (.iload_n 3, 1) := by decide +kernel
theorem dL_law_966 : decode cL_law 966 = .ok (.iconst 1, 1) := by decide +kernel
theorem dL_law_967 : decode cL_law 967 = .ok (.iadd, 1) := by decide +kernel
theorem dL_law_968 : decode cL_law 968 = .ok (.iaload, 1) := by decide +kernel
theorem dL_law_969 : decode cL_law 969 = .ok (.aload_n 0, 1) := by decide +kernel
theorem dL_law_970 : decode cL_law 970 = .ok (.iload_n 3, 1) := by decide +kernel
theorem dL_law_971 : decode cL_law 971 = .ok (.iconst 2, 1) := by decide +kernel
theorem dL_law_972 : decode cL_law 972 = .ok (.iadd, 1) := by decide +kernel
theorem dL_law_973 : decode cL_law 973 = .ok (.iaload, 1) := by decide +kernel
theorem dL_law_974 : decode cL_law 974 = .ok (.aload_n 0, 1) := by decide +kernel
theorem dL_law_975 : decode cL_law 975 = .ok (.iload_n 3, 1) := by decide +kernel
theorem dL_law_976 : decode cL_law 976 = .ok (.iconst 3, 1) := by decide +kernel
theorem dL_law_977 : decode cL_law 977 = .ok (.iadd, 1) := by decide +kernel
theorem dL_law_978 : decode cL_law 978 = .ok (.iaload, 1) := by decide +kernel
theorem dL_law_979 : decode cL_law 979 = .ok (.invokevirtual 129, 3) := by decide +kernel
theorem dL_law_982 : decode cL_law 982 = .ok (.aload_n 2, 1) := by decide +kernel
theorem dL_law_983 : decode cL_law 983 = .ok (.aload_n 0, 1) := by decide +kernel
theorem dL_law_984 : decode cL_law 984 = .ok (.iload_n 3, 1) := by decide +kernel
theorem dL_law_985 : decode cL_law 985 = .ok (.iconst 1, 1) := by decide +kernel
theorem dL_law_986 : decode cL_law 986 = .ok (.iadd, 1) := by decide +kernel
theorem dL_law_987 : decode cL_law 987 = .ok (.iaload, 1) := by decide +kernel
theorem dL_law_988 : decode cL_law 988 = .ok (.aload_n 0, 1) := by decide +kernel
theorem dL_law_989 : decode cL_law 989 = .ok (.iload_n 3, 1) := by decide +kernel
theorem dL_law_990 : decode cL_law 990 = .ok (.iconst 2, 1) := by decide +kernel
theorem dL_law_991 : decode cL_law 991 = .ok (.iadd, 1) := by decide +kernel
theorem dL_law_992 : decode cL_law 992 = .ok (.iaload, 1) := by decide +kernel
theorem dL_law_993 : decode cL_law 993 = .ok (.aload_n 0, 1) := by decide +kernel
theorem dL_law_994 : decode cL_law 994 = .ok (.iload_n 3, 1) := by decide +kernel
theorem dL_law_995 : decode cL_law 995 = .ok (.iconst 3, 1) := by decide +kernel
theorem dL_law_996 : decode cL_law 996 = .ok (.iadd, 1) := by decide +kernel
theorem dL_law_997 : decode cL_law 997 = .ok (.iaload, 1) := by decide +kernel
theorem dL_law_998 : decode cL_law 998 = .ok (.invokevirtual 132, 3) := by decide +kernel
theorem dL_law_1001 : decode cL_law 1001 = .ok (.if_icmp .eq 272, 3) := by decide +kernel
theorem dL_law_1006 : decode cL_law 1006 = .ok (.aload_n 1, 1) := by decide +kernel
theorem dL_law_1007 : decode cL_law 1007 = .ok (.invokevirtual 133, 3) := by decide +kernel
theorem dL_law_1010 : decode cL_law 1010 = .ok (.aload_n 2, 1) := by decide +kernel
theorem dL_law_1011 : decode cL_law 1011 = .ok (.invokevirtual 136, 3) := by decide +kernel
theorem dL_law_1014 : decode cL_law 1014 = .ok (.if_icmp .eq 259, 3) := by decide +kernel
theorem dL_law_1019 : decode cL_law 1019 = .ok (.aload_n 1, 1) := by decide +kernel
theorem dL_law_1020 : decode cL_law 1020 = .ok (.invokevirtual 137, 3) := by decide +kernel
theorem dL_law_1023 : decode cL_law 1023 = .ok (.aload_n 2, 1) := by decide +kernel
theorem dL_law_1024 : decode cL_law 1024 = .ok (.invokevirtual 140, 3) := by decide +kernel
theorem dL_law_1027 : decode cL_law 1027 = .ok (.if_icmp .eq 246, 3) := by decide +kernel
theorem dL_law_1032 : decode cL_law 1032 = .ok (.aload_n 1, 1) := by decide +kernel
theorem dL_law_1033 : decode cL_law 1033 = .ok (.invokevirtual 141, 3) := by decide +kernel
theorem dL_law_1036 : decode cL_law 1036 = .ok (.aload_n 2, 1) := by decide +kernel
theorem dL_law_1037 : decode cL_law 1037 = .ok (.invokevirtual 144, 3) := by decide +kernel
theorem dL_law_1040 : decode cL_law 1040 = .ok (.if_icmp .eq 233, 3) := by decide +kernel
theorem dL_law_1045 : decode cL_law 1045 = .ok (.aload_n 1, 1) := by decide +kernel
theorem dL_law_1046 : decode cL_law 1046 = .ok (.invokevirtual 145, 3) := by decide +kernel
theorem dL_law_1049 : decode cL_law 1049 = .ok (.aload_n 2, 1) := by decide +kernel
theorem dL_law_1050 : decode cL_law 1050 = .ok (.invokevirtual 148, 3) := by decide +kernel
theorem dL_law_1053 : decode cL_law 1053 = .ok (.if_icmp .eq 220, 3) := by decide +kernel
theorem dL_law_1058 : decode cL_law 1058 = .ok (.aload_n 1, 1) := by decide +kernel
theorem dL_law_1059 : decode cL_law 1059 = .ok (.aload_n 0, 1) := by decide +kernel
theorem dL_law_1060 : decode cL_law 1060 = .ok (.iload_n 3, 1) := by decide +kernel
theorem dL_law_1061 : decode cL_law 1061 = .ok (.iconst 1, 1) := by decide +kernel
theorem dL_law_1062 : decode cL_law 1062 = .ok (.iadd, 1) := by decide +kernel
theorem dL_law_1063 : decode cL_law 1063 = .ok (.iaload, 1) := by decide +kernel
theorem dL_law_1064 : decode cL_law 1064 = .ok (.ifCond .eq 7, 3) := by decide +kernel
theorem dL_law_1067 : decode cL_law 1067 = .ok (.iconst 1, 1) := by decide +kernel
theorem dL_law_1068 : decode cL_law 1068 = .ok (.goto 4, 3) := by decide +kernel
theorem dL_law_1071 : decode cL_law 1071 = .ok (.iconst 0, 1) := by decide +kernel
theorem dL_law_1072 : decode cL_law 1072 = .ok (.invokevirtual 149, 3) := by decide +kernel
theorem dL_law_1075 : decode cL_law 1075 = .ok (.aload_n 2, 1) := by decide +kernel
theorem dL_law_1076 : decode cL_law 1076 = .ok (.aload_n 0, 1) := by decide +kernel
theorem dL_law_1077 : decode cL_law 1077 = .ok (.iload_n 3, 1) := by decide +kernel
theorem dL_law_1078 : decode cL_law 1078 = .ok (.iconst 1, 1) := by decide +kernel
theorem dL_law_1079 : decode cL_law 1079 = .ok (.iadd, 1) := by decide +kernel
theorem dL_law_1080 : decode cL_law 1080 = .ok (.iaload, 1) := by decide +kernel
theorem dL_law_1081 : decode cL_law 1081 = .ok (.ifCond .eq 7, 3) := by decide +kernel
theorem dL_law_1084 : decode cL_law 1084 = .ok (.iconst 1, 1) := by decide +kernel
theorem dL_law_1085 : decode cL_law 1085 = .ok (.goto 4, 3) := by decide +kernel
theorem dL_law_1088 : decode cL_law 1088 = .ok (.iconst 0, 1) := by decide +kernel
theorem dL_law_1089 : decode cL_law 1089 = .ok (.invokevirtual 153, 3) := by decide +kernel
theorem dL_law_1092 : decode cL_law 1092 = .ok (.if_icmp .eq 181, 3) := by decide +kernel
theorem dL_law_1097 : decode cL_law 1097 = .ok (.aload_n 1, 1) := by decide +kernel
theorem dL_law_1098 : decode cL_law 1098 = .ok (.aload_n 0, 1) := by decide +kernel
theorem dL_law_1099 : decode cL_law 1099 = .ok (.iload_n 3, 1) := by decide +kernel
theorem dL_law_1100 : decode cL_law 1100 = .ok (.iconst 1, 1) := by decide +kernel
theorem dL_law_1101 : decode cL_law 1101 = .ok (.iadd, 1) := by decide +kernel
theorem dL_law_1102 : decode cL_law 1102 = .ok (.iaload, 1) := by decide +kernel
theorem dL_law_1103 : decode cL_law 1103 = .ok (.aload_n 0, 1) := by decide +kernel
theorem dL_law_1104 : decode cL_law 1104 = .ok (.iload_n 3, 1) := by decide +kernel
theorem dL_law_1105 : decode cL_law 1105 = .ok (.iconst 2, 1) := by decide +kernel
theorem dL_law_1106 : decode cL_law 1106 = .ok (.iadd, 1) := by decide +kernel
theorem dL_law_1107 : decode cL_law 1107 = .ok (.iaload, 1) := by decide +kernel
theorem dL_law_1108 : decode cL_law 1108 = .ok (.ifCond .eq 7, 3) := by decide +kernel
theorem dL_law_1111 : decode cL_law 1111 = .ok (.iconst 1, 1) := by decide +kernel
theorem dL_law_1112 : decode cL_law 1112 = .ok (.goto 4, 3) := by decide +kernel
theorem dL_law_1115 : decode cL_law 1115 = .ok (.iconst 0, 1) := by decide +kernel
theorem dL_law_1116 : decode cL_law 1116 = .ok (.invokevirtual 154, 3) := by decide +kernel
theorem dL_law_1119 : decode cL_law 1119 = .ok (.aload_n 2, 1) := by decide +kernel
theorem dL_law_1120 : decode cL_law 1120 = .ok (.aload_n 0, 1) := by decide +kernel
theorem dL_law_1121 : decode cL_law 1121 = .ok (.iload_n 3, 1) := by decide +kernel
theorem dL_law_1122 : decode cL_law 1122 = .ok (.iconst 1, 1) := by decide +kernel
theorem dL_law_1123 : decode cL_law 1123 = .ok (.iadd, 1) := by decide +kernel
theorem dL_law_1124 : decode cL_law 1124 = .ok (.iaload, 1) := by decide +kernel
theorem dL_law_1125 : decode cL_law 1125 = .ok (.aload_n 0, 1) := by decide +kernel
theorem dL_law_1126 : decode cL_law 1126 = .ok (.iload_n 3, 1) := by decide +kernel
theorem dL_law_1127 : decode cL_law 1127 = .ok (.iconst 2, 1) := by decide +kernel
theorem dL_law_1128 : decode cL_law 1128 = .ok (.iadd, 1) := by decide +kernel
theorem dL_law_1129 : decode cL_law 1129 = .ok (.iaload, 1) := by decide +kernel
theorem dL_law_1130 : decode cL_law 1130 = .ok (.ifCond .eq 7, 3) := by decide +kernel
theorem dL_law_1133 : decode cL_law 1133 = .ok (.iconst 1, 1) := by decide +kernel
theorem dL_law_1134 : decode cL_law 1134 = .ok (.goto 4, 3) := by decide +kernel
theorem dL_law_1137 : decode cL_law 1137 = .ok (.iconst 0, 1) := by decide +kernel
theorem dL_law_1138 : decode cL_law 1138 = .ok (.invokevirtual 158, 3) := by decide +kernel
theorem dL_law_1141 : decode cL_law 1141 = .ok (.if_icmp .eq 132, 3) := by decide +kernel
theorem dL_law_1146 : decode cL_law 1146 = .ok (.aload_n 1, 1) := by decide +kernel
theorem dL_law_1147 : decode cL_law 1147 = .ok (.aload_n 0, 1) := by decide +kernel
theorem dL_law_1148 : decode cL_law 1148 = .ok (.iload_n 3, 1) := by decide +kernel
theorem dL_law_1149 : decode cL_law 1149 = .ok (.iconst 1, 1) := by decide +kernel
theorem dL_law_1150 : decode cL_law 1150 = .ok (.iadd, 1) := by decide +kernel
theorem dL_law_1151 : decode cL_law 1151 = .ok (.iaload, 1) := by decide +kernel
theorem dL_law_1152 : decode cL_law 1152 = .ok (.aload_n 0, 1) := by decide +kernel
theorem dL_law_1153 : decode cL_law 1153 = .ok (.iload_n 3, 1) := by decide +kernel
theorem dL_law_1154 : decode cL_law 1154 = .ok (.iconst 2, 1) := by decide +kernel
theorem dL_law_1155 : decode cL_law 1155 = .ok (.iadd, 1) := by decide +kernel
theorem dL_law_1156 : decode cL_law 1156 = .ok (.iaload, 1) := by decide +kernel
theorem dL_law_1157 : decode cL_law 1157 = .ok (.ifCond .eq 7, 3) := by decide +kernel
theorem dL_law_1160 : decode cL_law 1160 = .ok (.iconst 1, 1) := by decide +kernel
theorem dL_law_1161 : decode cL_law 1161 = .ok (.goto 4, 3) := by decide +kernel
theorem dL_law_1164 : decode cL_law 1164 = .ok (.iconst 0, 1) := by decide +kernel
theorem dL_law_1165 : decode cL_law 1165 = .ok (.invokevirtual 159, 3) := by decide +kernel
theorem dL_law_1168 : decode cL_law 1168 = .ok (.aload_n 2, 1) := by decide +kernel
theorem dL_law_1169 : decode cL_law 1169 = .ok (.aload_n 0, 1) := by decide +kernel
theorem dL_law_1170 : decode cL_law 1170 = .ok (.iload_n 3, 1) := by decide +kernel
theorem dL_law_1171 : decode cL_law 1171 = .ok (.iconst 1, 1) := by decide +kernel
theorem dL_law_1172 : decode cL_law 1172 = .ok (.iadd, 1) := by decide +kernel
theorem dL_law_1173 : decode cL_law 1173 = .ok (.iaload, 1) := by decide +kernel
theorem dL_law_1174 : decode cL_law 1174 = .ok (.aload_n 0, 1) := by decide +kernel
theorem dL_law_1175 : decode cL_law 1175 = .ok (.iload_n 3, 1) := by decide +kernel
theorem dL_law_1176 : decode cL_law 1176 = .ok (.iconst 2, 1) := by decide +kernel
theorem dL_law_1177 : decode cL_law 1177 = .ok (.iadd, 1) := by decide +kernel
theorem dL_law_1178 : decode cL_law 1178 = .ok (.iaload, 1) := by decide +kernel
theorem dL_law_1179 : decode cL_law 1179 = .ok (.ifCond .eq 7, 3) := by decide +kernel
theorem dL_law_1182 : decode cL_law 1182 = .ok (.iconst 1, 1) := by decide +kernel
theorem dL_law_1183 : decode cL_law 1183 = .ok (.goto 4, 3) := by decide +kernel
theorem dL_law_1186 : decode cL_law 1186 = .ok (.iconst 0, 1) := by decide +kernel
theorem dL_law_1187 : decode cL_law 1187 = .ok (.invokevirtual 162, 3) := by decide +kernel
theorem dL_law_1190 : decode cL_law 1190 = .ok (.if_icmp .eq 83, 3) := by decide +kernel
theorem dL_law_1195 : decode cL_law 1195 = .ok (.aload_n 1, 1) := by decide +kernel
theorem dL_law_1196 : decode cL_law 1196 = .ok (.invokevirtual 163, 3) := by decide +kernel
theorem dL_law_1199 : decode cL_law 1199 = .ok (.aload_n 2, 1) := by decide +kernel
theorem dL_law_1200 : decode cL_law 1200 = .ok (.invokevirtual 166, 3) := by decide +kernel
theorem dL_law_1203 : decode cL_law 1203 = .ok (.if_icmp .eq 70, 3) := by decide +kernel
theorem dL_law_1208 : decode cL_law 1208 = .ok (.aload_n 1, 1) := by decide +kernel
theorem dL_law_1209 : decode cL_law 1209 = .ok (.invokevirtual 167, 3) := by decide +kernel
theorem dL_law_1212 : decode cL_law 1212 = .ok (.aload_n 2, 1) := by decide +kernel
theorem dL_law_1213 : decode cL_law 1213 = .ok (.invokevirtual 170, 3) := by decide +kernel
theorem dL_law_1216 : decode cL_law 1216 = .ok (.if_icmp .eq 57, 3) := by decide +kernel
theorem dL_law_1221 : decode cL_law 1221 = .ok (.aload_n 1, 1) := by decide +kernel
theorem dL_law_1222 : decode cL_law 1222 = .ok (.invokevirtual 171, 3) := by decide +kernel
theorem dL_law_1225 : decode cL_law 1225 = .ok (.aload_n 2, 1) := by decide +kernel
theorem dL_law_1226 : decode cL_law 1226 = .ok (.invokevirtual 174, 3) := by decide +kernel
theorem dL_law_1229 : decode cL_law 1229 = .ok (.if_icmp .eq 44, 3) := by decide +kernel
theorem dL_law_1234 : decode cL_law 1234 = .ok (.aload_n 1, 1) := by decide +kernel
theorem dL_law_1235 : decode cL_law 1235 = .ok (.invokevirtual 175, 3) := by decide +kernel
theorem dL_law_1238 : decode cL_law 1238 = .ok (.aload_n 2, 1) := by decide +kernel
theorem dL_law_1239 : decode cL_law 1239 = .ok (.invokevirtual 178, 3) := by decide +kernel
theorem dL_law_1242 : decode cL_law 1242 = .ok (.if_icmp .eq 31, 3) := by decide +kernel
theorem dL_law_1247 : decode cL_law 1247 = .ok (.aload_n 1, 1) := by decide +kernel
theorem dL_law_1248 : decode cL_law 1248 = .ok (.invokevirtual 179, 3) := by decide +kernel
theorem dL_law_1251 : decode cL_law 1251 = .ok (.aload_n 2, 1) := by decide +kernel
theorem dL_law_1252 : decode cL_law 1252 = .ok (.invokevirtual 182, 3) := by decide +kernel
theorem dL_law_1255 : decode cL_law 1255 = .ok (.if_icmp .eq 18, 3) := by decide +kernel
theorem dL_law_1260 : decode cL_law 1260 = .ok (.aload_n 1, 1) := by decide +kernel
theorem dL_law_1261 : decode cL_law 1261 = .ok (.invokevirtual 183, 3) := by decide +kernel
theorem dL_law_1264 : decode cL_law 1264 = .ok (.aload_n 2, 1) := by decide +kernel
theorem dL_law_1265 : decode cL_law 1265 = .ok (.invokevirtual 186, 3) := by decide +kernel
theorem dL_law_1268 : decode cL_law 1268 = .ok (.if_icmp .eq 5, 3) := by decide +kernel
theorem dL_law_1273 : decode cL_law 1273 = .ok (.iinc 3 6, 3) := by decide +kernel
theorem dL_law_1276 : decode cL_law 1276 = .ok (.goto (-1258), 3) := by decide +kernel
theorem dL_law_1279 : decode cL_law 1279 = .ok (.iconst 1, 1) := by decide +kernel
theorem dL_law_1280 : decode cL_law 1280 = .ok (.ireturn, 1) := by decide +kernel
theorem dX0_agesOf_0 : decode cX0_agesOf 0 = .ok (.iload_n 1, 1) := by decide +kernel
theorem dX0_agesOf_1 : decode cX0_agesOf 1 = .ok (.ifCond .lt 18, 3) := by decide +kernel
theorem dX0_agesOf_4 : decode cX0_agesOf 4 = .ok (.iload_n 1, 1) := by decide +kernel
theorem dX0_agesOf_5 : decode cX0_agesOf 5 = .ok (.bipush 8, 2) := by decide +kernel
theorem dX0_agesOf_7 : decode cX0_agesOf 7 = .ok (.if_icmp .ge 12, 3) := by decide +kernel
theorem dX0_agesOf_10 : decode cX0_agesOf 10 = .ok (.aload_n 0, 1) := by decide +kernel
theorem dX0_agesOf_11 : decode cX0_agesOf 11 = .ok (.getfield 18, 3) := by decide +kernel
theorem dX0_agesOf_14 : decode cX0_agesOf 14 = .ok (.iload_n 1, 1) := by decide +kernel
theorem dX0_agesOf_15 : decode cX0_agesOf 15 = .ok (.iaload, 1) := by decide +kernel
theorem dX0_agesOf_16 : decode cX0_agesOf 16 = .ok (.goto 4, 3) := by decide +kernel
theorem dX0_agesOf_19 : decode cX0_agesOf 19 = .ok (.iconst 0, 1) := by decide +kernel
theorem dX0_agesOf_20 : decode cX0_agesOf 20 = .ok (.ireturn, 1) := by decide +kernel
theorem dX0_clear_0 : decode cX0_clear 0 = .ok (.aload_n 0, 1) := by decide +kernel
theorem dX0_clear_1 : decode cX0_clear 1 = .ok (.getfield 9, 3) := by decide +kernel
theorem dX0_clear_4 : decode cX0_clear 4 = .ok (.iconst 0, 1) := by decide +kernel
theorem dX0_clear_5 : decode cX0_clear 5 = .ok (.invokestatic 31, 3) := by decide +kernel
theorem dX0_clear_8 : decode cX0_clear 8 = .ok (.aload_n 0, 1) := by decide +kernel
theorem dX0_clear_9 : decode cX0_clear 9 = .ok (.getfield 15, 3) := by decide +kernel
theorem dX0_clear_12 : decode cX0_clear 12 = .ok (.iconst 0, 1) := by decide +kernel
theorem dX0_clear_13 : decode cX0_clear 13 = .ok (.invokestatic 31, 3) := by decide +kernel
theorem dX0_clear_16 : decode cX0_clear 16 = .ok (.aload_n 0, 1) := by decide +kernel
theorem dX0_clear_17 : decode cX0_clear 17 = .ok (.getfield 18, 3) := by decide +kernel
theorem dX0_clear_20 : decode cX0_clear 20 = .ok (.iconst 0, 1) := by decide +kernel
theorem dX0_clear_21 : decode cX0_clear 21 = .ok (.invokestatic 31, 3) := by decide +kernel
theorem dX0_clear_24 : decode cX0_clear 24 = .ok (.aload_n 0, 1) := by decide +kernel
theorem dX0_clear_25 : decode cX0_clear 25 = .ok (.iconst 0, 1) := by decide +kernel
theorem dX0_clear_26 : decode cX0_clear 26 = .ok (.putfield 27, 3) := by decide +kernel
theorem dX0_clear_29 : decode cX0_clear 29 = .ok (.return_, 1) := by decide +kernel
theorem dX0_copyFrom_0 : decode cX0_copyFrom 0 = .ok (.aload_n 1, 1) := by decide +kernel
theorem dX0_copyFrom_1 : decode cX0_copyFrom 1 = .ok (.getfield 9, 3) := by decide +kernel
theorem dX0_copyFrom_4 : decode cX0_copyFrom 4 = .ok (.iconst 0, 1) := by decide +kernel
theorem dX0_copyFrom_5 : decode cX0_copyFrom 5 = .ok (.aload_n 0, 1) := by decide +kernel
theorem dX0_copyFrom_6 : decode cX0_copyFrom 6 = .ok (.getfield 9, 3) := by decide +kernel
theorem dX0_copyFrom_9 : decode cX0_copyFrom 9 = .ok (.iconst 0, 1) := by decide +kernel
theorem dX0_copyFrom_10 : decode cX0_copyFrom 10 = .ok (.bipush 10, 2) := by decide +kernel
theorem dX0_copyFrom_12 : decode cX0_copyFrom 12 = .ok (.invokestatic 37, 3) := by decide +kernel
theorem dX0_copyFrom_15 : decode cX0_copyFrom 15 = .ok (.aload_n 1, 1) := by decide +kernel
theorem dX0_copyFrom_16 : decode cX0_copyFrom 16 = .ok (.getfield 15, 3) := by decide +kernel
theorem dX0_copyFrom_19 : decode cX0_copyFrom 19 = .ok (.iconst 0, 1) := by decide +kernel
theorem dX0_copyFrom_20 : decode cX0_copyFrom 20 = .ok (.aload_n 0, 1) := by decide +kernel
theorem dX0_copyFrom_21 : decode cX0_copyFrom 21 = .ok (.getfield 15, 3) := by decide +kernel
theorem dX0_copyFrom_24 : decode cX0_copyFrom 24 = .ok (.iconst 0, 1) := by decide +kernel
theorem dX0_copyFrom_25 : decode cX0_copyFrom 25 = .ok (.bipush 8, 2) := by decide +kernel
theorem dX0_copyFrom_27 : decode cX0_copyFrom 27 = .ok (.invokestatic 37, 3) := by decide +kernel
theorem dX0_copyFrom_30 : decode cX0_copyFrom 30 = .ok (.aload_n 1, 1) := by decide +kernel
theorem dX0_copyFrom_31 : decode cX0_copyFrom 31 = .ok (.getfield 18, 3) := by decide +kernel
theorem dX0_copyFrom_34 : decode cX0_copyFrom 34 = .ok (.iconst 0, 1) := by decide +kernel
theorem dX0_copyFrom_35 : decode cX0_copyFrom 35 = .ok (.aload_n 0, 1) := by decide +kernel
theorem dX0_copyFrom_36 : decode cX0_copyFrom 36 = .ok (.getfield 18, 3) := by decide +kernel
theorem dX0_copyFrom_39 : decode cX0_copyFrom 39 = .ok (.iconst 0, 1) := by decide +kernel
theorem dX0_copyFrom_40 : decode cX0_copyFrom 40 = .ok (.bipush 8, 2) := by decide +kernel
theorem dX0_copyFrom_42 : decode cX0_copyFrom 42 = .ok (.invokestatic 37, 3) := by decide +kernel
theorem dX0_copyFrom_45 : decode cX0_copyFrom 45 = .ok (.aload_n 1, 1) := by decide +kernel
theorem dX0_copyFrom_46 : decode cX0_copyFrom 46 = .ok (.getfield 21, 3) := by decide +kernel
theorem dX0_copyFrom_49 : decode cX0_copyFrom 49 = .ok (.iconst 0, 1) := by decide +kernel
theorem dX0_copyFrom_50 : decode cX0_copyFrom 50 = .ok (.aload_n 0, 1) := by decide +kernel
theorem dX0_copyFrom_51 : decode cX0_copyFrom 51 = .ok (.getfield 21, 3) := by decide +kernel
theorem dX0_copyFrom_54 : decode cX0_copyFrom 54 = .ok (.iconst 0, 1) := by decide +kernel
theorem dX0_copyFrom_55 : decode cX0_copyFrom 55 = .ok (.bipush 96, 2) := by decide +kernel
theorem dX0_copyFrom_57 : decode cX0_copyFrom 57 = .ok (.invokestatic 37, 3) := by decide +kernel
theorem dX0_copyFrom_60 : decode cX0_copyFrom 60 = .ok (.aload_n 1, 1) := by decide +kernel
theorem dX0_copyFrom_61 : decode cX0_copyFrom 61 = .ok (.getfield 24, 3) := by decide +kernel
theorem dX0_copyFrom_64 : decode cX0_copyFrom 64 = .ok (.iconst 0, 1) := by decide +kernel
theorem dX0_copyFrom_65 : decode cX0_copyFrom 65 = .ok (.aload_n 0, 1) := by decide +kernel
theorem dX0_copyFrom_66 : decode cX0_copyFrom 66 = .ok (.getfield 24, 3) := by decide +kernel
theorem dX0_copyFrom_69 : decode cX0_copyFrom 69 = .ok (.iconst 0, 1) := by decide +kernel
theorem dX0_copyFrom_70 : decode cX0_copyFrom 70 = .ok (.bipush 72, 2) := by decide +kernel
theorem dX0_copyFrom_72 : decode cX0_copyFrom 72 = .ok (.invokestatic 37, 3) := by decide +kernel
theorem dX0_copyFrom_75 : decode cX0_copyFrom 75 = .ok (.aload_n 0, 1) := by decide +kernel
theorem dX0_copyFrom_76 : decode cX0_copyFrom 76 = .ok (.aload_n 1, 1) := by decide +kernel
theorem dX0_copyFrom_77 : decode cX0_copyFrom 77 = .ok (.getfield 27, 3) := by decide +kernel
theorem dX0_copyFrom_80 : decode cX0_copyFrom 80 = .ok (.putfield 27, 3) := by decide +kernel
theorem dX0_copyFrom_83 : decode cX0_copyFrom 83 = .ok (.return_, 1) := by decide +kernel
theorem dX0_counted_0 : decode cX0_counted 0 = .ok (.iload_n 1, 1) := by decide +kernel
theorem dX0_counted_1 : decode cX0_counted 1 = .ok (.ifCond .lt 18, 3) := by decide +kernel
theorem dX0_counted_4 : decode cX0_counted 4 = .ok (.iload_n 1, 1) := by decide +kernel
theorem dX0_counted_5 : decode cX0_counted 5 = .ok (.bipush 10, 2) := by decide +kernel
theorem dX0_counted_7 : decode cX0_counted 7 = .ok (.if_icmp .ge 12, 3) := by decide +kernel
theorem dX0_counted_10 : decode cX0_counted 10 = .ok (.aload_n 0, 1) := by decide +kernel
theorem dX0_counted_11 : decode cX0_counted 11 = .ok (.getfield 9, 3) := by decide +kernel
theorem dX0_counted_14 : decode cX0_counted 14 = .ok (.iload_n 1, 1) := by decide +kernel
theorem dX0_counted_15 : decode cX0_counted 15 = .ok (.iaload, 1) := by decide +kernel
theorem dX0_counted_16 : decode cX0_counted 16 = .ok (.goto 4, 3) := by decide +kernel
theorem dX0_counted_19 : decode cX0_counted 19 = .ok (.iconst 0, 1) := by decide +kernel
theorem dX0_counted_20 : decode cX0_counted 20 = .ok (.ireturn, 1) := by decide +kernel
theorem dX0_gotOf_0 : decode cX0_gotOf 0 = .ok (.iload_n 1, 1) := by decide +kernel
theorem dX0_gotOf_1 : decode cX0_gotOf 1 = .ok (.ifCond .lt 18, 3) := by decide +kernel
theorem dX0_gotOf_4 : decode cX0_gotOf 4 = .ok (.iload_n 1, 1) := by decide +kernel
theorem dX0_gotOf_5 : decode cX0_gotOf 5 = .ok (.bipush 8, 2) := by decide +kernel
theorem dX0_gotOf_7 : decode cX0_gotOf 7 = .ok (.if_icmp .ge 12, 3) := by decide +kernel
theorem dX0_gotOf_10 : decode cX0_gotOf 10 = .ok (.aload_n 0, 1) := by decide +kernel
theorem dX0_gotOf_11 : decode cX0_gotOf 11 = .ok (.getfield 15, 3) := by decide +kernel
theorem dX0_gotOf_14 : decode cX0_gotOf 14 = .ok (.iload_n 1, 1) := by decide +kernel
theorem dX0_gotOf_15 : decode cX0_gotOf 15 = .ok (.iaload, 1) := by decide +kernel
theorem dX0_gotOf_16 : decode cX0_gotOf 16 = .ok (.goto 4, 3) := by decide +kernel
theorem dX0_gotOf_19 : decode cX0_gotOf 19 = .ok (.iconst 0, 1) := by decide +kernel
theorem dX0_gotOf_20 : decode cX0_gotOf 20 = .ok (.ireturn, 1) := by decide +kernel
theorem dX0_init_0 : decode cX0_init 0 = .ok (.aload_n 0, 1) := by decide +kernel
theorem dX0_init_1 : decode cX0_init 1 = .ok (.invokespecial 3, 3) := by decide +kernel
theorem dX0_init_4 : decode cX0_init 4 = .ok (.aload_n 0, 1) := by decide +kernel
theorem dX0_init_5 : decode cX0_init 5 = .ok (.bipush 10, 2) := by decide +kernel
theorem dX0_init_7 : decode cX0_init 7 = .ok (.newarray .int, 2) := by decide +kernel
theorem dX0_init_9 : decode cX0_init 9 = .ok (.putfield 9, 3) := by decide +kernel
theorem dX0_init_12 : decode cX0_init 12 = .ok (.aload_n 0, 1) := by decide +kernel
theorem dX0_init_13 : decode cX0_init 13 = .ok (.bipush 8, 2) := by decide +kernel
theorem dX0_init_15 : decode cX0_init 15 = .ok (.newarray .int, 2) := by decide +kernel
theorem dX0_init_17 : decode cX0_init 17 = .ok (.putfield 15, 3) := by decide +kernel
theorem dX0_init_20 : decode cX0_init 20 = .ok (.aload_n 0, 1) := by decide +kernel
theorem dX0_init_21 : decode cX0_init 21 = .ok (.bipush 8, 2) := by decide +kernel
theorem dX0_init_23 : decode cX0_init 23 = .ok (.newarray .int, 2) := by decide +kernel
theorem dX0_init_25 : decode cX0_init 25 = .ok (.putfield 18, 3) := by decide +kernel
theorem dX0_init_28 : decode cX0_init 28 = .ok (.aload_n 0, 1) := by decide +kernel
theorem dX0_init_29 : decode cX0_init 29 = .ok (.bipush 96, 2) := by decide +kernel
theorem dX0_init_31 : decode cX0_init 31 = .ok (.newarray .int, 2) := by decide +kernel
theorem dX0_init_33 : decode cX0_init 33 = .ok (.putfield 21, 3) := by decide +kernel
theorem dX0_init_36 : decode cX0_init 36 = .ok (.aload_n 0, 1) := by decide +kernel
theorem dX0_init_37 : decode cX0_init 37 = .ok (.bipush 72, 2) := by decide +kernel
theorem dX0_init_39 : decode cX0_init 39 = .ok (.newarray .int, 2) := by decide +kernel
theorem dX0_init_41 : decode cX0_init 41 = .ok (.putfield 24, 3) := by decide +kernel
theorem dX0_init_44 : decode cX0_init 44 = .ok (.aload_n 0, 1) := by decide +kernel
theorem dX0_init_45 : decode cX0_init 45 = .ok (.iconst 0, 1) := by decide +kernel
theorem dX0_init_46 : decode cX0_init 46 = .ok (.putfield 27, 3) := by decide +kernel
theorem dX0_init_49 : decode cX0_init 49 = .ok (.return_, 1) := by decide +kernel
theorem dX10_add_0 : decode cX10_add 0 = .ok (.iload_n 1, 1) := by decide +kernel
theorem dX10_add_1 : decode cX10_add 1 = .ok (.ifCond .lt 9, 3) := by decide +kernel
theorem dX10_add_4 : decode cX10_add 4 = .ok (.iload_n 1, 1) := by decide +kernel
theorem dX10_add_5 : decode cX10_add 5 = .ok (.bipush 100, 2) := by decide +kernel
theorem dX10_add_7 : decode cX10_add 7 = .ok (.if_icmp .lt 9, 3) := by decide +kernel
theorem dX10_add_10 : decode cX10_add 10 = .ok (.aload_n 0, 1) := by decide +kernel
theorem dX10_add_11 : decode cX10_add 11 = .ok (.iconst 1, 1) := by decide +kernel
theorem dX10_add_12 : decode cX10_add 12 = .ok (.invokevirtual 66, 3) := by decide +kernel
theorem dX10_add_15 : decode cX10_add 15 = .ok (.ireturn, 1) := by decide +kernel
theorem dX10_add_16 : decode cX10_add 16 = .ok (.aload_n 0, 1) := by decide +kernel
theorem dX10_add_17 : decode cX10_add 17 = .ok (.getfield 19, 3) := by decide +kernel
theorem dX10_add_20 : decode cX10_add 20 = .ok (.getfield 86, 3) := by decide +kernel
theorem dX10_add_23 : decode cX10_add 23 = .ok (.getfield 90, 3) := by decide +kernel
theorem dX10_add_26 : decode cX10_add 26 = .ok (.bipush 8, 2) := by decide +kernel
theorem dX10_add_28 : decode cX10_add 28 = .ok (.if_icmp .lt 9, 3) := by decide +kernel
theorem dX10_add_37 : decode cX10_add 37 = .ok (.aload_n 0, 1) := by decide +kernel
theorem dX10_add_38 : decode cX10_add 38 = .ok (.getfield 19, 3) := by decide +kernel
theorem dX10_add_41 : decode cX10_add 41 = .ok (.getfield 86, 3) := by decide +kernel
theorem dX10_add_44 : decode cX10_add 44 = .ok (.iload_n 1, 1) := by decide +kernel
theorem dX10_add_45 : decode cX10_add 45 = .ok (.invokevirtual 235, 3) := by decide +kernel
theorem dX10_add_48 : decode cX10_add 48 = .ok (.ifCond .eq 10, 3) := by decide +kernel
theorem dX10_add_58 : decode cX10_add 58 = .ok (.aload_n 0, 1) := by decide +kernel
theorem dX10_add_59 : decode cX10_add 59 = .ok (.getfield 19, 3) := by decide +kernel
theorem dX10_add_62 : decode cX10_add 62 = .ok (.getfield 86, 3) := by decide +kernel
theorem dX10_add_65 : decode cX10_add 65 = .ok (.iload_n 1, 1) := by decide +kernel
theorem dX10_add_66 : decode cX10_add 66 = .ok (.invokevirtual 238, 3) := by decide +kernel
theorem dX10_add_69 : decode cX10_add 69 = .ok (.aload_n 0, 1) := by decide +kernel
theorem dX10_add_70 : decode cX10_add 70 = .ok (.getfield 19, 3) := by decide +kernel
theorem dX10_add_73 : decode cX10_add 73 = .ok (.invokevirtual 239, 3) := by decide +kernel
theorem dX10_add_76 : decode cX10_add 76 = .ok (.aload_n 0, 1) := by decide +kernel
theorem dX10_add_77 : decode cX10_add 77 = .ok (.aload_n 0, 1) := by decide +kernel
theorem dX10_add_78 : decode cX10_add 78 = .ok (.getfield 19, 3) := by decide +kernel
theorem dX10_add_81 : decode cX10_add 81 = .ok (.getfield 86, 3) := by decide +kernel
theorem dX10_add_84 : decode cX10_add 84 = .ok (.getfield 90, 3) := by decide +kernel
theorem dX10_add_87 : decode cX10_add 87 = .ok (.iconst 1, 1) := by decide +kernel
theorem dX10_add_88 : decode cX10_add 88 = .ok (.isub, 1) := by decide +kernel
theorem dX10_add_89 : decode cX10_add 89 = .ok (.invokevirtual 95, 3) := by decide +kernel
theorem dX10_add_92 : decode cX10_add 92 = .ok (.ireturn, 1) := by decide +kernel
theorem dX10_back_0 : decode cX10_back 0 = .ok (.aload_n 0, 1) := by decide +kernel
theorem dX10_back_1 : decode cX10_back 1 = .ok (.getfield 52, 3) := by decide +kernel
theorem dX10_back_4 : decode cX10_back 4 = .ok (.iconst 1, 1) := by decide +kernel
theorem dX10_back_5 : decode cX10_back 5 = .ok (.if_icmp .lt 11, 3) := by decide +kernel
theorem dX10_back_16 : decode cX10_back 16 = .ok (.aload_n 0, 1) := by decide +kernel
theorem dX10_back_17 : decode cX10_back 17 = .ok (.iconst 5, 1) := by decide +kernel
theorem dX10_back_18 : decode cX10_back 18 = .ok (.invokevirtual 66, 3) := by decide +kernel
theorem dX10_back_21 : decode cX10_back 21 = .ok (.ireturn, 1) := by decide +kernel
theorem dX10_beacon_0 : decode cX10_beacon 0 = .ok (.iload_n 1, 1) := by decide +kernel
theorem dX10_beacon_1 : decode cX10_beacon 1 = .ok (.ifCond .lt 8, 3) := by decide +kernel
theorem dX10_beacon_4 : decode cX10_beacon 4 = .ok (.iload_n 1, 1) := by decide +kernel
theorem dX10_beacon_5 : decode cX10_beacon 5 = .ok (.iconst 2, 1) := by decide +kernel
theorem dX10_beacon_6 : decode cX10_beacon 6 = .ok (.if_icmp .le 9, 3) := by decide +kernel
theorem dX10_beacon_9 : decode cX10_beacon 9 = .ok (.aload_n 0, 1) := by decide +kernel
theorem dX10_beacon_10 : decode cX10_beacon 10 = .ok (.iconst 1, 1) := by decide +kernel
theorem dX10_beacon_11 : decode cX10_beacon 11 = .ok (.invokevirtual 66, 3) := by decide +kernel
theorem dX10_beacon_14 : decode cX10_beacon 14 = .ok (.ireturn, 1) := by decide +kernel
theorem dX10_beacon_15 : decode cX10_beacon 15 = .ok (.aload_n 0, 1) := by decide +kernel
theorem dX10_beacon_16 : decode cX10_beacon 16 = .ok (.getfield 19, 3) := by decide +kernel
theorem dX10_beacon_19 : decode cX10_beacon 19 = .ok (.getfield 129, 3) := by decide +kernel
theorem dX10_beacon_22 : decode cX10_beacon 22 = .ok (.astore_n 2, 1) := by decide +kernel
theorem dX10_beacon_23 : decode cX10_beacon 23 = .ok (.iload_n 1, 1) := by decide +kernel
theorem dX10_beacon_24 : decode cX10_beacon 24 = .ok (.ifCond .ne 12, 3) := by decide +kernel
theorem dX10_beacon_27 : decode cX10_beacon 27 = .ok (.aload_n 0, 1) := by decide +kernel
theorem dX10_beacon_28 : decode cX10_beacon 28 = .ok (.aload_n 2, 1) := by decide +kernel
theorem dX10_beacon_29 : decode cX10_beacon 29 = .ok (.getfield 171, 3) := by decide +kernel
theorem dX10_beacon_32 : decode cX10_beacon 32 = .ok (.invokevirtual 95, 3) := by decide +kernel
theorem dX10_beacon_35 : decode cX10_beacon 35 = .ok (.ireturn, 1) := by decide +kernel
theorem dX10_beacon_36 : decode cX10_beacon 36 = .ok (.aload_n 2, 1) := by decide +kernel
theorem dX10_beacon_37 : decode cX10_beacon 37 = .ok (.getfield 171, 3) := by decide +kernel
theorem dX10_beacon_40 : decode cX10_beacon 40 = .ok (.iconst 2, 1) := by decide +kernel
theorem dX10_beacon_41 : decode cX10_beacon 41 = .ok (.if_icmp .eq 9, 3) := by decide +kernel
theorem dX10_beacon_44 : decode cX10_beacon 44 = .ok (.aload_n 0, 1) := by decide +kernel
theorem dX10_beacon_45 : decode cX10_beacon 45 = .ok (.iconst 5, 1) := by decide +kernel
theorem dX10_beacon_46 : decode cX10_beacon 46 = .ok (.invokevirtual 66, 3) := by decide +kernel
theorem dX10_beacon_49 : decode cX10_beacon 49 = .ok (.ireturn, 1) := by decide +kernel
theorem dX10_been_0 : decode cX10_been 0 = .ok (.iload_n 1, 1) := by decide +kernel
theorem dX10_been_1 : decode cX10_been 1 = .ok (.ifCond .lt 9, 3) := by decide +kernel
theorem dX10_been_4 : decode cX10_been 4 = .ok (.iload_n 1, 1) := by decide +kernel
theorem dX10_been_5 : decode cX10_been 5 = .ok (.bipush 10, 2) := by decide +kernel
theorem dX10_been_7 : decode cX10_been 7 = .ok (.if_icmp .lt 9, 3) := by decide +kernel
theorem dX10_been_10 : decode cX10_been 10 = .ok (.aload_n 0, 1) := by decide +kernel
theorem dX10_been_11 : decode cX10_been 11 = .ok (.iconst 1, 1) := by decide +kernel
theorem dX10_been_12 : decode cX10_been 12 = .ok (.invokevirtual 66, 3) := by decide +kernel
theorem dX10_been_15 : decode cX10_been 15 = .ok (.ireturn, 1) := by decide +kernel
theorem dX10_been_16 : decode cX10_been 16 = .ok (.aload_n 0, 1) := by decide +kernel
theorem dX10_been_17 : decode cX10_been 17 = .ok (.aload_n 0, 1) := by decide +kernel
theorem dX10_been_18 : decode cX10_been 18 = .ok (.getfield 19, 3) := by decide +kernel
theorem dX10_been_21 : decode cX10_been 21 = .ok (.getfield 180, 3) := by decide +kernel
theorem dX10_been_24 : decode cX10_been 24 = .ok (.iload_n 1, 1) := by decide +kernel
theorem dX10_been_25 : decode cX10_been 25 = .ok (.invokevirtual 184, 3) := by decide +kernel
theorem dX10_been_28 : decode cX10_been 28 = .ok (.invokevirtual 95, 3) := by decide +kernel
theorem dX10_been_31 : decode cX10_been 31 = .ok (.ireturn, 1) := by decide +kernel
theorem dX10_blamed_0 : decode cX10_blamed 0 = .ok (.aload_n 0, 1) := by decide +kernel
theorem dX10_blamed_1 : decode cX10_blamed 1 = .ok (.getfield 31, 3) := by decide +kernel
theorem dX10_blamed_4 : decode cX10_blamed 4 = .ok (.iconst 5, 1) := by decide +kernel
theorem dX10_blamed_5 : decode cX10_blamed 5 = .ok (.iconst (-1), 1) := by decide +kernel
theorem dX10_blamed_6 : decode cX10_blamed 6 = .ok (.iconst 0, 1) := by decide +kernel
theorem dX10_blamed_7 : decode cX10_blamed 7 = .ok (.invokevirtual 296, 3) := by decide +kernel
theorem dX10_blamed_10 : decode cX10_blamed 10 = .ok (.istore_n 1, 1) := by decide +kernel
theorem dX10_blamed_11 : decode cX10_blamed 11 = .ok (.aload_n 0, 1) := by decide +kernel
theorem dX10_blamed_12 : decode cX10_blamed 12 = .ok (.iload_n 1, 1) := by decide +kernel
theorem dX10_blamed_13 : decode cX10_blamed 13 = .ok (.iconst (-1), 1) := by decide +kernel
theorem dX10_blamed_14 : decode cX10_blamed 14 = .ok (.if_icmp .ne 7, 3) := by decide +kernel
theorem dX10_blamed_17 : decode cX10_blamed 17 = .ok (.iconst (-1), 1) := by decide +kernel
theorem dX10_blamed_18 : decode cX10_blamed 18 = .ok (.goto 10, 3) := by decide +kernel
theorem dX10_blamed_28 : decode cX10_blamed 28 = .ok (.invokevirtual 300, 3) := by decide +kernel
theorem dX10_blamed_31 : decode cX10_blamed 31 = .ok (.ireturn, 1) := by decide +kernel
theorem dX10_event_0 : decode cX10_event 0 = .ok (.iload_n 1, 1) := by decide +kernel
theorem dX10_event_1 : decode cX10_event 1 = .ok (.ifCond .lt 18, 3) := by decide +kernel
theorem dX10_event_4 : decode cX10_event 4 = .ok (.iload_n 1, 1) := by decide +kernel
theorem dX10_event_5 : decode cX10_event 5 = .ok (.bipush 24, 2) := by decide +kernel
theorem dX10_event_7 : decode cX10_event 7 = .ok (.if_icmp .ge 12, 3) := by decide +kernel
theorem dX10_event_10 : decode cX10_event 10 = .ok (.iload_n 2, 1) := by decide +kernel
theorem dX10_event_11 : decode cX10_event 11 = .ok (.ifCond .lt 8, 3) := by decide +kernel
theorem dX10_event_14 : decode cX10_event 14 = .ok (.iload_n 2, 1) := by decide +kernel
theorem dX10_event_15 : decode cX10_event 15 = .ok (.iconst 3, 1) := by decide +kernel
theorem dX10_event_16 : decode cX10_event 16 = .ok (.if_icmp .lt 9, 3) := by decide +kernel
theorem dX10_event_19 : decode cX10_event 19 = .ok (.aload_n 0, 1) := by decide +kernel
theorem dX10_event_20 : decode cX10_event 20 = .ok (.iconst 1, 1) := by decide +kernel
theorem dX10_event_21 : decode cX10_event 21 = .ok (.invokevirtual 66, 3) := by decide +kernel
theorem dX10_event_24 : decode cX10_event 24 = .ok (.ireturn, 1) := by decide +kernel
theorem dX10_event_25 : decode cX10_event 25 = .ok (.iload_n 1, 1) := by decide +kernel
theorem dX10_event_26 : decode cX10_event 26 = .ok (.aload_n 0, 1) := by decide +kernel
theorem dX10_event_27 : decode cX10_event 27 = .ok (.getfield 19, 3) := by decide +kernel
theorem dX10_event_30 : decode cX10_event 30 = .ok (.getfield 180, 3) := by decide +kernel
theorem dX10_event_33 : decode cX10_event 33 = .ok (.getfield 207, 3) := by decide +kernel
theorem dX10_event_36 : decode cX10_event 36 = .ok (.if_icmp .lt 9, 3) := by decide +kernel
theorem dX10_event_39 : decode cX10_event 39 = .ok (.aload_n 0, 1) := by decide +kernel
theorem dX10_event_40 : decode cX10_event 40 = .ok (.iconst 5, 1) := by decide +kernel
theorem dX10_event_41 : decode cX10_event 41 = .ok (.invokevirtual 66, 3) := by decide +kernel
theorem dX10_event_44 : decode cX10_event 44 = .ok (.ireturn, 1) := by decide +kernel
theorem dX10_fail_0 : decode cX10_fail 0 = .ok (.aload_n 0, 1) := by decide +kernel
theorem dX10_fail_1 : decode cX10_fail 1 = .ok (.iload_n 1, 1) := by decide +kernel
theorem dX10_fail_2 : decode cX10_fail 2 = .ok (.putfield 56, 3) := by decide +kernel
theorem dX10_fail_5 : decode cX10_fail 5 = .ok (.iconst (-1), 1) := by decide +kernel
theorem dX10_fail_6 : decode cX10_fail 6 = .ok (.ireturn, 1) := by decide +kernel
theorem dX10_fault_0 : decode cX10_fault 0 = .ok (.iload_n 1, 1) := by decide +kernel
theorem dX10_fault_1 : decode cX10_fault 1 = .ok (.ifCond .ne 11, 3) := by decide +kernel
theorem dX10_fault_4 : decode cX10_fault 4 = .ok (.aload_n 0, 1) := by decide +kernel
theorem dX10_fault_5 : decode cX10_fault 5 = .ok (.getfield 10, 3) := by decide +kernel
theorem dX10_fault_8 : decode cX10_fault 8 = .ok (.getfield 77, 3) := by decide +kernel
theorem dX10_fault_11 : decode cX10_fault 11 = .ok (.ireturn, 1) := by decide +kernel
theorem dX10_fault_12 : decode cX10_fault 12 = .ok (.iload_n 1, 1) := by decide +kernel
theorem dX10_fault_13 : decode cX10_fault 13 = .ok (.iconst 1, 1) := by decide +kernel
theorem dX10_fault_14 : decode cX10_fault 14 = .ok (.if_icmp .ne 13, 3) := by decide +kernel
theorem dX10_fault_17 : decode cX10_fault 17 = .ok (.aload_n 0, 1) := by decide +kernel
theorem dX10_fault_18 : decode cX10_fault 18 = .ok (.getfield 10, 3) := by decide +kernel
theorem dX10_fault_21 : decode cX10_fault 21 = .ok (.getfield 81, 3) := by decide +kernel
theorem dX10_fault_24 : decode cX10_fault 24 = .ok (.goto 4, 3) := by decide +kernel
theorem dX10_fault_27 : decode cX10_fault 27 = .ok (.iconst (-1), 1) := by decide +kernel
theorem dX10_fault_28 : decode cX10_fault 28 = .ok (.ireturn, 1) := by decide +kernel
theorem dX10_feed_0 : decode cX10_feed 0 = .ok (.aload_n 0, 1) := by decide +kernel
theorem dX10_feed_1 : decode cX10_feed 1 = .ok (.getfield 10, 3) := by decide +kernel
theorem dX10_feed_4 : decode cX10_feed 4 = .ok (.getfield 59, 3) := by decide +kernel
theorem dX10_feed_7 : decode cX10_feed 7 = .ok (.bipush 20, 2) := by decide +kernel
theorem dX10_feed_9 : decode cX10_feed 9 = .ok (.iadd, 1) := by decide +kernel
theorem dX10_feed_10 : decode cX10_feed 10 = .ok (.sipush 500, 3) := by decide +kernel
theorem dX10_feed_13 : decode cX10_feed 13 = .ok (.if_icmp .le 5, 3) := by decide +kernel
theorem dX10_feed_18 : decode cX10_feed 18 = .ok (.aload_n 0, 1) := by decide +kernel
theorem dX10_feed_19 : decode cX10_feed 19 = .ok (.getfield 10, 3) := by decide +kernel
theorem dX10_feed_22 : decode cX10_feed 22 = .ok (.iload_n 1, 1) := by decide +kernel
theorem dX10_feed_23 : decode cX10_feed 23 = .ok (.invokevirtual 62, 3) := by decide +kernel
theorem dX10_feed_26 : decode cX10_feed 26 = .ok (.aload_n 0, 1) := by decide +kernel
theorem dX10_feed_27 : decode cX10_feed 27 = .ok (.getfield 10, 3) := by decide +kernel
theorem dX10_feed_30 : decode cX10_feed 30 = .ok (.iload_n 2, 1) := by decide +kernel
theorem dX10_feed_31 : decode cX10_feed 31 = .ok (.invokevirtual 62, 3) := by decide +kernel
theorem dX10_feed_34 : decode cX10_feed 34 = .ok (.aload_n 0, 1) := by decide +kernel
theorem dX10_feed_35 : decode cX10_feed 35 = .ok (.getfield 10, 3) := by decide +kernel
theorem dX10_feed_38 : decode cX10_feed 38 = .ok (.iload_n 3, 1) := by decide +kernel
theorem dX10_feed_39 : decode cX10_feed 39 = .ok (.invokevirtual 62, 3) := by decide +kernel
theorem dX10_feed_42 : decode cX10_feed 42 = .ok (.aload_n 0, 1) := by decide +kernel
theorem dX10_feed_43 : decode cX10_feed 43 = .ok (.getfield 10, 3) := by decide +kernel
theorem dX10_feed_46 : decode cX10_feed 46 = .ok (.iload 4, 2) := by decide +kernel
theorem dX10_feed_48 : decode cX10_feed 48 = .ok (.invokevirtual 62, 3) := by decide +kernel
theorem dX10_feed_51 : decode cX10_feed 51 = .ok (.aload_n 0, 1) := by decide +kernel
theorem dX10_feed_52 : decode cX10_feed 52 = .ok (.getfield 10, 3) := by decide +kernel
theorem dX10_feed_55 : decode cX10_feed 55 = .ok (.iload 5, 2) := by decide +kernel
theorem dX10_feed_57 : decode cX10_feed 57 = .ok (.invokevirtual 62, 3) := by decide +kernel
theorem dX10_feed_60 : decode cX10_feed 60 = .ok (.aload_n 0, 1) := by decide +kernel
theorem dX10_feed_61 : decode cX10_feed 61 = .ok (.getfield 10, 3) := by decide +kernel
theorem dX10_feed_64 : decode cX10_feed 64 = .ok (.getfield 59, 3) := by decide +kernel
theorem dX10_feed_67 : decode cX10_feed 67 = .ok (.ireturn, 1) := by decide +kernel
theorem dX10_gain_0 : decode cX10_gain 0 = .ok (.aload_n 0, 1) := by decide +kernel
theorem dX10_gain_1 : decode cX10_gain 1 = .ok (.getfield 31, 3) := by decide +kernel
theorem dX10_gain_4 : decode cX10_gain 4 = .ok (.iconst 0, 1) := by decide +kernel
theorem dX10_gain_5 : decode cX10_gain 5 = .ok (.invokevirtual 316, 3) := by decide +kernel
theorem dX10_gain_8 : decode cX10_gain 8 = .ok (.aload_n 0, 1) := by decide +kernel
theorem dX10_gain_9 : decode cX10_gain 9 = .ok (.getfield 31, 3) := by decide +kernel
theorem dX10_gain_12 : decode cX10_gain 12 = .ok (.iconst 1, 1) := by decide +kernel
theorem dX10_gain_13 : decode cX10_gain 13 = .ok (.invokevirtual 316, 3) := by decide +kernel
theorem dX10_gain_16 : decode cX10_gain 16 = .ok (.aload_n 0, 1) := by decide +kernel
theorem dX10_gain_17 : decode cX10_gain 17 = .ok (.aload_n 0, 1) := by decide +kernel
theorem dX10_gain_18 : decode cX10_gain 18 = .ok (.getfield 31, 3) := by decide +kernel
theorem dX10_gain_21 : decode cX10_gain 21 = .ok (.invokevirtual 319, 3) := by decide +kernel
theorem dX10_gain_24 : decode cX10_gain 24 = .ok (.invokevirtual 95, 3) := by decide +kernel
theorem dX10_gain_27 : decode cX10_gain 27 = .ok (.ireturn, 1) := by decide +kernel
theorem dX10_give_0 : decode cX10_give 0 = .ok (.aload_n 0, 1) := by decide +kernel
theorem dX10_give_1 : decode cX10_give 1 = .ok (.iconst 0, 1) := by decide +kernel
theorem dX10_give_2 : decode cX10_give 2 = .ok (.putfield 56, 3) := by decide +kernel
theorem dX10_give_5 : decode cX10_give 5 = .ok (.iload_n 1, 1) := by decide +kernel
theorem dX10_give_6 : decode cX10_give 6 = .ok (.ireturn, 1) := by decide +kernel
theorem dX10_giveReached_0 : decode cX10_giveReached 0 = .ok (.aload_n 0, 1) := by decide +kernel
theorem dX10_giveReached_1 : decode cX10_giveReached 1 = .ok (.iload_n 1, 1) := by decide +kernel
theorem dX10_giveReached_2 : decode cX10_giveReached 2 = .ok (.iconst (-1), 1) := by decide +kernel
theorem dX10_giveReached_3 : decode cX10_giveReached 3 = .ok (.if_icmp .ne 8, 3) := by decide +kernel
theorem dX10_giveReached_6 : decode cX10_giveReached 6 = .ok (.bipush 7, 2) := by decide +kernel
theorem dX10_giveReached_8 : decode cX10_giveReached 8 = .ok (.goto 4, 3) := by decide +kernel
theorem dX10_giveReached_11 : decode cX10_giveReached 11 = .ok (.iconst 0, 1) := by decide +kernel
theorem dX10_giveReached_12 : decode cX10_giveReached 12 = .ok (.putfield 56, 3) := by decide +kernel
theorem dX10_giveReached_15 : decode cX10_giveReached 15 = .ok (.iload_n 1, 1) := by decide +kernel
theorem dX10_giveReached_16 : decode cX10_giveReached 16 = .ok (.ireturn, 1) := by decide +kernel
theorem dX10_got_0 : decode cX10_got 0 = .ok (.iload_n 1, 1) := by decide +kernel
theorem dX10_got_1 : decode cX10_got 1 = .ok (.ifCond .lt 19, 3) := by decide +kernel
theorem dX10_got_4 : decode cX10_got 4 = .ok (.iload_n 1, 1) := by decide +kernel
theorem dX10_got_5 : decode cX10_got 5 = .ok (.bipush 16, 2) := by decide +kernel
theorem dX10_got_7 : decode cX10_got 7 = .ok (.if_icmp .ge 13, 3) := by decide +kernel
theorem dX10_got_10 : decode cX10_got 10 = .ok (.iload_n 2, 1) := by decide +kernel
theorem dX10_got_11 : decode cX10_got 11 = .ok (.ifCond .lt 9, 3) := by decide +kernel
theorem dX10_got_14 : decode cX10_got 14 = .ok (.iload_n 2, 1) := by decide +kernel
theorem dX10_got_15 : decode cX10_got 15 = .ok (.bipush 6, 2) := by decide +kernel
theorem dX10_got_17 : decode cX10_got 17 = .ok (.if_icmp .lt 9, 3) := by decide +kernel
theorem dX10_got_20 : decode cX10_got 20 = .ok (.aload_n 0, 1) := by decide +kernel
theorem dX10_got_21 : decode cX10_got 21 = .ok (.iconst 1, 1) := by decide +kernel
theorem dX10_got_22 : decode cX10_got 22 = .ok (.invokevirtual 66, 3) := by decide +kernel
theorem dX10_got_25 : decode cX10_got 25 = .ok (.ireturn, 1) := by decide +kernel
theorem dX10_got_26 : decode cX10_got 26 = .ok (.iload_n 1, 1) := by decide +kernel
theorem dX10_got_27 : decode cX10_got 27 = .ok (.aload_n 0, 1) := by decide +kernel
theorem dX10_got_28 : decode cX10_got 28 = .ok (.getfield 19, 3) := by decide +kernel
theorem dX10_got_31 : decode cX10_got 31 = .ok (.getfield 180, 3) := by decide +kernel
theorem dX10_got_34 : decode cX10_got 34 = .ok (.iconst 0, 1) := by decide +kernel
theorem dX10_got_35 : decode cX10_got 35 = .ok (.invokevirtual 184, 3) := by decide +kernel
theorem dX10_got_38 : decode cX10_got 38 = .ok (.if_icmp .lt 9, 3) := by decide +kernel
theorem dX10_got_41 : decode cX10_got 41 = .ok (.aload_n 0, 1) := by decide +kernel
theorem dX10_got_42 : decode cX10_got 42 = .ok (.iconst 5, 1) := by decide +kernel
theorem dX10_got_43 : decode cX10_got 43 = .ok (.invokevirtual 66, 3) := by decide +kernel
theorem dX10_got_46 : decode cX10_got 46 = .ok (.ireturn, 1) := by decide +kernel
theorem dX10_healed_0 : decode cX10_healed 0 = .ok (.aload_n 0, 1) := by decide +kernel
theorem dX10_healed_1 : decode cX10_healed 1 = .ok (.aload_n 0, 1) := by decide +kernel
theorem dX10_healed_2 : decode cX10_healed 2 = .ok (.getfield 31, 3) := by decide +kernel
theorem dX10_healed_5 : decode cX10_healed 5 = .ok (.iconst 3, 1) := by decide +kernel
theorem dX10_healed_6 : decode cX10_healed 6 = .ok (.iconst (-1), 1) := by decide +kernel
theorem dX10_healed_7 : decode cX10_healed 7 = .ok (.iconst 0, 1) := by decide +kernel
theorem dX10_healed_8 : decode cX10_healed 8 = .ok (.invokevirtual 296, 3) := by decide +kernel
theorem dX10_healed_11 : decode cX10_healed 11 = .ok (.invokevirtual 300, 3) := by decide +kernel
theorem dX10_healed_14 : decode cX10_healed 14 = .ok (.ireturn, 1) := by decide +kernel
theorem dX10_heir_0 : decode cX10_heir 0 = .ok (.aload_n 0, 1) := by decide +kernel
theorem dX10_heir_1 : decode cX10_heir 1 = .ok (.getfield 19, 3) := by decide +kernel
theorem dX10_heir_4 : decode cX10_heir 4 = .ok (.getfield 86, 3) := by decide +kernel
theorem dX10_heir_7 : decode cX10_heir 7 = .ok (.invokevirtual 232, 3) := by decide +kernel
theorem dX10_heir_10 : decode cX10_heir 10 = .ok (.istore_n 1, 1) := by decide +kernel
theorem dX10_heir_11 : decode cX10_heir 11 = .ok (.iload_n 1, 1) := by decide +kernel
theorem dX10_heir_12 : decode cX10_heir 12 = .ok (.iconst (-1), 1) := by decide +kernel
theorem dX10_heir_13 : decode cX10_heir 13 = .ok (.if_icmp .ne 11, 3) := by decide +kernel
theorem dX10_heir_16 : decode cX10_heir 16 = .ok (.aload_n 0, 1) := by decide +kernel
theorem dX10_heir_17 : decode cX10_heir 17 = .ok (.iconst 5, 1) := by decide +kernel
theorem dX10_heir_18 : decode cX10_heir 18 = .ok (.invokevirtual 66, 3) := by decide +kernel
theorem dX10_heir_21 : decode cX10_heir 21 = .ok (.goto 8, 3) := by decide +kernel
theorem dX10_heir_29 : decode cX10_heir 29 = .ok (.ireturn, 1) := by decide +kernel
theorem dX10_hops_0 : decode cX10_hops 0 = .ok (.aload_n 0, 1) := by decide +kernel
theorem dX10_hops_1 : decode cX10_hops 1 = .ok (.getfield 19, 3) := by decide +kernel
theorem dX10_hops_4 : decode cX10_hops 4 = .ok (.getfield 86, 3) := by decide +kernel
theorem dX10_hops_7 : decode cX10_hops 7 = .ok (.astore_n 3, 1) := by decide +kernel
theorem dX10_hops_8 : decode cX10_hops 8 = .ok (.aload_n 3, 1) := by decide +kernel
theorem dX10_hops_9 : decode cX10_hops 9 = .ok (.iload_n 1, 1) := by decide +kernel
theorem dX10_hops_10 : decode cX10_hops 10 = .ok (.invokevirtual 146, 3) := by decide +kernel
theorem dX10_hops_13 : decode cX10_hops 13 = .ok (.ifCond .eq 11, 3) := by decide +kernel
theorem dX10_hops_24 : decode cX10_hops 24 = .ok (.aload_n 0, 1) := by decide +kernel
theorem dX10_hops_25 : decode cX10_hops 25 = .ok (.iconst 2, 1) := by decide +kernel
theorem dX10_hops_26 : decode cX10_hops 26 = .ok (.invokevirtual 66, 3) := by decide +kernel
theorem dX10_hops_29 : decode cX10_hops 29 = .ok (.ireturn, 1) := by decide +kernel
theorem dX10_init_0 : decode cX10_init 0 = .ok (.aload_n 0, 1) := by decide +kernel
theorem dX10_init_1 : decode cX10_init 1 = .ok (.invokespecial 1, 3) := by decide +kernel
theorem dX10_init_4 : decode cX10_init 4 = .ok (.aload_n 0, 1) := by decide +kernel
theorem dX10_init_5 : decode cX10_init 5 = .ok (.new 7, 3) := by decide +kernel
theorem dX10_init_8 : decode cX10_init 8 = .ok (.dup, 1) := by decide +kernel
theorem dX10_init_9 : decode cX10_init 9 = .ok (.invokespecial 9, 3) := by decide +kernel
theorem dX10_init_12 : decode cX10_init 12 = .ok (.putfield 10, 3) := by decide +kernel
theorem dX10_init_15 : decode cX10_init 15 = .ok (.aload_n 0, 1) := by decide +kernel
theorem dX10_init_16 : decode cX10_init 16 = .ok (.new 16, 3) := by decide +kernel
theorem dX10_init_19 : decode cX10_init 19 = .ok (.dup, 1) := by decide +kernel
theorem dX10_init_20 : decode cX10_init 20 = .ok (.invokespecial 18, 3) := by decide +kernel
theorem dX10_init_23 : decode cX10_init 23 = .ok (.putfield 19, 3) := by decide +kernel
theorem dX10_init_26 : decode cX10_init 26 = .ok (.aload_n 0, 1) := by decide +kernel
theorem dX10_init_27 : decode cX10_init 27 = .ok (.new 16, 3) := by decide +kernel
theorem dX10_init_30 : decode cX10_init 30 = .ok (.dup, 1) := by decide +kernel
theorem dX10_init_31 : decode cX10_init 31 = .ok (.invokespecial 18, 3) := by decide +kernel
theorem dX10_init_34 : decode cX10_init 34 = .ok (.putfield 23, 3) := by decide +kernel
theorem dX10_init_37 : decode cX10_init 37 = .ok (.aload_n 0, 1) := by decide +kernel
theorem dX10_init_38 : decode cX10_init 38 = .ok (.new 26, 3) := by decide +kernel
theorem dX10_init_41 : decode cX10_init 41 = .ok (.dup, 1) := by decide +kernel
theorem dX10_init_42 : decode cX10_init 42 = .ok (.aload_n 0, 1) := by decide +kernel
theorem dX10_init_43 : decode cX10_init 43 = .ok (.getfield 19, 3) := by decide +kernel
theorem dX10_init_46 : decode cX10_init 46 = .ok (.aload_n 0, 1) := by decide +kernel
theorem dX10_init_47 : decode cX10_init 47 = .ok (.getfield 23, 3) := by decide +kernel
theorem dX10_init_50 : decode cX10_init 50 = .ok (.invokespecial 28, 3) := by decide +kernel
theorem dX10_init_53 : decode cX10_init 53 = .ok (.putfield 31, 3) := by decide +kernel
theorem dX10_init_56 : decode cX10_init 56 = .ok (.aload_n 0, 1) := by decide +kernel
theorem dX10_init_57 : decode cX10_init 57 = .ok (.new 35, 3) := by decide +kernel
theorem dX10_init_60 : decode cX10_init 60 = .ok (.dup, 1) := by decide +kernel
theorem dX10_init_61 : decode cX10_init 61 = .ok (.aload_n 0, 1) := by decide +kernel
theorem dX10_init_62 : decode cX10_init 62 = .ok (.getfield 10, 3) := by decide +kernel
theorem dX10_init_65 : decode cX10_init 65 = .ok (.aload_n 0, 1) := by decide +kernel
theorem dX10_init_66 : decode cX10_init 66 = .ok (.getfield 23, 3) := by decide +kernel
theorem dX10_init_69 : decode cX10_init 69 = .ok (.invokespecial 37, 3) := by decide +kernel
theorem dX10_init_72 : decode cX10_init 72 = .ok (.putfield 40, 3) := by decide +kernel
theorem dX10_init_75 : decode cX10_init 75 = .ok (.aload_n 0, 1) := by decide +kernel
theorem dX10_init_76 : decode cX10_init 76 = .ok (.iconst 4, 1) := by decide +kernel
theorem dX10_init_77 : decode cX10_init 77 = .ok (.anewarray 16, 3) := by decide +kernel
theorem dX10_init_80 : decode cX10_init 80 = .ok (.putfield 44, 3) := by decide +kernel
theorem dX10_init_83 : decode cX10_init 83 = .ok (.aload_n 0, 1) := by decide +kernel
theorem dX10_init_84 : decode cX10_init 84 = .ok (.iconst 4, 1) := by decide +kernel
theorem dX10_init_85 : decode cX10_init 85 = .ok (.anewarray 7, 3) := by decide +kernel
theorem dX10_init_88 : decode cX10_init 88 = .ok (.putfield 48, 3) := by decide +kernel
theorem dX10_init_91 : decode cX10_init 91 = .ok (.iconst 0, 1) := by decide +kernel
theorem dX10_init_92 : decode cX10_init 92 = .ok (.istore_n 1, 1) := by decide +kernel
theorem dX10_init_93 : decode cX10_init 93 = .ok (.iload_n 1, 1) := by decide +kernel
theorem dX10_init_94 : decode cX10_init 94 = .ok (.iconst 4, 1) := by decide +kernel
theorem dX10_init_95 : decode cX10_init 95 = .ok (.if_icmp .ge 35, 3) := by decide +kernel
theorem dX10_init_98 : decode cX10_init 98 = .ok (.aload_n 0, 1) := by decide +kernel
theorem dX10_init_99 : decode cX10_init 99 = .ok (.getfield 44, 3) := by decide +kernel
theorem dX10_init_102 : decode cX10_init 102 = .ok (.iload_n 1, 1) := by decide +kernel
theorem dX10_init_103 : decode cX10_init 103 = .ok (.new 16, 3) := by decide +kernel
theorem dX10_init_106 : decode cX10_init 106 = .ok (.dup, 1) := by decide +kernel
theorem dX10_init_107 : decode cX10_init 107 = .ok (.invokespecial 18, 3) := by decide +kernel
theorem dX10_init_110 : decode cX10_init 110 = .ok (.aastore, 1) := by decide +kernel
theorem dX10_init_111 : decode cX10_init 111 = .ok (.aload_n 0, 1) := by decide +kernel
theorem dX10_init_112 : decode cX10_init 112 = .ok (.getfield 48, 3) := by decide +kernel
theorem dX10_init_115 : decode cX10_init 115 = .ok (.iload_n 1, 1) := by decide +kernel
theorem dX10_init_116 : decode cX10_init 116 = .ok (.new 7, 3) := by decide +kernel
theorem dX10_init_119 : decode cX10_init 119 = .ok (.dup, 1) := by decide +kernel
theorem dX10_init_120 : decode cX10_init 120 = .ok (.invokespecial 9, 3) := by decide +kernel
theorem dX10_init_123 : decode cX10_init 123 = .ok (.aastore, 1) := by decide +kernel
theorem dX10_init_124 : decode cX10_init 124 = .ok (.iinc 1 1, 3) := by decide +kernel
theorem dX10_init_127 : decode cX10_init 127 = .ok (.goto (-34), 3) := by decide +kernel
theorem dX10_init_130 : decode cX10_init 130 = .ok (.aload_n 0, 1) := by decide +kernel
theorem dX10_init_131 : decode cX10_init 131 = .ok (.iconst 0, 1) := by decide +kernel
theorem dX10_init_132 : decode cX10_init 132 = .ok (.putfield 52, 3) := by decide +kernel
theorem dX10_init_135 : decode cX10_init 135 = .ok (.aload_n 0, 1) := by decide +kernel
theorem dX10_init_136 : decode cX10_init 136 = .ok (.iconst 0, 1) := by decide +kernel
theorem dX10_init_137 : decode cX10_init 137 = .ok (.putfield 56, 3) := by decide +kernel
theorem dX10_init_140 : decode cX10_init 140 = .ok (.return_, 1) := by decide +kernel
theorem dX10_load_0 : decode cX10_load 0 = .ok (.iload_n 1, 1) := by decide +kernel
theorem dX10_load_1 : decode cX10_load 1 = .ok (.ifCond .lt 14, 3) := by decide +kernel
theorem dX10_load_4 : decode cX10_load 4 = .ok (.iload_n 1, 1) := by decide +kernel
theorem dX10_load_5 : decode cX10_load 5 = .ok (.aload_n 0, 1) := by decide +kernel
theorem dX10_load_6 : decode cX10_load 6 = .ok (.getfield 10, 3) := by decide +kernel
theorem dX10_load_9 : decode cX10_load 9 = .ok (.getfield 59, 3) := by decide +kernel
theorem dX10_load_12 : decode cX10_load 12 = .ok (.if_icmp .le 9, 3) := by decide +kernel
theorem dX10_load_15 : decode cX10_load 15 = .ok (.aload_n 0, 1) := by decide +kernel
theorem dX10_load_16 : decode cX10_load 16 = .ok (.iconst 1, 1) := by decide +kernel
theorem dX10_load_17 : decode cX10_load 17 = .ok (.invokevirtual 66, 3) := by decide +kernel
theorem dX10_load_20 : decode cX10_load 20 = .ok (.ireturn, 1) := by decide +kernel
theorem dX10_load_21 : decode cX10_load 21 = .ok (.aload_n 0, 1) := by decide +kernel
theorem dX10_load_22 : decode cX10_load 22 = .ok (.getfield 40, 3) := by decide +kernel
theorem dX10_load_25 : decode cX10_load 25 = .ok (.iload_n 1, 1) := by decide +kernel
theorem dX10_load_26 : decode cX10_load 26 = .ok (.invokevirtual 70, 3) := by decide +kernel
theorem dX10_load_29 : decode cX10_load 29 = .ok (.istore_n 2, 1) := by decide +kernel
theorem dX10_load_30 : decode cX10_load 30 = .ok (.aload_n 0, 1) := by decide +kernel
theorem dX10_load_31 : decode cX10_load 31 = .ok (.getfield 10, 3) := by decide +kernel
theorem dX10_load_34 : decode cX10_load 34 = .ok (.iconst 0, 1) := by decide +kernel
theorem dX10_load_35 : decode cX10_load 35 = .ok (.putfield 59, 3) := by decide +kernel
theorem dX10_load_38 : decode cX10_load 38 = .ok (.aload_n 0, 1) := by decide +kernel
theorem dX10_load_39 : decode cX10_load 39 = .ok (.getfield 10, 3) := by decide +kernel
theorem dX10_load_42 : decode cX10_load 42 = .ok (.aload_n 0, 1) := by decide +kernel
theorem dX10_load_43 : decode cX10_load 43 = .ok (.getfield 40, 3) := by decide +kernel
theorem dX10_load_46 : decode cX10_load 46 = .ok (.getfield 74, 3) := by decide +kernel
theorem dX10_load_49 : decode cX10_load 49 = .ok (.putfield 77, 3) := by decide +kernel
theorem dX10_load_52 : decode cX10_load 52 = .ok (.aload_n 0, 1) := by decide +kernel
theorem dX10_load_53 : decode cX10_load 53 = .ok (.getfield 10, 3) := by decide +kernel
theorem dX10_load_56 : decode cX10_load 56 = .ok (.aload_n 0, 1) := by decide +kernel
theorem dX10_load_57 : decode cX10_load 57 = .ok (.getfield 40, 3) := by decide +kernel
theorem dX10_load_60 : decode cX10_load 60 = .ok (.getfield 78, 3) := by decide +kernel
theorem dX10_load_63 : decode cX10_load 63 = .ok (.putfield 81, 3) := by decide +kernel
theorem dX10_load_66 : decode cX10_load 66 = .ok (.iload_n 2, 1) := by decide +kernel
theorem dX10_load_67 : decode cX10_load 67 = .ok (.ifCond .ne 10, 3) := by decide +kernel
theorem dX10_load_77 : decode cX10_load 77 = .ok (.aload_n 0, 1) := by decide +kernel
theorem dX10_load_78 : decode cX10_load 78 = .ok (.getfield 19, 3) := by decide +kernel
theorem dX10_load_81 : decode cX10_load 81 = .ok (.aload_n 0, 1) := by decide +kernel
theorem dX10_load_82 : decode cX10_load 82 = .ok (.getfield 23, 3) := by decide +kernel
theorem dX10_load_85 : decode cX10_load 85 = .ok (.invokevirtual 82, 3) := by decide +kernel
theorem dX10_load_88 : decode cX10_load 88 = .ok (.aload_n 0, 1) := by decide +kernel
theorem dX10_load_89 : decode cX10_load 89 = .ok (.aload_n 0, 1) := by decide +kernel
theorem dX10_load_90 : decode cX10_load 90 = .ok (.getfield 19, 3) := by decide +kernel
theorem dX10_load_93 : decode cX10_load 93 = .ok (.getfield 86, 3) := by decide +kernel
theorem dX10_load_96 : decode cX10_load 96 = .ok (.getfield 90, 3) := by decide +kernel
theorem dX10_load_99 : decode cX10_load 99 = .ok (.invokevirtual 95, 3) := by decide +kernel
theorem dX10_load_102 : decode cX10_load 102 = .ok (.ireturn, 1) := by decide +kernel
theorem dX10_lose_0 : decode cX10_lose 0 = .ok (.aload_n 0, 1) := by decide +kernel
theorem dX10_lose_1 : decode cX10_lose 1 = .ok (.getfield 19, 3) := by decide +kernel
theorem dX10_lose_4 : decode cX10_lose 4 = .ok (.getfield 120, 3) := by decide +kernel
theorem dX10_lose_7 : decode cX10_lose 7 = .ok (.getfield 124, 3) := by decide +kernel
theorem dX10_lose_10 : decode cX10_lose 10 = .ok (.ifCond .ne 10, 3) := by decide +kernel
theorem dX10_lose_13 : decode cX10_lose 13 = .ok (.aload_n 0, 1) := by decide +kernel
theorem dX10_lose_14 : decode cX10_lose 14 = .ok (.bipush 6, 2) := by decide +kernel
theorem dX10_lose_16 : decode cX10_lose 16 = .ok (.invokevirtual 258, 3) := by decide +kernel
theorem dX10_lose_19 : decode cX10_lose 19 = .ok (.ireturn, 1) := by decide +kernel
theorem dX10_lowered_0 : decode cX10_lowered 0 = .ok (.aload_n 0, 1) := by decide +kernel
theorem dX10_lowered_1 : decode cX10_lowered 1 = .ok (.aload_n 0, 1) := by decide +kernel
theorem dX10_lowered_2 : decode cX10_lowered 2 = .ok (.getfield 31, 3) := by decide +kernel
theorem dX10_lowered_5 : decode cX10_lowered 5 = .ok (.iconst 2, 1) := by decide +kernel
theorem dX10_lowered_6 : decode cX10_lowered 6 = .ok (.iconst (-1), 1) := by decide +kernel
theorem dX10_lowered_7 : decode cX10_lowered 7 = .ok (.iconst 0, 1) := by decide +kernel
theorem dX10_lowered_8 : decode cX10_lowered 8 = .ok (.invokevirtual 296, 3) := by decide +kernel
theorem dX10_lowered_11 : decode cX10_lowered 11 = .ok (.invokevirtual 300, 3) := by decide +kernel
theorem dX10_lowered_14 : decode cX10_lowered 14 = .ok (.ireturn, 1) := by decide +kernel
theorem dX10_many_0 : decode cX10_many 0 = .ok (.aload_n 0, 1) := by decide +kernel
theorem dX10_many_1 : decode cX10_many 1 = .ok (.getfield 19, 3) := by decide +kernel
theorem dX10_many_4 : decode cX10_many 4 = .ok (.getfield 86, 3) := by decide +kernel
theorem dX10_many_7 : decode cX10_many 7 = .ok (.astore_n 2, 1) := by decide +kernel
theorem dX10_many_8 : decode cX10_many 8 = .ok (.iload_n 1, 1) := by decide +kernel
theorem dX10_many_9 : decode cX10_many 9 = .ok (.tableswitch 201 0 10 #[59, 68, 77, 86, 101, 113, 125, 157, 166, 183, 192], 59) := by decide +kernel
theorem dX10_many_68 : decode cX10_many 68 = .ok (.aload_n 0, 1) := by decide +kernel
theorem dX10_many_69 : decode cX10_many 69 = .ok (.aload_n 2, 1) := by decide +kernel
theorem dX10_many_70 : decode cX10_many 70 = .ok (.getfield 90, 3) := by decide +kernel
theorem dX10_many_73 : decode cX10_many 73 = .ok (.invokevirtual 95, 3) := by decide +kernel
theorem dX10_many_76 : decode cX10_many 76 = .ok (.ireturn, 1) := by decide +kernel
theorem dX10_many_77 : decode cX10_many 77 = .ok (.aload_n 0, 1) := by decide +kernel
theorem dX10_many_78 : decode cX10_many 78 = .ok (.aload_n 2, 1) := by decide +kernel
theorem dX10_many_79 : decode cX10_many 79 = .ok (.invokevirtual 98, 3) := by decide +kernel
theorem dX10_many_82 : decode cX10_many 82 = .ok (.invokevirtual 95, 3) := by decide +kernel
theorem dX10_many_85 : decode cX10_many 85 = .ok (.ireturn, 1) := by decide +kernel
theorem dX10_many_86 : decode cX10_many 86 = .ok (.aload_n 0, 1) := by decide +kernel
theorem dX10_many_87 : decode cX10_many 87 = .ok (.aload_n 2, 1) := by decide +kernel
theorem dX10_many_88 : decode cX10_many 88 = .ok (.getfield 102, 3) := by decide +kernel
theorem dX10_many_91 : decode cX10_many 91 = .ok (.invokevirtual 95, 3) := by decide +kernel
theorem dX10_many_94 : decode cX10_many 94 = .ok (.ireturn, 1) := by decide +kernel
theorem dX10_many_95 : decode cX10_many 95 = .ok (.aload_n 0, 1) := by decide +kernel
theorem dX10_many_96 : decode cX10_many 96 = .ok (.aload_n 0, 1) := by decide +kernel
theorem dX10_many_97 : decode cX10_many 97 = .ok (.getfield 19, 3) := by decide +kernel
theorem dX10_many_100 : decode cX10_many 100 = .ok (.getfield 105, 3) := by decide +kernel
theorem dX10_many_103 : decode cX10_many 103 = .ok (.invokevirtual 109, 3) := by decide +kernel
theorem dX10_many_106 : decode cX10_many 106 = .ok (.invokevirtual 95, 3) := by decide +kernel
theorem dX10_many_109 : decode cX10_many 109 = .ok (.ireturn, 1) := by decide +kernel
theorem dX10_many_110 : decode cX10_many 110 = .ok (.aload_n 0, 1) := by decide +kernel
theorem dX10_many_111 : decode cX10_many 111 = .ok (.aload_n 0, 1) := by decide +kernel
theorem dX10_many_112 : decode cX10_many 112 = .ok (.getfield 19, 3) := by decide +kernel
theorem dX10_many_115 : decode cX10_many 115 = .ok (.getfield 114, 3) := by decide +kernel
theorem dX10_many_118 : decode cX10_many 118 = .ok (.invokevirtual 95, 3) := by decide +kernel
theorem dX10_many_121 : decode cX10_many 121 = .ok (.ireturn, 1) := by decide +kernel
theorem dX10_many_122 : decode cX10_many 122 = .ok (.aload_n 0, 1) := by decide +kernel
theorem dX10_many_123 : decode cX10_many 123 = .ok (.aload_n 0, 1) := by decide +kernel
theorem dX10_many_124 : decode cX10_many 124 = .ok (.getfield 19, 3) := by decide +kernel
theorem dX10_many_127 : decode cX10_many 127 = .ok (.getfield 117, 3) := by decide +kernel
theorem dX10_many_130 : decode cX10_many 130 = .ok (.invokevirtual 95, 3) := by decide +kernel
theorem dX10_many_133 : decode cX10_many 133 = .ok (.ireturn, 1) := by decide +kernel
theorem dX10_many_134 : decode cX10_many 134 = .ok (.aload_n 0, 1) := by decide +kernel
theorem dX10_many_135 : decode cX10_many 135 = .ok (.aload_n 0, 1) := by decide +kernel
theorem dX10_many_136 : decode cX10_many 136 = .ok (.getfield 19, 3) := by decide +kernel
theorem dX10_many_139 : decode cX10_many 139 = .ok (.getfield 120, 3) := by decide +kernel
theorem dX10_many_142 : decode cX10_many 142 = .ok (.getfield 124, 3) := by decide +kernel
theorem dX10_many_145 : decode cX10_many 145 = .ok (.ifCond .ne 16, 3) := by decide +kernel
theorem dX10_many_148 : decode cX10_many 148 = .ok (.aload_n 0, 1) := by decide +kernel
theorem dX10_many_149 : decode cX10_many 149 = .ok (.getfield 19, 3) := by decide +kernel
theorem dX10_many_152 : decode cX10_many 152 = .ok (.getfield 129, 3) := by decide +kernel
theorem dX10_many_155 : decode cX10_many 155 = .ok (.getfield 133, 3) := by decide +kernel
theorem dX10_many_158 : decode cX10_many 158 = .ok (.goto 4, 3) := by decide +kernel
theorem dX10_many_162 : decode cX10_many 162 = .ok (.invokevirtual 95, 3) := by decide +kernel
theorem dX10_many_165 : decode cX10_many 165 = .ok (.ireturn, 1) := by decide +kernel
theorem dX10_many_166 : decode cX10_many 166 = .ok (.aload_n 0, 1) := by decide +kernel
theorem dX10_many_167 : decode cX10_many 167 = .ok (.aload_n 0, 1) := by decide +kernel
theorem dX10_many_168 : decode cX10_many 168 = .ok (.getfield 52, 3) := by decide +kernel
theorem dX10_many_171 : decode cX10_many 171 = .ok (.invokevirtual 95, 3) := by decide +kernel
theorem dX10_many_174 : decode cX10_many 174 = .ok (.ireturn, 1) := by decide +kernel
theorem dX10_many_175 : decode cX10_many 175 = .ok (.aload_n 0, 1) := by decide +kernel
theorem dX10_many_176 : decode cX10_many 176 = .ok (.aload_n 2, 1) := by decide +kernel
theorem dX10_many_177 : decode cX10_many 177 = .ok (.invokevirtual 136, 3) := by decide +kernel
theorem dX10_many_180 : decode cX10_many 180 = .ok (.ifCond .eq 7, 3) := by decide +kernel
theorem dX10_many_187 : decode cX10_many 187 = .ok (.iconst 0, 1) := by decide +kernel
theorem dX10_many_188 : decode cX10_many 188 = .ok (.invokevirtual 95, 3) := by decide +kernel
theorem dX10_many_191 : decode cX10_many 191 = .ok (.ireturn, 1) := by decide +kernel
theorem dX10_many_192 : decode cX10_many 192 = .ok (.aload_n 0, 1) := by decide +kernel
theorem dX10_many_193 : decode cX10_many 193 = .ok (.aload_n 2, 1) := by decide +kernel
theorem dX10_many_194 : decode cX10_many 194 = .ok (.getfield 140, 3) := by decide +kernel
theorem dX10_many_197 : decode cX10_many 197 = .ok (.invokevirtual 95, 3) := by decide +kernel
theorem dX10_many_200 : decode cX10_many 200 = .ok (.ireturn, 1) := by decide +kernel
theorem dX10_many_201 : decode cX10_many 201 = .ok (.aload_n 0, 1) := by decide +kernel
theorem dX10_many_202 : decode cX10_many 202 = .ok (.aload_n 2, 1) := by decide +kernel
theorem dX10_many_203 : decode cX10_many 203 = .ok (.getfield 143, 3) := by decide +kernel
theorem dX10_many_206 : decode cX10_many 206 = .ok (.invokevirtual 95, 3) := by decide +kernel
theorem dX10_many_209 : decode cX10_many 209 = .ok (.ireturn, 1) := by decide +kernel
theorem dX10_many_210 : decode cX10_many 210 = .ok (.aload_n 0, 1) := by decide +kernel
theorem dX10_many_211 : decode cX10_many 211 = .ok (.iconst 1, 1) := by decide +kernel
theorem dX10_many_212 : decode cX10_many 212 = .ok (.invokevirtual 66, 3) := by decide +kernel
theorem dX10_many_215 : decode cX10_many 215 = .ok (.ireturn, 1) := by decide +kernel
theorem dX10_mark_0 : decode cX10_mark 0 = .ok (.aload_n 0, 1) := by decide +kernel
theorem dX10_mark_1 : decode cX10_mark 1 = .ok (.getfield 52, 3) := by decide +kernel
theorem dX10_mark_4 : decode cX10_mark 4 = .ok (.ifCond .lt 11, 3) := by decide +kernel
theorem dX10_mark_7 : decode cX10_mark 7 = .ok (.aload_n 0, 1) := by decide +kernel
theorem dX10_mark_8 : decode cX10_mark 8 = .ok (.getfield 52, 3) := by decide +kernel
theorem dX10_mark_11 : decode cX10_mark 11 = .ok (.iconst 4, 1) := by decide +kernel
theorem dX10_mark_12 : decode cX10_mark 12 = .ok (.if_icmp .lt 9, 3) := by decide +kernel
theorem dX10_mark_21 : decode cX10_mark 21 = .ok (.aload_n 0, 1) := by decide +kernel
theorem dX10_mark_22 : decode cX10_mark 22 = .ok (.getfield 44, 3) := by decide +kernel
theorem dX10_mark_25 : decode cX10_mark 25 = .ok (.aload_n 0, 1) := by decide +kernel
theorem dX10_mark_26 : decode cX10_mark 26 = .ok (.getfield 52, 3) := by decide +kernel
theorem dX10_mark_29 : decode cX10_mark 29 = .ok (.aaload, 1) := by decide +kernel
theorem dX10_mark_30 : decode cX10_mark 30 = .ok (.aload_n 0, 1) := by decide +kernel
theorem dX10_mark_31 : decode cX10_mark 31 = .ok (.getfield 19, 3) := by decide +kernel
theorem dX10_mark_34 : decode cX10_mark 34 = .ok (.invokevirtual 82, 3) := by decide +kernel
theorem dX10_mark_37 : decode cX10_mark 37 = .ok (.aload_n 0, 1) := by decide +kernel
theorem dX10_mark_38 : decode cX10_mark 38 = .ok (.getfield 48, 3) := by decide +kernel
theorem dX10_mark_41 : decode cX10_mark 41 = .ok (.aload_n 0, 1) := by decide +kernel
theorem dX10_mark_42 : decode cX10_mark 42 = .ok (.getfield 52, 3) := by decide +kernel
theorem dX10_mark_45 : decode cX10_mark 45 = .ok (.aaload, 1) := by decide +kernel
theorem dX10_mark_46 : decode cX10_mark 46 = .ok (.aload_n 0, 1) := by decide +kernel
theorem dX10_mark_47 : decode cX10_mark 47 = .ok (.getfield 10, 3) := by decide +kernel
theorem dX10_mark_50 : decode cX10_mark 50 = .ok (.invokevirtual 293, 3) := by decide +kernel
theorem dX10_mark_53 : decode cX10_mark 53 = .ok (.aload_n 0, 1) := by decide +kernel
theorem dX10_mark_54 : decode cX10_mark 54 = .ok (.dup, 1) := by decide +kernel
theorem dX10_mark_55 : decode cX10_mark 55 = .ok (.getfield 52, 3) := by decide +kernel
theorem dX10_mark_58 : decode cX10_mark 58 = .ok (.iconst 1, 1) := by decide +kernel
theorem dX10_mark_59 : decode cX10_mark 59 = .ok (.iadd, 1) := by decide +kernel
theorem dX10_mark_60 : decode cX10_mark 60 = .ok (.putfield 52, 3) := by decide +kernel
theorem dX10_mark_63 : decode cX10_mark 63 = .ok (.aload_n 0, 1) := by decide +kernel
theorem dX10_mark_64 : decode cX10_mark 64 = .ok (.aload_n 0, 1) := by decide +kernel
theorem dX10_mark_65 : decode cX10_mark 65 = .ok (.getfield 52, 3) := by decide +kernel
theorem dX10_mark_68 : decode cX10_mark 68 = .ok (.invokevirtual 95, 3) := by decide +kernel
theorem dX10_mark_71 : decode cX10_mark 71 = .ok (.ireturn, 1) := by decide +kernel
theorem dX10_mend_0 : decode cX10_mend 0 = .ok (.aload_n 0, 1) := by decide +kernel
theorem dX10_mend_1 : decode cX10_mend 1 = .ok (.getfield 19, 3) := by decide +kernel
theorem dX10_mend_4 : decode cX10_mend 4 = .ok (.getfield 86, 3) := by decide +kernel
theorem dX10_mend_7 : decode cX10_mend 7 = .ok (.getfield 140, 3) := by decide +kernel
theorem dX10_mend_10 : decode cX10_mend 10 = .ok (.iconst (-1), 1) := by decide +kernel
theorem dX10_mend_11 : decode cX10_mend 11 = .ok (.if_icmp .ne 9, 3) := by decide +kernel
theorem dX10_mend_14 : decode cX10_mend 14 = .ok (.aload_n 0, 1) := by decide +kernel
theorem dX10_mend_15 : decode cX10_mend 15 = .ok (.iconst 5, 1) := by decide +kernel
theorem dX10_mend_16 : decode cX10_mend 16 = .ok (.invokevirtual 258, 3) := by decide +kernel
theorem dX10_mend_19 : decode cX10_mend 19 = .ok (.ireturn, 1) := by decide +kernel
theorem dX10_monitor_0 : decode cX10_monitor 0 = .ok (.aload_n 0, 1) := by decide +kernel
theorem dX10_monitor_1 : decode cX10_monitor 1 = .ok (.getfield 19, 3) := by decide +kernel
theorem dX10_monitor_4 : decode cX10_monitor 4 = .ok (.getfield 86, 3) := by decide +kernel
theorem dX10_monitor_7 : decode cX10_monitor 7 = .ok (.iload_n 1, 1) := by decide +kernel
theorem dX10_monitor_8 : decode cX10_monitor 8 = .ok (.invokevirtual 146, 3) := by decide +kernel
theorem dX10_monitor_11 : decode cX10_monitor 11 = .ok (.ifCond .ne 9, 3) := by decide +kernel
theorem dX10_monitor_14 : decode cX10_monitor 14 = .ok (.aload_n 0, 1) := by decide +kernel
theorem dX10_monitor_15 : decode cX10_monitor 15 = .ok (.iconst 2, 1) := by decide +kernel
theorem dX10_monitor_16 : decode cX10_monitor 16 = .ok (.invokevirtual 258, 3) := by decide +kernel
theorem dX10_monitor_19 : decode cX10_monitor 19 = .ok (.ireturn, 1) := by decide +kernel
theorem dX10_next_0 : decode cX10_next 0 = .ok (.iload_n 1, 1) := by decide +kernel
theorem dX10_next_1 : decode cX10_next 1 = .ok (.ifCond .ge 9, 3) := by decide +kernel
theorem dX10_next_4 : decode cX10_next 4 = .ok (.aload_n 0, 1) := by decide +kernel
theorem dX10_next_5 : decode cX10_next 5 = .ok (.iconst 1, 1) := by decide +kernel
theorem dX10_next_6 : decode cX10_next 6 = .ok (.invokevirtual 66, 3) := by decide +kernel
theorem dX10_next_9 : decode cX10_next 9 = .ok (.ireturn, 1) := by decide +kernel
theorem dX10_next_10 : decode cX10_next 10 = .ok (.aload_n 0, 1) := by decide +kernel
theorem dX10_next_11 : decode cX10_next 11 = .ok (.aload_n 0, 1) := by decide +kernel
theorem dX10_next_12 : decode cX10_next 12 = .ok (.getfield 31, 3) := by decide +kernel
theorem dX10_next_15 : decode cX10_next 15 = .ok (.iload_n 1, 1) := by decide +kernel
theorem dX10_next_16 : decode cX10_next 16 = .ok (.iload_n 2, 1) := by decide +kernel
theorem dX10_next_17 : decode cX10_next 17 = .ok (.invokevirtual 306, 3) := by decide +kernel
theorem dX10_next_20 : decode cX10_next 20 = .ok (.invokevirtual 300, 3) := by decide +kernel
theorem dX10_next_23 : decode cX10_next 23 = .ok (.ireturn, 1) := by decide +kernel
theorem dX10_notice_0 : decode cX10_notice 0 = .ok (.aload_n 0, 1) := by decide +kernel
theorem dX10_notice_1 : decode cX10_notice 1 = .ok (.getfield 19, 3) := by decide +kernel
theorem dX10_notice_4 : decode cX10_notice 4 = .ok (.getfield 86, 3) := by decide +kernel
theorem dX10_notice_7 : decode cX10_notice 7 = .ok (.invokevirtual 136, 3) := by decide +kernel
theorem dX10_notice_10 : decode cX10_notice 10 = .ok (.ifCond .eq 9, 3) := by decide +kernel
theorem dX10_notice_19 : decode cX10_notice 19 = .ok (.aload_n 0, 1) := by decide +kernel
theorem dX10_notice_20 : decode cX10_notice 20 = .ok (.getfield 19, 3) := by decide +kernel
theorem dX10_notice_23 : decode cX10_notice 23 = .ok (.getfield 86, 3) := by decide +kernel
theorem dX10_notice_26 : decode cX10_notice 26 = .ok (.invokevirtual 284, 3) := by decide +kernel
theorem dX10_notice_29 : decode cX10_notice 29 = .ok (.ifCond .ne 9, 3) := by decide +kernel
theorem dX10_notice_32 : decode cX10_notice 32 = .ok (.aload_n 0, 1) := by decide +kernel
theorem dX10_notice_33 : decode cX10_notice 33 = .ok (.iconst 5, 1) := by decide +kernel
theorem dX10_notice_34 : decode cX10_notice 34 = .ok (.invokevirtual 66, 3) := by decide +kernel
theorem dX10_notice_37 : decode cX10_notice 37 = .ok (.ireturn, 1) := by decide +kernel
theorem dX10_off_0 : decode cX10_off 0 = .ok (.aload_n 0, 1) := by decide +kernel
theorem dX10_off_1 : decode cX10_off 1 = .ok (.getfield 19, 3) := by decide +kernel
theorem dX10_off_4 : decode cX10_off 4 = .ok (.getfield 86, 3) := by decide +kernel
theorem dX10_off_7 : decode cX10_off 7 = .ok (.iload_n 1, 1) := by decide +kernel
theorem dX10_off_8 : decode cX10_off 8 = .ok (.invokevirtual 146, 3) := by decide +kernel
theorem dX10_off_11 : decode cX10_off 11 = .ok (.ifCond .ne 9, 3) := by decide +kernel
theorem dX10_off_14 : decode cX10_off 14 = .ok (.aload_n 0, 1) := by decide +kernel
theorem dX10_off_15 : decode cX10_off 15 = .ok (.iconst 2, 1) := by decide +kernel
theorem dX10_off_16 : decode cX10_off 16 = .ok (.invokevirtual 258, 3) := by decide +kernel
theorem dX10_off_19 : decode cX10_off 19 = .ok (.ireturn, 1) := by decide +kernel
theorem dX10_on_0 : decode cX10_on 0 = .ok (.aload_n 0, 1) := by decide +kernel
theorem dX10_on_1 : decode cX10_on 1 = .ok (.getfield 19, 3) := by decide +kernel
theorem dX10_on_4 : decode cX10_on 4 = .ok (.getfield 86, 3) := by decide +kernel
theorem dX10_on_7 : decode cX10_on 7 = .ok (.iload_n 1, 1) := by decide +kernel
theorem dX10_on_8 : decode cX10_on 8 = .ok (.invokevirtual 146, 3) := by decide +kernel
theorem dX10_on_11 : decode cX10_on 11 = .ok (.ifCond .ne 9, 3) := by decide +kernel
theorem dX10_on_14 : decode cX10_on 14 = .ok (.aload_n 0, 1) := by decide +kernel
theorem dX10_on_15 : decode cX10_on 15 = .ok (.iconst 2, 1) := by decide +kernel
theorem dX10_on_16 : decode cX10_on 16 = .ok (.invokevirtual 258, 3) := by decide +kernel
theorem dX10_on_19 : decode cX10_on 19 = .ok (.ireturn, 1) := by decide +kernel
theorem dX10_peak_0 : decode cX10_peak 0 = .ok (.aload_n 0, 1) := by decide +kernel
theorem dX10_peak_1 : decode cX10_peak 1 = .ok (.aload_n 0, 1) := by decide +kernel
theorem dX10_peak_2 : decode cX10_peak 2 = .ok (.getfield 31, 3) := by decide +kernel
theorem dX10_peak_5 : decode cX10_peak 5 = .ok (.invokevirtual 310, 3) := by decide +kernel
theorem dX10_peak_8 : decode cX10_peak 8 = .ok (.invokevirtual 300, 3) := by decide +kernel
theorem dX10_peak_11 : decode cX10_peak 11 = .ok (.ireturn, 1) := by decide +kernel
theorem dX10_purged_0 : decode cX10_purged 0 = .ok (.aload_n 0, 1) := by decide +kernel
theorem dX10_purged_1 : decode cX10_purged 1 = .ok (.aload_n 0, 1) := by decide +kernel
theorem dX10_purged_2 : decode cX10_purged 2 = .ok (.getfield 31, 3) := by decide +kernel
theorem dX10_purged_5 : decode cX10_purged 5 = .ok (.iconst 4, 1) := by decide +kernel
theorem dX10_purged_6 : decode cX10_purged 6 = .ok (.iconst (-1), 1) := by decide +kernel
theorem dX10_purged_7 : decode cX10_purged 7 = .ok (.iconst 0, 1) := by decide +kernel
theorem dX10_purged_8 : decode cX10_purged 8 = .ok (.invokevirtual 296, 3) := by decide +kernel
theorem dX10_purged_11 : decode cX10_purged 11 = .ok (.invokevirtual 300, 3) := by decide +kernel
theorem dX10_purged_14 : decode cX10_purged 14 = .ok (.ireturn, 1) := by decide +kernel
theorem dX10_quiet_0 : decode cX10_quiet 0 = .ok (.aload_n 0, 1) := by decide +kernel
theorem dX10_quiet_1 : decode cX10_quiet 1 = .ok (.aload_n 0, 1) := by decide +kernel
theorem dX10_quiet_2 : decode cX10_quiet 2 = .ok (.getfield 31, 3) := by decide +kernel
theorem dX10_quiet_5 : decode cX10_quiet 5 = .ok (.iconst 0, 1) := by decide +kernel
theorem dX10_quiet_6 : decode cX10_quiet 6 = .ok (.iconst (-1), 1) := by decide +kernel
theorem dX10_quiet_7 : decode cX10_quiet 7 = .ok (.iload_n 1, 1) := by decide +kernel
theorem dX10_quiet_8 : decode cX10_quiet 8 = .ok (.invokevirtual 296, 3) := by decide +kernel
theorem dX10_quiet_11 : decode cX10_quiet 11 = .ok (.invokevirtual 300, 3) := by decide +kernel
theorem dX10_quiet_14 : decode cX10_quiet 14 = .ok (.ireturn, 1) := by decide +kernel
theorem dX10_raise_0 : decode cX10_raise 0 = .ok (.iload_n 2, 1) := by decide +kernel
theorem dX10_raise_1 : decode cX10_raise 1 = .ok (.ifCond .lt 12, 3) := by decide +kernel
theorem dX10_raise_4 : decode cX10_raise 4 = .ok (.iload_n 3, 1) := by decide +kernel
theorem dX10_raise_5 : decode cX10_raise 5 = .ok (.ifCond .lt 8, 3) := by decide +kernel
theorem dX10_raise_8 : decode cX10_raise 8 = .ok (.iload_n 3, 1) := by decide +kernel
theorem dX10_raise_9 : decode cX10_raise 9 = .ok (.iconst 1, 1) := by decide +kernel
theorem dX10_raise_10 : decode cX10_raise 10 = .ok (.if_icmp .le 9, 3) := by decide +kernel
theorem dX10_raise_13 : decode cX10_raise 13 = .ok (.aload_n 0, 1) := by decide +kernel
theorem dX10_raise_14 : decode cX10_raise 14 = .ok (.iconst 1, 1) := by decide +kernel
theorem dX10_raise_15 : decode cX10_raise 15 = .ok (.invokevirtual 66, 3) := by decide +kernel
theorem dX10_raise_18 : decode cX10_raise 18 = .ok (.ireturn, 1) := by decide +kernel
theorem dX10_raise_19 : decode cX10_raise 19 = .ok (.aload_n 0, 1) := by decide +kernel
theorem dX10_raise_20 : decode cX10_raise 20 = .ok (.getfield 19, 3) := by decide +kernel
theorem dX10_raise_23 : decode cX10_raise 23 = .ok (.getfield 86, 3) := by decide +kernel
theorem dX10_raise_26 : decode cX10_raise 26 = .ok (.iload_n 1, 1) := by decide +kernel
theorem dX10_raise_27 : decode cX10_raise 27 = .ok (.invokevirtual 146, 3) := by decide +kernel
theorem dX10_raise_30 : decode cX10_raise 30 = .ok (.ifCond .ne 9, 3) := by decide +kernel
theorem dX10_raise_33 : decode cX10_raise 33 = .ok (.aload_n 0, 1) := by decide +kernel
theorem dX10_raise_34 : decode cX10_raise 34 = .ok (.iconst 2, 1) := by decide +kernel
theorem dX10_raise_35 : decode cX10_raise 35 = .ok (.invokevirtual 66, 3) := by decide +kernel
theorem dX10_raise_38 : decode cX10_raise 38 = .ok (.ireturn, 1) := by decide +kernel
theorem dX10_ranks_0 : decode cX10_ranks 0 = .ok (.iload_n 1, 1) := by decide +kernel
theorem dX10_ranks_1 : decode cX10_ranks 1 = .ok (.ifCond .lt 18, 3) := by decide +kernel
theorem dX10_ranks_4 : decode cX10_ranks 4 = .ok (.iload_n 1, 1) := by decide +kernel
theorem dX10_ranks_5 : decode cX10_ranks 5 = .ok (.bipush 8, 2) := by decide +kernel
theorem dX10_ranks_7 : decode cX10_ranks 7 = .ok (.if_icmp .ge 12, 3) := by decide +kernel
theorem dX10_ranks_10 : decode cX10_ranks 10 = .ok (.iload_n 2, 1) := by decide +kernel
theorem dX10_ranks_11 : decode cX10_ranks 11 = .ok (.ifCond .lt 8, 3) := by decide +kernel
theorem dX10_ranks_14 : decode cX10_ranks 14 = .ok (.iload_n 2, 1) := by decide +kernel
theorem dX10_ranks_15 : decode cX10_ranks 15 = .ok (.iconst 2, 1) := by decide +kernel
theorem dX10_ranks_16 : decode cX10_ranks 16 = .ok (.if_icmp .le 9, 3) := by decide +kernel
theorem dX10_ranks_19 : decode cX10_ranks 19 = .ok (.aload_n 0, 1) := by decide +kernel
theorem dX10_ranks_20 : decode cX10_ranks 20 = .ok (.iconst 1, 1) := by decide +kernel
theorem dX10_ranks_21 : decode cX10_ranks 21 = .ok (.invokevirtual 66, 3) := by decide +kernel
theorem dX10_ranks_24 : decode cX10_ranks 24 = .ok (.ireturn, 1) := by decide +kernel
theorem dX10_ranks_25 : decode cX10_ranks 25 = .ok (.iload_n 2, 1) := by decide +kernel
theorem dX10_ranks_26 : decode cX10_ranks 26 = .ok (.ifCond .ne 19, 3) := by decide +kernel
theorem dX10_ranks_29 : decode cX10_ranks 29 = .ok (.aload_n 0, 1) := by decide +kernel
theorem dX10_ranks_30 : decode cX10_ranks 30 = .ok (.aload_n 0, 1) := by decide +kernel
theorem dX10_ranks_31 : decode cX10_ranks 31 = .ok (.getfield 19, 3) := by decide +kernel
theorem dX10_ranks_34 : decode cX10_ranks 34 = .ok (.getfield 105, 3) := by decide +kernel
theorem dX10_ranks_37 : decode cX10_ranks 37 = .ok (.iload_n 1, 1) := by decide +kernel
theorem dX10_ranks_38 : decode cX10_ranks 38 = .ok (.invokevirtual 213, 3) := by decide +kernel
theorem dX10_ranks_41 : decode cX10_ranks 41 = .ok (.invokevirtual 95, 3) := by decide +kernel
theorem dX10_ranks_44 : decode cX10_ranks 44 = .ok (.ireturn, 1) := by decide +kernel
theorem dX10_ranks_45 : decode cX10_ranks 45 = .ok (.aload_n 0, 1) := by decide +kernel
theorem dX10_ranks_46 : decode cX10_ranks 46 = .ok (.iload_n 2, 1) := by decide +kernel
theorem dX10_ranks_47 : decode cX10_ranks 47 = .ok (.iconst 1, 1) := by decide +kernel
theorem dX10_ranks_48 : decode cX10_ranks 48 = .ok (.if_icmp .ne 17, 3) := by decide +kernel
theorem dX10_ranks_51 : decode cX10_ranks 51 = .ok (.aload_n 0, 1) := by decide +kernel
theorem dX10_ranks_52 : decode cX10_ranks 52 = .ok (.getfield 19, 3) := by decide +kernel
theorem dX10_ranks_55 : decode cX10_ranks 55 = .ok (.getfield 180, 3) := by decide +kernel
theorem dX10_ranks_58 : decode cX10_ranks 58 = .ok (.iload_n 1, 1) := by decide +kernel
theorem dX10_ranks_59 : decode cX10_ranks 59 = .ok (.invokevirtual 216, 3) := by decide +kernel
theorem dX10_ranks_62 : decode cX10_ranks 62 = .ok (.goto 14, 3) := by decide +kernel
theorem dX10_ranks_65 : decode cX10_ranks 65 = .ok (.aload_n 0, 1) := by decide +kernel
theorem dX10_ranks_66 : decode cX10_ranks 66 = .ok (.getfield 19, 3) := by decide +kernel
theorem dX10_ranks_69 : decode cX10_ranks 69 = .ok (.getfield 180, 3) := by decide +kernel
theorem dX10_ranks_72 : decode cX10_ranks 72 = .ok (.iload_n 1, 1) := by decide +kernel
theorem dX10_ranks_73 : decode cX10_ranks 73 = .ok (.invokevirtual 219, 3) := by decide +kernel
theorem dX10_ranks_76 : decode cX10_ranks 76 = .ok (.invokevirtual 95, 3) := by decide +kernel
theorem dX10_ranks_79 : decode cX10_ranks 79 = .ok (.ireturn, 1) := by decide +kernel
theorem dX10_refuse_0 : decode cX10_refuse 0 = .ok (.aload_n 0, 1) := by decide +kernel
theorem dX10_refuse_1 : decode cX10_refuse 1 = .ok (.iload_n 1, 1) := by decide +kernel
theorem dX10_refuse_2 : decode cX10_refuse 2 = .ok (.putfield 56, 3) := by decide +kernel
theorem dX10_refuse_5 : decode cX10_refuse 5 = .ok (.iconst 0, 1) := by decide +kernel
theorem dX10_refuse_6 : decode cX10_refuse 6 = .ok (.ireturn, 1) := by decide +kernel
theorem dX10_run_0 : decode cX10_run 0 = .ok (.iload_n 1, 1) := by decide +kernel
theorem dX10_run_1 : decode cX10_run 1 = .ok (.iconst 1, 1) := by decide +kernel
theorem dX10_run_2 : decode cX10_run 2 = .ok (.if_icmp .lt 31, 3) := by decide +kernel
theorem dX10_run_5 : decode cX10_run 5 = .ok (.iload_n 1, 1) := by decide +kernel
theorem dX10_run_6 : decode cX10_run 6 = .ok (.sipush 500, 3) := by decide +kernel
theorem dX10_run_9 : decode cX10_run 9 = .ok (.if_icmp .gt 24, 3) := by decide +kernel
theorem dX10_run_12 : decode cX10_run 12 = .ok (.iload_n 2, 1) := by decide +kernel
theorem dX10_run_13 : decode cX10_run 13 = .ok (.ifCond .lt 20, 3) := by decide +kernel
theorem dX10_run_16 : decode cX10_run 16 = .ok (.iload_n 2, 1) := by decide +kernel
theorem dX10_run_17 : decode cX10_run 17 = .ok (.sipush 9999, 3) := by decide +kernel
theorem dX10_run_20 : decode cX10_run 20 = .ok (.if_icmp .gt 13, 3) := by decide +kernel
theorem dX10_run_23 : decode cX10_run 23 = .ok (.iload_n 3, 1) := by decide +kernel
theorem dX10_run_24 : decode cX10_run 24 = .ok (.ifCond .lt 9, 3) := by decide +kernel
theorem dX10_run_27 : decode cX10_run 27 = .ok (.iload_n 3, 1) := by decide +kernel
theorem dX10_run_28 : decode cX10_run 28 = .ok (.bipush 16, 2) := by decide +kernel
theorem dX10_run_30 : decode cX10_run 30 = .ok (.if_icmp .le 9, 3) := by decide +kernel
theorem dX10_run_33 : decode cX10_run 33 = .ok (.aload_n 0, 1) := by decide +kernel
theorem dX10_run_34 : decode cX10_run 34 = .ok (.iconst 1, 1) := by decide +kernel
theorem dX10_run_35 : decode cX10_run 35 = .ok (.invokevirtual 66, 3) := by decide +kernel
theorem dX10_run_38 : decode cX10_run 38 = .ok (.ireturn, 1) := by decide +kernel
theorem dX10_run_39 : decode cX10_run 39 = .ok (.aload_n 0, 1) := by decide +kernel
theorem dX10_run_40 : decode cX10_run 40 = .ok (.getfield 19, 3) := by decide +kernel
theorem dX10_run_43 : decode cX10_run 43 = .ok (.getfield 180, 3) := by decide +kernel
theorem dX10_run_46 : decode cX10_run 46 = .ok (.iconst 0, 1) := by decide +kernel
theorem dX10_run_47 : decode cX10_run 47 = .ok (.invokevirtual 184, 3) := by decide +kernel
theorem dX10_run_50 : decode cX10_run 50 = .ok (.istore 4, 2) := by decide +kernel
theorem dX10_run_52 : decode cX10_run 52 = .ok (.iload_n 2, 1) := by decide +kernel
theorem dX10_run_53 : decode cX10_run 53 = .ok (.istore 5, 2) := by decide +kernel
theorem dX10_run_55 : decode cX10_run 55 = .ok (.iconst 0, 1) := by decide +kernel
theorem dX10_run_56 : decode cX10_run 56 = .ok (.istore 6, 2) := by decide +kernel
theorem dX10_run_58 : decode cX10_run 58 = .ok (.iload 6, 2) := by decide +kernel
theorem dX10_run_60 : decode cX10_run 60 = .ok (.iload_n 1, 1) := by decide +kernel
theorem dX10_run_61 : decode cX10_run 61 = .ok (.if_icmp .ge 29, 3) := by decide +kernel
theorem dX10_run_64 : decode cX10_run 64 = .ok (.aload_n 0, 1) := by decide +kernel
theorem dX10_run_65 : decode cX10_run 65 = .ok (.getfield 19, 3) := by decide +kernel
theorem dX10_run_68 : decode cX10_run 68 = .ok (.iload 5, 2) := by decide +kernel
theorem dX10_run_70 : decode cX10_run 70 = .ok (.iload_n 3, 1) := by decide +kernel
theorem dX10_run_71 : decode cX10_run 71 = .ok (.invokevirtual 281, 3) := by decide +kernel
theorem dX10_run_74 : decode cX10_run 74 = .ok (.istore 5, 2) := by decide +kernel
theorem dX10_run_76 : decode cX10_run 76 = .ok (.aload_n 0, 1) := by decide +kernel
theorem dX10_run_77 : decode cX10_run 77 = .ok (.getfield 19, 3) := by decide +kernel
theorem dX10_run_80 : decode cX10_run 80 = .ok (.iconst 0, 1) := by decide +kernel
theorem dX10_run_81 : decode cX10_run 81 = .ok (.invokevirtual 277, 3) := by decide +kernel
theorem dX10_run_84 : decode cX10_run 84 = .ok (.iinc 6 1, 3) := by decide +kernel
theorem dX10_run_87 : decode cX10_run 87 = .ok (.goto (-29), 3) := by decide +kernel
theorem dX10_run_90 : decode cX10_run 90 = .ok (.aload_n 0, 1) := by decide +kernel
theorem dX10_run_91 : decode cX10_run 91 = .ok (.aload_n 0, 1) := by decide +kernel
theorem dX10_run_92 : decode cX10_run 92 = .ok (.getfield 19, 3) := by decide +kernel
theorem dX10_run_95 : decode cX10_run 95 = .ok (.getfield 180, 3) := by decide +kernel
theorem dX10_run_98 : decode cX10_run 98 = .ok (.iconst 0, 1) := by decide +kernel
theorem dX10_run_99 : decode cX10_run 99 = .ok (.invokevirtual 184, 3) := by decide +kernel
theorem dX10_run_102 : decode cX10_run 102 = .ok (.iload 4, 2) := by decide +kernel
theorem dX10_run_104 : decode cX10_run 104 = .ok (.isub, 1) := by decide +kernel
theorem dX10_run_105 : decode cX10_run 105 = .ok (.invokevirtual 95, 3) := by decide +kernel
theorem dX10_run_108 : decode cX10_run 108 = .ok (.ireturn, 1) := by decide +kernel
theorem dX10_send_0 : decode cX10_send 0 = .ok (.iload_n 3, 1) := by decide +kernel
theorem dX10_send_1 : decode cX10_send 1 = .ok (.ifCond .lt 9, 3) := by decide +kernel
theorem dX10_send_4 : decode cX10_send 4 = .ok (.iload_n 3, 1) := by decide +kernel
theorem dX10_send_5 : decode cX10_send 5 = .ok (.bipush 8, 2) := by decide +kernel
theorem dX10_send_7 : decode cX10_send 7 = .ok (.if_icmp .lt 9, 3) := by decide +kernel
theorem dX10_send_10 : decode cX10_send 10 = .ok (.aload_n 0, 1) := by decide +kernel
theorem dX10_send_11 : decode cX10_send 11 = .ok (.iconst 1, 1) := by decide +kernel
theorem dX10_send_12 : decode cX10_send 12 = .ok (.invokevirtual 66, 3) := by decide +kernel
theorem dX10_send_15 : decode cX10_send 15 = .ok (.ireturn, 1) := by decide +kernel
theorem dX10_send_16 : decode cX10_send 16 = .ok (.aload_n 0, 1) := by decide +kernel
theorem dX10_send_17 : decode cX10_send 17 = .ok (.getfield 19, 3) := by decide +kernel
theorem dX10_send_20 : decode cX10_send 20 = .ok (.getfield 86, 3) := by decide +kernel
theorem dX10_send_23 : decode cX10_send 23 = .ok (.iload_n 1, 1) := by decide +kernel
theorem dX10_send_24 : decode cX10_send 24 = .ok (.invokevirtual 146, 3) := by decide +kernel
theorem dX10_send_27 : decode cX10_send 27 = .ok (.ifCond .eq 17, 3) := by decide +kernel
theorem dX10_send_44 : decode cX10_send 44 = .ok (.aload_n 0, 1) := by decide +kernel
theorem dX10_send_45 : decode cX10_send 45 = .ok (.iconst 2, 1) := by decide +kernel
theorem dX10_send_46 : decode cX10_send 46 = .ok (.invokevirtual 66, 3) := by decide +kernel
theorem dX10_send_49 : decode cX10_send 49 = .ok (.ireturn, 1) := by decide +kernel
theorem dX10_shed_0 : decode cX10_shed 0 = .ok (.iload_n 2, 1) := by decide +kernel
theorem dX10_shed_1 : decode cX10_shed 1 = .ok (.ifCond .lt 9, 3) := by decide +kernel
theorem dX10_shed_4 : decode cX10_shed 4 = .ok (.iload_n 2, 1) := by decide +kernel
theorem dX10_shed_5 : decode cX10_shed 5 = .ok (.bipush 8, 2) := by decide +kernel
theorem dX10_shed_7 : decode cX10_shed 7 = .ok (.if_icmp .le 9, 3) := by decide +kernel
theorem dX10_shed_10 : decode cX10_shed 10 = .ok (.aload_n 0, 1) := by decide +kernel
theorem dX10_shed_11 : decode cX10_shed 11 = .ok (.iconst 1, 1) := by decide +kernel
theorem dX10_shed_12 : decode cX10_shed 12 = .ok (.invokevirtual 66, 3) := by decide +kernel
theorem dX10_shed_15 : decode cX10_shed 15 = .ok (.ireturn, 1) := by decide +kernel
theorem dX10_shed_16 : decode cX10_shed 16 = .ok (.aload_n 0, 1) := by decide +kernel
theorem dX10_shed_17 : decode cX10_shed 17 = .ok (.getfield 19, 3) := by decide +kernel
theorem dX10_shed_20 : decode cX10_shed 20 = .ok (.getfield 86, 3) := by decide +kernel
theorem dX10_shed_23 : decode cX10_shed 23 = .ok (.iload_n 1, 1) := by decide +kernel
theorem dX10_shed_24 : decode cX10_shed 24 = .ok (.invokevirtual 146, 3) := by decide +kernel
theorem dX10_shed_27 : decode cX10_shed 27 = .ok (.ifCond .ne 9, 3) := by decide +kernel
theorem dX10_shed_30 : decode cX10_shed 30 = .ok (.aload_n 0, 1) := by decide +kernel
theorem dX10_shed_31 : decode cX10_shed 31 = .ok (.iconst 2, 1) := by decide +kernel
theorem dX10_shed_32 : decode cX10_shed 32 = .ok (.invokevirtual 66, 3) := by decide +kernel
theorem dX10_shed_35 : decode cX10_shed 35 = .ok (.ireturn, 1) := by decide +kernel
theorem dX10_snap_0 : decode cX10_snap 0 = .ok (.iload_n 2, 1) := by decide +kernel
theorem dX10_snap_1 : decode cX10_snap 1 = .ok (.ifCond .lt 8, 3) := by decide +kernel
theorem dX10_snap_4 : decode cX10_snap 4 = .ok (.iload_n 2, 1) := by decide +kernel
theorem dX10_snap_5 : decode cX10_snap 5 = .ok (.iconst 3, 1) := by decide +kernel
theorem dX10_snap_6 : decode cX10_snap 6 = .ok (.if_icmp .lt 9, 3) := by decide +kernel
theorem dX10_snap_9 : decode cX10_snap 9 = .ok (.aload_n 0, 1) := by decide +kernel
theorem dX10_snap_10 : decode cX10_snap 10 = .ok (.iconst 1, 1) := by decide +kernel
theorem dX10_snap_11 : decode cX10_snap 11 = .ok (.invokevirtual 258, 3) := by decide +kernel
theorem dX10_snap_14 : decode cX10_snap 14 = .ok (.ireturn, 1) := by decide +kernel
theorem dX10_snap_15 : decode cX10_snap 15 = .ok (.aload_n 0, 1) := by decide +kernel
theorem dX10_snap_16 : decode cX10_snap 16 = .ok (.getfield 19, 3) := by decide +kernel
theorem dX10_snap_19 : decode cX10_snap 19 = .ok (.getfield 86, 3) := by decide +kernel
theorem dX10_snap_22 : decode cX10_snap 22 = .ok (.iload_n 1, 1) := by decide +kernel
theorem dX10_snap_23 : decode cX10_snap 23 = .ok (.invokevirtual 146, 3) := by decide +kernel
theorem dX10_snap_26 : decode cX10_snap 26 = .ok (.ifCond .ne 9, 3) := by decide +kernel
theorem dX10_snap_29 : decode cX10_snap 29 = .ok (.aload_n 0, 1) := by decide +kernel
theorem dX10_snap_30 : decode cX10_snap 30 = .ok (.iconst 2, 1) := by decide +kernel
theorem dX10_snap_31 : decode cX10_snap 31 = .ok (.invokevirtual 258, 3) := by decide +kernel
theorem dX10_snap_34 : decode cX10_snap 34 = .ok (.ireturn, 1) := by decide +kernel
theorem dX10_stale_0 : decode cX10_stale 0 = .ok (.aload_n 0, 1) := by decide +kernel
theorem dX10_stale_1 : decode cX10_stale 1 = .ok (.aload_n 0, 1) := by decide +kernel
theorem dX10_stale_2 : decode cX10_stale 2 = .ok (.getfield 19, 3) := by decide +kernel
theorem dX10_stale_5 : decode cX10_stale 5 = .ok (.getfield 86, 3) := by decide +kernel
theorem dX10_stale_8 : decode cX10_stale 8 = .ok (.invokevirtual 290, 3) := by decide +kernel
theorem dX10_stale_11 : decode cX10_stale 11 = .ok (.invokevirtual 95, 3) := by decide +kernel
theorem dX10_stale_14 : decode cX10_stale 14 = .ok (.ireturn, 1) := by decide +kernel
theorem dX10_station_0 : decode cX10_station 0 = .ok (.iload_n 2, 1) := by decide +kernel
theorem dX10_station_1 : decode cX10_station 1 = .ok (.ifCond .lt 9, 3) := by decide +kernel
theorem dX10_station_4 : decode cX10_station 4 = .ok (.iload_n 2, 1) := by decide +kernel
theorem dX10_station_5 : decode cX10_station 5 = .ok (.bipush 9, 2) := by decide +kernel
theorem dX10_station_7 : decode cX10_station 7 = .ok (.if_icmp .le 9, 3) := by decide +kernel
theorem dX10_station_10 : decode cX10_station 10 = .ok (.aload_n 0, 1) := by decide +kernel
theorem dX10_station_11 : decode cX10_station 11 = .ok (.iconst 1, 1) := by decide +kernel
theorem dX10_station_12 : decode cX10_station 12 = .ok (.invokevirtual 66, 3) := by decide +kernel
theorem dX10_station_15 : decode cX10_station 15 = .ok (.ireturn, 1) := by decide +kernel
theorem dX10_station_16 : decode cX10_station 16 = .ok (.aload_n 0, 1) := by decide +kernel
theorem dX10_station_17 : decode cX10_station 17 = .ok (.getfield 19, 3) := by decide +kernel
theorem dX10_station_20 : decode cX10_station 20 = .ok (.getfield 86, 3) := by decide +kernel
theorem dX10_station_23 : decode cX10_station 23 = .ok (.iload_n 1, 1) := by decide +kernel
theorem dX10_station_24 : decode cX10_station 24 = .ok (.invokevirtual 146, 3) := by decide +kernel
theorem dX10_station_27 : decode cX10_station 27 = .ok (.ifCond .ne 9, 3) := by decide +kernel
theorem dX10_station_30 : decode cX10_station 30 = .ok (.aload_n 0, 1) := by decide +kernel
theorem dX10_station_31 : decode cX10_station 31 = .ok (.iconst 2, 1) := by decide +kernel
theorem dX10_station_32 : decode cX10_station 32 = .ok (.invokevirtual 66, 3) := by decide +kernel
theorem dX10_station_35 : decode cX10_station 35 = .ok (.ireturn, 1) := by decide +kernel
theorem dX10_status_0 : decode cX10_status 0 = .ok (.aload_n 0, 1) := by decide +kernel
theorem dX10_status_1 : decode cX10_status 1 = .ok (.getfield 56, 3) := by decide +kernel
theorem dX10_status_4 : decode cX10_status 4 = .ok (.ireturn, 1) := by decide +kernel
theorem dX10_succeed_0 : decode cX10_succeed 0 = .ok (.aload_n 0, 1) := by decide +kernel
theorem dX10_succeed_1 : decode cX10_succeed 1 = .ok (.iconst 0, 1) := by decide +kernel
theorem dX10_succeed_2 : decode cX10_succeed 2 = .ok (.putfield 56, 3) := by decide +kernel
theorem dX10_succeed_5 : decode cX10_succeed 5 = .ok (.iconst 1, 1) := by decide +kernel
theorem dX10_succeed_6 : decode cX10_succeed 6 = .ok (.ireturn, 1) := by decide +kernel
theorem dX10_take_0 : decode cX10_take 0 = .ok (.iload_n 1, 1) := by decide +kernel
theorem dX10_take_1 : decode cX10_take 1 = .ok (.ifCond .ge 9, 3) := by decide +kernel
theorem dX10_take_4 : decode cX10_take 4 = .ok (.aload_n 0, 1) := by decide +kernel
theorem dX10_take_5 : decode cX10_take 5 = .ok (.iconst 1, 1) := by decide +kernel
theorem dX10_take_6 : decode cX10_take 6 = .ok (.invokevirtual 66, 3) := by decide +kernel
theorem dX10_take_9 : decode cX10_take 9 = .ok (.ireturn, 1) := by decide +kernel
theorem dX10_take_10 : decode cX10_take 10 = .ok (.aload_n 0, 1) := by decide +kernel
theorem dX10_take_11 : decode cX10_take 11 = .ok (.getfield 19, 3) := by decide +kernel
theorem dX10_take_14 : decode cX10_take 14 = .ok (.getfield 105, 3) := by decide +kernel
theorem dX10_take_17 : decode cX10_take 17 = .ok (.iload_n 1, 1) := by decide +kernel
theorem dX10_take_18 : decode cX10_take 18 = .ok (.invokevirtual 249, 3) := by decide +kernel
theorem dX10_take_21 : decode cX10_take 21 = .ok (.istore_n 2, 1) := by decide +kernel
theorem dX10_take_22 : decode cX10_take 22 = .ok (.iload_n 2, 1) := by decide +kernel
theorem dX10_take_23 : decode cX10_take 23 = .ok (.iconst (-1), 1) := by decide +kernel
theorem dX10_take_24 : decode cX10_take 24 = .ok (.if_icmp .ne 9, 3) := by decide +kernel
theorem dX10_take_27 : decode cX10_take 27 = .ok (.aload_n 0, 1) := by decide +kernel
theorem dX10_take_28 : decode cX10_take 28 = .ok (.iconst 5, 1) := by decide +kernel
theorem dX10_take_29 : decode cX10_take 29 = .ok (.invokevirtual 66, 3) := by decide +kernel
theorem dX10_take_32 : decode cX10_take 32 = .ok (.ireturn, 1) := by decide +kernel
theorem dX10_tick_0 : decode cX10_tick 0 = .ok (.iload_n 1, 1) := by decide +kernel
theorem dX10_tick_1 : decode cX10_tick 1 = .ok (.iconst 1, 1) := by decide +kernel
theorem dX10_tick_2 : decode cX10_tick 2 = .ok (.if_icmp .lt 10, 3) := by decide +kernel
theorem dX10_tick_5 : decode cX10_tick 5 = .ok (.iload_n 1, 1) := by decide +kernel
theorem dX10_tick_6 : decode cX10_tick 6 = .ok (.sipush 500, 3) := by decide +kernel
theorem dX10_tick_9 : decode cX10_tick 9 = .ok (.if_icmp .le 9, 3) := by decide +kernel
theorem dX10_tick_12 : decode cX10_tick 12 = .ok (.aload_n 0, 1) := by decide +kernel
theorem dX10_tick_13 : decode cX10_tick 13 = .ok (.iconst 1, 1) := by decide +kernel
theorem dX10_tick_14 : decode cX10_tick 14 = .ok (.invokevirtual 66, 3) := by decide +kernel
theorem dX10_tick_17 : decode cX10_tick 17 = .ok (.ireturn, 1) := by decide +kernel
theorem dX10_tick_18 : decode cX10_tick 18 = .ok (.iconst 0, 1) := by decide +kernel
theorem dX10_tick_19 : decode cX10_tick 19 = .ok (.istore_n 2, 1) := by decide +kernel
theorem dX10_tick_20 : decode cX10_tick 20 = .ok (.iload_n 2, 1) := by decide +kernel
theorem dX10_tick_21 : decode cX10_tick 21 = .ok (.iload_n 1, 1) := by decide +kernel
theorem dX10_tick_22 : decode cX10_tick 22 = .ok (.if_icmp .ge 17, 3) := by decide +kernel
theorem dX10_tick_25 : decode cX10_tick 25 = .ok (.aload_n 0, 1) := by decide +kernel
theorem dX10_tick_26 : decode cX10_tick 26 = .ok (.getfield 19, 3) := by decide +kernel
theorem dX10_tick_29 : decode cX10_tick 29 = .ok (.iconst 0, 1) := by decide +kernel
theorem dX10_tick_30 : decode cX10_tick 30 = .ok (.invokevirtual 277, 3) := by decide +kernel
theorem dX10_tick_33 : decode cX10_tick 33 = .ok (.iinc 2 1, 3) := by decide +kernel
theorem dX10_tick_36 : decode cX10_tick 36 = .ok (.goto (-16), 3) := by decide +kernel
theorem dX10_tick_39 : decode cX10_tick 39 = .ok (.aload_n 0, 1) := by decide +kernel
theorem dX10_tick_40 : decode cX10_tick 40 = .ok (.aload_n 0, 1) := by decide +kernel
theorem dX10_tick_41 : decode cX10_tick 41 = .ok (.getfield 19, 3) := by decide +kernel
theorem dX10_tick_44 : decode cX10_tick 44 = .ok (.getfield 117, 3) := by decide +kernel
theorem dX10_tick_47 : decode cX10_tick 47 = .ok (.invokevirtual 95, 3) := by decide +kernel
theorem dX10_tick_50 : decode cX10_tick 50 = .ok (.ireturn, 1) := by decide +kernel
theorem dX10_waits_0 : decode cX10_waits 0 = .ok (.iload_n 2, 1) := by decide +kernel
theorem dX10_waits_1 : decode cX10_waits 1 = .ok (.ifCond .lt 12, 3) := by decide +kernel
theorem dX10_waits_4 : decode cX10_waits 4 = .ok (.iload_n 3, 1) := by decide +kernel
theorem dX10_waits_5 : decode cX10_waits 5 = .ok (.ifCond .lt 8, 3) := by decide +kernel
theorem dX10_waits_8 : decode cX10_waits 8 = .ok (.iload_n 3, 1) := by decide +kernel
theorem dX10_waits_9 : decode cX10_waits 9 = .ok (.iconst 2, 1) := by decide +kernel
theorem dX10_waits_10 : decode cX10_waits 10 = .ok (.if_icmp .le 9, 3) := by decide +kernel
theorem dX10_waits_13 : decode cX10_waits 13 = .ok (.aload_n 0, 1) := by decide +kernel
theorem dX10_waits_14 : decode cX10_waits 14 = .ok (.iconst 1, 1) := by decide +kernel
theorem dX10_waits_15 : decode cX10_waits 15 = .ok (.invokevirtual 66, 3) := by decide +kernel
theorem dX10_waits_18 : decode cX10_waits 18 = .ok (.ireturn, 1) := by decide +kernel
theorem dX10_waits_19 : decode cX10_waits 19 = .ok (.aload_n 0, 1) := by decide +kernel
theorem dX10_waits_20 : decode cX10_waits 20 = .ok (.getfield 19, 3) := by decide +kernel
theorem dX10_waits_23 : decode cX10_waits 23 = .ok (.getfield 86, 3) := by decide +kernel
theorem dX10_waits_26 : decode cX10_waits 26 = .ok (.iload_n 1, 1) := by decide +kernel
theorem dX10_waits_27 : decode cX10_waits 27 = .ok (.invokevirtual 146, 3) := by decide +kernel
theorem dX10_waits_30 : decode cX10_waits 30 = .ok (.ifCond .ne 9, 3) := by decide +kernel
theorem dX10_waits_33 : decode cX10_waits 33 = .ok (.aload_n 0, 1) := by decide +kernel
theorem dX10_waits_34 : decode cX10_waits 34 = .ok (.iconst 2, 1) := by decide +kernel
theorem dX10_waits_35 : decode cX10_waits 35 = .ok (.invokevirtual 66, 3) := by decide +kernel
theorem dX10_waits_38 : decode cX10_waits 38 = .ok (.ireturn, 1) := by decide +kernel
theorem dX10_way_0 : decode cX10_way 0 = .ok (.iload_n 1, 1) := by decide +kernel
theorem dX10_way_1 : decode cX10_way 1 = .ok (.ifCond .lt 9, 3) := by decide +kernel
theorem dX10_way_4 : decode cX10_way 4 = .ok (.iload_n 1, 1) := by decide +kernel
theorem dX10_way_5 : decode cX10_way 5 = .ok (.bipush 9, 2) := by decide +kernel
theorem dX10_way_7 : decode cX10_way 7 = .ok (.if_icmp .le 9, 3) := by decide +kernel
theorem dX10_way_10 : decode cX10_way 10 = .ok (.aload_n 0, 1) := by decide +kernel
theorem dX10_way_11 : decode cX10_way 11 = .ok (.iconst 1, 1) := by decide +kernel
theorem dX10_way_12 : decode cX10_way 12 = .ok (.invokevirtual 66, 3) := by decide +kernel
theorem dX10_way_15 : decode cX10_way 15 = .ok (.ireturn, 1) := by decide +kernel
theorem dX10_way_16 : decode cX10_way 16 = .ok (.aload_n 0, 1) := by decide +kernel
theorem dX10_way_17 : decode cX10_way 17 = .ok (.getfield 19, 3) := by decide +kernel
theorem dX10_way_20 : decode cX10_way 20 = .ok (.getfield 120, 3) := by decide +kernel
theorem dX10_way_23 : decode cX10_way 23 = .ok (.getfield 124, 3) := by decide +kernel
theorem dX10_way_26 : decode cX10_way 26 = .ok (.istore_n 2, 1) := by decide +kernel
theorem dX10_way_27 : decode cX10_way 27 = .ok (.iload_n 1, 1) := by decide +kernel
theorem dX10_way_28 : decode cX10_way 28 = .ok (.iconst 1, 1) := by decide +kernel
theorem dX10_way_29 : decode cX10_way 29 = .ok (.if_icmp .lt 7, 3) := by decide +kernel
theorem dX10_way_32 : decode cX10_way 32 = .ok (.iload_n 2, 1) := by decide +kernel
theorem dX10_way_33 : decode cX10_way 33 = .ok (.ifCond .eq 13, 3) := by decide +kernel
theorem dX10_way_36 : decode cX10_way 36 = .ok (.iload_n 1, 1) := by decide +kernel
theorem dX10_way_37 : decode cX10_way 37 = .ok (.iconst 5, 1) := by decide +kernel
theorem dX10_way_38 : decode cX10_way 38 = .ok (.if_icmp .lt 15, 3) := by decide +kernel
theorem dX10_way_46 : decode cX10_way 46 = .ok (.aload_n 0, 1) := by decide +kernel
theorem dX10_way_47 : decode cX10_way 47 = .ok (.bipush 6, 2) := by decide +kernel
theorem dX10_way_49 : decode cX10_way 49 = .ok (.invokevirtual 66, 3) := by decide +kernel
theorem dX10_way_52 : decode cX10_way 52 = .ok (.ireturn, 1) := by decide +kernel
theorem dX10_way_53 : decode cX10_way 53 = .ok (.aload_n 0, 1) := by decide +kernel
theorem dX10_way_54 : decode cX10_way 54 = .ok (.aload_n 0, 1) := by decide +kernel
theorem dX10_way_55 : decode cX10_way 55 = .ok (.getfield 19, 3) := by decide +kernel
theorem dX10_way_58 : decode cX10_way 58 = .ok (.getfield 120, 3) := by decide +kernel
theorem dX10_way_61 : decode cX10_way 61 = .ok (.iload_n 1, 1) := by decide +kernel
theorem dX10_way_62 : decode cX10_way 62 = .ok (.invokevirtual 168, 3) := by decide +kernel
theorem dX10_way_65 : decode cX10_way 65 = .ok (.invokevirtual 95, 3) := by decide +kernel
theorem dX10_way_68 : decode cX10_way 68 = .ok (.ireturn, 1) := by decide +kernel
theorem dX10_when_0 : decode cX10_when 0 = .ok (.iload_n 1, 1) := by decide +kernel
theorem dX10_when_1 : decode cX10_when 1 = .ok (.ifCond .ge 9, 3) := by decide +kernel
theorem dX10_when_4 : decode cX10_when 4 = .ok (.aload_n 0, 1) := by decide +kernel
theorem dX10_when_5 : decode cX10_when 5 = .ok (.iconst 1, 1) := by decide +kernel
theorem dX10_when_6 : decode cX10_when 6 = .ok (.invokevirtual 66, 3) := by decide +kernel
theorem dX10_when_9 : decode cX10_when 9 = .ok (.ireturn, 1) := by decide +kernel
theorem dX10_when_10 : decode cX10_when 10 = .ok (.aload_n 0, 1) := by decide +kernel
theorem dX10_when_11 : decode cX10_when 11 = .ok (.getfield 19, 3) := by decide +kernel
theorem dX10_when_14 : decode cX10_when 14 = .ok (.iload_n 1, 1) := by decide +kernel
theorem dX10_when_15 : decode cX10_when 15 = .ok (.invokevirtual 303, 3) := by decide +kernel
theorem dX10_when_18 : decode cX10_when 18 = .ok (.ifCond .ne 9, 3) := by decide +kernel
theorem dX10_when_21 : decode cX10_when 21 = .ok (.aload_n 0, 1) := by decide +kernel
theorem dX10_when_22 : decode cX10_when 22 = .ok (.iconst 5, 1) := by decide +kernel
theorem dX10_when_23 : decode cX10_when 23 = .ok (.invokevirtual 66, 3) := by decide +kernel
theorem dX10_when_26 : decode cX10_when 26 = .ok (.ireturn, 1) := by decide +kernel
theorem dX11_add_0 : decode cX11_add 0 = .ok (.iload_n 1, 1) := by decide +kernel
theorem dX11_add_1 : decode cX11_add 1 = .ok (.iconst 0, 1) := by decide +kernel
theorem dX11_add_2 : decode cX11_add 2 = .ok (.bipush 99, 2) := by decide +kernel
theorem dX11_add_4 : decode cX11_add 4 = .ok (.invokestatic 228, 3) := by decide +kernel
theorem dX11_add_7 : decode cX11_add 7 = .ok (.ifCond .ne 9, 3) := by decide +kernel
theorem dX11_add_10 : decode cX11_add 10 = .ok (.aload_n 0, 1) := by decide +kernel
theorem dX11_add_11 : decode cX11_add 11 = .ok (.iconst 1, 1) := by decide +kernel
theorem dX11_add_12 : decode cX11_add 12 = .ok (.invokevirtual 267, 3) := by decide +kernel
theorem dX11_add_15 : decode cX11_add 15 = .ok (.ireturn, 1) := by decide +kernel
theorem dX11_add_16 : decode cX11_add 16 = .ok (.aload_n 0, 1) := by decide +kernel
theorem dX11_add_17 : decode cX11_add 17 = .ok (.iconst 0, 1) := by decide +kernel
theorem dX11_add_18 : decode cX11_add 18 = .ok (.invokevirtual 47, 3) := by decide +kernel
theorem dX11_add_21 : decode cX11_add 21 = .ok (.bipush 8, 2) := by decide +kernel
theorem dX11_add_23 : decode cX11_add 23 = .ok (.if_icmp .ne 9, 3) := by decide +kernel
theorem dX11_add_32 : decode cX11_add 32 = .ok (.aload_n 0, 1) := by decide +kernel
theorem dX11_add_33 : decode cX11_add 33 = .ok (.iload_n 1, 1) := by decide +kernel
theorem dX11_add_34 : decode cX11_add 34 = .ok (.invokevirtual 238, 3) := by decide +kernel
theorem dX11_add_37 : decode cX11_add 37 = .ok (.ifCond .eq 10, 3) := by decide +kernel
theorem dX11_add_47 : decode cX11_add 47 = .ok (.aload_n 0, 1) := by decide +kernel
theorem dX11_add_48 : decode cX11_add 48 = .ok (.invokevirtual 291, 3) := by decide +kernel
theorem dX11_add_51 : decode cX11_add 51 = .ok (.aload_n 0, 1) := by decide +kernel
theorem dX11_add_52 : decode cX11_add 52 = .ok (.aload_n 0, 1) := by decide +kernel
theorem dX11_add_53 : decode cX11_add 53 = .ok (.iload_n 1, 1) := by decide +kernel
theorem dX11_add_54 : decode cX11_add 54 = .ok (.invokevirtual 241, 3) := by decide +kernel
theorem dX11_add_57 : decode cX11_add 57 = .ok (.invokevirtual 276, 3) := by decide +kernel
theorem dX11_add_60 : decode cX11_add 60 = .ok (.ireturn, 1) := by decide +kernel
theorem dX11_adds_0 : decode cX11_adds 0 = .ok (.aload_n 0, 1) := by decide +kernel
theorem dX11_adds_1 : decode cX11_adds 1 = .ok (.getfield 7, 3) := by decide +kernel
theorem dX11_adds_4 : decode cX11_adds 4 = .ok (.iload_n 1, 1) := by decide +kernel
theorem dX11_adds_5 : decode cX11_adds 5 = .ok (.dup2, 1) := by decide +kernel
theorem dX11_adds_6 : decode cX11_adds 6 = .ok (.iaload, 1) := by decide +kernel
theorem dX11_adds_7 : decode cX11_adds 7 = .ok (.iload_n 2, 1) := by decide +kernel
theorem dX11_adds_8 : decode cX11_adds 8 = .ok (.iadd, 1) := by decide +kernel
theorem dX11_adds_9 : decode cX11_adds 9 = .ok (.iastore, 1) := by decide +kernel
theorem dX11_adds_10 : decode cX11_adds 10 = .ok (.return_, 1) := by decide +kernel
theorem dX11_ahead_0 : decode cX11_ahead 0 = .ok (.aload_n 0, 1) := by decide +kernel
theorem dX11_ahead_1 : decode cX11_ahead 1 = .ok (.aload_n 0, 1) := by decide +kernel
theorem dX11_ahead_2 : decode cX11_ahead 2 = .ok (.getfield 177, 3) := by decide +kernel
theorem dX11_ahead_5 : decode cX11_ahead 5 = .ok (.invokevirtual 180, 3) := by decide +kernel
theorem dX11_ahead_8 : decode cX11_ahead 8 = .ok (.bipush 32, 2) := by decide +kernel
theorem dX11_ahead_10 : decode cX11_ahead 10 = .ok (.if_icmp .eq 16, 3) := by decide +kernel
theorem dX11_ahead_13 : decode cX11_ahead 13 = .ok (.aload_n 0, 1) := by decide +kernel
theorem dX11_ahead_14 : decode cX11_ahead 14 = .ok (.aload_n 0, 1) := by decide +kernel
theorem dX11_ahead_15 : decode cX11_ahead 15 = .ok (.getfield 177, 3) := by decide +kernel
theorem dX11_ahead_18 : decode cX11_ahead 18 = .ok (.invokevirtual 180, 3) := by decide +kernel
theorem dX11_ahead_21 : decode cX11_ahead 21 = .ok (.bipush 10, 2) := by decide +kernel
theorem dX11_ahead_23 : decode cX11_ahead 23 = .ok (.if_icmp .ne 16, 3) := by decide +kernel
theorem dX11_ahead_39 : decode cX11_ahead 39 = .ok (.aload_n 0, 1) := by decide +kernel
theorem dX11_ahead_40 : decode cX11_ahead 40 = .ok (.aload_n 0, 1) := by decide +kernel
theorem dX11_ahead_41 : decode cX11_ahead 41 = .ok (.getfield 177, 3) := by decide +kernel
theorem dX11_ahead_44 : decode cX11_ahead 44 = .ok (.putfield 183, 3) := by decide +kernel
theorem dX11_ahead_47 : decode cX11_ahead 47 = .ok (.aload_n 0, 1) := by decide +kernel
theorem dX11_ahead_48 : decode cX11_ahead 48 = .ok (.aload_n 0, 1) := by decide +kernel
theorem dX11_ahead_49 : decode cX11_ahead 49 = .ok (.getfield 177, 3) := by decide +kernel
theorem dX11_ahead_52 : decode cX11_ahead 52 = .ok (.invokevirtual 180, 3) := by decide +kernel
theorem dX11_ahead_55 : decode cX11_ahead 55 = .ok (.istore_n 1, 1) := by decide +kernel
theorem dX11_ahead_56 : decode cX11_ahead 56 = .ok (.iload_n 1, 1) := by decide +kernel
theorem dX11_ahead_57 : decode cX11_ahead 57 = .ok (.iconst (-1), 1) := by decide +kernel
theorem dX11_ahead_58 : decode cX11_ahead 58 = .ok (.if_icmp .ne 11, 3) := by decide +kernel
theorem dX11_ahead_61 : decode cX11_ahead 61 = .ok (.aload_n 0, 1) := by decide +kernel
theorem dX11_ahead_62 : decode cX11_ahead 62 = .ok (.iconst 0, 1) := by decide +kernel
theorem dX11_ahead_63 : decode cX11_ahead 63 = .ok (.putfield 186, 3) := by decide +kernel
theorem dX11_ahead_66 : decode cX11_ahead 66 = .ok (.goto 162, 3) := by decide +kernel
theorem dX11_ahead_228 : decode cX11_ahead 228 = .ok (.return_, 1) := by decide +kernel
theorem dX11_back_0 : decode cX11_back 0 = .ok (.aload_n 0, 1) := by decide +kernel
theorem dX11_back_1 : decode cX11_back 1 = .ok (.getfield 285, 3) := by decide +kernel
theorem dX11_back_4 : decode cX11_back 4 = .ok (.ifCond .ne 9, 3) := by decide +kernel
theorem dX11_back_7 : decode cX11_back 7 = .ok (.aload_n 0, 1) := by decide +kernel
theorem dX11_back_8 : decode cX11_back 8 = .ok (.iconst 5, 1) := by decide +kernel
theorem dX11_back_9 : decode cX11_back 9 = .ok (.invokevirtual 267, 3) := by decide +kernel
theorem dX11_back_12 : decode cX11_back 12 = .ok (.ireturn, 1) := by decide +kernel
theorem dX11_beacon_0 : decode cX11_beacon 0 = .ok (.iload_n 1, 1) := by decide +kernel
theorem dX11_beacon_1 : decode cX11_beacon 1 = .ok (.iconst 0, 1) := by decide +kernel
theorem dX11_beacon_2 : decode cX11_beacon 2 = .ok (.iconst 2, 1) := by decide +kernel
theorem dX11_beacon_3 : decode cX11_beacon 3 = .ok (.invokestatic 228, 3) := by decide +kernel
theorem dX11_beacon_6 : decode cX11_beacon 6 = .ok (.ifCond .ne 9, 3) := by decide +kernel
theorem dX11_beacon_9 : decode cX11_beacon 9 = .ok (.aload_n 0, 1) := by decide +kernel
theorem dX11_beacon_10 : decode cX11_beacon 10 = .ok (.iconst 1, 1) := by decide +kernel
theorem dX11_beacon_11 : decode cX11_beacon 11 = .ok (.invokevirtual 267, 3) := by decide +kernel
theorem dX11_beacon_14 : decode cX11_beacon 14 = .ok (.ireturn, 1) := by decide +kernel
theorem dX11_beacon_15 : decode cX11_beacon 15 = .ok (.iload_n 1, 1) := by decide +kernel
theorem dX11_beacon_16 : decode cX11_beacon 16 = .ok (.ifCond .le 19, 3) := by decide +kernel
theorem dX11_beacon_19 : decode cX11_beacon 19 = .ok (.aload_n 0, 1) := by decide +kernel
theorem dX11_beacon_20 : decode cX11_beacon 20 = .ok (.bipush 18, 2) := by decide +kernel
theorem dX11_beacon_22 : decode cX11_beacon 22 = .ok (.invokevirtual 47, 3) := by decide +kernel
theorem dX11_beacon_25 : decode cX11_beacon 25 = .ok (.iconst 2, 1) := by decide +kernel
theorem dX11_beacon_26 : decode cX11_beacon 26 = .ok (.if_icmp .eq 9, 3) := by decide +kernel
theorem dX11_beacon_29 : decode cX11_beacon 29 = .ok (.aload_n 0, 1) := by decide +kernel
theorem dX11_beacon_30 : decode cX11_beacon 30 = .ok (.iconst 5, 1) := by decide +kernel
theorem dX11_beacon_31 : decode cX11_beacon 31 = .ok (.invokevirtual 267, 3) := by decide +kernel
theorem dX11_beacon_34 : decode cX11_beacon 34 = .ok (.ireturn, 1) := by decide +kernel
theorem dX11_beacon_35 : decode cX11_beacon 35 = .ok (.aload_n 0, 1) := by decide +kernel
theorem dX11_beacon_36 : decode cX11_beacon 36 = .ok (.aload_n 0, 1) := by decide +kernel
theorem dX11_beacon_37 : decode cX11_beacon 37 = .ok (.bipush 18, 2) := by decide +kernel
theorem dX11_beacon_39 : decode cX11_beacon 39 = .ok (.iload_n 1, 1) := by decide +kernel
theorem dX11_beacon_40 : decode cX11_beacon 40 = .ok (.iadd, 1) := by decide +kernel
theorem dX11_beacon_41 : decode cX11_beacon 41 = .ok (.invokevirtual 47, 3) := by decide +kernel
theorem dX11_beacon_44 : decode cX11_beacon 44 = .ok (.invokevirtual 276, 3) := by decide +kernel
theorem dX11_beacon_47 : decode cX11_beacon 47 = .ok (.ireturn, 1) := by decide +kernel
theorem dX11_been_0 : decode cX11_been 0 = .ok (.iload_n 1, 1) := by decide +kernel
theorem dX11_been_1 : decode cX11_been 1 = .ok (.iconst 0, 1) := by decide +kernel
theorem dX11_been_2 : decode cX11_been 2 = .ok (.bipush 9, 2) := by decide +kernel
theorem dX11_been_4 : decode cX11_been 4 = .ok (.invokestatic 228, 3) := by decide +kernel
theorem dX11_been_7 : decode cX11_been 7 = .ok (.ifCond .eq 18, 3) := by decide +kernel
theorem dX11_been_10 : decode cX11_been 10 = .ok (.aload_n 0, 1) := by decide +kernel
theorem dX11_been_11 : decode cX11_been 11 = .ok (.aload_n 0, 1) := by decide +kernel
theorem dX11_been_12 : decode cX11_been 12 = .ok (.bipush 21, 2) := by decide +kernel
theorem dX11_been_14 : decode cX11_been 14 = .ok (.iload_n 1, 1) := by decide +kernel
theorem dX11_been_15 : decode cX11_been 15 = .ok (.iadd, 1) := by decide +kernel
theorem dX11_been_16 : decode cX11_been 16 = .ok (.invokevirtual 47, 3) := by decide +kernel
theorem dX11_been_19 : decode cX11_been 19 = .ok (.invokevirtual 276, 3) := by decide +kernel
theorem dX11_been_22 : decode cX11_been 22 = .ok (.goto 8, 3) := by decide +kernel
theorem dX11_been_25 : decode cX11_been 25 = .ok (.aload_n 0, 1) := by decide +kernel
theorem dX11_been_26 : decode cX11_been 26 = .ok (.iconst 1, 1) := by decide +kernel
theorem dX11_been_27 : decode cX11_been 27 = .ok (.invokevirtual 267, 3) := by decide +kernel
theorem dX11_been_30 : decode cX11_been 30 = .ok (.ireturn, 1) := by decide +kernel
theorem dX11_begins_0 : decode cX11_begins 0 = .ok (.iconst 0, 1) := by decide +kernel
theorem dX11_begins_1 : decode cX11_begins 1 = .ok (.istore_n 1, 1) := by decide +kernel
theorem dX11_begins_2 : decode cX11_begins 2 = .ok (.iload_n 1, 1) := by decide +kernel
theorem dX11_begins_3 : decode cX11_begins 3 = .ok (.sipush 600, 3) := by decide +kernel
theorem dX11_begins_6 : decode cX11_begins 6 = .ok (.if_icmp .ge 15, 3) := by decide +kernel
theorem dX11_begins_9 : decode cX11_begins 9 = .ok (.aload_n 0, 1) := by decide +kernel
theorem dX11_begins_10 : decode cX11_begins 10 = .ok (.iload_n 1, 1) := by decide +kernel
theorem dX11_begins_11 : decode cX11_begins 11 = .ok (.iconst 0, 1) := by decide +kernel
theorem dX11_begins_12 : decode cX11_begins 12 = .ok (.invokevirtual 43, 3) := by decide +kernel
theorem dX11_begins_15 : decode cX11_begins 15 = .ok (.iinc 1 1, 3) := by decide +kernel
theorem dX11_begins_18 : decode cX11_begins 18 = .ok (.goto (-16), 3) := by decide +kernel
theorem dX11_begins_21 : decode cX11_begins 21 = .ok (.aload_n 0, 1) := by decide +kernel
theorem dX11_begins_22 : decode cX11_begins 22 = .ok (.iconst 1, 1) := by decide +kernel
theorem dX11_begins_23 : decode cX11_begins 23 = .ok (.iconst (-1), 1) := by decide +kernel
theorem dX11_begins_24 : decode cX11_begins 24 = .ok (.invokevirtual 43, 3) := by decide +kernel
theorem dX11_begins_27 : decode cX11_begins 27 = .ok (.aload_n 0, 1) := by decide +kernel
theorem dX11_begins_28 : decode cX11_begins 28 = .ok (.bipush 16, 2) := by decide +kernel
theorem dX11_begins_30 : decode cX11_begins 30 = .ok (.iconst (-1), 1) := by decide +kernel
theorem dX11_begins_31 : decode cX11_begins 31 = .ok (.invokevirtual 43, 3) := by decide +kernel
theorem dX11_begins_34 : decode cX11_begins 34 = .ok (.return_, 1) := by decide +kernel
theorem dX11_blamed_0 : decode cX11_blamed 0 = .ok (.aload_n 0, 1) := by decide +kernel
theorem dX11_blamed_1 : decode cX11_blamed 1 = .ok (.iconst 0, 1) := by decide +kernel
theorem dX11_blamed_2 : decode cX11_blamed 2 = .ok (.invokevirtual 322, 3) := by decide +kernel
theorem dX11_blamed_5 : decode cX11_blamed 5 = .ok (.iconst (-1), 1) := by decide +kernel
theorem dX11_blamed_6 : decode cX11_blamed 6 = .ok (.istore_n 1, 1) := by decide +kernel
theorem dX11_blamed_7 : decode cX11_blamed 7 = .ok (.iconst 0, 1) := by decide +kernel
theorem dX11_blamed_8 : decode cX11_blamed 8 = .ok (.istore_n 2, 1) := by decide +kernel
theorem dX11_blamed_9 : decode cX11_blamed 9 = .ok (.iload_n 2, 1) := by decide +kernel
theorem dX11_blamed_10 : decode cX11_blamed 10 = .ok (.sipush 3000, 3) := by decide +kernel
theorem dX11_blamed_13 : decode cX11_blamed 13 = .ok (.if_icmp .ge 23, 3) := by decide +kernel
theorem dX11_blamed_16 : decode cX11_blamed 16 = .ok (.iload_n 1, 1) := by decide +kernel
theorem dX11_blamed_17 : decode cX11_blamed 17 = .ok (.iconst (-1), 1) := by decide +kernel
theorem dX11_blamed_18 : decode cX11_blamed 18 = .ok (.if_icmp .ne 18, 3) := by decide +kernel
theorem dX11_blamed_21 : decode cX11_blamed 21 = .ok (.aload_n 0, 1) := by decide +kernel
theorem dX11_blamed_22 : decode cX11_blamed 22 = .ok (.invokevirtual 297, 3) := by decide +kernel
theorem dX11_blamed_25 : decode cX11_blamed 25 = .ok (.aload_n 0, 1) := by decide +kernel
theorem dX11_blamed_26 : decode cX11_blamed 26 = .ok (.getfield 143, 3) := by decide +kernel
theorem dX11_blamed_29 : decode cX11_blamed 29 = .ok (.istore_n 1, 1) := by decide +kernel
theorem dX11_blamed_30 : decode cX11_blamed 30 = .ok (.iinc 2 1, 3) := by decide +kernel
theorem dX11_blamed_33 : decode cX11_blamed 33 = .ok (.goto (-24), 3) := by decide +kernel
theorem dX11_blamed_36 : decode cX11_blamed 36 = .ok (.aload_n 0, 1) := by decide +kernel
theorem dX11_blamed_37 : decode cX11_blamed 37 = .ok (.invokevirtual 329, 3) := by decide +kernel
theorem dX11_blamed_40 : decode cX11_blamed 40 = .ok (.aload_n 0, 1) := by decide +kernel
theorem dX11_blamed_41 : decode cX11_blamed 41 = .ok (.iload_n 1, 1) := by decide +kernel
theorem dX11_blamed_42 : decode cX11_blamed 42 = .ok (.invokevirtual 336, 3) := by decide +kernel
theorem dX11_blamed_45 : decode cX11_blamed 45 = .ok (.ireturn, 1) := by decide +kernel
theorem dX11_byteAt_0 : decode cX11_byteAt 0 = .ok (.iload_n 1, 1) := by decide +kernel
theorem dX11_byteAt_1 : decode cX11_byteAt 1 = .ok (.aload_n 0, 1) := by decide +kernel
theorem dX11_byteAt_2 : decode cX11_byteAt 2 = .ok (.getfield 174, 3) := by decide +kernel
theorem dX11_byteAt_5 : decode cX11_byteAt 5 = .ok (.if_icmp .ge 16, 3) := by decide +kernel
theorem dX11_byteAt_21 : decode cX11_byteAt 21 = .ok (.iconst (-1), 1) := by decide +kernel
theorem dX11_byteAt_22 : decode cX11_byteAt 22 = .ok (.ireturn, 1) := by decide +kernel
theorem dX11_comes_0 : decode cX11_comes 0 = .ok (.aload_n 0, 1) := by decide +kernel
theorem dX11_comes_1 : decode cX11_comes 1 = .ok (.iconst 0, 1) := by decide +kernel
theorem dX11_comes_2 : decode cX11_comes 2 = .ok (.invokevirtual 47, 3) := by decide +kernel
theorem dX11_comes_5 : decode cX11_comes 5 = .ok (.istore_n 2, 1) := by decide +kernel
theorem dX11_comes_6 : decode cX11_comes 6 = .ok (.aload_n 0, 1) := by decide +kernel
theorem dX11_comes_7 : decode cX11_comes 7 = .ok (.bipush 40, 2) := by decide +kernel
theorem dX11_comes_9 : decode cX11_comes 9 = .ok (.iload_n 2, 1) := by decide +kernel
theorem dX11_comes_10 : decode cX11_comes 10 = .ok (.iadd, 1) := by decide +kernel
theorem dX11_comes_11 : decode cX11_comes 11 = .ok (.iload_n 1, 1) := by decide +kernel
theorem dX11_comes_12 : decode cX11_comes 12 = .ok (.invokevirtual 43, 3) := by decide +kernel
theorem dX11_comes_15 : decode cX11_comes 15 = .ok (.aload_n 0, 1) := by decide +kernel
theorem dX11_comes_16 : decode cX11_comes 16 = .ok (.bipush 48, 2) := by decide +kernel
theorem dX11_comes_18 : decode cX11_comes 18 = .ok (.iload_n 2, 1) := by decide +kernel
theorem dX11_comes_19 : decode cX11_comes 19 = .ok (.iadd, 1) := by decide +kernel
theorem dX11_comes_20 : decode cX11_comes 20 = .ok (.iconst 1, 1) := by decide +kernel
theorem dX11_comes_21 : decode cX11_comes 21 = .ok (.invokevirtual 43, 3) := by decide +kernel
theorem dX11_comes_24 : decode cX11_comes 24 = .ok (.aload_n 0, 1) := by decide +kernel
theorem dX11_comes_25 : decode cX11_comes 25 = .ok (.bipush 56, 2) := by decide +kernel
theorem dX11_comes_27 : decode cX11_comes 27 = .ok (.iload_n 2, 1) := by decide +kernel
theorem dX11_comes_28 : decode cX11_comes 28 = .ok (.iadd, 1) := by decide +kernel
theorem dX11_comes_29 : decode cX11_comes 29 = .ok (.iconst (-1), 1) := by decide +kernel
theorem dX11_comes_30 : decode cX11_comes 30 = .ok (.invokevirtual 43, 3) := by decide +kernel
theorem dX11_comes_33 : decode cX11_comes 33 = .ok (.aload_n 0, 1) := by decide +kernel
theorem dX11_comes_34 : decode cX11_comes 34 = .ok (.iconst 0, 1) := by decide +kernel
theorem dX11_comes_35 : decode cX11_comes 35 = .ok (.iconst 1, 1) := by decide +kernel
theorem dX11_comes_36 : decode cX11_comes 36 = .ok (.invokevirtual 69, 3) := by decide +kernel
theorem dX11_comes_39 : decode cX11_comes 39 = .ok (.iload_n 2, 1) := by decide +kernel
theorem dX11_comes_40 : decode cX11_comes 40 = .ok (.ireturn, 1) := by decide +kernel
theorem dX11_copies_0 : decode cX11_copies 0 = .ok (.iconst 0, 1) := by decide +kernel
theorem dX11_copies_1 : decode cX11_copies 1 = .ok (.istore_n 3, 1) := by decide +kernel
theorem dX11_copies_2 : decode cX11_copies 2 = .ok (.iload_n 3, 1) := by decide +kernel
theorem dX11_copies_3 : decode cX11_copies 3 = .ok (.sipush 600, 3) := by decide +kernel
theorem dX11_copies_6 : decode cX11_copies 6 = .ok (.if_icmp .ge 25, 3) := by decide +kernel
theorem dX11_copies_9 : decode cX11_copies 9 = .ok (.aload_n 0, 1) := by decide +kernel
theorem dX11_copies_10 : decode cX11_copies 10 = .ok (.getfield 7, 3) := by decide +kernel
theorem dX11_copies_13 : decode cX11_copies 13 = .ok (.iload_n 2, 1) := by decide +kernel
theorem dX11_copies_14 : decode cX11_copies 14 = .ok (.iload_n 3, 1) := by decide +kernel
theorem dX11_copies_15 : decode cX11_copies 15 = .ok (.iadd, 1) := by decide +kernel
theorem dX11_copies_16 : decode cX11_copies 16 = .ok (.aload_n 0, 1) := by decide +kernel
theorem dX11_copies_17 : decode cX11_copies 17 = .ok (.getfield 7, 3) := by decide +kernel
theorem dX11_copies_20 : decode cX11_copies 20 = .ok (.iload_n 1, 1) := by decide +kernel
theorem dX11_copies_21 : decode cX11_copies 21 = .ok (.iload_n 3, 1) := by decide +kernel
theorem dX11_copies_22 : decode cX11_copies 22 = .ok (.iadd, 1) := by decide +kernel
theorem dX11_copies_23 : decode cX11_copies 23 = .ok (.iaload, 1) := by decide +kernel
theorem dX11_copies_24 : decode cX11_copies 24 = .ok (.iastore, 1) := by decide +kernel
theorem dX11_copies_25 : decode cX11_copies 25 = .ok (.iinc 3 1, 3) := by decide +kernel
theorem dX11_copies_28 : decode cX11_copies 28 = .ok (.goto (-26), 3) := by decide +kernel
theorem dX11_copies_31 : decode cX11_copies 31 = .ok (.return_, 1) := by decide +kernel
theorem dX11_doesCount_0 : decode cX11_doesCount 0 = .ok (.aload_n 0, 1) := by decide +kernel
theorem dX11_doesCount_1 : decode cX11_doesCount 1 = .ok (.bipush 16, 2) := by decide +kernel
theorem dX11_doesCount_3 : decode cX11_doesCount 3 = .ok (.invokevirtual 47, 3) := by decide +kernel
theorem dX11_doesCount_6 : decode cX11_doesCount 6 = .ok (.istore_n 1, 1) := by decide +kernel
theorem dX11_doesCount_7 : decode cX11_doesCount 7 = .ok (.iload_n 1, 1) := by decide +kernel
theorem dX11_doesCount_8 : decode cX11_doesCount 8 = .ok (.iconst (-1), 1) := by decide +kernel
theorem dX11_doesCount_9 : decode cX11_doesCount 9 = .ok (.if_icmp .ne 5, 3) := by decide +kernel
theorem dX11_doesCount_12 : decode cX11_doesCount 12 = .ok (.iconst 0, 1) := by decide +kernel
theorem dX11_doesCount_13 : decode cX11_doesCount 13 = .ok (.ireturn, 1) := by decide +kernel
theorem dX11_drawBy_0 : decode cX11_drawBy 0 = .ok (.aload_n 0, 1) := by decide +kernel
theorem dX11_drawBy_1 : decode cX11_drawBy 1 = .ok (.aload_n 0, 1) := by decide +kernel
theorem dX11_drawBy_2 : decode cX11_drawBy 2 = .ok (.getfield 300, 3) := by decide +kernel
theorem dX11_drawBy_5 : decode cX11_drawBy 5 = .ok (.sipush 3877, 3) := by decide +kernel
theorem dX11_drawBy_8 : decode cX11_drawBy 8 = .ok (.imul, 1) := by decide +kernel
theorem dX11_drawBy_9 : decode cX11_drawBy 9 = .ok (.sipush 29573, 3) := by decide +kernel
theorem dX11_drawBy_12 : decode cX11_drawBy 12 = .ok (.iadd, 1) := by decide +kernel
theorem dX11_drawBy_13 : decode cX11_drawBy 13 = .ok (.ldc_w 303, 3) := by decide +kernel
theorem dX11_drawBy_16 : decode cX11_drawBy 16 = .ok (.irem, 1) := by decide +kernel
theorem dX11_drawBy_17 : decode cX11_drawBy 17 = .ok (.putfield 300, 3) := by decide +kernel
theorem dX11_drawBy_20 : decode cX11_drawBy 20 = .ok (.aload_n 0, 1) := by decide +kernel
theorem dX11_drawBy_21 : decode cX11_drawBy 21 = .ok (.getfield 300, 3) := by decide +kernel
theorem dX11_drawBy_24 : decode cX11_drawBy 24 = .ok (.iload_n 1, 1) := by decide +kernel
theorem dX11_drawBy_25 : decode cX11_drawBy 25 = .ok (.imul, 1) := by decide +kernel
theorem dX11_drawBy_26 : decode cX11_drawBy 26 = .ok (.ldc_w 303, 3) := by decide +kernel
theorem dX11_drawBy_29 : decode cX11_drawBy 29 = .ok (.idiv, 1) := by decide +kernel
theorem dX11_drawBy_30 : decode cX11_drawBy 30 = .ok (.ireturn, 1) := by decide +kernel
theorem dX11_draws_0 : decode cX11_draws 0 = .ok (.aload_n 0, 1) := by decide +kernel
theorem dX11_draws_1 : decode cX11_draws 1 = .ok (.bipush 16, 2) := by decide +kernel
theorem dX11_draws_3 : decode cX11_draws 3 = .ok (.invokevirtual 304, 3) := by decide +kernel
theorem dX11_draws_6 : decode cX11_draws 6 = .ok (.iload_n 1, 1) := by decide +kernel
theorem dX11_draws_7 : decode cX11_draws 7 = .ok (.if_icmp .ge 11, 3) := by decide +kernel
theorem dX11_draws_10 : decode cX11_draws 10 = .ok (.aload_n 0, 1) := by decide +kernel
theorem dX11_draws_11 : decode cX11_draws 11 = .ok (.iconst 0, 1) := by decide +kernel
theorem dX11_draws_12 : decode cX11_draws 12 = .ok (.invokevirtual 47, 3) := by decide +kernel
theorem dX11_draws_15 : decode cX11_draws 15 = .ok (.ifCond .ne 4, 3) := by decide +kernel
theorem dX11_draws_18 : decode cX11_draws 18 = .ok (.return_, 1) := by decide +kernel
theorem dX11_event_0 : decode cX11_event 0 = .ok (.iload_n 1, 1) := by decide +kernel
theorem dX11_event_1 : decode cX11_event 1 = .ok (.iconst 0, 1) := by decide +kernel
theorem dX11_event_2 : decode cX11_event 2 = .ok (.bipush 23, 2) := by decide +kernel
theorem dX11_event_4 : decode cX11_event 4 = .ok (.invokestatic 228, 3) := by decide +kernel
theorem dX11_event_7 : decode cX11_event 7 = .ok (.ifCond .eq 12, 3) := by decide +kernel
theorem dX11_event_10 : decode cX11_event 10 = .ok (.iload_n 2, 1) := by decide +kernel
theorem dX11_event_11 : decode cX11_event 11 = .ok (.iconst 0, 1) := by decide +kernel
theorem dX11_event_12 : decode cX11_event 12 = .ok (.iconst 2, 1) := by decide +kernel
theorem dX11_event_13 : decode cX11_event 13 = .ok (.invokestatic 228, 3) := by decide +kernel
theorem dX11_event_16 : decode cX11_event 16 = .ok (.ifCond .ne 9, 3) := by decide +kernel
theorem dX11_event_19 : decode cX11_event 19 = .ok (.aload_n 0, 1) := by decide +kernel
theorem dX11_event_20 : decode cX11_event 20 = .ok (.iconst 1, 1) := by decide +kernel
theorem dX11_event_21 : decode cX11_event 21 = .ok (.invokevirtual 267, 3) := by decide +kernel
theorem dX11_event_24 : decode cX11_event 24 = .ok (.ireturn, 1) := by decide +kernel
theorem dX11_event_25 : decode cX11_event 25 = .ok (.iload_n 1, 1) := by decide +kernel
theorem dX11_event_26 : decode cX11_event 26 = .ok (.aload_n 0, 1) := by decide +kernel
theorem dX11_event_27 : decode cX11_event 27 = .ok (.bipush 32, 2) := by decide +kernel
theorem dX11_event_29 : decode cX11_event 29 = .ok (.invokevirtual 47, 3) := by decide +kernel
theorem dX11_event_32 : decode cX11_event 32 = .ok (.if_icmp .ge 32, 3) := by decide +kernel
theorem dX11_event_64 : decode cX11_event 64 = .ok (.aload_n 0, 1) := by decide +kernel
theorem dX11_event_65 : decode cX11_event 65 = .ok (.iconst 5, 1) := by decide +kernel
theorem dX11_event_66 : decode cX11_event 66 = .ok (.invokevirtual 267, 3) := by decide +kernel
theorem dX11_event_69 : decode cX11_event 69 = .ok (.ireturn, 1) := by decide +kernel
theorem dX11_fault_0 : decode cX11_fault 0 = .ok (.iload_n 1, 1) := by decide +kernel
theorem dX11_fault_1 : decode cX11_fault 1 = .ok (.ifCond .ne 10, 3) := by decide +kernel
theorem dX11_fault_4 : decode cX11_fault 4 = .ok (.aload_n 0, 1) := by decide +kernel
theorem dX11_fault_5 : decode cX11_fault 5 = .ok (.getfield 28, 3) := by decide +kernel
theorem dX11_fault_8 : decode cX11_fault 8 = .ok (.goto 16, 3) := by decide +kernel
theorem dX11_fault_11 : decode cX11_fault 11 = .ok (.iload_n 1, 1) := by decide +kernel
theorem dX11_fault_12 : decode cX11_fault 12 = .ok (.iconst 1, 1) := by decide +kernel
theorem dX11_fault_13 : decode cX11_fault 13 = .ok (.if_icmp .ne 10, 3) := by decide +kernel
theorem dX11_fault_16 : decode cX11_fault 16 = .ok (.aload_n 0, 1) := by decide +kernel
theorem dX11_fault_17 : decode cX11_fault 17 = .ok (.getfield 24, 3) := by decide +kernel
theorem dX11_fault_20 : decode cX11_fault 20 = .ok (.goto 4, 3) := by decide +kernel
theorem dX11_fault_23 : decode cX11_fault 23 = .ok (.iconst (-1), 1) := by decide +kernel
theorem dX11_fault_24 : decode cX11_fault 24 = .ok (.ireturn, 1) := by decide +kernel
theorem dX11_feed_0 : decode cX11_feed 0 = .ok (.aload_n 0, 1) := by decide +kernel
theorem dX11_feed_1 : decode cX11_feed 1 = .ok (.getfield 168, 3) := by decide +kernel
theorem dX11_feed_4 : decode cX11_feed 4 = .ok (.sipush 480, 3) := by decide +kernel
theorem dX11_feed_7 : decode cX11_feed 7 = .ok (.if_icmp .le 5, 3) := by decide +kernel
theorem dX11_feed_12 : decode cX11_feed 12 = .ok (.aload_n 0, 1) := by decide +kernel
theorem dX11_feed_13 : decode cX11_feed 13 = .ok (.iload_n 1, 1) := by decide +kernel
theorem dX11_feed_14 : decode cX11_feed 14 = .ok (.invokevirtual 171, 3) := by decide +kernel
theorem dX11_feed_17 : decode cX11_feed 17 = .ok (.aload_n 0, 1) := by decide +kernel
theorem dX11_feed_18 : decode cX11_feed 18 = .ok (.iload_n 2, 1) := by decide +kernel
theorem dX11_feed_19 : decode cX11_feed 19 = .ok (.invokevirtual 171, 3) := by decide +kernel
theorem dX11_feed_22 : decode cX11_feed 22 = .ok (.aload_n 0, 1) := by decide +kernel
theorem dX11_feed_23 : decode cX11_feed 23 = .ok (.iload_n 3, 1) := by decide +kernel
theorem dX11_feed_24 : decode cX11_feed 24 = .ok (.invokevirtual 171, 3) := by decide +kernel
theorem dX11_feed_27 : decode cX11_feed 27 = .ok (.aload_n 0, 1) := by decide +kernel
theorem dX11_feed_28 : decode cX11_feed 28 = .ok (.iload 4, 2) := by decide +kernel
theorem dX11_feed_30 : decode cX11_feed 30 = .ok (.invokevirtual 171, 3) := by decide +kernel
theorem dX11_feed_33 : decode cX11_feed 33 = .ok (.aload_n 0, 1) := by decide +kernel
theorem dX11_feed_34 : decode cX11_feed 34 = .ok (.iload 5, 2) := by decide +kernel
theorem dX11_feed_36 : decode cX11_feed 36 = .ok (.invokevirtual 171, 3) := by decide +kernel
theorem dX11_feed_39 : decode cX11_feed 39 = .ok (.aload_n 0, 1) := by decide +kernel
theorem dX11_feed_40 : decode cX11_feed 40 = .ok (.getfield 168, 3) := by decide +kernel
theorem dX11_feed_43 : decode cX11_feed 43 = .ok (.ireturn, 1) := by decide +kernel
theorem dX11_four_0 : decode cX11_four 0 = .ok (.iconst 3, 1) := by decide +kernel
theorem dX11_four_1 : decode cX11_four 1 = .ok (.istore_n 2, 1) := by decide +kernel
theorem dX11_four_2 : decode cX11_four 2 = .ok (.iload_n 2, 1) := by decide +kernel
theorem dX11_four_3 : decode cX11_four 3 = .ok (.ifCond .lt 35, 3) := by decide +kernel
theorem dX11_four_6 : decode cX11_four 6 = .ok (.aload_n 0, 1) := by decide +kernel
theorem dX11_four_7 : decode cX11_four 7 = .ok (.getfield 13, 3) := by decide +kernel
theorem dX11_four_10 : decode cX11_four 10 = .ok (.aload_n 0, 1) := by decide +kernel
theorem dX11_four_11 : decode cX11_four 11 = .ok (.getfield 168, 3) := by decide +kernel
theorem dX11_four_14 : decode cX11_four 14 = .ok (.iload_n 1, 1) := by decide +kernel
theorem dX11_four_15 : decode cX11_four 15 = .ok (.bipush 8, 2) := by decide +kernel
theorem dX11_four_17 : decode cX11_four 17 = .ok (.iload_n 2, 1) := by decide +kernel
theorem dX11_four_18 : decode cX11_four 18 = .ok (.imul, 1) := by decide +kernel
theorem dX11_four_19 : decode cX11_four 19 = .ok (.ishr, 1) := by decide +kernel
theorem dX11_four_20 : decode cX11_four 20 = .ok (.i2b, 1) := by decide +kernel
theorem dX11_four_21 : decode cX11_four 21 = .ok (.bastore, 1) := by decide +kernel
theorem dX11_four_22 : decode cX11_four 22 = .ok (.aload_n 0, 1) := by decide +kernel
theorem dX11_four_23 : decode cX11_four 23 = .ok (.dup, 1) := by decide +kernel
theorem dX11_four_24 : decode cX11_four 24 = .ok (.getfield 168, 3) := by decide +kernel
theorem dX11_four_27 : decode cX11_four 27 = .ok (.iconst 1, 1) := by decide +kernel
theorem dX11_four_28 : decode cX11_four 28 = .ok (.iadd, 1) := by decide +kernel
theorem dX11_four_29 : decode cX11_four 29 = .ok (.putfield 168, 3) := by decide +kernel
theorem dX11_four_32 : decode cX11_four 32 = .ok (.iinc 2 (-1), 3) := by decide +kernel
theorem dX11_four_35 : decode cX11_four 35 = .ok (.goto (-33), 3) := by decide +kernel
theorem dX11_four_38 : decode cX11_four 38 = .ok (.return_, 1) := by decide +kernel
theorem dX11_gain_0 : decode cX11_gain 0 = .ok (.aload_n 0, 1) := by decide +kernel
theorem dX11_gain_1 : decode cX11_gain 1 = .ok (.invokevirtual 339, 3) := by decide +kernel
theorem dX11_gain_4 : decode cX11_gain 4 = .ok (.istore_n 1, 1) := by decide +kernel
theorem dX11_gain_5 : decode cX11_gain 5 = .ok (.aload_n 0, 1) := by decide +kernel
theorem dX11_gain_6 : decode cX11_gain 6 = .ok (.iload_n 1, 1) := by decide +kernel
theorem dX11_gain_7 : decode cX11_gain 7 = .ok (.iconst 0, 1) := by decide +kernel
theorem dX11_gain_8 : decode cX11_gain 8 = .ok (.iconst 0, 1) := by decide +kernel
theorem dX11_gain_9 : decode cX11_gain 9 = .ok (.invokevirtual 342, 3) := by decide +kernel
theorem dX11_gain_12 : decode cX11_gain 12 = .ok (.aload_n 0, 1) := by decide +kernel
theorem dX11_gain_13 : decode cX11_gain 13 = .ok (.iload_n 1, 1) := by decide +kernel
theorem dX11_gain_14 : decode cX11_gain 14 = .ok (.iconst 1, 1) := by decide +kernel
theorem dX11_gain_15 : decode cX11_gain 15 = .ok (.bipush 48, 2) := by decide +kernel
theorem dX11_gain_17 : decode cX11_gain 17 = .ok (.invokevirtual 342, 3) := by decide +kernel
theorem dX11_gain_20 : decode cX11_gain 20 = .ok (.iconst 0, 1) := by decide +kernel
theorem dX11_gain_21 : decode cX11_gain 21 = .ok (.istore_n 2, 1) := by decide +kernel
theorem dX11_gain_22 : decode cX11_gain 22 = .ok (.iconst 0, 1) := by decide +kernel
theorem dX11_gain_23 : decode cX11_gain 23 = .ok (.istore_n 3, 1) := by decide +kernel
theorem dX11_gain_24 : decode cX11_gain 24 = .ok (.iload_n 3, 1) := by decide +kernel
theorem dX11_gain_25 : decode cX11_gain 25 = .ok (.iload_n 1, 1) := by decide +kernel
theorem dX11_gain_26 : decode cX11_gain 26 = .ok (.if_icmp .ge 49, 3) := by decide +kernel
theorem dX11_gain_75 : decode cX11_gain 75 = .ok (.aload_n 0, 1) := by decide +kernel
theorem dX11_gain_76 : decode cX11_gain 76 = .ok (.iload_n 2, 1) := by decide +kernel
theorem dX11_gain_77 : decode cX11_gain 77 = .ok (.invokevirtual 276, 3) := by decide +kernel
theorem dX11_gain_80 : decode cX11_gain 80 = .ok (.ireturn, 1) := by decide +kernel
theorem dX11_gives_0 : decode cX11_gives 0 = .ok (.aload_n 0, 1) := by decide +kernel
theorem dX11_gives_1 : decode cX11_gives 1 = .ok (.iconst 0, 1) := by decide +kernel
theorem dX11_gives_2 : decode cX11_gives 2 = .ok (.putfield 40, 3) := by decide +kernel
theorem dX11_gives_5 : decode cX11_gives 5 = .ok (.iload_n 1, 1) := by decide +kernel
theorem dX11_gives_6 : decode cX11_gives 6 = .ok (.ireturn, 1) := by decide +kernel
theorem dX11_givesOr_0 : decode cX11_givesOr 0 = .ok (.iload_n 1, 1) := by decide +kernel
theorem dX11_givesOr_1 : decode cX11_givesOr 1 = .ok (.iconst (-1), 1) := by decide +kernel
theorem dX11_givesOr_2 : decode cX11_givesOr 2 = .ok (.if_icmp .ne 12, 3) := by decide +kernel
theorem dX11_givesOr_5 : decode cX11_givesOr 5 = .ok (.aload_n 0, 1) := by decide +kernel
theorem dX11_givesOr_6 : decode cX11_givesOr 6 = .ok (.bipush 7, 2) := by decide +kernel
theorem dX11_givesOr_8 : decode cX11_givesOr 8 = .ok (.invokevirtual 267, 3) := by decide +kernel
theorem dX11_givesOr_11 : decode cX11_givesOr 11 = .ok (.goto 8, 3) := by decide +kernel
theorem dX11_givesOr_14 : decode cX11_givesOr 14 = .ok (.aload_n 0, 1) := by decide +kernel
theorem dX11_givesOr_15 : decode cX11_givesOr 15 = .ok (.iload_n 1, 1) := by decide +kernel
theorem dX11_givesOr_16 : decode cX11_givesOr 16 = .ok (.invokevirtual 276, 3) := by decide +kernel
theorem dX11_givesOr_19 : decode cX11_givesOr 19 = .ok (.ireturn, 1) := by decide +kernel
theorem dX11_got_0 : decode cX11_got 0 = .ok (.iload_n 1, 1) := by decide +kernel
theorem dX11_got_1 : decode cX11_got 1 = .ok (.iconst 0, 1) := by decide +kernel
theorem dX11_got_2 : decode cX11_got 2 = .ok (.bipush 15, 2) := by decide +kernel
theorem dX11_got_4 : decode cX11_got 4 = .ok (.invokestatic 228, 3) := by decide +kernel
theorem dX11_got_7 : decode cX11_got 7 = .ok (.ifCond .eq 12, 3) := by decide +kernel
theorem dX11_got_10 : decode cX11_got 10 = .ok (.iload_n 2, 1) := by decide +kernel
theorem dX11_got_11 : decode cX11_got 11 = .ok (.iconst 0, 1) := by decide +kernel
theorem dX11_got_12 : decode cX11_got 12 = .ok (.iconst 5, 1) := by decide +kernel
theorem dX11_got_13 : decode cX11_got 13 = .ok (.invokestatic 228, 3) := by decide +kernel
theorem dX11_got_16 : decode cX11_got 16 = .ok (.ifCond .ne 9, 3) := by decide +kernel
theorem dX11_got_19 : decode cX11_got 19 = .ok (.aload_n 0, 1) := by decide +kernel
theorem dX11_got_20 : decode cX11_got 20 = .ok (.iconst 1, 1) := by decide +kernel
theorem dX11_got_21 : decode cX11_got 21 = .ok (.invokevirtual 267, 3) := by decide +kernel
theorem dX11_got_24 : decode cX11_got 24 = .ok (.ireturn, 1) := by decide +kernel
theorem dX11_got_25 : decode cX11_got 25 = .ok (.iload_n 1, 1) := by decide +kernel
theorem dX11_got_26 : decode cX11_got 26 = .ok (.aload_n 0, 1) := by decide +kernel
theorem dX11_got_27 : decode cX11_got 27 = .ok (.bipush 31, 2) := by decide +kernel
theorem dX11_got_29 : decode cX11_got 29 = .ok (.invokevirtual 47, 3) := by decide +kernel
theorem dX11_got_32 : decode cX11_got 32 = .ok (.if_icmp .ge 33, 3) := by decide +kernel
theorem dX11_got_65 : decode cX11_got 65 = .ok (.aload_n 0, 1) := by decide +kernel
theorem dX11_got_66 : decode cX11_got 66 = .ok (.iconst 5, 1) := by decide +kernel
theorem dX11_got_67 : decode cX11_got 67 = .ok (.invokevirtual 267, 3) := by decide +kernel
theorem dX11_got_70 : decode cX11_got 70 = .ok (.ireturn, 1) := by decide +kernel
theorem dX11_healed_0 : decode cX11_healed 0 = .ok (.aload_n 0, 1) := by decide +kernel
theorem dX11_healed_1 : decode cX11_healed 1 = .ok (.aload_n 0, 1) := by decide +kernel
theorem dX11_healed_2 : decode cX11_healed 2 = .ok (.iconst 2, 1) := by decide +kernel
theorem dX11_healed_3 : decode cX11_healed 3 = .ok (.iconst 0, 1) := by decide +kernel
theorem dX11_healed_4 : decode cX11_healed 4 = .ok (.invokevirtual 332, 3) := by decide +kernel
theorem dX11_healed_7 : decode cX11_healed 7 = .ok (.invokevirtual 336, 3) := by decide +kernel
theorem dX11_healed_10 : decode cX11_healed 10 = .ok (.ireturn, 1) := by decide +kernel
theorem dX11_heir_0 : decode cX11_heir 0 = .ok (.aload_n 0, 1) := by decide +kernel
theorem dX11_heir_1 : decode cX11_heir 1 = .ok (.invokevirtual 146, 3) := by decide +kernel
theorem dX11_heir_4 : decode cX11_heir 4 = .ok (.istore_n 1, 1) := by decide +kernel
theorem dX11_heir_5 : decode cX11_heir 5 = .ok (.iload_n 1, 1) := by decide +kernel
theorem dX11_heir_6 : decode cX11_heir 6 = .ok (.iconst (-1), 1) := by decide +kernel
theorem dX11_heir_7 : decode cX11_heir 7 = .ok (.if_icmp .ne 11, 3) := by decide +kernel
theorem dX11_heir_10 : decode cX11_heir 10 = .ok (.aload_n 0, 1) := by decide +kernel
theorem dX11_heir_11 : decode cX11_heir 11 = .ok (.iconst 5, 1) := by decide +kernel
theorem dX11_heir_12 : decode cX11_heir 12 = .ok (.invokevirtual 267, 3) := by decide +kernel
theorem dX11_heir_15 : decode cX11_heir 15 = .ok (.goto 8, 3) := by decide +kernel
theorem dX11_heir_23 : decode cX11_heir 23 = .ok (.ireturn, 1) := by decide +kernel
theorem dX11_heirNow_0 : decode cX11_heirNow 0 = .ok (.iconst (-1), 1) := by decide +kernel
theorem dX11_heirNow_1 : decode cX11_heirNow 1 = .ok (.istore_n 1, 1) := by decide +kernel
theorem dX11_heirNow_2 : decode cX11_heirNow 2 = .ok (.iconst 0, 1) := by decide +kernel
theorem dX11_heirNow_3 : decode cX11_heirNow 3 = .ok (.istore_n 2, 1) := by decide +kernel
theorem dX11_heirNow_4 : decode cX11_heirNow 4 = .ok (.iload_n 2, 1) := by decide +kernel
theorem dX11_heirNow_5 : decode cX11_heirNow 5 = .ok (.aload_n 0, 1) := by decide +kernel
theorem dX11_heirNow_6 : decode cX11_heirNow 6 = .ok (.iconst 0, 1) := by decide +kernel
theorem dX11_heirNow_7 : decode cX11_heirNow 7 = .ok (.invokevirtual 47, 3) := by decide +kernel
theorem dX11_heirNow_10 : decode cX11_heirNow 10 = .ok (.if_icmp .ge 43, 3) := by decide +kernel
theorem dX11_heirNow_53 : decode cX11_heirNow 53 = .ok (.iload_n 1, 1) := by decide +kernel
theorem dX11_heirNow_54 : decode cX11_heirNow 54 = .ok (.ireturn, 1) := by decide +kernel
theorem dX11_hops_0 : decode cX11_hops 0 = .ok (.aload_n 0, 1) := by decide +kernel
theorem dX11_hops_1 : decode cX11_hops 1 = .ok (.iload_n 1, 1) := by decide +kernel
theorem dX11_hops_2 : decode cX11_hops 2 = .ok (.invokevirtual 51, 3) := by decide +kernel
theorem dX11_hops_5 : decode cX11_hops 5 = .ok (.ifCond .eq 11, 3) := by decide +kernel
theorem dX11_hops_16 : decode cX11_hops 16 = .ok (.aload_n 0, 1) := by decide +kernel
theorem dX11_hops_17 : decode cX11_hops 17 = .ok (.iconst 2, 1) := by decide +kernel
theorem dX11_hops_18 : decode cX11_hops 18 = .ok (.invokevirtual 267, 3) := by decide +kernel
theorem dX11_hops_21 : decode cX11_hops 21 = .ok (.ireturn, 1) := by decide +kernel
theorem dX11_init_0 : decode cX11_init 0 = .ok (.aload_n 0, 1) := by decide +kernel
theorem dX11_init_1 : decode cX11_init 1 = .ok (.invokespecial 1, 3) := by decide +kernel
theorem dX11_init_4 : decode cX11_init 4 = .ok (.aload_n 0, 1) := by decide +kernel
theorem dX11_init_5 : decode cX11_init 5 = .ok (.sipush 3600, 3) := by decide +kernel
theorem dX11_init_8 : decode cX11_init 8 = .ok (.newarray .int, 2) := by decide +kernel
theorem dX11_init_10 : decode cX11_init 10 = .ok (.putfield 7, 3) := by decide +kernel
theorem dX11_init_13 : decode cX11_init 13 = .ok (.aload_n 0, 1) := by decide +kernel
theorem dX11_init_14 : decode cX11_init 14 = .ok (.sipush 500, 3) := by decide +kernel
theorem dX11_init_17 : decode cX11_init 17 = .ok (.newarray .byte, 2) := by decide +kernel
theorem dX11_init_19 : decode cX11_init 19 = .ok (.putfield 13, 3) := by decide +kernel
theorem dX11_init_22 : decode cX11_init 22 = .ok (.aload_n 0, 1) := by decide +kernel
theorem dX11_init_23 : decode cX11_init 23 = .ok (.sipush 500, 3) := by decide +kernel
theorem dX11_init_26 : decode cX11_init 26 = .ok (.newarray .byte, 2) := by decide +kernel
theorem dX11_init_28 : decode cX11_init 28 = .ok (.putfield 17, 3) := by decide +kernel
theorem dX11_init_31 : decode cX11_init 31 = .ok (.aload_n 0, 1) := by decide +kernel
theorem dX11_init_32 : decode cX11_init 32 = .ok (.bipush 8, 2) := by decide +kernel
theorem dX11_init_34 : decode cX11_init 34 = .ok (.newarray .long, 2) := by decide +kernel
theorem dX11_init_36 : decode cX11_init 36 = .ok (.putfield 20, 3) := by decide +kernel
theorem dX11_init_39 : decode cX11_init 39 = .ok (.aload_n 0, 1) := by decide +kernel
theorem dX11_init_40 : decode cX11_init 40 = .ok (.iconst (-1), 1) := by decide +kernel
theorem dX11_init_41 : decode cX11_init 41 = .ok (.putfield 24, 3) := by decide +kernel
theorem dX11_init_44 : decode cX11_init 44 = .ok (.aload_n 0, 1) := by decide +kernel
theorem dX11_init_45 : decode cX11_init 45 = .ok (.iconst (-1), 1) := by decide +kernel
theorem dX11_init_46 : decode cX11_init 46 = .ok (.putfield 28, 3) := by decide +kernel
theorem dX11_init_49 : decode cX11_init 49 = .ok (.aload_n 0, 1) := by decide +kernel
theorem dX11_init_50 : decode cX11_init 50 = .ok (.bipush 48, 2) := by decide +kernel
theorem dX11_init_52 : decode cX11_init 52 = .ok (.newarray .int, 2) := by decide +kernel
theorem dX11_init_54 : decode cX11_init 54 = .ok (.putfield 31, 3) := by decide +kernel
theorem dX11_init_57 : decode cX11_init 57 = .ok (.aload_n 0, 1) := by decide +kernel
theorem dX11_init_58 : decode cX11_init 58 = .ok (.bipush 96, 2) := by decide +kernel
theorem dX11_init_60 : decode cX11_init 60 = .ok (.newarray .int, 2) := by decide +kernel
theorem dX11_init_62 : decode cX11_init 62 = .ok (.putfield 34, 3) := by decide +kernel
theorem dX11_init_65 : decode cX11_init 65 = .ok (.aload_n 0, 1) := by decide +kernel
theorem dX11_init_66 : decode cX11_init 66 = .ok (.invokevirtual 37, 3) := by decide +kernel
theorem dX11_init_69 : decode cX11_init 69 = .ok (.return_, 1) := by decide +kernel
theorem dX11_isAnew_0 : decode cX11_isAnew 0 = .ok (.aload_n 0, 1) := by decide +kernel
theorem dX11_isAnew_1 : decode cX11_isAnew 1 = .ok (.iconst 5, 1) := by decide +kernel
theorem dX11_isAnew_2 : decode cX11_isAnew 2 = .ok (.invokevirtual 47, 3) := by decide +kernel
theorem dX11_isAnew_5 : decode cX11_isAnew 5 = .ok (.ifCond .ne 7, 3) := by decide +kernel
theorem dX11_isAnew_8 : decode cX11_isAnew 8 = .ok (.aload_n 0, 1) := by decide +kernel
theorem dX11_isAnew_9 : decode cX11_isAnew 9 = .ok (.invokevirtual 128, 3) := by decide +kernel
theorem dX11_isAnew_12 : decode cX11_isAnew 12 = .ok (.return_, 1) := by decide +kernel
theorem dX11_isFrom_0 : decode cX11_isFrom 0 = .ok (.iload_n 0, 1) := by decide +kernel
theorem dX11_isFrom_1 : decode cX11_isFrom 1 = .ok (.iload_n 1, 1) := by decide +kernel
theorem dX11_isFrom_2 : decode cX11_isFrom 2 = .ok (.if_icmp .lt 12, 3) := by decide +kernel
theorem dX11_isFrom_5 : decode cX11_isFrom 5 = .ok (.iload_n 0, 1) := by decide +kernel
theorem dX11_isFrom_6 : decode cX11_isFrom 6 = .ok (.iload_n 2, 1) := by decide +kernel
theorem dX11_isFrom_7 : decode cX11_isFrom 7 = .ok (.if_icmp .gt 7, 3) := by decide +kernel
theorem dX11_isFrom_10 : decode cX11_isFrom 10 = .ok (.iconst 1, 1) := by decide +kernel
theorem dX11_isFrom_11 : decode cX11_isFrom 11 = .ok (.goto 4, 3) := by decide +kernel
theorem dX11_isFrom_14 : decode cX11_isFrom 14 = .ok (.iconst 0, 1) := by decide +kernel
theorem dX11_isFrom_15 : decode cX11_isFrom 15 = .ok (.ireturn, 1) := by decide +kernel
theorem dX11_isLowered_0 : decode cX11_isLowered 0 = .ok (.iconst 0, 1) := by decide +kernel
theorem dX11_isLowered_1 : decode cX11_isLowered 1 = .ok (.istore_n 1, 1) := by decide +kernel
theorem dX11_isLowered_2 : decode cX11_isLowered 2 = .ok (.iload_n 1, 1) := by decide +kernel
theorem dX11_isLowered_3 : decode cX11_isLowered 3 = .ok (.aload_n 0, 1) := by decide +kernel
theorem dX11_isLowered_4 : decode cX11_isLowered 4 = .ok (.iconst 0, 1) := by decide +kernel
theorem dX11_isLowered_5 : decode cX11_isLowered 5 = .ok (.invokevirtual 47, 3) := by decide +kernel
theorem dX11_isLowered_8 : decode cX11_isLowered 8 = .ok (.if_icmp .ge 22, 3) := by decide +kernel
theorem dX11_isLowered_30 : decode cX11_isLowered 30 = .ok (.iconst 1, 1) := by decide +kernel
theorem dX11_isLowered_31 : decode cX11_isLowered 31 = .ok (.ireturn, 1) := by decide +kernel
theorem dX11_isOn_0 : decode cX11_isOn 0 = .ok (.aload_n 0, 1) := by decide +kernel
theorem dX11_isOn_1 : decode cX11_isOn 1 = .ok (.iload_n 1, 1) := by decide +kernel
theorem dX11_isOn_2 : decode cX11_isOn 2 = .ok (.invokevirtual 51, 3) := by decide +kernel
theorem dX11_isOn_5 : decode cX11_isOn 5 = .ok (.ifCond .eq 19, 3) := by decide +kernel
theorem dX11_isOn_24 : decode cX11_isOn 24 = .ok (.iconst 0, 1) := by decide +kernel
theorem dX11_isOn_25 : decode cX11_isOn 25 = .ok (.ireturn, 1) := by decide +kernel
theorem dX11_isQuiet_0 : decode cX11_isQuiet 0 = .ok (.iconst 0, 1) := by decide +kernel
theorem dX11_isQuiet_1 : decode cX11_isQuiet 1 = .ok (.istore_n 1, 1) := by decide +kernel
theorem dX11_isQuiet_2 : decode cX11_isQuiet 2 = .ok (.iload_n 1, 1) := by decide +kernel
theorem dX11_isQuiet_3 : decode cX11_isQuiet 3 = .ok (.aload_n 0, 1) := by decide +kernel
theorem dX11_isQuiet_4 : decode cX11_isQuiet 4 = .ok (.iconst 0, 1) := by decide +kernel
theorem dX11_isQuiet_5 : decode cX11_isQuiet 5 = .ok (.invokevirtual 47, 3) := by decide +kernel
theorem dX11_isQuiet_8 : decode cX11_isQuiet 8 = .ok (.if_icmp .ge 30, 3) := by decide +kernel
theorem dX11_isQuiet_38 : decode cX11_isQuiet 38 = .ok (.aload_n 0, 1) := by decide +kernel
theorem dX11_isQuiet_39 : decode cX11_isQuiet 39 = .ok (.iconst 5, 1) := by decide +kernel
theorem dX11_isQuiet_40 : decode cX11_isQuiet 40 = .ok (.invokevirtual 47, 3) := by decide +kernel
theorem dX11_isQuiet_43 : decode cX11_isQuiet 43 = .ok (.iconst 2, 1) := by decide +kernel
theorem dX11_isQuiet_44 : decode cX11_isQuiet 44 = .ok (.if_icmp .eq 7, 3) := by decide +kernel
theorem dX11_isQuiet_47 : decode cX11_isQuiet 47 = .ok (.iconst 1, 1) := by decide +kernel
theorem dX11_isQuiet_48 : decode cX11_isQuiet 48 = .ok (.goto 4, 3) := by decide +kernel
theorem dX11_isQuiet_52 : decode cX11_isQuiet 52 = .ok (.ireturn, 1) := by decide +kernel
theorem dX11_isReached_0 : decode cX11_isReached 0 = .ok (.iload_n 1, 1) := by decide +kernel
theorem dX11_isReached_1 : decode cX11_isReached 1 = .ok (.ifCond .ne 10, 3) := by decide +kernel
theorem dX11_isReached_4 : decode cX11_isReached 4 = .ok (.aload_n 0, 1) := by decide +kernel
theorem dX11_isReached_5 : decode cX11_isReached 5 = .ok (.invokevirtual 310, 3) := by decide +kernel
theorem dX11_isReached_8 : decode cX11_isReached 8 = .ok (.goto 62, 3) := by decide +kernel
theorem dX11_isReached_11 : decode cX11_isReached 11 = .ok (.iload_n 1, 1) := by decide +kernel
theorem dX11_isReached_12 : decode cX11_isReached 12 = .ok (.iconst 1, 1) := by decide +kernel
theorem dX11_isReached_13 : decode cX11_isReached 13 = .ok (.if_icmp .ne 10, 3) := by decide +kernel
theorem dX11_isReached_16 : decode cX11_isReached 16 = .ok (.aload_n 0, 1) := by decide +kernel
theorem dX11_isReached_17 : decode cX11_isReached 17 = .ok (.invokevirtual 313, 3) := by decide +kernel
theorem dX11_isReached_20 : decode cX11_isReached 20 = .ok (.goto 50, 3) := by decide +kernel
theorem dX11_isReached_23 : decode cX11_isReached 23 = .ok (.iload_n 1, 1) := by decide +kernel
theorem dX11_isReached_24 : decode cX11_isReached 24 = .ok (.iconst 2, 1) := by decide +kernel
theorem dX11_isReached_25 : decode cX11_isReached 25 = .ok (.if_icmp .ne 20, 3) := by decide +kernel
theorem dX11_isReached_28 : decode cX11_isReached 28 = .ok (.aload_n 0, 1) := by decide +kernel
theorem dX11_isReached_29 : decode cX11_isReached 29 = .ok (.iconst 5, 1) := by decide +kernel
theorem dX11_isReached_30 : decode cX11_isReached 30 = .ok (.invokevirtual 47, 3) := by decide +kernel
theorem dX11_isReached_33 : decode cX11_isReached 33 = .ok (.iconst 1, 1) := by decide +kernel
theorem dX11_isReached_34 : decode cX11_isReached 34 = .ok (.if_icmp .ne 7, 3) := by decide +kernel
theorem dX11_isReached_41 : decode cX11_isReached 41 = .ok (.iconst 0, 1) := by decide +kernel
theorem dX11_isReached_42 : decode cX11_isReached 42 = .ok (.goto 28, 3) := by decide +kernel
theorem dX11_isReached_45 : decode cX11_isReached 45 = .ok (.iload_n 1, 1) := by decide +kernel
theorem dX11_isReached_46 : decode cX11_isReached 46 = .ok (.iconst 3, 1) := by decide +kernel
theorem dX11_isReached_47 : decode cX11_isReached 47 = .ok (.if_icmp .ne 10, 3) := by decide +kernel
theorem dX11_isReached_50 : decode cX11_isReached 50 = .ok (.aload_n 0, 1) := by decide +kernel
theorem dX11_isReached_51 : decode cX11_isReached 51 = .ok (.getfield 82, 3) := by decide +kernel
theorem dX11_isReached_54 : decode cX11_isReached 54 = .ok (.goto 16, 3) := by decide +kernel
theorem dX11_isReached_70 : decode cX11_isReached 70 = .ok (.ireturn, 1) := by decide +kernel
theorem dX11_isSilent_0 : decode cX11_isSilent 0 = .ok (.aload_n 0, 1) := by decide +kernel
theorem dX11_isSilent_1 : decode cX11_isSilent 1 = .ok (.iconst 5, 1) := by decide +kernel
theorem dX11_isSilent_2 : decode cX11_isSilent 2 = .ok (.iconst 0, 1) := by decide +kernel
theorem dX11_isSilent_3 : decode cX11_isSilent 3 = .ok (.invokevirtual 43, 3) := by decide +kernel
theorem dX11_isSilent_6 : decode cX11_isSilent 6 = .ok (.aload_n 0, 1) := by decide +kernel
theorem dX11_isSilent_7 : decode cX11_isSilent 7 = .ok (.iconst 4, 1) := by decide +kernel
theorem dX11_isSilent_8 : decode cX11_isSilent 8 = .ok (.iconst 0, 1) := by decide +kernel
theorem dX11_isSilent_9 : decode cX11_isSilent 9 = .ok (.invokevirtual 43, 3) := by decide +kernel
theorem dX11_isSilent_12 : decode cX11_isSilent 12 = .ok (.aload_n 0, 1) := by decide +kernel
theorem dX11_isSilent_13 : decode cX11_isSilent 13 = .ok (.bipush 18, 2) := by decide +kernel
theorem dX11_isSilent_15 : decode cX11_isSilent 15 = .ok (.iconst 0, 1) := by decide +kernel
theorem dX11_isSilent_16 : decode cX11_isSilent 16 = .ok (.invokevirtual 43, 3) := by decide +kernel
theorem dX11_isSilent_19 : decode cX11_isSilent 19 = .ok (.return_, 1) := by decide +kernel
theorem dX11_isSo_0 : decode cX11_isSo 0 = .ok (.aload_n 0, 1) := by decide +kernel
theorem dX11_isSo_1 : decode cX11_isSo 1 = .ok (.iload_n 1, 1) := by decide +kernel
theorem dX11_isSo_2 : decode cX11_isSo 2 = .ok (.putfield 40, 3) := by decide +kernel
theorem dX11_isSo_5 : decode cX11_isSo 5 = .ok (.iload_n 1, 1) := by decide +kernel
theorem dX11_isSo_6 : decode cX11_isSo 6 = .ok (.ifCond .ne 7, 3) := by decide +kernel
theorem dX11_isSo_9 : decode cX11_isSo 9 = .ok (.iconst 1, 1) := by decide +kernel
theorem dX11_isSo_10 : decode cX11_isSo 10 = .ok (.goto 4, 3) := by decide +kernel
theorem dX11_isSo_13 : decode cX11_isSo 13 = .ok (.iconst 0, 1) := by decide +kernel
theorem dX11_isSo_14 : decode cX11_isSo 14 = .ok (.ireturn, 1) := by decide +kernel
theorem dX11_isStation_0 : decode cX11_isStation 0 = .ok (.iload_n 1, 1) := by decide +kernel
theorem dX11_isStation_1 : decode cX11_isStation 1 = .ok (.ifCond .lt 16, 3) := by decide +kernel
theorem dX11_isStation_4 : decode cX11_isStation 4 = .ok (.iload_n 1, 1) := by decide +kernel
theorem dX11_isStation_5 : decode cX11_isStation 5 = .ok (.aload_n 0, 1) := by decide +kernel
theorem dX11_isStation_6 : decode cX11_isStation 6 = .ok (.iconst 0, 1) := by decide +kernel
theorem dX11_isStation_7 : decode cX11_isStation 7 = .ok (.invokevirtual 47, 3) := by decide +kernel
theorem dX11_isStation_10 : decode cX11_isStation 10 = .ok (.if_icmp .ge 7, 3) := by decide +kernel
theorem dX11_isStation_17 : decode cX11_isStation 17 = .ok (.iconst 0, 1) := by decide +kernel
theorem dX11_isStation_18 : decode cX11_isStation 18 = .ok (.ireturn, 1) := by decide +kernel
theorem dX11_isStill_0 : decode cX11_isStill 0 = .ok (.aload_n 0, 1) := by decide +kernel
theorem dX11_isStill_1 : decode cX11_isStill 1 = .ok (.invokevirtual 150, 3) := by decide +kernel
theorem dX11_isStill_4 : decode cX11_isStill 4 = .ok (.istore_n 1, 1) := by decide +kernel
theorem dX11_isStill_5 : decode cX11_isStill 5 = .ok (.aload_n 0, 1) := by decide +kernel
theorem dX11_isStill_6 : decode cX11_isStill 6 = .ok (.iconst 4, 1) := by decide +kernel
theorem dX11_isStill_7 : decode cX11_isStill 7 = .ok (.iconst 1, 1) := by decide +kernel
theorem dX11_isStill_8 : decode cX11_isStill 8 = .ok (.invokevirtual 69, 3) := by decide +kernel
theorem dX11_isStill_11 : decode cX11_isStill 11 = .ok (.aload_n 0, 1) := by decide +kernel
theorem dX11_isStill_12 : decode cX11_isStill 12 = .ok (.iconst 4, 1) := by decide +kernel
theorem dX11_isStill_13 : decode cX11_isStill 13 = .ok (.invokevirtual 47, 3) := by decide +kernel
theorem dX11_isStill_16 : decode cX11_isStill 16 = .ok (.istore_n 2, 1) := by decide +kernel
theorem dX11_isStill_17 : decode cX11_isStill 17 = .ok (.iload_n 1, 1) := by decide +kernel
theorem dX11_isStill_18 : decode cX11_isStill 18 = .ok (.ifCond .ne 4, 3) := by decide +kernel
theorem dX11_isStill_21 : decode cX11_isStill 21 = .ok (.return_, 1) := by decide +kernel
theorem dX11_isTaken_0 : decode cX11_isTaken 0 = .ok (.iconst 0, 1) := by decide +kernel
theorem dX11_isTaken_1 : decode cX11_isTaken 1 = .ok (.istore_n 2, 1) := by decide +kernel
theorem dX11_isTaken_2 : decode cX11_isTaken 2 = .ok (.iload_n 2, 1) := by decide +kernel
theorem dX11_isTaken_3 : decode cX11_isTaken 3 = .ok (.aload_n 0, 1) := by decide +kernel
theorem dX11_isTaken_4 : decode cX11_isTaken 4 = .ok (.iconst 0, 1) := by decide +kernel
theorem dX11_isTaken_5 : decode cX11_isTaken 5 = .ok (.invokevirtual 47, 3) := by decide +kernel
theorem dX11_isTaken_8 : decode cX11_isTaken 8 = .ok (.if_icmp .ge 23, 3) := by decide +kernel
theorem dX11_isTaken_31 : decode cX11_isTaken 31 = .ok (.iconst 0, 1) := by decide +kernel
theorem dX11_isTaken_32 : decode cX11_isTaken 32 = .ok (.ireturn, 1) := by decide +kernel
theorem dX11_lives_0 : decode cX11_lives 0 = .ok (.iconst 0, 1) := by decide +kernel
theorem dX11_lives_1 : decode cX11_lives 1 = .ok (.istore 4, 2) := by decide +kernel
theorem dX11_lives_3 : decode cX11_lives 3 = .ok (.iload 4, 2) := by decide +kernel
theorem dX11_lives_5 : decode cX11_lives 5 = .ok (.iload_n 1, 1) := by decide +kernel
theorem dX11_lives_6 : decode cX11_lives 6 = .ok (.if_icmp .ge 19, 3) := by decide +kernel
theorem dX11_lives_25 : decode cX11_lives 25 = .ok (.aload_n 0, 1) := by decide +kernel
theorem dX11_lives_26 : decode cX11_lives 26 = .ok (.iload_n 2, 1) := by decide +kernel
theorem dX11_lives_27 : decode cX11_lives 27 = .ok (.invokevirtual 322, 3) := by decide +kernel
theorem dX11_lives_30 : decode cX11_lives 30 = .ok (.iconst 1, 1) := by decide +kernel
theorem dX11_lives_31 : decode cX11_lives 31 = .ok (.istore 4, 2) := by decide +kernel
theorem dX11_lives_33 : decode cX11_lives 33 = .ok (.iload 4, 2) := by decide +kernel
theorem dX11_lives_35 : decode cX11_lives 35 = .ok (.sipush 3000, 3) := by decide +kernel
theorem dX11_lives_38 : decode cX11_lives 38 = .ok (.if_icmp .gt 61, 3) := by decide +kernel
theorem dX11_lives_41 : decode cX11_lives 41 = .ok (.aload_n 0, 1) := by decide +kernel
theorem dX11_lives_42 : decode cX11_lives 42 = .ok (.invokevirtual 297, 3) := by decide +kernel
theorem dX11_lives_45 : decode cX11_lives 45 = .ok (.iconst 0, 1) := by decide +kernel
theorem dX11_lives_46 : decode cX11_lives 46 = .ok (.istore 5, 2) := by decide +kernel
theorem dX11_lives_48 : decode cX11_lives 48 = .ok (.iload 5, 2) := by decide +kernel
theorem dX11_lives_50 : decode cX11_lives 50 = .ok (.iload_n 1, 1) := by decide +kernel
theorem dX11_lives_51 : decode cX11_lives 51 = .ok (.if_icmp .ge 42, 3) := by decide +kernel
theorem dX11_lives_93 : decode cX11_lives 93 = .ok (.iinc 4 1, 3) := by decide +kernel
theorem dX11_lives_96 : decode cX11_lives 96 = .ok (.goto (-63), 3) := by decide +kernel
theorem dX11_lives_99 : decode cX11_lives 99 = .ok (.aload_n 0, 1) := by decide +kernel
theorem dX11_lives_100 : decode cX11_lives 100 = .ok (.invokevirtual 329, 3) := by decide +kernel
theorem dX11_lives_103 : decode cX11_lives 103 = .ok (.return_, 1) := by decide +kernel
theorem dX11_load_0 : decode cX11_load 0 = .ok (.iload_n 1, 1) := by decide +kernel
theorem dX11_load_1 : decode cX11_load 1 = .ok (.iconst 0, 1) := by decide +kernel
theorem dX11_load_2 : decode cX11_load 2 = .ok (.aload_n 0, 1) := by decide +kernel
theorem dX11_load_3 : decode cX11_load 3 = .ok (.getfield 168, 3) := by decide +kernel
theorem dX11_load_6 : decode cX11_load 6 = .ok (.invokestatic 228, 3) := by decide +kernel
theorem dX11_load_9 : decode cX11_load 9 = .ok (.ifCond .ne 9, 3) := by decide +kernel
theorem dX11_load_12 : decode cX11_load 12 = .ok (.aload_n 0, 1) := by decide +kernel
theorem dX11_load_13 : decode cX11_load 13 = .ok (.iconst 1, 1) := by decide +kernel
theorem dX11_load_14 : decode cX11_load 14 = .ok (.invokevirtual 267, 3) := by decide +kernel
theorem dX11_load_17 : decode cX11_load 17 = .ok (.ireturn, 1) := by decide +kernel
theorem dX11_load_18 : decode cX11_load 18 = .ok (.aload_n 0, 1) := by decide +kernel
theorem dX11_load_19 : decode cX11_load 19 = .ok (.iload_n 1, 1) := by decide +kernel
theorem dX11_load_20 : decode cX11_load 20 = .ok (.putfield 174, 3) := by decide +kernel
theorem dX11_load_23 : decode cX11_load 23 = .ok (.iconst 0, 1) := by decide +kernel
theorem dX11_load_24 : decode cX11_load 24 = .ok (.istore_n 2, 1) := by decide +kernel
theorem dX11_load_25 : decode cX11_load 25 = .ok (.iload_n 2, 1) := by decide +kernel
theorem dX11_load_26 : decode cX11_load 26 = .ok (.iload_n 1, 1) := by decide +kernel
theorem dX11_load_27 : decode cX11_load 27 = .ok (.if_icmp .ge 21, 3) := by decide +kernel
theorem dX11_load_48 : decode cX11_load 48 = .ok (.aload_n 0, 1) := by decide +kernel
theorem dX11_load_49 : decode cX11_load 49 = .ok (.iconst 0, 1) := by decide +kernel
theorem dX11_load_50 : decode cX11_load 50 = .ok (.putfield 168, 3) := by decide +kernel
theorem dX11_load_53 : decode cX11_load 53 = .ok (.aload_n 0, 1) := by decide +kernel
theorem dX11_load_54 : decode cX11_load 54 = .ok (.iconst 0, 1) := by decide +kernel
theorem dX11_load_55 : decode cX11_load 55 = .ok (.putfield 213, 3) := by decide +kernel
theorem dX11_load_58 : decode cX11_load 58 = .ok (.aload_n 0, 1) := by decide +kernel
theorem dX11_load_59 : decode cX11_load 59 = .ok (.iconst (-1), 1) := by decide +kernel
theorem dX11_load_60 : decode cX11_load 60 = .ok (.putfield 24, 3) := by decide +kernel
theorem dX11_load_63 : decode cX11_load 63 = .ok (.aload_n 0, 1) := by decide +kernel
theorem dX11_load_64 : decode cX11_load 64 = .ok (.iconst 0, 1) := by decide +kernel
theorem dX11_load_65 : decode cX11_load 65 = .ok (.putfield 177, 3) := by decide +kernel
theorem dX11_load_68 : decode cX11_load 68 = .ok (.aload_n 0, 1) := by decide +kernel
theorem dX11_load_69 : decode cX11_load 69 = .ok (.iconst 0, 1) := by decide +kernel
theorem dX11_load_70 : decode cX11_load 70 = .ok (.sipush 600, 3) := by decide +kernel
theorem dX11_load_73 : decode cX11_load 73 = .ok (.invokevirtual 270, 3) := by decide +kernel
theorem dX11_load_76 : decode cX11_load 76 = .ok (.aload_n 0, 1) := by decide +kernel
theorem dX11_load_77 : decode cX11_load 77 = .ok (.invokevirtual 37, 3) := by decide +kernel
theorem dX11_load_80 : decode cX11_load 80 = .ok (.aload_n 0, 1) := by decide +kernel
theorem dX11_load_81 : decode cX11_load 81 = .ok (.invokevirtual 232, 3) := by decide +kernel
theorem dX11_load_84 : decode cX11_load 84 = .ok (.iconst 1, 1) := by decide +kernel
theorem dX11_load_85 : decode cX11_load 85 = .ok (.istore_n 2, 1) := by decide +kernel
theorem dX11_load_86 : decode cX11_load 86 = .ok (.iload_n 2, 1) := by decide +kernel
theorem dX11_load_87 : decode cX11_load 87 = .ok (.ifCond .eq 18, 3) := by decide +kernel
theorem dX11_load_90 : decode cX11_load 90 = .ok (.aload_n 0, 1) := by decide +kernel
theorem dX11_load_91 : decode cX11_load 91 = .ok (.getfield 186, 3) := by decide +kernel
theorem dX11_load_94 : decode cX11_load 94 = .ok (.ifCond .eq 11, 3) := by decide +kernel
theorem dX11_load_105 : decode cX11_load 105 = .ok (.aload_n 0, 1) := by decide +kernel
theorem dX11_load_106 : decode cX11_load 106 = .ok (.aload_n 0, 1) := by decide +kernel
theorem dX11_load_107 : decode cX11_load 107 = .ok (.getfield 213, 3) := by decide +kernel
theorem dX11_load_110 : decode cX11_load 110 = .ok (.putfield 28, 3) := by decide +kernel
theorem dX11_load_113 : decode cX11_load 113 = .ok (.aload_n 0, 1) := by decide +kernel
theorem dX11_load_114 : decode cX11_load 114 = .ok (.getfield 213, 3) := by decide +kernel
theorem dX11_load_117 : decode cX11_load 117 = .ok (.ifCond .le 18, 3) := by decide +kernel
theorem dX11_load_135 : decode cX11_load 135 = .ok (.aload_n 0, 1) := by decide +kernel
theorem dX11_load_136 : decode cX11_load 136 = .ok (.aload_n 0, 1) := by decide +kernel
theorem dX11_load_137 : decode cX11_load 137 = .ok (.iconst 0, 1) := by decide +kernel
theorem dX11_load_138 : decode cX11_load 138 = .ok (.invokevirtual 47, 3) := by decide +kernel
theorem dX11_load_141 : decode cX11_load 141 = .ok (.invokevirtual 276, 3) := by decide +kernel
theorem dX11_load_144 : decode cX11_load 144 = .ok (.ireturn, 1) := by decide +kernel
theorem dX11_lose_0 : decode cX11_lose 0 = .ok (.aload_n 0, 1) := by decide +kernel
theorem dX11_lose_1 : decode cX11_lose 1 = .ok (.iconst 5, 1) := by decide +kernel
theorem dX11_lose_2 : decode cX11_lose 2 = .ok (.invokevirtual 47, 3) := by decide +kernel
theorem dX11_lose_5 : decode cX11_lose 5 = .ok (.ifCond .ne 10, 3) := by decide +kernel
theorem dX11_lose_8 : decode cX11_lose 8 = .ok (.aload_n 0, 1) := by decide +kernel
theorem dX11_lose_9 : decode cX11_lose 9 = .ok (.bipush 6, 2) := by decide +kernel
theorem dX11_lose_11 : decode cX11_lose 11 = .ok (.invokevirtual 294, 3) := by decide +kernel
theorem dX11_lose_14 : decode cX11_lose 14 = .ok (.ireturn, 1) := by decide +kernel
theorem dX11_lowered_0 : decode cX11_lowered 0 = .ok (.aload_n 0, 1) := by decide +kernel
theorem dX11_lowered_1 : decode cX11_lowered 1 = .ok (.aload_n 0, 1) := by decide +kernel
theorem dX11_lowered_2 : decode cX11_lowered 2 = .ok (.iconst 1, 1) := by decide +kernel
theorem dX11_lowered_3 : decode cX11_lowered 3 = .ok (.iconst 0, 1) := by decide +kernel
theorem dX11_lowered_4 : decode cX11_lowered 4 = .ok (.invokevirtual 332, 3) := by decide +kernel
theorem dX11_lowered_7 : decode cX11_lowered 7 = .ok (.invokevirtual 336, 3) := by decide +kernel
theorem dX11_lowered_10 : decode cX11_lowered 10 = .ok (.ireturn, 1) := by decide +kernel
theorem dX11_many_0 : decode cX11_many 0 = .ok (.iload_n 1, 1) := by decide +kernel
theorem dX11_many_1 : decode cX11_many 1 = .ok (.tableswitch 201 0 10 #[59, 69, 78, 88, 97, 107, 117, 139, 148, 165, 176], 59) := by decide +kernel
theorem dX11_many_60 : decode cX11_many 60 = .ok (.aload_n 0, 1) := by decide +kernel
theorem dX11_many_61 : decode cX11_many 61 = .ok (.aload_n 0, 1) := by decide +kernel
theorem dX11_many_62 : decode cX11_many 62 = .ok (.iconst 0, 1) := by decide +kernel
theorem dX11_many_63 : decode cX11_many 63 = .ok (.invokevirtual 47, 3) := by decide +kernel
theorem dX11_many_66 : decode cX11_many 66 = .ok (.invokevirtual 276, 3) := by decide +kernel
theorem dX11_many_69 : decode cX11_many 69 = .ok (.ireturn, 1) := by decide +kernel
theorem dX11_many_70 : decode cX11_many 70 = .ok (.aload_n 0, 1) := by decide +kernel
theorem dX11_many_71 : decode cX11_many 71 = .ok (.aload_n 0, 1) := by decide +kernel
theorem dX11_many_72 : decode cX11_many 72 = .ok (.invokevirtual 279, 3) := by decide +kernel
theorem dX11_many_75 : decode cX11_many 75 = .ok (.invokevirtual 276, 3) := by decide +kernel
theorem dX11_many_78 : decode cX11_many 78 = .ok (.ireturn, 1) := by decide +kernel
theorem dX11_many_79 : decode cX11_many 79 = .ok (.aload_n 0, 1) := by decide +kernel
theorem dX11_many_80 : decode cX11_many 80 = .ok (.aload_n 0, 1) := by decide +kernel
theorem dX11_many_81 : decode cX11_many 81 = .ok (.iconst 1, 1) := by decide +kernel
theorem dX11_many_82 : decode cX11_many 82 = .ok (.invokevirtual 47, 3) := by decide +kernel
theorem dX11_many_85 : decode cX11_many 85 = .ok (.invokevirtual 276, 3) := by decide +kernel
theorem dX11_many_88 : decode cX11_many 88 = .ok (.ireturn, 1) := by decide +kernel
theorem dX11_many_89 : decode cX11_many 89 = .ok (.aload_n 0, 1) := by decide +kernel
theorem dX11_many_90 : decode cX11_many 90 = .ok (.aload_n 0, 1) := by decide +kernel
theorem dX11_many_91 : decode cX11_many 91 = .ok (.invokevirtual 282, 3) := by decide +kernel
theorem dX11_many_94 : decode cX11_many 94 = .ok (.invokevirtual 276, 3) := by decide +kernel
theorem dX11_many_97 : decode cX11_many 97 = .ok (.ireturn, 1) := by decide +kernel
theorem dX11_many_98 : decode cX11_many 98 = .ok (.aload_n 0, 1) := by decide +kernel
theorem dX11_many_99 : decode cX11_many 99 = .ok (.aload_n 0, 1) := by decide +kernel
theorem dX11_many_100 : decode cX11_many 100 = .ok (.iconst 2, 1) := by decide +kernel
theorem dX11_many_101 : decode cX11_many 101 = .ok (.invokevirtual 47, 3) := by decide +kernel
theorem dX11_many_104 : decode cX11_many 104 = .ok (.invokevirtual 276, 3) := by decide +kernel
theorem dX11_many_107 : decode cX11_many 107 = .ok (.ireturn, 1) := by decide +kernel
theorem dX11_many_108 : decode cX11_many 108 = .ok (.aload_n 0, 1) := by decide +kernel
theorem dX11_many_109 : decode cX11_many 109 = .ok (.aload_n 0, 1) := by decide +kernel
theorem dX11_many_110 : decode cX11_many 110 = .ok (.iconst 3, 1) := by decide +kernel
theorem dX11_many_111 : decode cX11_many 111 = .ok (.invokevirtual 47, 3) := by decide +kernel
theorem dX11_many_114 : decode cX11_many 114 = .ok (.invokevirtual 276, 3) := by decide +kernel
theorem dX11_many_117 : decode cX11_many 117 = .ok (.ireturn, 1) := by decide +kernel
theorem dX11_many_118 : decode cX11_many 118 = .ok (.aload_n 0, 1) := by decide +kernel
theorem dX11_many_119 : decode cX11_many 119 = .ok (.aload_n 0, 1) := by decide +kernel
theorem dX11_many_120 : decode cX11_many 120 = .ok (.iconst 5, 1) := by decide +kernel
theorem dX11_many_121 : decode cX11_many 121 = .ok (.invokevirtual 47, 3) := by decide +kernel
theorem dX11_many_124 : decode cX11_many 124 = .ok (.ifCond .ne 11, 3) := by decide +kernel
theorem dX11_many_127 : decode cX11_many 127 = .ok (.aload_n 0, 1) := by decide +kernel
theorem dX11_many_128 : decode cX11_many 128 = .ok (.iconst 4, 1) := by decide +kernel
theorem dX11_many_129 : decode cX11_many 129 = .ok (.invokevirtual 47, 3) := by decide +kernel
theorem dX11_many_132 : decode cX11_many 132 = .ok (.goto 4, 3) := by decide +kernel
theorem dX11_many_136 : decode cX11_many 136 = .ok (.invokevirtual 276, 3) := by decide +kernel
theorem dX11_many_139 : decode cX11_many 139 = .ok (.ireturn, 1) := by decide +kernel
theorem dX11_many_140 : decode cX11_many 140 = .ok (.aload_n 0, 1) := by decide +kernel
theorem dX11_many_141 : decode cX11_many 141 = .ok (.aload_n 0, 1) := by decide +kernel
theorem dX11_many_142 : decode cX11_many 142 = .ok (.getfield 285, 3) := by decide +kernel
theorem dX11_many_145 : decode cX11_many 145 = .ok (.invokevirtual 276, 3) := by decide +kernel
theorem dX11_many_148 : decode cX11_many 148 = .ok (.ireturn, 1) := by decide +kernel
theorem dX11_many_149 : decode cX11_many 149 = .ok (.aload_n 0, 1) := by decide +kernel
theorem dX11_many_150 : decode cX11_many 150 = .ok (.aload_n 0, 1) := by decide +kernel
theorem dX11_many_151 : decode cX11_many 151 = .ok (.invokevirtual 58, 3) := by decide +kernel
theorem dX11_many_154 : decode cX11_many 154 = .ok (.ifCond .eq 7, 3) := by decide +kernel
theorem dX11_many_161 : decode cX11_many 161 = .ok (.iconst 0, 1) := by decide +kernel
theorem dX11_many_162 : decode cX11_many 162 = .ok (.invokevirtual 276, 3) := by decide +kernel
theorem dX11_many_165 : decode cX11_many 165 = .ok (.ireturn, 1) := by decide +kernel
theorem dX11_many_166 : decode cX11_many 166 = .ok (.aload_n 0, 1) := by decide +kernel
theorem dX11_many_167 : decode cX11_many 167 = .ok (.aload_n 0, 1) := by decide +kernel
theorem dX11_many_168 : decode cX11_many 168 = .ok (.bipush 16, 2) := by decide +kernel
theorem dX11_many_170 : decode cX11_many 170 = .ok (.invokevirtual 47, 3) := by decide +kernel
theorem dX11_many_173 : decode cX11_many 173 = .ok (.invokevirtual 276, 3) := by decide +kernel
theorem dX11_many_176 : decode cX11_many 176 = .ok (.ireturn, 1) := by decide +kernel
theorem dX11_many_177 : decode cX11_many 177 = .ok (.aload_n 0, 1) := by decide +kernel
theorem dX11_many_178 : decode cX11_many 178 = .ok (.aload_n 0, 1) := by decide +kernel
theorem dX11_many_179 : decode cX11_many 179 = .ok (.bipush 16, 2) := by decide +kernel
theorem dX11_many_181 : decode cX11_many 181 = .ok (.invokevirtual 47, 3) := by decide +kernel
theorem dX11_many_184 : decode cX11_many 184 = .ok (.iconst (-1), 1) := by decide +kernel
theorem dX11_many_185 : decode cX11_many 185 = .ok (.if_icmp .ne 7, 3) := by decide +kernel
theorem dX11_many_188 : decode cX11_many 188 = .ok (.iconst (-1), 1) := by decide +kernel
theorem dX11_many_189 : decode cX11_many 189 = .ok (.goto 9, 3) := by decide +kernel
theorem dX11_many_198 : decode cX11_many 198 = .ok (.invokevirtual 276, 3) := by decide +kernel
theorem dX11_many_201 : decode cX11_many 201 = .ok (.ireturn, 1) := by decide +kernel
theorem dX11_many_202 : decode cX11_many 202 = .ok (.aload_n 0, 1) := by decide +kernel
theorem dX11_many_203 : decode cX11_many 203 = .ok (.iconst 1, 1) := by decide +kernel
theorem dX11_many_204 : decode cX11_many 204 = .ok (.invokevirtual 267, 3) := by decide +kernel
theorem dX11_many_207 : decode cX11_many 207 = .ok (.ireturn, 1) := by decide +kernel
theorem dX11_mark_0 : decode cX11_mark 0 = .ok (.aload_n 0, 1) := by decide +kernel
theorem dX11_mark_1 : decode cX11_mark 1 = .ok (.getfield 285, 3) := by decide +kernel
theorem dX11_mark_4 : decode cX11_mark 4 = .ok (.iconst 4, 1) := by decide +kernel
theorem dX11_mark_5 : decode cX11_mark 5 = .ok (.if_icmp .ne 9, 3) := by decide +kernel
theorem dX11_mark_14 : decode cX11_mark 14 = .ok (.aload_n 0, 1) := by decide +kernel
theorem dX11_mark_15 : decode cX11_mark 15 = .ok (.iconst 0, 1) := by decide +kernel
theorem dX11_mark_16 : decode cX11_mark 16 = .ok (.sipush 1200, 3) := by decide +kernel
theorem dX11_mark_19 : decode cX11_mark 19 = .ok (.sipush 600, 3) := by decide +kernel
theorem dX11_mark_22 : decode cX11_mark 22 = .ok (.aload_n 0, 1) := by decide +kernel
theorem dX11_mark_23 : decode cX11_mark 23 = .ok (.getfield 285, 3) := by decide +kernel
theorem dX11_mark_26 : decode cX11_mark 26 = .ok (.imul, 1) := by decide +kernel
theorem dX11_mark_27 : decode cX11_mark 27 = .ok (.iadd, 1) := by decide +kernel
theorem dX11_mark_28 : decode cX11_mark 28 = .ok (.invokevirtual 270, 3) := by decide +kernel
theorem dX11_mark_31 : decode cX11_mark 31 = .ok (.aload_n 0, 1) := by decide +kernel
theorem dX11_mark_32 : decode cX11_mark 32 = .ok (.dup, 1) := by decide +kernel
theorem dX11_mark_33 : decode cX11_mark 33 = .ok (.getfield 285, 3) := by decide +kernel
theorem dX11_mark_36 : decode cX11_mark 36 = .ok (.iconst 1, 1) := by decide +kernel
theorem dX11_mark_37 : decode cX11_mark 37 = .ok (.iadd, 1) := by decide +kernel
theorem dX11_mark_38 : decode cX11_mark 38 = .ok (.putfield 285, 3) := by decide +kernel
theorem dX11_mark_41 : decode cX11_mark 41 = .ok (.aload_n 0, 1) := by decide +kernel
theorem dX11_mark_42 : decode cX11_mark 42 = .ok (.aload_n 0, 1) := by decide +kernel
theorem dX11_mark_43 : decode cX11_mark 43 = .ok (.getfield 285, 3) := by decide +kernel
theorem dX11_mark_46 : decode cX11_mark 46 = .ok (.invokevirtual 276, 3) := by decide +kernel
theorem dX11_mark_49 : decode cX11_mark 49 = .ok (.ireturn, 1) := by decide +kernel
theorem dX11_mend_0 : decode cX11_mend 0 = .ok (.aload_n 0, 1) := by decide +kernel
theorem dX11_mend_1 : decode cX11_mend 1 = .ok (.bipush 16, 2) := by decide +kernel
theorem dX11_mend_3 : decode cX11_mend 3 = .ok (.invokevirtual 47, 3) := by decide +kernel
theorem dX11_mend_6 : decode cX11_mend 6 = .ok (.iconst (-1), 1) := by decide +kernel
theorem dX11_mend_7 : decode cX11_mend 7 = .ok (.if_icmp .ne 9, 3) := by decide +kernel
theorem dX11_mend_10 : decode cX11_mend 10 = .ok (.aload_n 0, 1) := by decide +kernel
theorem dX11_mend_11 : decode cX11_mend 11 = .ok (.iconst 5, 1) := by decide +kernel
theorem dX11_mend_12 : decode cX11_mend 12 = .ok (.invokevirtual 294, 3) := by decide +kernel
theorem dX11_mend_15 : decode cX11_mend 15 = .ok (.ireturn, 1) := by decide +kernel
theorem dX11_monitor_0 : decode cX11_monitor 0 = .ok (.aload_n 0, 1) := by decide +kernel
theorem dX11_monitor_1 : decode cX11_monitor 1 = .ok (.iload_n 1, 1) := by decide +kernel
theorem dX11_monitor_2 : decode cX11_monitor 2 = .ok (.invokevirtual 51, 3) := by decide +kernel
theorem dX11_monitor_5 : decode cX11_monitor 5 = .ok (.ifCond .ne 9, 3) := by decide +kernel
theorem dX11_monitor_8 : decode cX11_monitor 8 = .ok (.aload_n 0, 1) := by decide +kernel
theorem dX11_monitor_9 : decode cX11_monitor 9 = .ok (.iconst 2, 1) := by decide +kernel
theorem dX11_monitor_10 : decode cX11_monitor 10 = .ok (.invokevirtual 294, 3) := by decide +kernel
theorem dX11_monitor_13 : decode cX11_monitor 13 = .ok (.ireturn, 1) := by decide +kernel
theorem dX11_next_0 : decode cX11_next 0 = .ok (.iload_n 1, 1) := by decide +kernel
theorem dX11_next_1 : decode cX11_next 1 = .ok (.ifCond .ge 9, 3) := by decide +kernel
theorem dX11_next_4 : decode cX11_next 4 = .ok (.aload_n 0, 1) := by decide +kernel
theorem dX11_next_5 : decode cX11_next 5 = .ok (.iconst 1, 1) := by decide +kernel
theorem dX11_next_6 : decode cX11_next 6 = .ok (.invokevirtual 267, 3) := by decide +kernel
theorem dX11_next_9 : decode cX11_next 9 = .ok (.ireturn, 1) := by decide +kernel
theorem dX11_next_10 : decode cX11_next 10 = .ok (.iconst (-1), 1) := by decide +kernel
theorem dX11_next_11 : decode cX11_next 11 = .ok (.istore_n 3, 1) := by decide +kernel
theorem dX11_next_12 : decode cX11_next 12 = .ok (.iload_n 1, 1) := by decide +kernel
theorem dX11_next_13 : decode cX11_next 13 = .ok (.istore 4, 2) := by decide +kernel
theorem dX11_next_15 : decode cX11_next 15 = .ok (.aload_n 0, 1) := by decide +kernel
theorem dX11_next_16 : decode cX11_next 16 = .ok (.iload_n 2, 1) := by decide +kernel
theorem dX11_next_17 : decode cX11_next 17 = .ok (.invokevirtual 322, 3) := by decide +kernel
theorem dX11_next_20 : decode cX11_next 20 = .ok (.iconst 0, 1) := by decide +kernel
theorem dX11_next_21 : decode cX11_next 21 = .ok (.istore 5, 2) := by decide +kernel
theorem dX11_next_23 : decode cX11_next 23 = .ok (.iload 5, 2) := by decide +kernel
theorem dX11_next_25 : decode cX11_next 25 = .ok (.sipush 3000, 3) := by decide +kernel
theorem dX11_next_28 : decode cX11_next 28 = .ok (.if_icmp .ge 42, 3) := by decide +kernel
theorem dX11_next_31 : decode cX11_next 31 = .ok (.iload_n 3, 1) := by decide +kernel
theorem dX11_next_32 : decode cX11_next 32 = .ok (.iconst (-1), 1) := by decide +kernel
theorem dX11_next_33 : decode cX11_next 33 = .ok (.if_icmp .ne 37, 3) := by decide +kernel
theorem dX11_next_36 : decode cX11_next 36 = .ok (.aload_n 0, 1) := by decide +kernel
theorem dX11_next_37 : decode cX11_next 37 = .ok (.invokevirtual 297, 3) := by decide +kernel
theorem dX11_next_40 : decode cX11_next 40 = .ok (.aload_n 0, 1) := by decide +kernel
theorem dX11_next_41 : decode cX11_next 41 = .ok (.getfield 112, 3) := by decide +kernel
theorem dX11_next_44 : decode cX11_next 44 = .ok (.iconst (-1), 1) := by decide +kernel
theorem dX11_next_45 : decode cX11_next 45 = .ok (.if_icmp .ne 6, 3) := by decide +kernel
theorem dX11_next_48 : decode cX11_next 48 = .ok (.goto 16, 3) := by decide +kernel
theorem dX11_next_64 : decode cX11_next 64 = .ok (.iinc 5 1, 3) := by decide +kernel
theorem dX11_next_67 : decode cX11_next 67 = .ok (.goto (-44), 3) := by decide +kernel
theorem dX11_next_70 : decode cX11_next 70 = .ok (.aload_n 0, 1) := by decide +kernel
theorem dX11_next_71 : decode cX11_next 71 = .ok (.invokevirtual 329, 3) := by decide +kernel
theorem dX11_next_74 : decode cX11_next 74 = .ok (.aload_n 0, 1) := by decide +kernel
theorem dX11_next_75 : decode cX11_next 75 = .ok (.iload_n 3, 1) := by decide +kernel
theorem dX11_next_76 : decode cX11_next 76 = .ok (.invokevirtual 336, 3) := by decide +kernel
theorem dX11_next_79 : decode cX11_next 79 = .ok (.ireturn, 1) := by decide +kernel
theorem dX11_notice_0 : decode cX11_notice 0 = .ok (.aload_n 0, 1) := by decide +kernel
theorem dX11_notice_1 : decode cX11_notice 1 = .ok (.invokevirtual 58, 3) := by decide +kernel
theorem dX11_notice_4 : decode cX11_notice 4 = .ok (.ifCond .eq 9, 3) := by decide +kernel
theorem dX11_notice_13 : decode cX11_notice 13 = .ok (.aload_n 0, 1) := by decide +kernel
theorem dX11_notice_14 : decode cX11_notice 14 = .ok (.aload_n 0, 1) := by decide +kernel
theorem dX11_notice_15 : decode cX11_notice 15 = .ok (.iconst 1, 1) := by decide +kernel
theorem dX11_notice_16 : decode cX11_notice 16 = .ok (.invokevirtual 47, 3) := by decide +kernel
theorem dX11_notice_19 : decode cX11_notice 19 = .ok (.invokevirtual 55, 3) := by decide +kernel
theorem dX11_notice_22 : decode cX11_notice 22 = .ok (.ifCond .ne 9, 3) := by decide +kernel
theorem dX11_notice_25 : decode cX11_notice 25 = .ok (.aload_n 0, 1) := by decide +kernel
theorem dX11_notice_26 : decode cX11_notice 26 = .ok (.iconst 5, 1) := by decide +kernel
theorem dX11_notice_27 : decode cX11_notice 27 = .ok (.invokevirtual 267, 3) := by decide +kernel
theorem dX11_notice_30 : decode cX11_notice 30 = .ok (.ireturn, 1) := by decide +kernel
theorem dX11_of_0 : decode cX11_of 0 = .ok (.aload_n 0, 1) := by decide +kernel
theorem dX11_of_1 : decode cX11_of 1 = .ok (.getfield 7, 3) := by decide +kernel
theorem dX11_of_4 : decode cX11_of 4 = .ok (.iload_n 1, 1) := by decide +kernel
theorem dX11_of_5 : decode cX11_of 5 = .ok (.iaload, 1) := by decide +kernel
theorem dX11_of_6 : decode cX11_of 6 = .ok (.ireturn, 1) := by decide +kernel
theorem dX11_off_0 : decode cX11_off 0 = .ok (.aload_n 0, 1) := by decide +kernel
theorem dX11_off_1 : decode cX11_off 1 = .ok (.iload_n 1, 1) := by decide +kernel
theorem dX11_off_2 : decode cX11_off 2 = .ok (.invokevirtual 51, 3) := by decide +kernel
theorem dX11_off_5 : decode cX11_off 5 = .ok (.ifCond .ne 9, 3) := by decide +kernel
theorem dX11_off_8 : decode cX11_off 8 = .ok (.aload_n 0, 1) := by decide +kernel
theorem dX11_off_9 : decode cX11_off 9 = .ok (.iconst 2, 1) := by decide +kernel
theorem dX11_off_10 : decode cX11_off 10 = .ok (.invokevirtual 294, 3) := by decide +kernel
theorem dX11_off_13 : decode cX11_off 13 = .ok (.ireturn, 1) := by decide +kernel
theorem dX11_offPaper_0 : decode cX11_offPaper 0 = .ok (.aload_n 0, 1) := by decide +kernel
theorem dX11_offPaper_1 : decode cX11_offPaper 1 = .ok (.sipush 600, 3) := by decide +kernel
theorem dX11_offPaper_4 : decode cX11_offPaper 4 = .ok (.iconst 0, 1) := by decide +kernel
theorem dX11_offPaper_5 : decode cX11_offPaper 5 = .ok (.invokevirtual 270, 3) := by decide +kernel
theorem dX11_offPaper_8 : decode cX11_offPaper 8 = .ok (.aload_n 0, 1) := by decide +kernel
theorem dX11_offPaper_9 : decode cX11_offPaper 9 = .ok (.iconst 0, 1) := by decide +kernel
theorem dX11_offPaper_10 : decode cX11_offPaper 10 = .ok (.putfield 94, 3) := by decide +kernel
theorem dX11_offPaper_13 : decode cX11_offPaper 13 = .ok (.return_, 1) := by decide +kernel
theorem dX11_on_0 : decode cX11_on 0 = .ok (.aload_n 0, 1) := by decide +kernel
theorem dX11_on_1 : decode cX11_on 1 = .ok (.iload_n 1, 1) := by decide +kernel
theorem dX11_on_2 : decode cX11_on 2 = .ok (.invokevirtual 51, 3) := by decide +kernel
theorem dX11_on_5 : decode cX11_on 5 = .ok (.ifCond .ne 9, 3) := by decide +kernel
theorem dX11_on_8 : decode cX11_on 8 = .ok (.aload_n 0, 1) := by decide +kernel
theorem dX11_on_9 : decode cX11_on 9 = .ok (.iconst 2, 1) := by decide +kernel
theorem dX11_on_10 : decode cX11_on 10 = .ok (.invokevirtual 294, 3) := by decide +kernel
theorem dX11_on_13 : decode cX11_on 13 = .ok (.ireturn, 1) := by decide +kernel
theorem dX11_onBits_0 : decode cX11_onBits 0 = .ok (.iconst 0, 1) := by decide +kernel
theorem dX11_onBits_1 : decode cX11_onBits 1 = .ok (.istore_n 1, 1) := by decide +kernel
theorem dX11_onBits_2 : decode cX11_onBits 2 = .ok (.iconst 0, 1) := by decide +kernel
theorem dX11_onBits_3 : decode cX11_onBits 3 = .ok (.istore_n 2, 1) := by decide +kernel
theorem dX11_onBits_4 : decode cX11_onBits 4 = .ok (.iload_n 2, 1) := by decide +kernel
theorem dX11_onBits_5 : decode cX11_onBits 5 = .ok (.aload_n 0, 1) := by decide +kernel
theorem dX11_onBits_6 : decode cX11_onBits 6 = .ok (.iconst 0, 1) := by decide +kernel
theorem dX11_onBits_7 : decode cX11_onBits 7 = .ok (.invokevirtual 47, 3) := by decide +kernel
theorem dX11_onBits_10 : decode cX11_onBits 10 = .ok (.if_icmp .ge 22, 3) := by decide +kernel
theorem dX11_onBits_32 : decode cX11_onBits 32 = .ok (.iload_n 1, 1) := by decide +kernel
theorem dX11_onBits_33 : decode cX11_onBits 33 = .ok (.ireturn, 1) := by decide +kernel
theorem dX11_onMany_0 : decode cX11_onMany 0 = .ok (.iconst 0, 1) := by decide +kernel
theorem dX11_onMany_1 : decode cX11_onMany 1 = .ok (.istore_n 1, 1) := by decide +kernel
theorem dX11_onMany_2 : decode cX11_onMany 2 = .ok (.iconst 0, 1) := by decide +kernel
theorem dX11_onMany_3 : decode cX11_onMany 3 = .ok (.istore_n 2, 1) := by decide +kernel
theorem dX11_onMany_4 : decode cX11_onMany 4 = .ok (.iload_n 2, 1) := by decide +kernel
theorem dX11_onMany_5 : decode cX11_onMany 5 = .ok (.aload_n 0, 1) := by decide +kernel
theorem dX11_onMany_6 : decode cX11_onMany 6 = .ok (.iconst 0, 1) := by decide +kernel
theorem dX11_onMany_7 : decode cX11_onMany 7 = .ok (.invokevirtual 47, 3) := by decide +kernel
theorem dX11_onMany_10 : decode cX11_onMany 10 = .ok (.if_icmp .ge 20, 3) := by decide +kernel
theorem dX11_onMany_30 : decode cX11_onMany 30 = .ok (.iload_n 1, 1) := by decide +kernel
theorem dX11_onMany_31 : decode cX11_onMany 31 = .ok (.ireturn, 1) := by decide +kernel
theorem dX11_onPaper_0 : decode cX11_onPaper 0 = .ok (.aload_n 0, 1) := by decide +kernel
theorem dX11_onPaper_1 : decode cX11_onPaper 1 = .ok (.iconst 0, 1) := by decide +kernel
theorem dX11_onPaper_2 : decode cX11_onPaper 2 = .ok (.sipush 600, 3) := by decide +kernel
theorem dX11_onPaper_5 : decode cX11_onPaper 5 = .ok (.invokevirtual 270, 3) := by decide +kernel
theorem dX11_onPaper_8 : decode cX11_onPaper 8 = .ok (.aload_n 0, 1) := by decide +kernel
theorem dX11_onPaper_9 : decode cX11_onPaper 9 = .ok (.iload_n 1, 1) := by decide +kernel
theorem dX11_onPaper_10 : decode cX11_onPaper 10 = .ok (.putfield 94, 3) := by decide +kernel
theorem dX11_onPaper_13 : decode cX11_onPaper 13 = .ok (.aload_n 0, 1) := by decide +kernel
theorem dX11_onPaper_14 : decode cX11_onPaper 14 = .ok (.iconst 0, 1) := by decide +kernel
theorem dX11_onPaper_15 : decode cX11_onPaper 15 = .ok (.putfield 82, 3) := by decide +kernel
theorem dX11_onPaper_18 : decode cX11_onPaper 18 = .ok (.aload_n 0, 1) := by decide +kernel
theorem dX11_onPaper_19 : decode cX11_onPaper 19 = .ok (.iconst (-1), 1) := by decide +kernel
theorem dX11_onPaper_20 : decode cX11_onPaper 20 = .ok (.putfield 143, 3) := by decide +kernel
theorem dX11_onPaper_23 : decode cX11_onPaper 23 = .ok (.aload_n 0, 1) := by decide +kernel
theorem dX11_onPaper_24 : decode cX11_onPaper 24 = .ok (.iconst 0, 1) := by decide +kernel
theorem dX11_onPaper_25 : decode cX11_onPaper 25 = .ok (.putfield 316, 3) := by decide +kernel
theorem dX11_onPaper_28 : decode cX11_onPaper 28 = .ok (.aload_n 0, 1) := by decide +kernel
theorem dX11_onPaper_29 : decode cX11_onPaper 29 = .ok (.invokevirtual 319, 3) := by decide +kernel
theorem dX11_onPaper_32 : decode cX11_onPaper 32 = .ok (.return_, 1) := by decide +kernel
theorem dX11_peak_0 : decode cX11_peak 0 = .ok (.aload_n 0, 1) := by decide +kernel
theorem dX11_peak_1 : decode cX11_peak 1 = .ok (.iconst 0, 1) := by decide +kernel
theorem dX11_peak_2 : decode cX11_peak 2 = .ok (.iconst 0, 1) := by decide +kernel
theorem dX11_peak_3 : decode cX11_peak 3 = .ok (.invokevirtual 332, 3) := by decide +kernel
theorem dX11_peak_6 : decode cX11_peak 6 = .ok (.istore_n 1, 1) := by decide +kernel
theorem dX11_peak_7 : decode cX11_peak 7 = .ok (.iload_n 1, 1) := by decide +kernel
theorem dX11_peak_8 : decode cX11_peak 8 = .ok (.iconst (-1), 1) := by decide +kernel
theorem dX11_peak_9 : decode cX11_peak 9 = .ok (.if_icmp .ne 12, 3) := by decide +kernel
theorem dX11_peak_21 : decode cX11_peak 21 = .ok (.aload_n 0, 1) := by decide +kernel
theorem dX11_peak_22 : decode cX11_peak 22 = .ok (.aload_n 0, 1) := by decide +kernel
theorem dX11_peak_23 : decode cX11_peak 23 = .ok (.getfield 316, 3) := by decide +kernel
theorem dX11_peak_26 : decode cX11_peak 26 = .ok (.invokevirtual 276, 3) := by decide +kernel
theorem dX11_peak_29 : decode cX11_peak 29 = .ok (.ireturn, 1) := by decide +kernel
theorem dX11_peaks_0 : decode cX11_peaks 0 = .ok (.aload_n 0, 1) := by decide +kernel
theorem dX11_peaks_1 : decode cX11_peaks 1 = .ok (.iconst 5, 1) := by decide +kernel
theorem dX11_peaks_2 : decode cX11_peaks 2 = .ok (.invokevirtual 47, 3) := by decide +kernel
theorem dX11_peaks_5 : decode cX11_peaks 5 = .ok (.ifCond .eq 20, 3) := by decide +kernel
theorem dX11_peaks_25 : decode cX11_peaks 25 = .ok (.return_, 1) := by decide +kernel
theorem dX11_purged_0 : decode cX11_purged 0 = .ok (.aload_n 0, 1) := by decide +kernel
theorem dX11_purged_1 : decode cX11_purged 1 = .ok (.aload_n 0, 1) := by decide +kernel
theorem dX11_purged_2 : decode cX11_purged 2 = .ok (.iconst 3, 1) := by decide +kernel
theorem dX11_purged_3 : decode cX11_purged 3 = .ok (.iconst 0, 1) := by decide +kernel
theorem dX11_purged_4 : decode cX11_purged 4 = .ok (.invokevirtual 332, 3) := by decide +kernel
theorem dX11_purged_7 : decode cX11_purged 7 = .ok (.invokevirtual 336, 3) := by decide +kernel
theorem dX11_purged_10 : decode cX11_purged 10 = .ok (.ireturn, 1) := by decide +kernel
theorem dX11_puts_0 : decode cX11_puts 0 = .ok (.aload_n 0, 1) := by decide +kernel
theorem dX11_puts_1 : decode cX11_puts 1 = .ok (.getfield 7, 3) := by decide +kernel
theorem dX11_puts_4 : decode cX11_puts 4 = .ok (.iload_n 1, 1) := by decide +kernel
theorem dX11_puts_5 : decode cX11_puts 5 = .ok (.iload_n 2, 1) := by decide +kernel
theorem dX11_puts_6 : decode cX11_puts 6 = .ok (.iastore, 1) := by decide +kernel
theorem dX11_puts_7 : decode cX11_puts 7 = .ok (.return_, 1) := by decide +kernel
theorem dX11_quiet_0 : decode cX11_quiet 0 = .ok (.aload_n 0, 1) := by decide +kernel
theorem dX11_quiet_1 : decode cX11_quiet 1 = .ok (.aload_n 0, 1) := by decide +kernel
theorem dX11_quiet_2 : decode cX11_quiet 2 = .ok (.iconst 0, 1) := by decide +kernel
theorem dX11_quiet_3 : decode cX11_quiet 3 = .ok (.iload_n 1, 1) := by decide +kernel
theorem dX11_quiet_4 : decode cX11_quiet 4 = .ok (.invokevirtual 332, 3) := by decide +kernel
theorem dX11_quiet_7 : decode cX11_quiet 7 = .ok (.invokevirtual 336, 3) := by decide +kernel
theorem dX11_quiet_10 : decode cX11_quiet 10 = .ok (.ireturn, 1) := by decide +kernel
theorem dX11_raise_0 : decode cX11_raise 0 = .ok (.iload_n 2, 1) := by decide +kernel
theorem dX11_raise_1 : decode cX11_raise 1 = .ok (.ifCond .lt 12, 3) := by decide +kernel
theorem dX11_raise_4 : decode cX11_raise 4 = .ok (.iload_n 3, 1) := by decide +kernel
theorem dX11_raise_5 : decode cX11_raise 5 = .ok (.iconst 0, 1) := by decide +kernel
theorem dX11_raise_6 : decode cX11_raise 6 = .ok (.iconst 1, 1) := by decide +kernel
theorem dX11_raise_7 : decode cX11_raise 7 = .ok (.invokestatic 228, 3) := by decide +kernel
theorem dX11_raise_10 : decode cX11_raise 10 = .ok (.ifCond .ne 7, 3) := by decide +kernel
theorem dX11_raise_13 : decode cX11_raise 13 = .ok (.iconst 1, 1) := by decide +kernel
theorem dX11_raise_14 : decode cX11_raise 14 = .ok (.goto 8, 3) := by decide +kernel
theorem dX11_raise_17 : decode cX11_raise 17 = .ok (.aload_n 0, 1) := by decide +kernel
theorem dX11_raise_18 : decode cX11_raise 18 = .ok (.iload_n 1, 1) := by decide +kernel
theorem dX11_raise_19 : decode cX11_raise 19 = .ok (.invokevirtual 288, 3) := by decide +kernel
theorem dX11_raise_22 : decode cX11_raise 22 = .ok (.istore 4, 2) := by decide +kernel
theorem dX11_raise_24 : decode cX11_raise 24 = .ok (.iload 4, 2) := by decide +kernel
theorem dX11_raise_26 : decode cX11_raise 26 = .ok (.ifCond .ne 18, 3) := by decide +kernel
theorem dX11_raise_44 : decode cX11_raise 44 = .ok (.iload 4, 2) := by decide +kernel
theorem dX11_raise_46 : decode cX11_raise 46 = .ok (.ifCond .le 12, 3) := by decide +kernel
theorem dX11_raise_49 : decode cX11_raise 49 = .ok (.aload_n 0, 1) := by decide +kernel
theorem dX11_raise_50 : decode cX11_raise 50 = .ok (.iload 4, 2) := by decide +kernel
theorem dX11_raise_52 : decode cX11_raise 52 = .ok (.invokevirtual 267, 3) := by decide +kernel
theorem dX11_raise_55 : decode cX11_raise 55 = .ok (.goto 29, 3) := by decide +kernel
theorem dX11_raise_84 : decode cX11_raise 84 = .ok (.ireturn, 1) := by decide +kernel
theorem dX11_ranks_0 : decode cX11_ranks 0 = .ok (.iload_n 1, 1) := by decide +kernel
theorem dX11_ranks_1 : decode cX11_ranks 1 = .ok (.iconst 0, 1) := by decide +kernel
theorem dX11_ranks_2 : decode cX11_ranks 2 = .ok (.bipush 7, 2) := by decide +kernel
theorem dX11_ranks_4 : decode cX11_ranks 4 = .ok (.invokestatic 228, 3) := by decide +kernel
theorem dX11_ranks_7 : decode cX11_ranks 7 = .ok (.ifCond .eq 12, 3) := by decide +kernel
theorem dX11_ranks_10 : decode cX11_ranks 10 = .ok (.iload_n 2, 1) := by decide +kernel
theorem dX11_ranks_11 : decode cX11_ranks 11 = .ok (.iconst 0, 1) := by decide +kernel
theorem dX11_ranks_12 : decode cX11_ranks 12 = .ok (.iconst 2, 1) := by decide +kernel
theorem dX11_ranks_13 : decode cX11_ranks 13 = .ok (.invokestatic 228, 3) := by decide +kernel
theorem dX11_ranks_16 : decode cX11_ranks 16 = .ok (.ifCond .ne 9, 3) := by decide +kernel
theorem dX11_ranks_19 : decode cX11_ranks 19 = .ok (.aload_n 0, 1) := by decide +kernel
theorem dX11_ranks_20 : decode cX11_ranks 20 = .ok (.iconst 1, 1) := by decide +kernel
theorem dX11_ranks_21 : decode cX11_ranks 21 = .ok (.invokevirtual 267, 3) := by decide +kernel
theorem dX11_ranks_24 : decode cX11_ranks 24 = .ok (.ireturn, 1) := by decide +kernel
theorem dX11_ranks_25 : decode cX11_ranks 25 = .ok (.iload_n 2, 1) := by decide +kernel
theorem dX11_ranks_26 : decode cX11_ranks 26 = .ok (.ifCond .le 24, 3) := by decide +kernel
theorem dX11_ranks_29 : decode cX11_ranks 29 = .ok (.aload_n 0, 1) := by decide +kernel
theorem dX11_ranks_30 : decode cX11_ranks 30 = .ok (.aload_n 0, 1) := by decide +kernel
theorem dX11_ranks_31 : decode cX11_ranks 31 = .ok (.sipush 584, 3) := by decide +kernel
theorem dX11_ranks_34 : decode cX11_ranks 34 = .ok (.bipush 8, 2) := by decide +kernel
theorem dX11_ranks_36 : decode cX11_ranks 36 = .ok (.iload_n 2, 1) := by decide +kernel
theorem dX11_ranks_37 : decode cX11_ranks 37 = .ok (.iconst 1, 1) := by decide +kernel
theorem dX11_ranks_38 : decode cX11_ranks 38 = .ok (.isub, 1) := by decide +kernel
theorem dX11_ranks_39 : decode cX11_ranks 39 = .ok (.imul, 1) := by decide +kernel
theorem dX11_ranks_40 : decode cX11_ranks 40 = .ok (.iadd, 1) := by decide +kernel
theorem dX11_ranks_41 : decode cX11_ranks 41 = .ok (.iload_n 1, 1) := by decide +kernel
theorem dX11_ranks_42 : decode cX11_ranks 42 = .ok (.iadd, 1) := by decide +kernel
theorem dX11_ranks_43 : decode cX11_ranks 43 = .ok (.invokevirtual 47, 3) := by decide +kernel
theorem dX11_ranks_46 : decode cX11_ranks 46 = .ok (.invokevirtual 276, 3) := by decide +kernel
theorem dX11_ranks_49 : decode cX11_ranks 49 = .ok (.ireturn, 1) := by decide +kernel
theorem dX11_ranks_50 : decode cX11_ranks 50 = .ok (.iconst 0, 1) := by decide +kernel
theorem dX11_ranks_51 : decode cX11_ranks 51 = .ok (.istore_n 3, 1) := by decide +kernel
theorem dX11_ranks_52 : decode cX11_ranks 52 = .ok (.iconst 0, 1) := by decide +kernel
theorem dX11_ranks_53 : decode cX11_ranks 53 = .ok (.istore 4, 2) := by decide +kernel
theorem dX11_ranks_55 : decode cX11_ranks 55 = .ok (.iload 4, 2) := by decide +kernel
theorem dX11_ranks_57 : decode cX11_ranks 57 = .ok (.aload_n 0, 1) := by decide +kernel
theorem dX11_ranks_58 : decode cX11_ranks 58 = .ok (.iconst 0, 1) := by decide +kernel
theorem dX11_ranks_59 : decode cX11_ranks 59 = .ok (.invokevirtual 47, 3) := by decide +kernel
theorem dX11_ranks_62 : decode cX11_ranks 62 = .ok (.if_icmp .ge 57, 3) := by decide +kernel
theorem dX11_ranks_119 : decode cX11_ranks 119 = .ok (.aload_n 0, 1) := by decide +kernel
theorem dX11_ranks_120 : decode cX11_ranks 120 = .ok (.iload_n 3, 1) := by decide +kernel
theorem dX11_ranks_121 : decode cX11_ranks 121 = .ok (.invokevirtual 276, 3) := by decide +kernel
theorem dX11_ranks_124 : decode cX11_ranks 124 = .ok (.ireturn, 1) := by decide +kernel
theorem dX11_reaches_0 : decode cX11_reaches 0 = .ok (.aload_n 0, 1) := by decide +kernel
theorem dX11_reaches_1 : decode cX11_reaches 1 = .ok (.iload_n 2, 1) := by decide +kernel
theorem dX11_reaches_2 : decode cX11_reaches 2 = .ok (.invokevirtual 322, 3) := by decide +kernel
theorem dX11_reaches_5 : decode cX11_reaches 5 = .ok (.iconst 0, 1) := by decide +kernel
theorem dX11_reaches_6 : decode cX11_reaches 6 = .ok (.istore_n 3, 1) := by decide +kernel
theorem dX11_reaches_7 : decode cX11_reaches 7 = .ok (.iload_n 3, 1) := by decide +kernel
theorem dX11_reaches_8 : decode cX11_reaches 8 = .ok (.sipush 3000, 3) := by decide +kernel
theorem dX11_reaches_11 : decode cX11_reaches 11 = .ok (.if_icmp .ge 25, 3) := by decide +kernel
theorem dX11_reaches_14 : decode cX11_reaches 14 = .ok (.aload_n 0, 1) := by decide +kernel
theorem dX11_reaches_15 : decode cX11_reaches 15 = .ok (.iload_n 1, 1) := by decide +kernel
theorem dX11_reaches_16 : decode cX11_reaches 16 = .ok (.invokevirtual 326, 3) := by decide +kernel
theorem dX11_reaches_19 : decode cX11_reaches 19 = .ok (.ifCond .ne 17, 3) := by decide +kernel
theorem dX11_reaches_22 : decode cX11_reaches 22 = .ok (.aload_n 0, 1) := by decide +kernel
theorem dX11_reaches_23 : decode cX11_reaches 23 = .ok (.invokevirtual 297, 3) := by decide +kernel
theorem dX11_reaches_26 : decode cX11_reaches 26 = .ok (.aload_n 0, 1) := by decide +kernel
theorem dX11_reaches_27 : decode cX11_reaches 27 = .ok (.invokevirtual 319, 3) := by decide +kernel
theorem dX11_reaches_30 : decode cX11_reaches 30 = .ok (.iinc 3 1, 3) := by decide +kernel
theorem dX11_reaches_33 : decode cX11_reaches 33 = .ok (.goto (-26), 3) := by decide +kernel
theorem dX11_reaches_36 : decode cX11_reaches 36 = .ok (.aload_n 0, 1) := by decide +kernel
theorem dX11_reaches_37 : decode cX11_reaches 37 = .ok (.iload_n 1, 1) := by decide +kernel
theorem dX11_reaches_38 : decode cX11_reaches 38 = .ok (.invokevirtual 326, 3) := by decide +kernel
theorem dX11_reaches_41 : decode cX11_reaches 41 = .ok (.istore 4, 2) := by decide +kernel
theorem dX11_reaches_43 : decode cX11_reaches 43 = .ok (.aload_n 0, 1) := by decide +kernel
theorem dX11_reaches_44 : decode cX11_reaches 44 = .ok (.invokevirtual 329, 3) := by decide +kernel
theorem dX11_reaches_47 : decode cX11_reaches 47 = .ok (.iload 4, 2) := by decide +kernel
theorem dX11_reaches_49 : decode cX11_reaches 49 = .ok (.ifCond .eq 7, 3) := by decide +kernel
theorem dX11_reaches_52 : decode cX11_reaches 52 = .ok (.iload_n 3, 1) := by decide +kernel
theorem dX11_reaches_53 : decode cX11_reaches 53 = .ok (.goto 4, 3) := by decide +kernel
theorem dX11_reaches_56 : decode cX11_reaches 56 = .ok (.iconst (-1), 1) := by decide +kernel
theorem dX11_reaches_57 : decode cX11_reaches 57 = .ok (.ireturn, 1) := by decide +kernel
theorem dX11_refuse_0 : decode cX11_refuse 0 = .ok (.aload_n 0, 1) := by decide +kernel
theorem dX11_refuse_1 : decode cX11_refuse 1 = .ok (.iload_n 1, 1) := by decide +kernel
theorem dX11_refuse_2 : decode cX11_refuse 2 = .ok (.putfield 40, 3) := by decide +kernel
theorem dX11_refuse_5 : decode cX11_refuse 5 = .ok (.iconst (-1), 1) := by decide +kernel
theorem dX11_refuse_6 : decode cX11_refuse 6 = .ok (.ireturn, 1) := by decide +kernel
theorem dX11_run_0 : decode cX11_run 0 = .ok (.iload_n 1, 1) := by decide +kernel
theorem dX11_run_1 : decode cX11_run 1 = .ok (.iconst 1, 1) := by decide +kernel
theorem dX11_run_2 : decode cX11_run 2 = .ok (.sipush 500, 3) := by decide +kernel
theorem dX11_run_5 : decode cX11_run 5 = .ok (.invokestatic 228, 3) := by decide +kernel
theorem dX11_run_8 : decode cX11_run 8 = .ok (.ifCond .eq 24, 3) := by decide +kernel
theorem dX11_run_11 : decode cX11_run 11 = .ok (.iload_n 2, 1) := by decide +kernel
theorem dX11_run_12 : decode cX11_run 12 = .ok (.iconst 0, 1) := by decide +kernel
theorem dX11_run_13 : decode cX11_run 13 = .ok (.sipush 9999, 3) := by decide +kernel
theorem dX11_run_16 : decode cX11_run 16 = .ok (.invokestatic 228, 3) := by decide +kernel
theorem dX11_run_19 : decode cX11_run 19 = .ok (.ifCond .eq 13, 3) := by decide +kernel
theorem dX11_run_22 : decode cX11_run 22 = .ok (.iload_n 3, 1) := by decide +kernel
theorem dX11_run_23 : decode cX11_run 23 = .ok (.iconst 0, 1) := by decide +kernel
theorem dX11_run_24 : decode cX11_run 24 = .ok (.bipush 16, 2) := by decide +kernel
theorem dX11_run_26 : decode cX11_run 26 = .ok (.invokestatic 228, 3) := by decide +kernel
theorem dX11_run_29 : decode cX11_run 29 = .ok (.ifCond .ne 9, 3) := by decide +kernel
theorem dX11_run_32 : decode cX11_run 32 = .ok (.aload_n 0, 1) := by decide +kernel
theorem dX11_run_33 : decode cX11_run 33 = .ok (.iconst 1, 1) := by decide +kernel
theorem dX11_run_34 : decode cX11_run 34 = .ok (.invokevirtual 267, 3) := by decide +kernel
theorem dX11_run_37 : decode cX11_run 37 = .ok (.ireturn, 1) := by decide +kernel
theorem dX11_run_38 : decode cX11_run 38 = .ok (.iconst 0, 1) := by decide +kernel
theorem dX11_run_39 : decode cX11_run 39 = .ok (.istore 4, 2) := by decide +kernel
theorem dX11_run_41 : decode cX11_run 41 = .ok (.aload_n 0, 1) := by decide +kernel
theorem dX11_run_42 : decode cX11_run 42 = .ok (.iload_n 2, 1) := by decide +kernel
theorem dX11_run_43 : decode cX11_run 43 = .ok (.putfield 300, 3) := by decide +kernel
theorem dX11_run_46 : decode cX11_run 46 = .ok (.iconst 0, 1) := by decide +kernel
theorem dX11_run_47 : decode cX11_run 47 = .ok (.istore 5, 2) := by decide +kernel
theorem dX11_run_49 : decode cX11_run 49 = .ok (.iload 5, 2) := by decide +kernel
theorem dX11_run_51 : decode cX11_run 51 = .ok (.iload_n 1, 1) := by decide +kernel
theorem dX11_run_52 : decode cX11_run 52 = .ok (.if_icmp .ge 36, 3) := by decide +kernel
theorem dX11_run_55 : decode cX11_run 55 = .ok (.aload_n 0, 1) := by decide +kernel
theorem dX11_run_56 : decode cX11_run 56 = .ok (.iload_n 3, 1) := by decide +kernel
theorem dX11_run_57 : decode cX11_run 57 = .ok (.invokevirtual 307, 3) := by decide +kernel
theorem dX11_run_60 : decode cX11_run 60 = .ok (.aload_n 0, 1) := by decide +kernel
theorem dX11_run_61 : decode cX11_run 61 = .ok (.invokevirtual 297, 3) := by decide +kernel
theorem dX11_run_64 : decode cX11_run 64 = .ok (.iload 4, 2) := by decide +kernel
theorem dX11_run_66 : decode cX11_run 66 = .ok (.aload_n 0, 1) := by decide +kernel
theorem dX11_run_67 : decode cX11_run 67 = .ok (.getfield 112, 3) := by decide +kernel
theorem dX11_run_70 : decode cX11_run 70 = .ok (.iconst (-1), 1) := by decide +kernel
theorem dX11_run_71 : decode cX11_run 71 = .ok (.if_icmp .ne 7, 3) := by decide +kernel
theorem dX11_run_74 : decode cX11_run 74 = .ok (.iconst 0, 1) := by decide +kernel
theorem dX11_run_75 : decode cX11_run 75 = .ok (.goto 4, 3) := by decide +kernel
theorem dX11_run_79 : decode cX11_run 79 = .ok (.iadd, 1) := by decide +kernel
theorem dX11_run_80 : decode cX11_run 80 = .ok (.istore 4, 2) := by decide +kernel
theorem dX11_run_82 : decode cX11_run 82 = .ok (.iinc 5 1, 3) := by decide +kernel
theorem dX11_run_85 : decode cX11_run 85 = .ok (.goto (-36), 3) := by decide +kernel
theorem dX11_run_88 : decode cX11_run 88 = .ok (.aload_n 0, 1) := by decide +kernel
theorem dX11_run_89 : decode cX11_run 89 = .ok (.iload 4, 2) := by decide +kernel
theorem dX11_run_91 : decode cX11_run 91 = .ok (.invokevirtual 276, 3) := by decide +kernel
theorem dX11_run_94 : decode cX11_run 94 = .ok (.ireturn, 1) := by decide +kernel
theorem dX11_send_0 : decode cX11_send 0 = .ok (.iload_n 3, 1) := by decide +kernel
theorem dX11_send_1 : decode cX11_send 1 = .ok (.iconst 0, 1) := by decide +kernel
theorem dX11_send_2 : decode cX11_send 2 = .ok (.bipush 7, 2) := by decide +kernel
theorem dX11_send_4 : decode cX11_send 4 = .ok (.invokestatic 228, 3) := by decide +kernel
theorem dX11_send_7 : decode cX11_send 7 = .ok (.ifCond .ne 9, 3) := by decide +kernel
theorem dX11_send_10 : decode cX11_send 10 = .ok (.aload_n 0, 1) := by decide +kernel
theorem dX11_send_11 : decode cX11_send 11 = .ok (.iconst 1, 1) := by decide +kernel
theorem dX11_send_12 : decode cX11_send 12 = .ok (.invokevirtual 267, 3) := by decide +kernel
theorem dX11_send_15 : decode cX11_send 15 = .ok (.ireturn, 1) := by decide +kernel
theorem dX11_send_16 : decode cX11_send 16 = .ok (.aload_n 0, 1) := by decide +kernel
theorem dX11_send_17 : decode cX11_send 17 = .ok (.iload_n 1, 1) := by decide +kernel
theorem dX11_send_18 : decode cX11_send 18 = .ok (.invokevirtual 51, 3) := by decide +kernel
theorem dX11_send_21 : decode cX11_send 21 = .ok (.ifCond .eq 11, 3) := by decide +kernel
theorem dX11_send_32 : decode cX11_send 32 = .ok (.aload_n 0, 1) := by decide +kernel
theorem dX11_send_33 : decode cX11_send 33 = .ok (.iconst 2, 1) := by decide +kernel
theorem dX11_send_34 : decode cX11_send 34 = .ok (.invokevirtual 267, 3) := by decide +kernel
theorem dX11_send_37 : decode cX11_send 37 = .ok (.ireturn, 1) := by decide +kernel
theorem dX11_shed_0 : decode cX11_shed 0 = .ok (.iload_n 2, 1) := by decide +kernel
theorem dX11_shed_1 : decode cX11_shed 1 = .ok (.iconst 0, 1) := by decide +kernel
theorem dX11_shed_2 : decode cX11_shed 2 = .ok (.bipush 8, 2) := by decide +kernel
theorem dX11_shed_4 : decode cX11_shed 4 = .ok (.invokestatic 228, 3) := by decide +kernel
theorem dX11_shed_7 : decode cX11_shed 7 = .ok (.ifCond .ne 7, 3) := by decide +kernel
theorem dX11_shed_10 : decode cX11_shed 10 = .ok (.iconst 1, 1) := by decide +kernel
theorem dX11_shed_11 : decode cX11_shed 11 = .ok (.goto 8, 3) := by decide +kernel
theorem dX11_shed_14 : decode cX11_shed 14 = .ok (.aload_n 0, 1) := by decide +kernel
theorem dX11_shed_15 : decode cX11_shed 15 = .ok (.iload_n 1, 1) := by decide +kernel
theorem dX11_shed_16 : decode cX11_shed 16 = .ok (.invokevirtual 288, 3) := by decide +kernel
theorem dX11_shed_19 : decode cX11_shed 19 = .ok (.istore_n 3, 1) := by decide +kernel
theorem dX11_shed_20 : decode cX11_shed 20 = .ok (.iload_n 3, 1) := by decide +kernel
theorem dX11_shed_21 : decode cX11_shed 21 = .ok (.ifCond .le 9, 3) := by decide +kernel
theorem dX11_shed_24 : decode cX11_shed 24 = .ok (.aload_n 0, 1) := by decide +kernel
theorem dX11_shed_25 : decode cX11_shed 25 = .ok (.iload_n 3, 1) := by decide +kernel
theorem dX11_shed_26 : decode cX11_shed 26 = .ok (.invokevirtual 267, 3) := by decide +kernel
theorem dX11_shed_29 : decode cX11_shed 29 = .ok (.ireturn, 1) := by decide +kernel
theorem dX11_snap_0 : decode cX11_snap 0 = .ok (.iload_n 2, 1) := by decide +kernel
theorem dX11_snap_1 : decode cX11_snap 1 = .ok (.iconst 0, 1) := by decide +kernel
theorem dX11_snap_2 : decode cX11_snap 2 = .ok (.iconst 2, 1) := by decide +kernel
theorem dX11_snap_3 : decode cX11_snap 3 = .ok (.invokestatic 228, 3) := by decide +kernel
theorem dX11_snap_6 : decode cX11_snap 6 = .ok (.ifCond .ne 9, 3) := by decide +kernel
theorem dX11_snap_9 : decode cX11_snap 9 = .ok (.aload_n 0, 1) := by decide +kernel
theorem dX11_snap_10 : decode cX11_snap 10 = .ok (.iconst 1, 1) := by decide +kernel
theorem dX11_snap_11 : decode cX11_snap 11 = .ok (.invokevirtual 294, 3) := by decide +kernel
theorem dX11_snap_14 : decode cX11_snap 14 = .ok (.ireturn, 1) := by decide +kernel
theorem dX11_snap_15 : decode cX11_snap 15 = .ok (.aload_n 0, 1) := by decide +kernel
theorem dX11_snap_16 : decode cX11_snap 16 = .ok (.iload_n 1, 1) := by decide +kernel
theorem dX11_snap_17 : decode cX11_snap 17 = .ok (.invokevirtual 51, 3) := by decide +kernel
theorem dX11_snap_20 : decode cX11_snap 20 = .ok (.ifCond .ne 9, 3) := by decide +kernel
theorem dX11_snap_23 : decode cX11_snap 23 = .ok (.aload_n 0, 1) := by decide +kernel
theorem dX11_snap_24 : decode cX11_snap 24 = .ok (.iconst 2, 1) := by decide +kernel
theorem dX11_snap_25 : decode cX11_snap 25 = .ok (.invokevirtual 294, 3) := by decide +kernel
theorem dX11_snap_28 : decode cX11_snap 28 = .ok (.ireturn, 1) := by decide +kernel
theorem dX11_stale_0 : decode cX11_stale 0 = .ok (.iconst 0, 1) := by decide +kernel
theorem dX11_stale_1 : decode cX11_stale 1 = .ok (.istore_n 1, 1) := by decide +kernel
theorem dX11_stale_2 : decode cX11_stale 2 = .ok (.iconst 0, 1) := by decide +kernel
theorem dX11_stale_3 : decode cX11_stale 3 = .ok (.istore_n 2, 1) := by decide +kernel
theorem dX11_stale_4 : decode cX11_stale 4 = .ok (.iload_n 2, 1) := by decide +kernel
theorem dX11_stale_5 : decode cX11_stale 5 = .ok (.aload_n 0, 1) := by decide +kernel
theorem dX11_stale_6 : decode cX11_stale 6 = .ok (.iconst 0, 1) := by decide +kernel
theorem dX11_stale_7 : decode cX11_stale 7 = .ok (.invokevirtual 47, 3) := by decide +kernel
theorem dX11_stale_10 : decode cX11_stale 10 = .ok (.if_icmp .ge 44, 3) := by decide +kernel
theorem dX11_stale_54 : decode cX11_stale 54 = .ok (.aload_n 0, 1) := by decide +kernel
theorem dX11_stale_55 : decode cX11_stale 55 = .ok (.iload_n 1, 1) := by decide +kernel
theorem dX11_stale_56 : decode cX11_stale 56 = .ok (.invokevirtual 276, 3) := by decide +kernel
theorem dX11_stale_59 : decode cX11_stale 59 = .ok (.ireturn, 1) := by decide +kernel
theorem dX11_station_0 : decode cX11_station 0 = .ok (.iload_n 2, 1) := by decide +kernel
theorem dX11_station_1 : decode cX11_station 1 = .ok (.iconst 0, 1) := by decide +kernel
theorem dX11_station_2 : decode cX11_station 2 = .ok (.bipush 9, 2) := by decide +kernel
theorem dX11_station_4 : decode cX11_station 4 = .ok (.invokestatic 228, 3) := by decide +kernel
theorem dX11_station_7 : decode cX11_station 7 = .ok (.ifCond .ne 7, 3) := by decide +kernel
theorem dX11_station_10 : decode cX11_station 10 = .ok (.iconst 1, 1) := by decide +kernel
theorem dX11_station_11 : decode cX11_station 11 = .ok (.goto 8, 3) := by decide +kernel
theorem dX11_station_14 : decode cX11_station 14 = .ok (.aload_n 0, 1) := by decide +kernel
theorem dX11_station_15 : decode cX11_station 15 = .ok (.iload_n 1, 1) := by decide +kernel
theorem dX11_station_16 : decode cX11_station 16 = .ok (.invokevirtual 288, 3) := by decide +kernel
theorem dX11_station_19 : decode cX11_station 19 = .ok (.istore_n 3, 1) := by decide +kernel
theorem dX11_station_20 : decode cX11_station 20 = .ok (.iload_n 3, 1) := by decide +kernel
theorem dX11_station_21 : decode cX11_station 21 = .ok (.ifCond .le 9, 3) := by decide +kernel
theorem dX11_station_24 : decode cX11_station 24 = .ok (.aload_n 0, 1) := by decide +kernel
theorem dX11_station_25 : decode cX11_station 25 = .ok (.iload_n 3, 1) := by decide +kernel
theorem dX11_station_26 : decode cX11_station 26 = .ok (.invokevirtual 267, 3) := by decide +kernel
theorem dX11_station_29 : decode cX11_station 29 = .ok (.ireturn, 1) := by decide +kernel
theorem dX11_status_0 : decode cX11_status 0 = .ok (.aload_n 0, 1) := by decide +kernel
theorem dX11_status_1 : decode cX11_status 1 = .ok (.getfield 40, 3) := by decide +kernel
theorem dX11_status_4 : decode cX11_status 4 = .ok (.ireturn, 1) := by decide +kernel
theorem dX11_take_0 : decode cX11_take 0 = .ok (.iload_n 1, 1) := by decide +kernel
theorem dX11_take_1 : decode cX11_take 1 = .ok (.ifCond .ge 9, 3) := by decide +kernel
theorem dX11_take_4 : decode cX11_take 4 = .ok (.aload_n 0, 1) := by decide +kernel
theorem dX11_take_5 : decode cX11_take 5 = .ok (.iconst 1, 1) := by decide +kernel
theorem dX11_take_6 : decode cX11_take 6 = .ok (.invokevirtual 267, 3) := by decide +kernel
theorem dX11_take_9 : decode cX11_take 9 = .ok (.ireturn, 1) := by decide +kernel
theorem dX11_take_10 : decode cX11_take 10 = .ok (.iconst 0, 1) := by decide +kernel
theorem dX11_take_11 : decode cX11_take 11 = .ok (.istore_n 2, 1) := by decide +kernel
theorem dX11_take_12 : decode cX11_take 12 = .ok (.iload_n 2, 1) := by decide +kernel
theorem dX11_take_13 : decode cX11_take 13 = .ok (.aload_n 0, 1) := by decide +kernel
theorem dX11_take_14 : decode cX11_take 14 = .ok (.iconst 0, 1) := by decide +kernel
theorem dX11_take_15 : decode cX11_take 15 = .ok (.invokevirtual 47, 3) := by decide +kernel
theorem dX11_take_18 : decode cX11_take 18 = .ok (.if_icmp .ge 57, 3) := by decide +kernel
theorem dX11_take_75 : decode cX11_take 75 = .ok (.aload_n 0, 1) := by decide +kernel
theorem dX11_take_76 : decode cX11_take 76 = .ok (.iconst 5, 1) := by decide +kernel
theorem dX11_take_77 : decode cX11_take 77 = .ok (.invokevirtual 267, 3) := by decide +kernel
theorem dX11_take_80 : decode cX11_take 80 = .ok (.ireturn, 1) := by decide +kernel
theorem dX11_tick_0 : decode cX11_tick 0 = .ok (.iload_n 1, 1) := by decide +kernel
theorem dX11_tick_1 : decode cX11_tick 1 = .ok (.iconst 1, 1) := by decide +kernel
theorem dX11_tick_2 : decode cX11_tick 2 = .ok (.sipush 500, 3) := by decide +kernel
theorem dX11_tick_5 : decode cX11_tick 5 = .ok (.invokestatic 228, 3) := by decide +kernel
theorem dX11_tick_8 : decode cX11_tick 8 = .ok (.ifCond .ne 9, 3) := by decide +kernel
theorem dX11_tick_11 : decode cX11_tick 11 = .ok (.aload_n 0, 1) := by decide +kernel
theorem dX11_tick_12 : decode cX11_tick 12 = .ok (.iconst 1, 1) := by decide +kernel
theorem dX11_tick_13 : decode cX11_tick 13 = .ok (.invokevirtual 267, 3) := by decide +kernel
theorem dX11_tick_16 : decode cX11_tick 16 = .ok (.ireturn, 1) := by decide +kernel
theorem dX11_tick_17 : decode cX11_tick 17 = .ok (.iconst 0, 1) := by decide +kernel
theorem dX11_tick_18 : decode cX11_tick 18 = .ok (.istore_n 2, 1) := by decide +kernel
theorem dX11_tick_19 : decode cX11_tick 19 = .ok (.iload_n 2, 1) := by decide +kernel
theorem dX11_tick_20 : decode cX11_tick 20 = .ok (.iload_n 1, 1) := by decide +kernel
theorem dX11_tick_21 : decode cX11_tick 21 = .ok (.if_icmp .ge 13, 3) := by decide +kernel
theorem dX11_tick_24 : decode cX11_tick 24 = .ok (.aload_n 0, 1) := by decide +kernel
theorem dX11_tick_25 : decode cX11_tick 25 = .ok (.invokevirtual 297, 3) := by decide +kernel
theorem dX11_tick_28 : decode cX11_tick 28 = .ok (.iinc 2 1, 3) := by decide +kernel
theorem dX11_tick_31 : decode cX11_tick 31 = .ok (.goto (-12), 3) := by decide +kernel
theorem dX11_tick_34 : decode cX11_tick 34 = .ok (.aload_n 0, 1) := by decide +kernel
theorem dX11_tick_35 : decode cX11_tick 35 = .ok (.aload_n 0, 1) := by decide +kernel
theorem dX11_tick_36 : decode cX11_tick 36 = .ok (.iconst 3, 1) := by decide +kernel
theorem dX11_tick_37 : decode cX11_tick 37 = .ok (.invokevirtual 47, 3) := by decide +kernel
theorem dX11_tick_40 : decode cX11_tick 40 = .ok (.invokevirtual 276, 3) := by decide +kernel
theorem dX11_tick_43 : decode cX11_tick 43 = .ok (.ireturn, 1) := by decide +kernel
theorem dX11_ticks_0 : decode cX11_ticks 0 = .ok (.aload_n 0, 1) := by decide +kernel
theorem dX11_ticks_1 : decode cX11_ticks 1 = .ok (.iconst (-1), 1) := by decide +kernel
theorem dX11_ticks_2 : decode cX11_ticks 2 = .ok (.putfield 112, 3) := by decide +kernel
theorem dX11_ticks_5 : decode cX11_ticks 5 = .ok (.aload_n 0, 1) := by decide +kernel
theorem dX11_ticks_6 : decode cX11_ticks 6 = .ok (.iconst (-1), 1) := by decide +kernel
theorem dX11_ticks_7 : decode cX11_ticks 7 = .ok (.putfield 143, 3) := by decide +kernel
theorem dX11_ticks_10 : decode cX11_ticks 10 = .ok (.aload_n 0, 1) := by decide +kernel
theorem dX11_ticks_11 : decode cX11_ticks 11 = .ok (.iconst 0, 1) := by decide +kernel
theorem dX11_ticks_12 : decode cX11_ticks 12 = .ok (.putfield 82, 3) := by decide +kernel
theorem dX11_ticks_15 : decode cX11_ticks 15 = .ok (.aload_n 0, 1) := by decide +kernel
theorem dX11_ticks_16 : decode cX11_ticks 16 = .ok (.iconst 3, 1) := by decide +kernel
theorem dX11_ticks_17 : decode cX11_ticks 17 = .ok (.iconst 1, 1) := by decide +kernel
theorem dX11_ticks_18 : decode cX11_ticks 18 = .ok (.invokevirtual 69, 3) := by decide +kernel
theorem dX11_ticks_21 : decode cX11_ticks 21 = .ok (.aload_n 0, 1) := by decide +kernel
theorem dX11_ticks_22 : decode cX11_ticks 22 = .ok (.iconst 5, 1) := by decide +kernel
theorem dX11_ticks_23 : decode cX11_ticks 23 = .ok (.invokevirtual 47, 3) := by decide +kernel
theorem dX11_ticks_26 : decode cX11_ticks 26 = .ok (.ifCond .ne 10, 3) := by decide +kernel
theorem dX11_ticks_29 : decode cX11_ticks 29 = .ok (.aload_n 0, 1) := by decide +kernel
theorem dX11_ticks_30 : decode cX11_ticks 30 = .ok (.invokevirtual 162, 3) := by decide +kernel
theorem dX11_ticks_33 : decode cX11_ticks 33 = .ok (.goto 7, 3) := by decide +kernel
theorem dX11_ticks_40 : decode cX11_ticks 40 = .ok (.return_, 1) := by decide +kernel
theorem dX11_waitAll_0 : decode cX11_waitAll 0 = .ok (.iconst 0, 1) := by decide +kernel
theorem dX11_waitAll_1 : decode cX11_waitAll 1 = .ok (.istore_n 1, 1) := by decide +kernel
theorem dX11_waitAll_2 : decode cX11_waitAll 2 = .ok (.iconst 0, 1) := by decide +kernel
theorem dX11_waitAll_3 : decode cX11_waitAll 3 = .ok (.istore_n 2, 1) := by decide +kernel
theorem dX11_waitAll_4 : decode cX11_waitAll 4 = .ok (.iload_n 2, 1) := by decide +kernel
theorem dX11_waitAll_5 : decode cX11_waitAll 5 = .ok (.aload_n 0, 1) := by decide +kernel
theorem dX11_waitAll_6 : decode cX11_waitAll 6 = .ok (.iconst 0, 1) := by decide +kernel
theorem dX11_waitAll_7 : decode cX11_waitAll 7 = .ok (.invokevirtual 47, 3) := by decide +kernel
theorem dX11_waitAll_10 : decode cX11_waitAll 10 = .ok (.if_icmp .ge 20, 3) := by decide +kernel
theorem dX11_waitAll_30 : decode cX11_waitAll 30 = .ok (.iload_n 1, 1) := by decide +kernel
theorem dX11_waitAll_31 : decode cX11_waitAll 31 = .ok (.ireturn, 1) := by decide +kernel
theorem dX11_waiting_0 : decode cX11_waiting 0 = .ok (.iconst 0, 1) := by decide +kernel
theorem dX11_waiting_1 : decode cX11_waiting 1 = .ok (.istore_n 1, 1) := by decide +kernel
theorem dX11_waiting_2 : decode cX11_waiting 2 = .ok (.iconst 0, 1) := by decide +kernel
theorem dX11_waiting_3 : decode cX11_waiting 3 = .ok (.istore_n 2, 1) := by decide +kernel
theorem dX11_waiting_4 : decode cX11_waiting 4 = .ok (.iload_n 2, 1) := by decide +kernel
theorem dX11_waiting_5 : decode cX11_waiting 5 = .ok (.aload_n 0, 1) := by decide +kernel
theorem dX11_waiting_6 : decode cX11_waiting 6 = .ok (.iconst 0, 1) := by decide +kernel
theorem dX11_waiting_7 : decode cX11_waiting 7 = .ok (.invokevirtual 47, 3) := by decide +kernel
theorem dX11_waiting_10 : decode cX11_waiting 10 = .ok (.if_icmp .ge 47, 3) := by decide +kernel
theorem dX11_waiting_57 : decode cX11_waiting 57 = .ok (.iload_n 1, 1) := by decide +kernel
theorem dX11_waiting_58 : decode cX11_waiting 58 = .ok (.ireturn, 1) := by decide +kernel
theorem dX11_waits_0 : decode cX11_waits 0 = .ok (.iload_n 2, 1) := by decide +kernel
theorem dX11_waits_1 : decode cX11_waits 1 = .ok (.ifCond .lt 12, 3) := by decide +kernel
theorem dX11_waits_4 : decode cX11_waits 4 = .ok (.iload_n 3, 1) := by decide +kernel
theorem dX11_waits_5 : decode cX11_waits 5 = .ok (.iconst 0, 1) := by decide +kernel
theorem dX11_waits_6 : decode cX11_waits 6 = .ok (.iconst 2, 1) := by decide +kernel
theorem dX11_waits_7 : decode cX11_waits 7 = .ok (.invokestatic 228, 3) := by decide +kernel
theorem dX11_waits_10 : decode cX11_waits 10 = .ok (.ifCond .ne 7, 3) := by decide +kernel
theorem dX11_waits_13 : decode cX11_waits 13 = .ok (.iconst 1, 1) := by decide +kernel
theorem dX11_waits_14 : decode cX11_waits 14 = .ok (.goto 8, 3) := by decide +kernel
theorem dX11_waits_17 : decode cX11_waits 17 = .ok (.aload_n 0, 1) := by decide +kernel
theorem dX11_waits_18 : decode cX11_waits 18 = .ok (.iload_n 1, 1) := by decide +kernel
theorem dX11_waits_19 : decode cX11_waits 19 = .ok (.invokevirtual 288, 3) := by decide +kernel
theorem dX11_waits_22 : decode cX11_waits 22 = .ok (.istore 4, 2) := by decide +kernel
theorem dX11_waits_24 : decode cX11_waits 24 = .ok (.iload 4, 2) := by decide +kernel
theorem dX11_waits_26 : decode cX11_waits 26 = .ok (.ifCond .ne 18, 3) := by decide +kernel
theorem dX11_waits_44 : decode cX11_waits 44 = .ok (.iload 4, 2) := by decide +kernel
theorem dX11_waits_46 : decode cX11_waits 46 = .ok (.ifCond .le 12, 3) := by decide +kernel
theorem dX11_waits_49 : decode cX11_waits 49 = .ok (.aload_n 0, 1) := by decide +kernel
theorem dX11_waits_50 : decode cX11_waits 50 = .ok (.iload 4, 2) := by decide +kernel
theorem dX11_waits_52 : decode cX11_waits 52 = .ok (.invokevirtual 267, 3) := by decide +kernel
theorem dX11_waits_55 : decode cX11_waits 55 = .ok (.goto 18, 3) := by decide +kernel
theorem dX11_waits_73 : decode cX11_waits 73 = .ok (.ireturn, 1) := by decide +kernel
theorem dX11_way_0 : decode cX11_way 0 = .ok (.iload_n 1, 1) := by decide +kernel
theorem dX11_way_1 : decode cX11_way 1 = .ok (.iconst 0, 1) := by decide +kernel
theorem dX11_way_2 : decode cX11_way 2 = .ok (.bipush 9, 2) := by decide +kernel
theorem dX11_way_4 : decode cX11_way 4 = .ok (.invokestatic 228, 3) := by decide +kernel
theorem dX11_way_7 : decode cX11_way 7 = .ok (.ifCond .ne 9, 3) := by decide +kernel
theorem dX11_way_10 : decode cX11_way 10 = .ok (.aload_n 0, 1) := by decide +kernel
theorem dX11_way_11 : decode cX11_way 11 = .ok (.iconst 1, 1) := by decide +kernel
theorem dX11_way_12 : decode cX11_way 12 = .ok (.invokevirtual 267, 3) := by decide +kernel
theorem dX11_way_15 : decode cX11_way 15 = .ok (.ireturn, 1) := by decide +kernel
theorem dX11_way_16 : decode cX11_way 16 = .ok (.iload_n 1, 1) := by decide +kernel
theorem dX11_way_17 : decode cX11_way 17 = .ok (.ifCond .ne 13, 3) := by decide +kernel
theorem dX11_way_20 : decode cX11_way 20 = .ok (.aload_n 0, 1) := by decide +kernel
theorem dX11_way_21 : decode cX11_way 21 = .ok (.aload_n 0, 1) := by decide +kernel
theorem dX11_way_22 : decode cX11_way 22 = .ok (.iconst 5, 1) := by decide +kernel
theorem dX11_way_23 : decode cX11_way 23 = .ok (.invokevirtual 47, 3) := by decide +kernel
theorem dX11_way_26 : decode cX11_way 26 = .ok (.invokevirtual 276, 3) := by decide +kernel
theorem dX11_way_29 : decode cX11_way 29 = .ok (.ireturn, 1) := by decide +kernel
theorem dX11_way_30 : decode cX11_way 30 = .ok (.aload_n 0, 1) := by decide +kernel
theorem dX11_way_31 : decode cX11_way 31 = .ok (.iconst 5, 1) := by decide +kernel
theorem dX11_way_32 : decode cX11_way 32 = .ok (.invokevirtual 47, 3) := by decide +kernel
theorem dX11_way_35 : decode cX11_way 35 = .ok (.ifCond .eq 17, 3) := by decide +kernel
theorem dX11_way_52 : decode cX11_way 52 = .ok (.aload_n 0, 1) := by decide +kernel
theorem dX11_way_53 : decode cX11_way 53 = .ok (.bipush 6, 2) := by decide +kernel
theorem dX11_way_55 : decode cX11_way 55 = .ok (.invokevirtual 267, 3) := by decide +kernel
theorem dX11_way_58 : decode cX11_way 58 = .ok (.ireturn, 1) := by decide +kernel
theorem dX11_when_0 : decode cX11_when 0 = .ok (.iload_n 1, 1) := by decide +kernel
theorem dX11_when_1 : decode cX11_when 1 = .ok (.ifCond .ge 9, 3) := by decide +kernel
theorem dX11_when_4 : decode cX11_when 4 = .ok (.aload_n 0, 1) := by decide +kernel
theorem dX11_when_5 : decode cX11_when 5 = .ok (.iconst 1, 1) := by decide +kernel
theorem dX11_when_6 : decode cX11_when 6 = .ok (.invokevirtual 267, 3) := by decide +kernel
theorem dX11_when_9 : decode cX11_when 9 = .ok (.ireturn, 1) := by decide +kernel
theorem dX11_when_10 : decode cX11_when 10 = .ok (.aload_n 0, 1) := by decide +kernel
theorem dX11_when_11 : decode cX11_when 11 = .ok (.iconst 5, 1) := by decide +kernel
theorem dX11_when_12 : decode cX11_when 12 = .ok (.invokevirtual 47, 3) := by decide +kernel
theorem dX11_when_15 : decode cX11_when 15 = .ok (.iconst 2, 1) := by decide +kernel
theorem dX11_when_16 : decode cX11_when 16 = .ok (.if_icmp .ne 17, 3) := by decide +kernel
theorem dX11_when_33 : decode cX11_when 33 = .ok (.iconst 0, 1) := by decide +kernel
theorem dX11_when_34 : decode cX11_when 34 = .ok (.istore_n 3, 1) := by decide +kernel
theorem dX11_when_35 : decode cX11_when 35 = .ok (.aload_n 0, 1) := by decide +kernel
theorem dX11_when_36 : decode cX11_when 36 = .ok (.invokevirtual 339, 3) := by decide +kernel
theorem dX11_when_39 : decode cX11_when 39 = .ok (.iconst 1, 1) := by decide +kernel
theorem dX11_when_40 : decode cX11_when 40 = .ok (.isub, 1) := by decide +kernel
theorem dX11_when_41 : decode cX11_when 41 = .ok (.istore 4, 2) := by decide +kernel
theorem dX11_when_43 : decode cX11_when 43 = .ok (.iload 4, 2) := by decide +kernel
theorem dX11_when_45 : decode cX11_when 45 = .ok (.ifCond .lt 30, 3) := by decide +kernel
theorem dX11_when_75 : decode cX11_when 75 = .ok (.iload_n 3, 1) := by decide +kernel
theorem dX11_when_76 : decode cX11_when 76 = .ok (.ifCond .ne 9, 3) := by decide +kernel
theorem dX11_when_79 : decode cX11_when 79 = .ok (.aload_n 0, 1) := by decide +kernel
theorem dX11_when_80 : decode cX11_when 80 = .ok (.iconst 5, 1) := by decide +kernel
theorem dX11_when_81 : decode cX11_when 81 = .ok (.invokevirtual 267, 3) := by decide +kernel
theorem dX11_when_84 : decode cX11_when 84 = .ok (.ireturn, 1) := by decide +kernel
theorem dX11_wrongStation_0 : decode cX11_wrongStation 0 = .ok (.aload_n 0, 1) := by decide +kernel
theorem dX11_wrongStation_1 : decode cX11_wrongStation 1 = .ok (.iload_n 1, 1) := by decide +kernel
theorem dX11_wrongStation_2 : decode cX11_wrongStation 2 = .ok (.invokevirtual 51, 3) := by decide +kernel
theorem dX11_wrongStation_5 : decode cX11_wrongStation 5 = .ok (.ifCond .eq 7, 3) := by decide +kernel
theorem dX11_wrongStation_12 : decode cX11_wrongStation 12 = .ok (.iconst 2, 1) := by decide +kernel
theorem dX11_wrongStation_13 : decode cX11_wrongStation 13 = .ok (.ireturn, 1) := by decide +kernel
theorem dX1_greatestLevel_0 : decode cX1_greatestLevel 0 = .ok (.aload_n 0, 1) := by decide +kernel
theorem dX1_greatestLevel_1 : decode cX1_greatestLevel 1 = .ok (.getfield 22, 3) := by decide +kernel
theorem dX1_greatestLevel_4 : decode cX1_greatestLevel 4 = .ok (.aload_n 0, 1) := by decide +kernel
theorem dX1_greatestLevel_5 : decode cX1_greatestLevel 5 = .ok (.getfield 18, 3) := by decide +kernel
theorem dX1_greatestLevel_8 : decode cX1_greatestLevel 8 = .ok (.invokevirtual 25, 3) := by decide +kernel
theorem dX1_greatestLevel_11 : decode cX1_greatestLevel 11 = .ok (.iconst 0, 1) := by decide +kernel
theorem dX1_greatestLevel_12 : decode cX1_greatestLevel 12 = .ok (.istore_n 1, 1) := by decide +kernel
theorem dX1_greatestLevel_13 : decode cX1_greatestLevel 13 = .ok (.iconst 0, 1) := by decide +kernel
theorem dX1_greatestLevel_14 : decode cX1_greatestLevel 14 = .ok (.istore_n 2, 1) := by decide +kernel
theorem dX1_greatestLevel_15 : decode cX1_greatestLevel 15 = .ok (.iload_n 2, 1) := by decide +kernel
theorem dX1_greatestLevel_16 : decode cX1_greatestLevel 16 = .ok (.sipush 3000, 3) := by decide +kernel
theorem dX1_greatestLevel_19 : decode cX1_greatestLevel 19 = .ok (.if_icmp .gt 57, 3) := by decide +kernel
theorem dX1_greatestLevel_22 : decode cX1_greatestLevel 22 = .ok (.aload_n 0, 1) := by decide +kernel
theorem dX1_greatestLevel_23 : decode cX1_greatestLevel 23 = .ok (.getfield 22, 3) := by decide +kernel
theorem dX1_greatestLevel_26 : decode cX1_greatestLevel 26 = .ok (.getfield 56, 3) := by decide +kernel
theorem dX1_greatestLevel_29 : decode cX1_greatestLevel 29 = .ok (.getfield 60, 3) := by decide +kernel
theorem dX1_greatestLevel_32 : decode cX1_greatestLevel 32 = .ok (.ifCond .eq 18, 3) := by decide +kernel
theorem dX1_greatestLevel_50 : decode cX1_greatestLevel 50 = .ok (.aload_n 0, 1) := by decide +kernel
theorem dX1_greatestLevel_51 : decode cX1_greatestLevel 51 = .ok (.getfield 22, 3) := by decide +kernel
theorem dX1_greatestLevel_54 : decode cX1_greatestLevel 54 = .ok (.invokevirtual 39, 3) := by decide +kernel
theorem dX1_greatestLevel_57 : decode cX1_greatestLevel 57 = .ok (.ifCond .eq 5, 3) := by decide +kernel
theorem dX1_greatestLevel_60 : decode cX1_greatestLevel 60 = .ok (.iload_n 1, 1) := by decide +kernel
theorem dX1_greatestLevel_61 : decode cX1_greatestLevel 61 = .ok (.ireturn, 1) := by decide +kernel
theorem dX1_hasCome_0 : decode cX1_hasCome 0 = .ok (.iload_n 1, 1) := by decide +kernel
theorem dX1_hasCome_1 : decode cX1_hasCome 1 = .ok (.tableswitch 120 0 5 #[39, 47, 64, 75, 95, 103], 39) := by decide +kernel
theorem dX1_hasCome_40 : decode cX1_hasCome 40 = .ok (.aload_n 0, 1) := by decide +kernel
theorem dX1_hasCome_41 : decode cX1_hasCome 41 = .ok (.getfield 22, 3) := by decide +kernel
theorem dX1_hasCome_44 : decode cX1_hasCome 44 = .ok (.invokevirtual 39, 3) := by decide +kernel
theorem dX1_hasCome_47 : decode cX1_hasCome 47 = .ok (.ireturn, 1) := by decide +kernel
theorem dX1_hasCome_65 : decode cX1_hasCome 65 = .ok (.aload_n 0, 1) := by decide +kernel
theorem dX1_hasCome_66 : decode cX1_hasCome 66 = .ok (.getfield 22, 3) := by decide +kernel
theorem dX1_hasCome_69 : decode cX1_hasCome 69 = .ok (.getfield 47, 3) := by decide +kernel
theorem dX1_hasCome_72 : decode cX1_hasCome 72 = .ok (.invokevirtual 51, 3) := by decide +kernel
theorem dX1_hasCome_75 : decode cX1_hasCome 75 = .ok (.ireturn, 1) := by decide +kernel
theorem dX1_hasCome_76 : decode cX1_hasCome 76 = .ok (.aload_n 0, 1) := by decide +kernel
theorem dX1_hasCome_77 : decode cX1_hasCome 77 = .ok (.getfield 22, 3) := by decide +kernel
theorem dX1_hasCome_80 : decode cX1_hasCome 80 = .ok (.getfield 56, 3) := by decide +kernel
theorem dX1_hasCome_83 : decode cX1_hasCome 83 = .ok (.getfield 60, 3) := by decide +kernel
theorem dX1_hasCome_86 : decode cX1_hasCome 86 = .ok (.iconst 1, 1) := by decide +kernel
theorem dX1_hasCome_87 : decode cX1_hasCome 87 = .ok (.if_icmp .ne 7, 3) := by decide +kernel
theorem dX1_hasCome_94 : decode cX1_hasCome 94 = .ok (.iconst 0, 1) := by decide +kernel
theorem dX1_hasCome_95 : decode cX1_hasCome 95 = .ok (.ireturn, 1) := by decide +kernel
theorem dX1_hasCome_96 : decode cX1_hasCome 96 = .ok (.aload_n 0, 1) := by decide +kernel
theorem dX1_hasCome_97 : decode cX1_hasCome 97 = .ok (.getfield 22, 3) := by decide +kernel
theorem dX1_hasCome_100 : decode cX1_hasCome 100 = .ok (.getfield 65, 3) := by decide +kernel
theorem dX1_hasCome_103 : decode cX1_hasCome 103 = .ok (.ireturn, 1) := by decide +kernel
theorem dX1_hasCome_104 : decode cX1_hasCome 104 = .ok (.aload_n 0, 1) := by decide +kernel
theorem dX1_hasCome_105 : decode cX1_hasCome 105 = .ok (.getfield 22, 3) := by decide +kernel
theorem dX1_hasCome_108 : decode cX1_hasCome 108 = .ok (.getfield 69, 3) := by decide +kernel
theorem dX1_hasCome_111 : decode cX1_hasCome 111 = .ok (.iconst (-1), 1) := by decide +kernel
theorem dX1_hasCome_112 : decode cX1_hasCome 112 = .ok (.if_icmp .eq 7, 3) := by decide +kernel
theorem dX1_hasCome_119 : decode cX1_hasCome 119 = .ok (.iconst 0, 1) := by decide +kernel
theorem dX1_hasCome_120 : decode cX1_hasCome 120 = .ok (.ireturn, 1) := by decide +kernel
theorem dX1_init_0 : decode cX1_init 0 = .ok (.aload_n 0, 1) := by decide +kernel
theorem dX1_init_1 : decode cX1_init 1 = .ok (.invokespecial 3, 3) := by decide +kernel
theorem dX1_init_4 : decode cX1_init 4 = .ok (.aload_n 0, 1) := by decide +kernel
theorem dX1_init_5 : decode cX1_init 5 = .ok (.bipush 48, 2) := by decide +kernel
theorem dX1_init_7 : decode cX1_init 7 = .ok (.newarray .int, 2) := by decide +kernel
theorem dX1_init_9 : decode cX1_init 9 = .ok (.putfield 9, 3) := by decide +kernel
theorem dX1_init_12 : decode cX1_init 12 = .ok (.aload_n 0, 1) := by decide +kernel
theorem dX1_init_13 : decode cX1_init 13 = .ok (.bipush 48, 2) := by decide +kernel
theorem dX1_init_15 : decode cX1_init 15 = .ok (.newarray .int, 2) := by decide +kernel
theorem dX1_init_17 : decode cX1_init 17 = .ok (.putfield 15, 3) := by decide +kernel
theorem dX1_init_20 : decode cX1_init 20 = .ok (.aload_n 0, 1) := by decide +kernel
theorem dX1_init_21 : decode cX1_init 21 = .ok (.aload_n 1, 1) := by decide +kernel
theorem dX1_init_22 : decode cX1_init 22 = .ok (.putfield 18, 3) := by decide +kernel
theorem dX1_init_25 : decode cX1_init 25 = .ok (.aload_n 0, 1) := by decide +kernel
theorem dX1_init_26 : decode cX1_init 26 = .ok (.aload_n 2, 1) := by decide +kernel
theorem dX1_init_27 : decode cX1_init 27 = .ok (.putfield 22, 3) := by decide +kernel
theorem dX1_init_30 : decode cX1_init 30 = .ok (.return_, 1) := by decide +kernel
theorem dX1_noteGot_0 : decode cX1_noteGot 0 = .ok (.iload_n 1, 1) := by decide +kernel
theorem dX1_noteGot_1 : decode cX1_noteGot 1 = .ok (.ifCond .eq 10, 3) := by decide +kernel
theorem dX1_noteGot_4 : decode cX1_noteGot 4 = .ok (.aload_n 0, 1) := by decide +kernel
theorem dX1_noteGot_5 : decode cX1_noteGot 5 = .ok (.getfield 15, 3) := by decide +kernel
theorem dX1_noteGot_8 : decode cX1_noteGot 8 = .ok (.goto 7, 3) := by decide +kernel
theorem dX1_noteGot_11 : decode cX1_noteGot 11 = .ok (.aload_n 0, 1) := by decide +kernel
theorem dX1_noteGot_12 : decode cX1_noteGot 12 = .ok (.getfield 9, 3) := by decide +kernel
theorem dX1_noteGot_15 : decode cX1_noteGot 15 = .ok (.astore_n 2, 1) := by decide +kernel
theorem dX1_noteGot_16 : decode cX1_noteGot 16 = .ok (.aload_n 2, 1) := by decide +kernel
theorem dX1_noteGot_17 : decode cX1_noteGot 17 = .ok (.iconst (-1), 1) := by decide +kernel
theorem dX1_noteGot_18 : decode cX1_noteGot 18 = .ok (.invokestatic 81, 3) := by decide +kernel
theorem dX1_noteGot_21 : decode cX1_noteGot 21 = .ok (.aload_n 0, 1) := by decide +kernel
theorem dX1_noteGot_22 : decode cX1_noteGot 22 = .ok (.getfield 22, 3) := by decide +kernel
theorem dX1_noteGot_25 : decode cX1_noteGot 25 = .ok (.aload_n 0, 1) := by decide +kernel
theorem dX1_noteGot_26 : decode cX1_noteGot 26 = .ok (.getfield 18, 3) := by decide +kernel
theorem dX1_noteGot_29 : decode cX1_noteGot 29 = .ok (.invokevirtual 25, 3) := by decide +kernel
theorem dX1_noteGot_32 : decode cX1_noteGot 32 = .ok (.iconst 1, 1) := by decide +kernel
theorem dX1_noteGot_33 : decode cX1_noteGot 33 = .ok (.istore_n 3, 1) := by decide +kernel
theorem dX1_noteGot_34 : decode cX1_noteGot 34 = .ok (.iload_n 3, 1) := by decide +kernel
theorem dX1_noteGot_35 : decode cX1_noteGot 35 = .ok (.sipush 3000, 3) := by decide +kernel
theorem dX1_noteGot_38 : decode cX1_noteGot 38 = .ok (.if_icmp .gt 68, 3) := by decide +kernel
theorem dX1_noteGot_41 : decode cX1_noteGot 41 = .ok (.aload_n 0, 1) := by decide +kernel
theorem dX1_noteGot_42 : decode cX1_noteGot 42 = .ok (.getfield 22, 3) := by decide +kernel
theorem dX1_noteGot_45 : decode cX1_noteGot 45 = .ok (.iload_n 1, 1) := by decide +kernel
theorem dX1_noteGot_46 : decode cX1_noteGot 46 = .ok (.invokevirtual 35, 3) := by decide +kernel
theorem dX1_noteGot_49 : decode cX1_noteGot 49 = .ok (.aload_n 0, 1) := by decide +kernel
theorem dX1_noteGot_50 : decode cX1_noteGot 50 = .ok (.getfield 22, 3) := by decide +kernel
theorem dX1_noteGot_53 : decode cX1_noteGot 53 = .ok (.getfield 43, 3) := by decide +kernel
theorem dX1_noteGot_56 : decode cX1_noteGot 56 = .ok (.iconst (-1), 1) := by decide +kernel
theorem dX1_noteGot_57 : decode cX1_noteGot 57 = .ok (.if_icmp .ne 7, 3) := by decide +kernel
theorem dX1_noteGot_60 : decode cX1_noteGot 60 = .ok (.iconst (-1), 1) := by decide +kernel
theorem dX1_noteGot_61 : decode cX1_noteGot 61 = .ok (.goto 20, 3) := by decide +kernel
theorem dX1_noteGot_81 : decode cX1_noteGot 81 = .ok (.istore 4, 2) := by decide +kernel
theorem dX1_noteGot_83 : decode cX1_noteGot 83 = .ok (.iload 4, 2) := by decide +kernel
theorem dX1_noteGot_85 : decode cX1_noteGot 85 = .ok (.ifCond .lt 15, 3) := by decide +kernel
theorem dX1_noteGot_100 : decode cX1_noteGot 100 = .ok (.iinc 3 1, 3) := by decide +kernel
theorem dX1_noteGot_103 : decode cX1_noteGot 103 = .ok (.goto (-69), 3) := by decide +kernel
theorem dX1_noteGot_106 : decode cX1_noteGot 106 = .ok (.return_, 1) := by decide +kernel
theorem dX1_numberGot_0 : decode cX1_numberGot 0 = .ok (.aload_n 0, 1) := by decide +kernel
theorem dX1_numberGot_1 : decode cX1_numberGot 1 = .ok (.getfield 22, 3) := by decide +kernel
theorem dX1_numberGot_4 : decode cX1_numberGot 4 = .ok (.aload_n 0, 1) := by decide +kernel
theorem dX1_numberGot_5 : decode cX1_numberGot 5 = .ok (.getfield 18, 3) := by decide +kernel
theorem dX1_numberGot_8 : decode cX1_numberGot 8 = .ok (.invokevirtual 25, 3) := by decide +kernel
theorem dX1_numberGot_11 : decode cX1_numberGot 11 = .ok (.iconst 0, 1) := by decide +kernel
theorem dX1_numberGot_12 : decode cX1_numberGot 12 = .ok (.istore_n 3, 1) := by decide +kernel
theorem dX1_numberGot_13 : decode cX1_numberGot 13 = .ok (.iconst 1, 1) := by decide +kernel
theorem dX1_numberGot_14 : decode cX1_numberGot 14 = .ok (.istore 4, 2) := by decide +kernel
theorem dX1_numberGot_16 : decode cX1_numberGot 16 = .ok (.iload 4, 2) := by decide +kernel
theorem dX1_numberGot_18 : decode cX1_numberGot 18 = .ok (.sipush 3000, 3) := by decide +kernel
theorem dX1_numberGot_21 : decode cX1_numberGot 21 = .ok (.if_icmp .gt 44, 3) := by decide +kernel
theorem dX1_numberGot_24 : decode cX1_numberGot 24 = .ok (.aload_n 0, 1) := by decide +kernel
theorem dX1_numberGot_25 : decode cX1_numberGot 25 = .ok (.getfield 22, 3) := by decide +kernel
theorem dX1_numberGot_28 : decode cX1_numberGot 28 = .ok (.iload_n 2, 1) := by decide +kernel
theorem dX1_numberGot_29 : decode cX1_numberGot 29 = .ok (.invokevirtual 35, 3) := by decide +kernel
theorem dX1_numberGot_32 : decode cX1_numberGot 32 = .ok (.aload_n 0, 1) := by decide +kernel
theorem dX1_numberGot_33 : decode cX1_numberGot 33 = .ok (.getfield 22, 3) := by decide +kernel
theorem dX1_numberGot_36 : decode cX1_numberGot 36 = .ok (.getfield 43, 3) := by decide +kernel
theorem dX1_numberGot_39 : decode cX1_numberGot 39 = .ok (.iconst (-1), 1) := by decide +kernel
theorem dX1_numberGot_40 : decode cX1_numberGot 40 = .ok (.if_icmp .eq 19, 3) := by decide +kernel
theorem dX1_numberGot_59 : decode cX1_numberGot 59 = .ok (.iinc 4 1, 3) := by decide +kernel
theorem dX1_numberGot_62 : decode cX1_numberGot 62 = .ok (.goto (-46), 3) := by decide +kernel
theorem dX1_numberGot_65 : decode cX1_numberGot 65 = .ok (.iconst (-1), 1) := by decide +kernel
theorem dX1_numberGot_66 : decode cX1_numberGot 66 = .ok (.ireturn, 1) := by decide +kernel
theorem dX1_ticksGained_0 : decode cX1_ticksGained 0 = .ok (.iconst 0, 1) := by decide +kernel
theorem dX1_ticksGained_1 : decode cX1_ticksGained 1 = .ok (.istore_n 1, 1) := by decide +kernel
theorem dX1_ticksGained_2 : decode cX1_ticksGained 2 = .ok (.iconst 0, 1) := by decide +kernel
theorem dX1_ticksGained_3 : decode cX1_ticksGained 3 = .ok (.istore_n 2, 1) := by decide +kernel
theorem dX1_ticksGained_4 : decode cX1_ticksGained 4 = .ok (.iload_n 2, 1) := by decide +kernel
theorem dX1_ticksGained_5 : decode cX1_ticksGained 5 = .ok (.bipush 48, 2) := by decide +kernel
theorem dX1_ticksGained_7 : decode cX1_ticksGained 7 = .ok (.if_icmp .ge 45, 3) := by decide +kernel
theorem dX1_ticksGained_10 : decode cX1_ticksGained 10 = .ok (.aload_n 0, 1) := by decide +kernel
theorem dX1_ticksGained_11 : decode cX1_ticksGained 11 = .ok (.getfield 9, 3) := by decide +kernel
theorem dX1_ticksGained_14 : decode cX1_ticksGained 14 = .ok (.iload_n 2, 1) := by decide +kernel
theorem dX1_ticksGained_15 : decode cX1_ticksGained 15 = .ok (.iaload, 1) := by decide +kernel
theorem dX1_ticksGained_16 : decode cX1_ticksGained 16 = .ok (.iconst (-1), 1) := by decide +kernel
theorem dX1_ticksGained_17 : decode cX1_ticksGained 17 = .ok (.if_icmp .eq 29, 3) := by decide +kernel
theorem dX1_ticksGained_20 : decode cX1_ticksGained 20 = .ok (.aload_n 0, 1) := by decide +kernel
theorem dX1_ticksGained_21 : decode cX1_ticksGained 21 = .ok (.getfield 15, 3) := by decide +kernel
theorem dX1_ticksGained_24 : decode cX1_ticksGained 24 = .ok (.iload_n 2, 1) := by decide +kernel
theorem dX1_ticksGained_25 : decode cX1_ticksGained 25 = .ok (.iaload, 1) := by decide +kernel
theorem dX1_ticksGained_26 : decode cX1_ticksGained 26 = .ok (.iconst (-1), 1) := by decide +kernel
theorem dX1_ticksGained_27 : decode cX1_ticksGained 27 = .ok (.if_icmp .eq 19, 3) := by decide +kernel
theorem dX1_ticksGained_30 : decode cX1_ticksGained 30 = .ok (.iload_n 1, 1) := by decide +kernel
theorem dX1_ticksGained_31 : decode cX1_ticksGained 31 = .ok (.aload_n 0, 1) := by decide +kernel
theorem dX1_ticksGained_32 : decode cX1_ticksGained 32 = .ok (.getfield 15, 3) := by decide +kernel
theorem dX1_ticksGained_35 : decode cX1_ticksGained 35 = .ok (.iload_n 2, 1) := by decide +kernel
theorem dX1_ticksGained_36 : decode cX1_ticksGained 36 = .ok (.iaload, 1) := by decide +kernel
theorem dX1_ticksGained_37 : decode cX1_ticksGained 37 = .ok (.aload_n 0, 1) := by decide +kernel
theorem dX1_ticksGained_38 : decode cX1_ticksGained 38 = .ok (.getfield 9, 3) := by decide +kernel
theorem dX1_ticksGained_41 : decode cX1_ticksGained 41 = .ok (.iload_n 2, 1) := by decide +kernel
theorem dX1_ticksGained_42 : decode cX1_ticksGained 42 = .ok (.iaload, 1) := by decide +kernel
theorem dX1_ticksGained_43 : decode cX1_ticksGained 43 = .ok (.isub, 1) := by decide +kernel
theorem dX1_ticksGained_44 : decode cX1_ticksGained 44 = .ok (.iadd, 1) := by decide +kernel
theorem dX1_ticksGained_45 : decode cX1_ticksGained 45 = .ok (.istore_n 1, 1) := by decide +kernel
theorem dX1_ticksGained_46 : decode cX1_ticksGained 46 = .ok (.iinc 2 1, 3) := by decide +kernel
theorem dX1_ticksGained_49 : decode cX1_ticksGained 49 = .ok (.goto (-45), 3) := by decide +kernel
theorem dX1_ticksGained_52 : decode cX1_ticksGained 52 = .ok (.iload_n 1, 1) := by decide +kernel
theorem dX1_ticksGained_53 : decode cX1_ticksGained 53 = .ok (.ireturn, 1) := by decide +kernel
theorem dX1_ticksTill_0 : decode cX1_ticksTill 0 = .ok (.aload_n 0, 1) := by decide +kernel
theorem dX1_ticksTill_1 : decode cX1_ticksTill 1 = .ok (.getfield 22, 3) := by decide +kernel
theorem dX1_ticksTill_4 : decode cX1_ticksTill 4 = .ok (.aload_n 0, 1) := by decide +kernel
theorem dX1_ticksTill_5 : decode cX1_ticksTill 5 = .ok (.getfield 18, 3) := by decide +kernel
theorem dX1_ticksTill_8 : decode cX1_ticksTill 8 = .ok (.invokevirtual 25, 3) := by decide +kernel
theorem dX1_ticksTill_11 : decode cX1_ticksTill 11 = .ok (.iconst 0, 1) := by decide +kernel
theorem dX1_ticksTill_12 : decode cX1_ticksTill 12 = .ok (.istore 4, 2) := by decide +kernel
theorem dX1_ticksTill_14 : decode cX1_ticksTill 14 = .ok (.iload 4, 2) := by decide +kernel
theorem dX1_ticksTill_16 : decode cX1_ticksTill 16 = .ok (.sipush 3000, 3) := by decide +kernel
theorem dX1_ticksTill_19 : decode cX1_ticksTill 19 = .ok (.if_icmp .gt 29, 3) := by decide +kernel
theorem dX1_ticksTill_22 : decode cX1_ticksTill 22 = .ok (.aload_n 0, 1) := by decide +kernel
theorem dX1_ticksTill_23 : decode cX1_ticksTill 23 = .ok (.iload_n 1, 1) := by decide +kernel
theorem dX1_ticksTill_24 : decode cX1_ticksTill 24 = .ok (.iload_n 2, 1) := by decide +kernel
theorem dX1_ticksTill_25 : decode cX1_ticksTill 25 = .ok (.invokevirtual 31, 3) := by decide +kernel
theorem dX1_ticksTill_28 : decode cX1_ticksTill 28 = .ok (.ifCond .eq 6, 3) := by decide +kernel
theorem dX1_ticksTill_31 : decode cX1_ticksTill 31 = .ok (.iload 4, 2) := by decide +kernel
theorem dX1_ticksTill_33 : decode cX1_ticksTill 33 = .ok (.ireturn, 1) := by decide +kernel
theorem dX1_ticksTill_34 : decode cX1_ticksTill 34 = .ok (.aload_n 0, 1) := by decide +kernel
theorem dX1_ticksTill_35 : decode cX1_ticksTill 35 = .ok (.getfield 22, 3) := by decide +kernel
theorem dX1_ticksTill_38 : decode cX1_ticksTill 38 = .ok (.iload_n 3, 1) := by decide +kernel
theorem dX1_ticksTill_39 : decode cX1_ticksTill 39 = .ok (.invokevirtual 35, 3) := by decide +kernel
theorem dX1_ticksTill_42 : decode cX1_ticksTill 42 = .ok (.iinc 4 1, 3) := by decide +kernel
theorem dX1_ticksTill_45 : decode cX1_ticksTill 45 = .ok (.goto (-31), 3) := by decide +kernel
theorem dX1_ticksTill_48 : decode cX1_ticksTill 48 = .ok (.iconst (-1), 1) := by decide +kernel
theorem dX1_ticksTill_49 : decode cX1_ticksTill 49 = .ok (.ireturn, 1) := by decide +kernel
theorem dX2_clear_0 : decode cX2_clear 0 = .ok (.aload_n 0, 1) := by decide +kernel
theorem dX2_clear_1 : decode cX2_clear 1 = .ok (.getfield 24, 3) := by decide +kernel
theorem dX2_clear_4 : decode cX2_clear 4 = .ok (.iconst 0, 1) := by decide +kernel
theorem dX2_clear_5 : decode cX2_clear 5 = .ok (.invokestatic 27, 3) := by decide +kernel
theorem dX2_clear_8 : decode cX2_clear 8 = .ok (.return_, 1) := by decide +kernel
theorem dX2_copyFrom_0 : decode cX2_copyFrom 0 = .ok (.aload_n 1, 1) := by decide +kernel
theorem dX2_copyFrom_1 : decode cX2_copyFrom 1 = .ok (.getfield 9, 3) := by decide +kernel
theorem dX2_copyFrom_4 : decode cX2_copyFrom 4 = .ok (.iconst 0, 1) := by decide +kernel
theorem dX2_copyFrom_5 : decode cX2_copyFrom 5 = .ok (.aload_n 0, 1) := by decide +kernel
theorem dX2_copyFrom_6 : decode cX2_copyFrom 6 = .ok (.getfield 9, 3) := by decide +kernel
theorem dX2_copyFrom_9 : decode cX2_copyFrom 9 = .ok (.iconst 0, 1) := by decide +kernel
theorem dX2_copyFrom_10 : decode cX2_copyFrom 10 = .ok (.bipush 48, 2) := by decide +kernel
theorem dX2_copyFrom_12 : decode cX2_copyFrom 12 = .ok (.invokestatic 33, 3) := by decide +kernel
theorem dX2_copyFrom_15 : decode cX2_copyFrom 15 = .ok (.aload_n 1, 1) := by decide +kernel
theorem dX2_copyFrom_16 : decode cX2_copyFrom 16 = .ok (.getfield 15, 3) := by decide +kernel
theorem dX2_copyFrom_19 : decode cX2_copyFrom 19 = .ok (.iconst 0, 1) := by decide +kernel
theorem dX2_copyFrom_20 : decode cX2_copyFrom 20 = .ok (.aload_n 0, 1) := by decide +kernel
theorem dX2_copyFrom_21 : decode cX2_copyFrom 21 = .ok (.getfield 15, 3) := by decide +kernel
theorem dX2_copyFrom_24 : decode cX2_copyFrom 24 = .ok (.iconst 0, 1) := by decide +kernel
theorem dX2_copyFrom_25 : decode cX2_copyFrom 25 = .ok (.bipush 48, 2) := by decide +kernel
theorem dX2_copyFrom_27 : decode cX2_copyFrom 27 = .ok (.invokestatic 33, 3) := by decide +kernel
theorem dX2_copyFrom_30 : decode cX2_copyFrom 30 = .ok (.aload_n 1, 1) := by decide +kernel
theorem dX2_copyFrom_31 : decode cX2_copyFrom 31 = .ok (.getfield 18, 3) := by decide +kernel
theorem dX2_copyFrom_34 : decode cX2_copyFrom 34 = .ok (.iconst 0, 1) := by decide +kernel
theorem dX2_copyFrom_35 : decode cX2_copyFrom 35 = .ok (.aload_n 0, 1) := by decide +kernel
theorem dX2_copyFrom_36 : decode cX2_copyFrom 36 = .ok (.getfield 18, 3) := by decide +kernel
theorem dX2_copyFrom_39 : decode cX2_copyFrom 39 = .ok (.iconst 0, 1) := by decide +kernel
theorem dX2_copyFrom_40 : decode cX2_copyFrom 40 = .ok (.bipush 48, 2) := by decide +kernel
theorem dX2_copyFrom_42 : decode cX2_copyFrom 42 = .ok (.invokestatic 33, 3) := by decide +kernel
theorem dX2_copyFrom_45 : decode cX2_copyFrom 45 = .ok (.aload_n 1, 1) := by decide +kernel
theorem dX2_copyFrom_46 : decode cX2_copyFrom 46 = .ok (.getfield 21, 3) := by decide +kernel
theorem dX2_copyFrom_49 : decode cX2_copyFrom 49 = .ok (.iconst 0, 1) := by decide +kernel
theorem dX2_copyFrom_50 : decode cX2_copyFrom 50 = .ok (.aload_n 0, 1) := by decide +kernel
theorem dX2_copyFrom_51 : decode cX2_copyFrom 51 = .ok (.getfield 21, 3) := by decide +kernel
theorem dX2_copyFrom_54 : decode cX2_copyFrom 54 = .ok (.iconst 0, 1) := by decide +kernel
theorem dX2_copyFrom_55 : decode cX2_copyFrom 55 = .ok (.bipush 48, 2) := by decide +kernel
theorem dX2_copyFrom_57 : decode cX2_copyFrom 57 = .ok (.invokestatic 33, 3) := by decide +kernel
theorem dX2_copyFrom_60 : decode cX2_copyFrom 60 = .ok (.aload_n 1, 1) := by decide +kernel
theorem dX2_copyFrom_61 : decode cX2_copyFrom 61 = .ok (.getfield 24, 3) := by decide +kernel
theorem dX2_copyFrom_64 : decode cX2_copyFrom 64 = .ok (.iconst 0, 1) := by decide +kernel
theorem dX2_copyFrom_65 : decode cX2_copyFrom 65 = .ok (.aload_n 0, 1) := by decide +kernel
theorem dX2_copyFrom_66 : decode cX2_copyFrom 66 = .ok (.getfield 24, 3) := by decide +kernel
theorem dX2_copyFrom_69 : decode cX2_copyFrom 69 = .ok (.iconst 0, 1) := by decide +kernel
theorem dX2_copyFrom_70 : decode cX2_copyFrom 70 = .ok (.bipush 8, 2) := by decide +kernel
theorem dX2_copyFrom_72 : decode cX2_copyFrom 72 = .ok (.invokestatic 33, 3) := by decide +kernel
theorem dX2_copyFrom_75 : decode cX2_copyFrom 75 = .ok (.return_, 1) := by decide +kernel
theorem dX2_init_0 : decode cX2_init 0 = .ok (.aload_n 0, 1) := by decide +kernel
theorem dX2_init_1 : decode cX2_init 1 = .ok (.invokespecial 3, 3) := by decide +kernel
theorem dX2_init_4 : decode cX2_init 4 = .ok (.aload_n 0, 1) := by decide +kernel
theorem dX2_init_5 : decode cX2_init 5 = .ok (.bipush 48, 2) := by decide +kernel
theorem dX2_init_7 : decode cX2_init 7 = .ok (.newarray .int, 2) := by decide +kernel
theorem dX2_init_9 : decode cX2_init 9 = .ok (.putfield 9, 3) := by decide +kernel
theorem dX2_init_12 : decode cX2_init 12 = .ok (.aload_n 0, 1) := by decide +kernel
theorem dX2_init_13 : decode cX2_init 13 = .ok (.bipush 48, 2) := by decide +kernel
theorem dX2_init_15 : decode cX2_init 15 = .ok (.newarray .int, 2) := by decide +kernel
theorem dX2_init_17 : decode cX2_init 17 = .ok (.putfield 15, 3) := by decide +kernel
theorem dX2_init_20 : decode cX2_init 20 = .ok (.aload_n 0, 1) := by decide +kernel
theorem dX2_init_21 : decode cX2_init 21 = .ok (.bipush 48, 2) := by decide +kernel
theorem dX2_init_23 : decode cX2_init 23 = .ok (.newarray .int, 2) := by decide +kernel
theorem dX2_init_25 : decode cX2_init 25 = .ok (.putfield 18, 3) := by decide +kernel
theorem dX2_init_28 : decode cX2_init 28 = .ok (.aload_n 0, 1) := by decide +kernel
theorem dX2_init_29 : decode cX2_init 29 = .ok (.bipush 48, 2) := by decide +kernel
theorem dX2_init_31 : decode cX2_init 31 = .ok (.newarray .int, 2) := by decide +kernel
theorem dX2_init_33 : decode cX2_init 33 = .ok (.putfield 21, 3) := by decide +kernel
theorem dX2_init_36 : decode cX2_init 36 = .ok (.aload_n 0, 1) := by decide +kernel
theorem dX2_init_37 : decode cX2_init 37 = .ok (.bipush 8, 2) := by decide +kernel
theorem dX2_init_39 : decode cX2_init 39 = .ok (.newarray .int, 2) := by decide +kernel
theorem dX2_init_41 : decode cX2_init 41 = .ok (.putfield 24, 3) := by decide +kernel
theorem dX2_init_44 : decode cX2_init 44 = .ok (.return_, 1) := by decide +kernel
theorem dX2_slotOf_0 : decode cX2_slotOf 0 = .ok (.iconst 0, 1) := by decide +kernel
theorem dX2_slotOf_1 : decode cX2_slotOf 1 = .ok (.istore_n 2, 1) := by decide +kernel
theorem dX2_slotOf_2 : decode cX2_slotOf 2 = .ok (.iload_n 2, 1) := by decide +kernel
theorem dX2_slotOf_3 : decode cX2_slotOf 3 = .ok (.bipush 8, 2) := by decide +kernel
theorem dX2_slotOf_5 : decode cX2_slotOf 5 = .ok (.if_icmp .ge 48, 3) := by decide +kernel
theorem dX2_slotOf_8 : decode cX2_slotOf 8 = .ok (.iconst 0, 1) := by decide +kernel
theorem dX2_slotOf_9 : decode cX2_slotOf 9 = .ok (.istore_n 3, 1) := by decide +kernel
theorem dX2_slotOf_10 : decode cX2_slotOf 10 = .ok (.iload_n 3, 1) := by decide +kernel
theorem dX2_slotOf_11 : decode cX2_slotOf 11 = .ok (.aload_n 0, 1) := by decide +kernel
theorem dX2_slotOf_12 : decode cX2_slotOf 12 = .ok (.getfield 24, 3) := by decide +kernel
theorem dX2_slotOf_15 : decode cX2_slotOf 15 = .ok (.iload_n 2, 1) := by decide +kernel
theorem dX2_slotOf_16 : decode cX2_slotOf 16 = .ok (.iaload, 1) := by decide +kernel
theorem dX2_slotOf_17 : decode cX2_slotOf 17 = .ok (.if_icmp .ge 30, 3) := by decide +kernel
theorem dX2_slotOf_47 : decode cX2_slotOf 47 = .ok (.iinc 2 1, 3) := by decide +kernel
theorem dX2_slotOf_50 : decode cX2_slotOf 50 = .ok (.goto (-48), 3) := by decide +kernel
theorem dX2_slotOf_53 : decode cX2_slotOf 53 = .ok (.iconst (-1), 1) := by decide +kernel
theorem dX2_slotOf_54 : decode cX2_slotOf 54 = .ok (.ireturn, 1) := by decide +kernel
theorem dX2_total_0 : decode cX2_total 0 = .ok (.iconst 0, 1) := by decide +kernel
theorem dX2_total_1 : decode cX2_total 1 = .ok (.istore_n 1, 1) := by decide +kernel
theorem dX2_total_2 : decode cX2_total 2 = .ok (.iconst 0, 1) := by decide +kernel
theorem dX2_total_3 : decode cX2_total 3 = .ok (.istore_n 2, 1) := by decide +kernel
theorem dX2_total_4 : decode cX2_total 4 = .ok (.iload_n 2, 1) := by decide +kernel
theorem dX2_total_5 : decode cX2_total 5 = .ok (.bipush 8, 2) := by decide +kernel
theorem dX2_total_7 : decode cX2_total 7 = .ok (.if_icmp .ge 18, 3) := by decide +kernel
theorem dX2_total_10 : decode cX2_total 10 = .ok (.iload_n 1, 1) := by decide +kernel
theorem dX2_total_11 : decode cX2_total 11 = .ok (.aload_n 0, 1) := by decide +kernel
theorem dX2_total_12 : decode cX2_total 12 = .ok (.getfield 24, 3) := by decide +kernel
theorem dX2_total_15 : decode cX2_total 15 = .ok (.iload_n 2, 1) := by decide +kernel
theorem dX2_total_16 : decode cX2_total 16 = .ok (.iaload, 1) := by decide +kernel
theorem dX2_total_17 : decode cX2_total 17 = .ok (.iadd, 1) := by decide +kernel
theorem dX2_total_18 : decode cX2_total 18 = .ok (.istore_n 1, 1) := by decide +kernel
theorem dX2_total_19 : decode cX2_total 19 = .ok (.iinc 2 1, 3) := by decide +kernel
theorem dX2_total_22 : decode cX2_total 22 = .ok (.goto (-18), 3) := by decide +kernel
theorem dX2_total_25 : decode cX2_total 25 = .ok (.iload_n 1, 1) := by decide +kernel
theorem dX2_total_26 : decode cX2_total 26 = .ok (.ireturn, 1) := by decide +kernel
theorem dX2_totalOf_0 : decode cX2_totalOf 0 = .ok (.iconst 0, 1) := by decide +kernel
theorem dX2_totalOf_1 : decode cX2_totalOf 1 = .ok (.istore_n 2, 1) := by decide +kernel
theorem dX2_totalOf_2 : decode cX2_totalOf 2 = .ok (.iconst 0, 1) := by decide +kernel
theorem dX2_totalOf_3 : decode cX2_totalOf 3 = .ok (.istore_n 3, 1) := by decide +kernel
theorem dX2_totalOf_4 : decode cX2_totalOf 4 = .ok (.iload_n 3, 1) := by decide +kernel
theorem dX2_totalOf_5 : decode cX2_totalOf 5 = .ok (.bipush 8, 2) := by decide +kernel
theorem dX2_totalOf_7 : decode cX2_totalOf 7 = .ok (.if_icmp .ge 47, 3) := by decide +kernel
theorem dX2_totalOf_10 : decode cX2_totalOf 10 = .ok (.iconst 0, 1) := by decide +kernel
theorem dX2_totalOf_11 : decode cX2_totalOf 11 = .ok (.istore 4, 2) := by decide +kernel
theorem dX2_totalOf_13 : decode cX2_totalOf 13 = .ok (.iload 4, 2) := by decide +kernel
theorem dX2_totalOf_15 : decode cX2_totalOf 15 = .ok (.aload_n 0, 1) := by decide +kernel
theorem dX2_totalOf_16 : decode cX2_totalOf 16 = .ok (.getfield 24, 3) := by decide +kernel
theorem dX2_totalOf_19 : decode cX2_totalOf 19 = .ok (.iload_n 3, 1) := by decide +kernel
theorem dX2_totalOf_20 : decode cX2_totalOf 20 = .ok (.iaload, 1) := by decide +kernel
theorem dX2_totalOf_21 : decode cX2_totalOf 21 = .ok (.if_icmp .ge 27, 3) := by decide +kernel
theorem dX2_totalOf_48 : decode cX2_totalOf 48 = .ok (.iinc 3 1, 3) := by decide +kernel
theorem dX2_totalOf_51 : decode cX2_totalOf 51 = .ok (.goto (-47), 3) := by decide +kernel
theorem dX2_totalOf_54 : decode cX2_totalOf 54 = .ok (.iload_n 2, 1) := by decide +kernel
theorem dX2_totalOf_55 : decode cX2_totalOf 55 = .ok (.ireturn, 1) := by decide +kernel
theorem dX3_clear_0 : decode cX3_clear 0 = .ok (.aload_n 0, 1) := by decide +kernel
theorem dX3_clear_1 : decode cX3_clear 1 = .ok (.getfield 18, 3) := by decide +kernel
theorem dX3_clear_4 : decode cX3_clear 4 = .ok (.iconst 0, 1) := by decide +kernel
theorem dX3_clear_5 : decode cX3_clear 5 = .ok (.invokestatic 21, 3) := by decide +kernel
theorem dX3_clear_8 : decode cX3_clear 8 = .ok (.return_, 1) := by decide +kernel
theorem dX3_copyFrom_0 : decode cX3_copyFrom 0 = .ok (.aload_n 1, 1) := by decide +kernel
theorem dX3_copyFrom_1 : decode cX3_copyFrom 1 = .ok (.getfield 9, 3) := by decide +kernel
theorem dX3_copyFrom_4 : decode cX3_copyFrom 4 = .ok (.iconst 0, 1) := by decide +kernel
theorem dX3_copyFrom_5 : decode cX3_copyFrom 5 = .ok (.aload_n 0, 1) := by decide +kernel
theorem dX3_copyFrom_6 : decode cX3_copyFrom 6 = .ok (.getfield 9, 3) := by decide +kernel
theorem dX3_copyFrom_9 : decode cX3_copyFrom 9 = .ok (.iconst 0, 1) := by decide +kernel
theorem dX3_copyFrom_10 : decode cX3_copyFrom 10 = .ok (.bipush 64, 2) := by decide +kernel
theorem dX3_copyFrom_12 : decode cX3_copyFrom 12 = .ok (.invokestatic 27, 3) := by decide +kernel
theorem dX3_copyFrom_15 : decode cX3_copyFrom 15 = .ok (.aload_n 1, 1) := by decide +kernel
theorem dX3_copyFrom_16 : decode cX3_copyFrom 16 = .ok (.getfield 15, 3) := by decide +kernel
theorem dX3_copyFrom_19 : decode cX3_copyFrom 19 = .ok (.iconst 0, 1) := by decide +kernel
theorem dX3_copyFrom_20 : decode cX3_copyFrom 20 = .ok (.aload_n 0, 1) := by decide +kernel
theorem dX3_copyFrom_21 : decode cX3_copyFrom 21 = .ok (.getfield 15, 3) := by decide +kernel
theorem dX3_copyFrom_24 : decode cX3_copyFrom 24 = .ok (.iconst 0, 1) := by decide +kernel
theorem dX3_copyFrom_25 : decode cX3_copyFrom 25 = .ok (.bipush 64, 2) := by decide +kernel
theorem dX3_copyFrom_27 : decode cX3_copyFrom 27 = .ok (.invokestatic 27, 3) := by decide +kernel
theorem dX3_copyFrom_30 : decode cX3_copyFrom 30 = .ok (.aload_n 1, 1) := by decide +kernel
theorem dX3_copyFrom_31 : decode cX3_copyFrom 31 = .ok (.getfield 18, 3) := by decide +kernel
theorem dX3_copyFrom_34 : decode cX3_copyFrom 34 = .ok (.iconst 0, 1) := by decide +kernel
theorem dX3_copyFrom_35 : decode cX3_copyFrom 35 = .ok (.aload_n 0, 1) := by decide +kernel
theorem dX3_copyFrom_36 : decode cX3_copyFrom 36 = .ok (.getfield 18, 3) := by decide +kernel
theorem dX3_copyFrom_39 : decode cX3_copyFrom 39 = .ok (.iconst 0, 1) := by decide +kernel
theorem dX3_copyFrom_40 : decode cX3_copyFrom 40 = .ok (.bipush 8, 2) := by decide +kernel
theorem dX3_copyFrom_42 : decode cX3_copyFrom 42 = .ok (.invokestatic 27, 3) := by decide +kernel
theorem dX3_copyFrom_45 : decode cX3_copyFrom 45 = .ok (.return_, 1) := by decide +kernel
theorem dX3_init_0 : decode cX3_init 0 = .ok (.aload_n 0, 1) := by decide +kernel
theorem dX3_init_1 : decode cX3_init 1 = .ok (.invokespecial 3, 3) := by decide +kernel
theorem dX3_init_4 : decode cX3_init 4 = .ok (.aload_n 0, 1) := by decide +kernel
theorem dX3_init_5 : decode cX3_init 5 = .ok (.bipush 64, 2) := by decide +kernel
theorem dX3_init_7 : decode cX3_init 7 = .ok (.newarray .int, 2) := by decide +kernel
theorem dX3_init_9 : decode cX3_init 9 = .ok (.putfield 9, 3) := by decide +kernel
theorem dX3_init_12 : decode cX3_init 12 = .ok (.aload_n 0, 1) := by decide +kernel
theorem dX3_init_13 : decode cX3_init 13 = .ok (.bipush 64, 2) := by decide +kernel
theorem dX3_init_15 : decode cX3_init 15 = .ok (.newarray .int, 2) := by decide +kernel
theorem dX3_init_17 : decode cX3_init 17 = .ok (.putfield 15, 3) := by decide +kernel
theorem dX3_init_20 : decode cX3_init 20 = .ok (.aload_n 0, 1) := by decide +kernel
theorem dX3_init_21 : decode cX3_init 21 = .ok (.bipush 8, 2) := by decide +kernel
theorem dX3_init_23 : decode cX3_init 23 = .ok (.newarray .int, 2) := by decide +kernel
theorem dX3_init_25 : decode cX3_init 25 = .ok (.putfield 18, 3) := by decide +kernel
theorem dX3_init_28 : decode cX3_init 28 = .ok (.return_, 1) := by decide +kernel
theorem dX3_isEmpty_0 : decode cX3_isEmpty 0 = .ok (.iconst 0, 1) := by decide +kernel
theorem dX3_isEmpty_1 : decode cX3_isEmpty 1 = .ok (.istore_n 1, 1) := by decide +kernel
theorem dX3_isEmpty_2 : decode cX3_isEmpty 2 = .ok (.iload_n 1, 1) := by decide +kernel
theorem dX3_isEmpty_3 : decode cX3_isEmpty 3 = .ok (.bipush 8, 2) := by decide +kernel
theorem dX3_isEmpty_5 : decode cX3_isEmpty 5 = .ok (.if_icmp .ge 20, 3) := by decide +kernel
theorem dX3_isEmpty_8 : decode cX3_isEmpty 8 = .ok (.aload_n 0, 1) := by decide +kernel
theorem dX3_isEmpty_9 : decode cX3_isEmpty 9 = .ok (.getfield 18, 3) := by decide +kernel
theorem dX3_isEmpty_12 : decode cX3_isEmpty 12 = .ok (.iload_n 1, 1) := by decide +kernel
theorem dX3_isEmpty_13 : decode cX3_isEmpty 13 = .ok (.iaload, 1) := by decide +kernel
theorem dX3_isEmpty_14 : decode cX3_isEmpty 14 = .ok (.ifCond .le 5, 3) := by decide +kernel
theorem dX3_isEmpty_19 : decode cX3_isEmpty 19 = .ok (.iinc 1 1, 3) := by decide +kernel
theorem dX3_isEmpty_22 : decode cX3_isEmpty 22 = .ok (.goto (-20), 3) := by decide +kernel
theorem dX3_isEmpty_25 : decode cX3_isEmpty 25 = .ok (.iconst 1, 1) := by decide +kernel
theorem dX3_isEmpty_26 : decode cX3_isEmpty 26 = .ok (.ireturn, 1) := by decide +kernel
theorem dX4_init_0 : decode cX4_init 0 = .ok (.aload_n 0, 1) := by decide +kernel
theorem dX4_init_1 : decode cX4_init 1 = .ok (.invokespecial 3, 3) := by decide +kernel
theorem dX4_init_4 : decode cX4_init 4 = .ok (.aload_n 0, 1) := by decide +kernel
theorem dX4_init_5 : decode cX4_init 5 = .ok (.bipush 8, 2) := by decide +kernel
theorem dX4_init_7 : decode cX4_init 7 = .ok (.newarray .int, 2) := by decide +kernel
theorem dX4_init_9 : decode cX4_init 9 = .ok (.putfield 9, 3) := by decide +kernel
theorem dX4_init_12 : decode cX4_init 12 = .ok (.aload_n 0, 1) := by decide +kernel
theorem dX4_init_13 : decode cX4_init 13 = .ok (.bipush 8, 2) := by decide +kernel
theorem dX4_init_15 : decode cX4_init 15 = .ok (.newarray .int, 2) := by decide +kernel
theorem dX4_init_17 : decode cX4_init 17 = .ok (.putfield 15, 3) := by decide +kernel
theorem dX4_init_20 : decode cX4_init 20 = .ok (.aload_n 0, 1) := by decide +kernel
theorem dX4_init_21 : decode cX4_init 21 = .ok (.iconst 0, 1) := by decide +kernel
theorem dX4_init_22 : decode cX4_init 22 = .ok (.putfield 18, 3) := by decide +kernel
theorem dX4_init_25 : decode cX4_init 25 = .ok (.aload_n 0, 1) := by decide +kernel
theorem dX4_init_26 : decode cX4_init 26 = .ok (.iconst 0, 1) := by decide +kernel
theorem dX4_init_27 : decode cX4_init 27 = .ok (.putfield 22, 3) := by decide +kernel
theorem dX4_init_30 : decode cX4_init 30 = .ok (.aload_n 0, 1) := by decide +kernel
theorem dX4_init_31 : decode cX4_init 31 = .ok (.iconst 0, 1) := by decide +kernel
theorem dX4_init_32 : decode cX4_init 32 = .ok (.putfield 25, 3) := by decide +kernel
theorem dX4_init_35 : decode cX4_init 35 = .ok (.aload_n 0, 1) := by decide +kernel
theorem dX4_init_36 : decode cX4_init 36 = .ok (.iconst 0, 1) := by decide +kernel
theorem dX4_init_37 : decode cX4_init 37 = .ok (.putfield 28, 3) := by decide +kernel
theorem dX4_init_40 : decode cX4_init 40 = .ok (.aload_n 0, 1) := by decide +kernel
theorem dX4_init_41 : decode cX4_init 41 = .ok (.iconst 0, 1) := by decide +kernel
theorem dX4_init_42 : decode cX4_init 42 = .ok (.putfield 31, 3) := by decide +kernel
theorem dX4_init_45 : decode cX4_init 45 = .ok (.aload_n 0, 1) := by decide +kernel
theorem dX4_init_46 : decode cX4_init 46 = .ok (.iconst 0, 1) := by decide +kernel
theorem dX4_init_47 : decode cX4_init 47 = .ok (.putfield 34, 3) := by decide +kernel
theorem dX4_init_50 : decode cX4_init 50 = .ok (.aload_n 0, 1) := by decide +kernel
theorem dX4_init_51 : decode cX4_init 51 = .ok (.iconst (-1), 1) := by decide +kernel
theorem dX4_init_52 : decode cX4_init 52 = .ok (.putfield 37, 3) := by decide +kernel
theorem dX4_init_55 : decode cX4_init 55 = .ok (.aload_n 0, 1) := by decide +kernel
theorem dX4_init_56 : decode cX4_init 56 = .ok (.iconst 0, 1) := by decide +kernel
theorem dX4_init_57 : decode cX4_init 57 = .ok (.putfield 40, 3) := by decide +kernel
theorem dX4_init_60 : decode cX4_init 60 = .ok (.aload_n 0, 1) := by decide +kernel
theorem dX4_init_61 : decode cX4_init 61 = .ok (.iconst (-1), 1) := by decide +kernel
theorem dX4_init_62 : decode cX4_init 62 = .ok (.putfield 43, 3) := by decide +kernel
theorem dX4_init_65 : decode cX4_init 65 = .ok (.aload_n 0, 1) := by decide +kernel
theorem dX4_init_66 : decode cX4_init 66 = .ok (.aload_n 1, 1) := by decide +kernel
theorem dX4_init_67 : decode cX4_init 67 = .ok (.putfield 46, 3) := by decide +kernel
theorem dX4_init_70 : decode cX4_init 70 = .ok (.aload_n 0, 1) := by decide +kernel
theorem dX4_init_71 : decode cX4_init 71 = .ok (.aload_n 2, 1) := by decide +kernel
theorem dX4_init_72 : decode cX4_init 72 = .ok (.putfield 50, 3) := by decide +kernel
theorem dX4_init_75 : decode cX4_init 75 = .ok (.return_, 1) := by decide +kernel
theorem dX4_readText_0 : decode cX4_readText 0 = .ok (.aload_n 0, 1) := by decide +kernel
theorem dX4_readText_1 : decode cX4_readText 1 = .ok (.getfield 50, 3) := by decide +kernel
theorem dX4_readText_4 : decode cX4_readText 4 = .ok (.invokevirtual 54, 3) := by decide +kernel
theorem dX4_readText_7 : decode cX4_readText 7 = .ok (.aload_n 0, 1) := by decide +kernel
theorem dX4_readText_8 : decode cX4_readText 8 = .ok (.iload_n 1, 1) := by decide +kernel
theorem dX4_readText_9 : decode cX4_readText 9 = .ok (.putfield 18, 3) := by decide +kernel
theorem dX4_readText_12 : decode cX4_readText 12 = .ok (.aload_n 0, 1) := by decide +kernel
theorem dX4_readText_13 : decode cX4_readText 13 = .ok (.iconst 0, 1) := by decide +kernel
theorem dX4_readText_14 : decode cX4_readText 14 = .ok (.putfield 22, 3) := by decide +kernel
theorem dX4_readText_17 : decode cX4_readText 17 = .ok (.aload_n 0, 1) := by decide +kernel
theorem dX4_readText_18 : decode cX4_readText 18 = .ok (.iconst 0, 1) := by decide +kernel
theorem dX4_readText_19 : decode cX4_readText 19 = .ok (.putfield 40, 3) := by decide +kernel
theorem dX4_readText_22 : decode cX4_readText 22 = .ok (.aload_n 0, 1) := by decide +kernel
theorem dX4_readText_23 : decode cX4_readText 23 = .ok (.iconst (-1), 1) := by decide +kernel
theorem dX4_readText_24 : decode cX4_readText 24 = .ok (.putfield 43, 3) := by decide +kernel
theorem dX4_readText_27 : decode cX4_readText 27 = .ok (.iconst 0, 1) := by decide +kernel
theorem dX4_readText_28 : decode cX4_readText 28 = .ok (.istore_n 2, 1) := by decide +kernel
theorem dX4_readText_29 : decode cX4_readText 29 = .ok (.iload_n 2, 1) := by decide +kernel
theorem dX4_readText_30 : decode cX4_readText 30 = .ok (.sipush 500, 3) := by decide +kernel
theorem dX4_readText_33 : decode cX4_readText 33 = .ok (.if_icmp .gt 36, 3) := by decide +kernel
theorem dX4_readText_36 : decode cX4_readText 36 = .ok (.aload_n 0, 1) := by decide +kernel
theorem dX4_readText_37 : decode cX4_readText 37 = .ok (.invokevirtual 59, 3) := by decide +kernel
theorem dX4_readText_40 : decode cX4_readText 40 = .ok (.ifCond .ne 5, 3) := by decide +kernel
theorem dX4_readText_45 : decode cX4_readText 45 = .ok (.aload_n 0, 1) := by decide +kernel
theorem dX4_readText_46 : decode cX4_readText 46 = .ok (.getfield 25, 3) := by decide +kernel
theorem dX4_readText_49 : decode cX4_readText 49 = .ok (.ifCond .ne 5, 3) := by decide +kernel
theorem dX4_readText_52 : decode cX4_readText 52 = .ok (.iconst 1, 1) := by decide +kernel
theorem dX4_readText_53 : decode cX4_readText 53 = .ok (.ireturn, 1) := by decide +kernel
theorem dX4_readToken_0 : decode cX4_readToken 0 = .ok (.aload_n 0, 1) := by decide +kernel
theorem dX4_readToken_1 : decode cX4_readToken 1 = .ok (.invokevirtual 160, 3) := by decide +kernel
theorem dX4_readToken_4 : decode cX4_readToken 4 = .ok (.aload_n 0, 1) := by decide +kernel
theorem dX4_readToken_5 : decode cX4_readToken 5 = .ok (.aload_n 0, 1) := by decide +kernel
theorem dX4_readToken_6 : decode cX4_readToken 6 = .ok (.getfield 22, 3) := by decide +kernel
theorem dX4_readToken_9 : decode cX4_readToken 9 = .ok (.putfield 28, 3) := by decide +kernel
theorem dX4_readToken_12 : decode cX4_readToken 12 = .ok (.aload_n 0, 1) := by decide +kernel
theorem dX4_readToken_13 : decode cX4_readToken 13 = .ok (.iconst 0, 1) := by decide +kernel
theorem dX4_readToken_14 : decode cX4_readToken 14 = .ok (.putfield 31, 3) := by decide +kernel
theorem dX4_readToken_17 : decode cX4_readToken 17 = .ok (.aload_n 0, 1) := by decide +kernel
theorem dX4_readToken_18 : decode cX4_readToken 18 = .ok (.getfield 22, 3) := by decide +kernel
theorem dX4_readToken_21 : decode cX4_readToken 21 = .ok (.aload_n 0, 1) := by decide +kernel
theorem dX4_readToken_22 : decode cX4_readToken 22 = .ok (.getfield 18, 3) := by decide +kernel
theorem dX4_readToken_25 : decode cX4_readToken 25 = .ok (.if_icmp .lt 10, 3) := by decide +kernel
theorem dX4_readToken_28 : decode cX4_readToken 28 = .ok (.aload_n 0, 1) := by decide +kernel
theorem dX4_readToken_29 : decode cX4_readToken 29 = .ok (.iconst 0, 1) := by decide +kernel
theorem dX4_readToken_30 : decode cX4_readToken 30 = .ok (.putfield 25, 3) := by decide +kernel
theorem dX4_readToken_33 : decode cX4_readToken 33 = .ok (.iconst 1, 1) := by decide +kernel
theorem dX4_readToken_34 : decode cX4_readToken 34 = .ok (.ireturn, 1) := by decide +kernel
theorem dX4_skipBlanks_0 : decode cX4_skipBlanks 0 = .ok (.aload_n 0, 1) := by decide +kernel
theorem dX4_skipBlanks_1 : decode cX4_skipBlanks 1 = .ok (.getfield 22, 3) := by decide +kernel
theorem dX4_skipBlanks_4 : decode cX4_skipBlanks 4 = .ok (.aload_n 0, 1) := by decide +kernel
theorem dX4_skipBlanks_5 : decode cX4_skipBlanks 5 = .ok (.getfield 18, 3) := by decide +kernel
theorem dX4_skipBlanks_8 : decode cX4_skipBlanks 8 = .ok (.if_icmp .ge 48, 3) := by decide +kernel
theorem dX4_skipBlanks_56 : decode cX4_skipBlanks 56 = .ok (.return_, 1) := by decide +kernel
theorem dX5_clear_0 : decode cX5_clear 0 = .ok (.aload_n 0, 1) := by decide +kernel
theorem dX5_clear_1 : decode cX5_clear 1 = .ok (.getfield 12, 3) := by decide +kernel
theorem dX5_clear_4 : decode cX5_clear 4 = .ok (.invokevirtual 70, 3) := by decide +kernel
theorem dX5_clear_7 : decode cX5_clear 7 = .ok (.aload_n 0, 1) := by decide +kernel
theorem dX5_clear_8 : decode cX5_clear 8 = .ok (.getfield 21, 3) := by decide +kernel
theorem dX5_clear_11 : decode cX5_clear 11 = .ok (.invokevirtual 73, 3) := by decide +kernel
theorem dX5_clear_14 : decode cX5_clear 14 = .ok (.aload_n 0, 1) := by decide +kernel
theorem dX5_clear_15 : decode cX5_clear 15 = .ok (.getfield 28, 3) := by decide +kernel
theorem dX5_clear_18 : decode cX5_clear 18 = .ok (.invokevirtual 74, 3) := by decide +kernel
theorem dX5_clear_21 : decode cX5_clear 21 = .ok (.aload_n 0, 1) := by decide +kernel
theorem dX5_clear_22 : decode cX5_clear 22 = .ok (.getfield 35, 3) := by decide +kernel
theorem dX5_clear_25 : decode cX5_clear 25 = .ok (.invokevirtual 75, 3) := by decide +kernel
theorem dX5_clear_28 : decode cX5_clear 28 = .ok (.aload_n 0, 1) := by decide +kernel
theorem dX5_clear_29 : decode cX5_clear 29 = .ok (.getfield 42, 3) := by decide +kernel
theorem dX5_clear_32 : decode cX5_clear 32 = .ok (.invokevirtual 76, 3) := by decide +kernel
theorem dX5_clear_35 : decode cX5_clear 35 = .ok (.aload_n 0, 1) := by decide +kernel
theorem dX5_clear_36 : decode cX5_clear 36 = .ok (.getfield 49, 3) := by decide +kernel
theorem dX5_clear_39 : decode cX5_clear 39 = .ok (.invokevirtual 79, 3) := by decide +kernel
theorem dX5_clear_42 : decode cX5_clear 42 = .ok (.aload_n 0, 1) := by decide +kernel
theorem dX5_clear_43 : decode cX5_clear 43 = .ok (.iconst 0, 1) := by decide +kernel
theorem dX5_clear_44 : decode cX5_clear 44 = .ok (.putfield 53, 3) := by decide +kernel
theorem dX5_clear_47 : decode cX5_clear 47 = .ok (.aload_n 0, 1) := by decide +kernel
theorem dX5_clear_48 : decode cX5_clear 48 = .ok (.iconst 0, 1) := by decide +kernel
theorem dX5_clear_49 : decode cX5_clear 49 = .ok (.putfield 57, 3) := by decide +kernel
theorem dX5_clear_52 : decode cX5_clear 52 = .ok (.return_, 1) := by decide +kernel
theorem dX5_copyFrom_0 : decode cX5_copyFrom 0 = .ok (.aload_n 0, 1) := by decide +kernel
theorem dX5_copyFrom_1 : decode cX5_copyFrom 1 = .ok (.getfield 12, 3) := by decide +kernel
theorem dX5_copyFrom_4 : decode cX5_copyFrom 4 = .ok (.aload_n 1, 1) := by decide +kernel
theorem dX5_copyFrom_5 : decode cX5_copyFrom 5 = .ok (.getfield 12, 3) := by decide +kernel
theorem dX5_copyFrom_8 : decode cX5_copyFrom 8 = .ok (.invokevirtual 80, 3) := by decide +kernel
theorem dX5_copyFrom_11 : decode cX5_copyFrom 11 = .ok (.aload_n 0, 1) := by decide +kernel
theorem dX5_copyFrom_12 : decode cX5_copyFrom 12 = .ok (.getfield 21, 3) := by decide +kernel
theorem dX5_copyFrom_15 : decode cX5_copyFrom 15 = .ok (.aload_n 1, 1) := by decide +kernel
theorem dX5_copyFrom_16 : decode cX5_copyFrom 16 = .ok (.getfield 21, 3) := by decide +kernel
theorem dX5_copyFrom_19 : decode cX5_copyFrom 19 = .ok (.invokevirtual 84, 3) := by decide +kernel
theorem dX5_copyFrom_22 : decode cX5_copyFrom 22 = .ok (.aload_n 0, 1) := by decide +kernel
theorem dX5_copyFrom_23 : decode cX5_copyFrom 23 = .ok (.getfield 28, 3) := by decide +kernel
theorem dX5_copyFrom_26 : decode cX5_copyFrom 26 = .ok (.aload_n 1, 1) := by decide +kernel
theorem dX5_copyFrom_27 : decode cX5_copyFrom 27 = .ok (.getfield 28, 3) := by decide +kernel
theorem dX5_copyFrom_30 : decode cX5_copyFrom 30 = .ok (.invokevirtual 87, 3) := by decide +kernel
theorem dX5_copyFrom_33 : decode cX5_copyFrom 33 = .ok (.aload_n 0, 1) := by decide +kernel
theorem dX5_copyFrom_34 : decode cX5_copyFrom 34 = .ok (.getfield 35, 3) := by decide +kernel
theorem dX5_copyFrom_37 : decode cX5_copyFrom 37 = .ok (.aload_n 1, 1) := by decide +kernel
theorem dX5_copyFrom_38 : decode cX5_copyFrom 38 = .ok (.getfield 35, 3) := by decide +kernel
theorem dX5_copyFrom_41 : decode cX5_copyFrom 41 = .ok (.invokevirtual 90, 3) := by decide +kernel
theorem dX5_copyFrom_44 : decode cX5_copyFrom 44 = .ok (.aload_n 0, 1) := by decide +kernel
theorem dX5_copyFrom_45 : decode cX5_copyFrom 45 = .ok (.getfield 42, 3) := by decide +kernel
theorem dX5_copyFrom_48 : decode cX5_copyFrom 48 = .ok (.aload_n 1, 1) := by decide +kernel
theorem dX5_copyFrom_49 : decode cX5_copyFrom 49 = .ok (.getfield 42, 3) := by decide +kernel
theorem dX5_copyFrom_52 : decode cX5_copyFrom 52 = .ok (.invokevirtual 93, 3) := by decide +kernel
theorem dX5_copyFrom_55 : decode cX5_copyFrom 55 = .ok (.aload_n 0, 1) := by decide +kernel
theorem dX5_copyFrom_56 : decode cX5_copyFrom 56 = .ok (.getfield 49, 3) := by decide +kernel
theorem dX5_copyFrom_59 : decode cX5_copyFrom 59 = .ok (.aload_n 1, 1) := by decide +kernel
theorem dX5_copyFrom_60 : decode cX5_copyFrom 60 = .ok (.getfield 49, 3) := by decide +kernel
theorem dX5_copyFrom_63 : decode cX5_copyFrom 63 = .ok (.invokevirtual 96, 3) := by decide +kernel
theorem dX5_copyFrom_66 : decode cX5_copyFrom 66 = .ok (.aload_n 0, 1) := by decide +kernel
theorem dX5_copyFrom_67 : decode cX5_copyFrom 67 = .ok (.aload_n 1, 1) := by decide +kernel
theorem dX5_copyFrom_68 : decode cX5_copyFrom 68 = .ok (.getfield 53, 3) := by decide +kernel
theorem dX5_copyFrom_71 : decode cX5_copyFrom 71 = .ok (.putfield 53, 3) := by decide +kernel
theorem dX5_copyFrom_74 : decode cX5_copyFrom 74 = .ok (.aload_n 0, 1) := by decide +kernel
theorem dX5_copyFrom_75 : decode cX5_copyFrom 75 = .ok (.aload_n 1, 1) := by decide +kernel
theorem dX5_copyFrom_76 : decode cX5_copyFrom 76 = .ok (.getfield 57, 3) := by decide +kernel
theorem dX5_copyFrom_79 : decode cX5_copyFrom 79 = .ok (.putfield 57, 3) := by decide +kernel
theorem dX5_copyFrom_82 : decode cX5_copyFrom 82 = .ok (.aload_n 0, 1) := by decide +kernel
theorem dX5_copyFrom_83 : decode cX5_copyFrom 83 = .ok (.invokevirtual 99, 3) := by decide +kernel
theorem dX5_copyFrom_86 : decode cX5_copyFrom 86 = .ok (.return_, 1) := by decide +kernel
theorem dX5_drawFrame_0 : decode cX5_drawFrame 0 = .ok (.aload_n 0, 1) := by decide +kernel
theorem dX5_drawFrame_1 : decode cX5_drawFrame 1 = .ok (.iload_n 1, 1) := by decide +kernel
theorem dX5_drawFrame_2 : decode cX5_drawFrame 2 = .ok (.invokevirtual 166, 3) := by decide +kernel
theorem dX5_drawFrame_5 : decode cX5_drawFrame 5 = .ok (.istore_n 3, 1) := by decide +kernel
theorem dX5_drawFrame_6 : decode cX5_drawFrame 6 = .ok (.aload_n 0, 1) := by decide +kernel
theorem dX5_drawFrame_7 : decode cX5_drawFrame 7 = .ok (.iload_n 3, 1) := by decide +kernel
theorem dX5_drawFrame_8 : decode cX5_drawFrame 8 = .ok (.bipush 16, 2) := by decide +kernel
theorem dX5_drawFrame_10 : decode cX5_drawFrame 10 = .ok (.invokevirtual 169, 3) := by decide +kernel
theorem dX5_drawFrame_13 : decode cX5_drawFrame 13 = .ok (.iload_n 2, 1) := by decide +kernel
theorem dX5_drawFrame_14 : decode cX5_drawFrame 14 = .ok (.if_icmp .ge 13, 3) := by decide +kernel
theorem dX5_drawFrame_17 : decode cX5_drawFrame 17 = .ok (.aload_n 0, 1) := by decide +kernel
theorem dX5_drawFrame_18 : decode cX5_drawFrame 18 = .ok (.getfield 12, 3) := by decide +kernel
theorem dX5_drawFrame_21 : decode cX5_drawFrame 21 = .ok (.getfield 151, 3) := by decide +kernel
theorem dX5_drawFrame_24 : decode cX5_drawFrame 24 = .ok (.ifCond .ne 5, 3) := by decide +kernel
theorem dX5_drawFrame_27 : decode cX5_drawFrame 27 = .ok (.iload_n 3, 1) := by decide +kernel
theorem dX5_drawFrame_28 : decode cX5_drawFrame 28 = .ok (.ireturn, 1) := by decide +kernel
theorem dX5_drawn_0 : decode cX5_drawn 0 = .ok (.iload_n 1, 1) := by decide +kernel
theorem dX5_drawn_1 : decode cX5_drawn 1 = .ok (.iload_n 2, 1) := by decide +kernel
theorem dX5_drawn_2 : decode cX5_drawn 2 = .ok (.imul, 1) := by decide +kernel
theorem dX5_drawn_3 : decode cX5_drawn 3 = .ok (.ldc 165, 2) := by decide +kernel
theorem dX5_drawn_5 : decode cX5_drawn 5 = .ok (.idiv, 1) := by decide +kernel
theorem dX5_drawn_6 : decode cX5_drawn 6 = .ok (.ireturn, 1) := by decide +kernel
theorem dX5_forgetLatestTick_0 : decode cX5_forgetLatestTick 0 = .ok (.aload_n 0, 1) := by decide +kernel
theorem dX5_forgetLatestTick_1 : decode cX5_forgetLatestTick 1 = .ok (.iconst (-1), 1) := by decide +kernel
theorem dX5_forgetLatestTick_2 : decode cX5_forgetLatestTick 2 = .ok (.putfield 60, 3) := by decide +kernel
theorem dX5_forgetLatestTick_5 : decode cX5_forgetLatestTick 5 = .ok (.aload_n 0, 1) := by decide +kernel
theorem dX5_forgetLatestTick_6 : decode cX5_forgetLatestTick 6 = .ok (.iconst (-1), 1) := by decide +kernel
theorem dX5_forgetLatestTick_7 : decode cX5_forgetLatestTick 7 = .ok (.putfield 63, 3) := by decide +kernel
theorem dX5_forgetLatestTick_10 : decode cX5_forgetLatestTick 10 = .ok (.aload_n 0, 1) := by decide +kernel
theorem dX5_forgetLatestTick_11 : decode cX5_forgetLatestTick 11 = .ok (.iconst 0, 1) := by decide +kernel
theorem dX5_forgetLatestTick_12 : decode cX5_forgetLatestTick 12 = .ok (.putfield 66, 3) := by decide +kernel
theorem dX5_forgetLatestTick_15 : decode cX5_forgetLatestTick 15 = .ok (.return_, 1) := by decide +kernel
theorem dX5_hasFrame_0 : decode cX5_hasFrame 0 = .ok (.aload_n 0, 1) := by decide +kernel
theorem dX5_hasFrame_1 : decode cX5_hasFrame 1 = .ok (.getfield 35, 3) := by decide +kernel
theorem dX5_hasFrame_4 : decode cX5_hasFrame 4 = .ok (.getfield 142, 3) := by decide +kernel
theorem dX5_hasFrame_7 : decode cX5_hasFrame 7 = .ok (.iconst 2, 1) := by decide +kernel
theorem dX5_hasFrame_8 : decode cX5_hasFrame 8 = .ok (.if_icmp .ne 14, 3) := by decide +kernel
theorem dX5_hasFrame_22 : decode cX5_hasFrame 22 = .ok (.aload_n 0, 1) := by decide +kernel
theorem dX5_hasFrame_23 : decode cX5_hasFrame 23 = .ok (.getfield 21, 3) := by decide +kernel
theorem dX5_hasFrame_26 : decode cX5_hasFrame 26 = .ok (.iload_n 1, 1) := by decide +kernel
theorem dX5_hasFrame_27 : decode cX5_hasFrame 27 = .ok (.invokevirtual 148, 3) := by decide +kernel
theorem dX5_hasFrame_30 : decode cX5_hasFrame 30 = .ok (.iconst (-1), 1) := by decide +kernel
theorem dX5_hasFrame_31 : decode cX5_hasFrame 31 = .ok (.if_icmp .eq 7, 3) := by decide +kernel
theorem dX5_hasFrame_38 : decode cX5_hasFrame 38 = .ok (.iconst 0, 1) := by decide +kernel
theorem dX5_hasFrame_39 : decode cX5_hasFrame 39 = .ok (.ireturn, 1) := by decide +kernel
theorem dX5_init_0 : decode cX5_init 0 = .ok (.aload_n 0, 1) := by decide +kernel
theorem dX5_init_1 : decode cX5_init 1 = .ok (.invokespecial 3, 3) := by decide +kernel
theorem dX5_init_4 : decode cX5_init 4 = .ok (.aload_n 0, 1) := by decide +kernel
theorem dX5_init_5 : decode cX5_init 5 = .ok (.new 9, 3) := by decide +kernel
theorem dX5_init_8 : decode cX5_init 8 = .ok (.dup, 1) := by decide +kernel
theorem dX5_init_9 : decode cX5_init 9 = .ok (.invokespecial 11, 3) := by decide +kernel
theorem dX5_init_12 : decode cX5_init 12 = .ok (.putfield 12, 3) := by decide +kernel
theorem dX5_init_15 : decode cX5_init 15 = .ok (.aload_n 0, 1) := by decide +kernel
theorem dX5_init_16 : decode cX5_init 16 = .ok (.new 18, 3) := by decide +kernel
theorem dX5_init_19 : decode cX5_init 19 = .ok (.dup, 1) := by decide +kernel
theorem dX5_init_20 : decode cX5_init 20 = .ok (.invokespecial 20, 3) := by decide +kernel
theorem dX5_init_23 : decode cX5_init 23 = .ok (.putfield 21, 3) := by decide +kernel
theorem dX5_init_26 : decode cX5_init 26 = .ok (.aload_n 0, 1) := by decide +kernel
theorem dX5_init_27 : decode cX5_init 27 = .ok (.new 25, 3) := by decide +kernel
theorem dX5_init_30 : decode cX5_init 30 = .ok (.dup, 1) := by decide +kernel
theorem dX5_init_31 : decode cX5_init 31 = .ok (.invokespecial 27, 3) := by decide +kernel
theorem dX5_init_34 : decode cX5_init 34 = .ok (.putfield 28, 3) := by decide +kernel
theorem dX5_init_37 : decode cX5_init 37 = .ok (.aload_n 0, 1) := by decide +kernel
theorem dX5_init_38 : decode cX5_init 38 = .ok (.new 32, 3) := by decide +kernel
theorem dX5_init_41 : decode cX5_init 41 = .ok (.dup, 1) := by decide +kernel
theorem dX5_init_42 : decode cX5_init 42 = .ok (.invokespecial 34, 3) := by decide +kernel
theorem dX5_init_45 : decode cX5_init 45 = .ok (.putfield 35, 3) := by decide +kernel
theorem dX5_init_48 : decode cX5_init 48 = .ok (.aload_n 0, 1) := by decide +kernel
theorem dX5_init_49 : decode cX5_init 49 = .ok (.new 39, 3) := by decide +kernel
theorem dX5_init_52 : decode cX5_init 52 = .ok (.dup, 1) := by decide +kernel
theorem dX5_init_53 : decode cX5_init 53 = .ok (.invokespecial 41, 3) := by decide +kernel
theorem dX5_init_56 : decode cX5_init 56 = .ok (.putfield 42, 3) := by decide +kernel
theorem dX5_init_59 : decode cX5_init 59 = .ok (.aload_n 0, 1) := by decide +kernel
theorem dX5_init_60 : decode cX5_init 60 = .ok (.new 46, 3) := by decide +kernel
theorem dX5_init_63 : decode cX5_init 63 = .ok (.dup, 1) := by decide +kernel
theorem dX5_init_64 : decode cX5_init 64 = .ok (.invokespecial 48, 3) := by decide +kernel
theorem dX5_init_67 : decode cX5_init 67 = .ok (.putfield 49, 3) := by decide +kernel
theorem dX5_init_70 : decode cX5_init 70 = .ok (.aload_n 0, 1) := by decide +kernel
theorem dX5_init_71 : decode cX5_init 71 = .ok (.iconst 0, 1) := by decide +kernel
theorem dX5_init_72 : decode cX5_init 72 = .ok (.putfield 53, 3) := by decide +kernel
theorem dX5_init_75 : decode cX5_init 75 = .ok (.aload_n 0, 1) := by decide +kernel
theorem dX5_init_76 : decode cX5_init 76 = .ok (.iconst 0, 1) := by decide +kernel
theorem dX5_init_77 : decode cX5_init 77 = .ok (.putfield 57, 3) := by decide +kernel
theorem dX5_init_80 : decode cX5_init 80 = .ok (.aload_n 0, 1) := by decide +kernel
theorem dX5_init_81 : decode cX5_init 81 = .ok (.iconst (-1), 1) := by decide +kernel
theorem dX5_init_82 : decode cX5_init 82 = .ok (.putfield 60, 3) := by decide +kernel
theorem dX5_init_85 : decode cX5_init 85 = .ok (.aload_n 0, 1) := by decide +kernel
theorem dX5_init_86 : decode cX5_init 86 = .ok (.iconst (-1), 1) := by decide +kernel
theorem dX5_init_87 : decode cX5_init 87 = .ok (.putfield 63, 3) := by decide +kernel
theorem dX5_init_90 : decode cX5_init 90 = .ok (.aload_n 0, 1) := by decide +kernel
theorem dX5_init_91 : decode cX5_init 91 = .ok (.iconst 0, 1) := by decide +kernel
theorem dX5_init_92 : decode cX5_init 92 = .ok (.putfield 66, 3) := by decide +kernel
theorem dX5_init_95 : decode cX5_init 95 = .ok (.return_, 1) := by decide +kernel
theorem dX5_isQuiet_0 : decode cX5_isQuiet 0 = .ok (.aload_n 0, 1) := by decide +kernel
theorem dX5_isQuiet_1 : decode cX5_isQuiet 1 = .ok (.getfield 35, 3) := by decide +kernel
theorem dX5_isQuiet_4 : decode cX5_isQuiet 4 = .ok (.getfield 142, 3) := by decide +kernel
theorem dX5_isQuiet_7 : decode cX5_isQuiet 7 = .ok (.iconst 2, 1) := by decide +kernel
theorem dX5_isQuiet_8 : decode cX5_isQuiet 8 = .ok (.if_icmp .ne 5, 3) := by decide +kernel
theorem dX5_isQuiet_13 : decode cX5_isQuiet 13 = .ok (.iconst 0, 1) := by decide +kernel
theorem dX5_isQuiet_14 : decode cX5_isQuiet 14 = .ok (.istore_n 1, 1) := by decide +kernel
theorem dX5_isQuiet_15 : decode cX5_isQuiet 15 = .ok (.iload_n 1, 1) := by decide +kernel
theorem dX5_isQuiet_16 : decode cX5_isQuiet 16 = .ok (.aload_n 0, 1) := by decide +kernel
theorem dX5_isQuiet_17 : decode cX5_isQuiet 17 = .ok (.getfield 12, 3) := by decide +kernel
theorem dX5_isQuiet_20 : decode cX5_isQuiet 20 = .ok (.getfield 151, 3) := by decide +kernel
theorem dX5_isQuiet_23 : decode cX5_isQuiet 23 = .ok (.if_icmp .ge 33, 3) := by decide +kernel
theorem dX5_isQuiet_56 : decode cX5_isQuiet 56 = .ok (.iconst 1, 1) := by decide +kernel
theorem dX5_isQuiet_57 : decode cX5_isQuiet 57 = .ok (.ireturn, 1) := by decide +kernel
theorem dX5_nextDraw_0 : decode cX5_nextDraw 0 = .ok (.iload_n 1, 1) := by decide +kernel
theorem dX5_nextDraw_1 : decode cX5_nextDraw 1 = .ok (.sipush 3877, 3) := by decide +kernel
theorem dX5_nextDraw_4 : decode cX5_nextDraw 4 = .ok (.imul, 1) := by decide +kernel
theorem dX5_nextDraw_5 : decode cX5_nextDraw 5 = .ok (.sipush 29573, 3) := by decide +kernel
theorem dX5_nextDraw_8 : decode cX5_nextDraw 8 = .ok (.iadd, 1) := by decide +kernel
theorem dX5_nextDraw_9 : decode cX5_nextDraw 9 = .ok (.ldc 165, 2) := by decide +kernel
theorem dX5_nextDraw_11 : decode cX5_nextDraw 11 = .ok (.irem, 1) := by decide +kernel
theorem dX5_nextDraw_12 : decode cX5_nextDraw 12 = .ok (.ireturn, 1) := by decide +kernel
theorem dX5_passSilentTick_0 : decode cX5_passSilentTick 0 = .ok (.aload_n 0, 1) := by decide +kernel
theorem dX5_passSilentTick_1 : decode cX5_passSilentTick 1 = .ok (.getfield 42, 3) := by decide +kernel
theorem dX5_passSilentTick_4 : decode cX5_passSilentTick 4 = .ok (.dup, 1) := by decide +kernel
theorem dX5_passSilentTick_5 : decode cX5_passSilentTick 5 = .ok (.getfield 284, 3) := by decide +kernel
theorem dX5_passSilentTick_8 : decode cX5_passSilentTick 8 = .ok (.iconst 1, 1) := by decide +kernel
theorem dX5_passSilentTick_9 : decode cX5_passSilentTick 9 = .ok (.iadd, 1) := by decide +kernel
theorem dX5_passSilentTick_10 : decode cX5_passSilentTick 10 = .ok (.putfield 284, 3) := by decide +kernel
theorem dX5_passSilentTick_13 : decode cX5_passSilentTick 13 = .ok (.aload_n 0, 1) := by decide +kernel
theorem dX5_passSilentTick_14 : decode cX5_passSilentTick 14 = .ok (.getfield 12, 3) := by decide +kernel
theorem dX5_passSilentTick_17 : decode cX5_passSilentTick 17 = .ok (.invokevirtual 285, 3) := by decide +kernel
theorem dX5_passSilentTick_20 : decode cX5_passSilentTick 20 = .ok (.istore_n 1, 1) := by decide +kernel
theorem dX5_passSilentTick_21 : decode cX5_passSilentTick 21 = .ok (.iload_n 1, 1) := by decide +kernel
theorem dX5_passSilentTick_22 : decode cX5_passSilentTick 22 = .ok (.ifCond .ne 4, 3) := by decide +kernel
theorem dX5_passSilentTick_25 : decode cX5_passSilentTick 25 = .ok (.return_, 1) := by decide +kernel
theorem dX5_passTick_0 : decode cX5_passTick 0 = .ok (.aload_n 0, 1) := by decide +kernel
theorem dX5_passTick_1 : decode cX5_passTick 1 = .ok (.dup, 1) := by decide +kernel
theorem dX5_passTick_2 : decode cX5_passTick 2 = .ok (.getfield 53, 3) := by decide +kernel
theorem dX5_passTick_5 : decode cX5_passTick 5 = .ok (.iconst 1, 1) := by decide +kernel
theorem dX5_passTick_6 : decode cX5_passTick 6 = .ok (.iadd, 1) := by decide +kernel
theorem dX5_passTick_7 : decode cX5_passTick 7 = .ok (.putfield 53, 3) := by decide +kernel
theorem dX5_passTick_10 : decode cX5_passTick 10 = .ok (.aload_n 0, 1) := by decide +kernel
theorem dX5_passTick_11 : decode cX5_passTick 11 = .ok (.invokevirtual 99, 3) := by decide +kernel
theorem dX5_passTick_14 : decode cX5_passTick 14 = .ok (.aload_n 0, 1) := by decide +kernel
theorem dX5_passTick_15 : decode cX5_passTick 15 = .ok (.getfield 35, 3) := by decide +kernel
theorem dX5_passTick_18 : decode cX5_passTick 18 = .ok (.getfield 142, 3) := by decide +kernel
theorem dX5_passTick_21 : decode cX5_passTick 21 = .ok (.ifCond .ne 10, 3) := by decide +kernel
theorem dX5_passTick_24 : decode cX5_passTick 24 = .ok (.aload_n 0, 1) := by decide +kernel
theorem dX5_passTick_25 : decode cX5_passTick 25 = .ok (.invokevirtual 195, 3) := by decide +kernel
theorem dX5_passTick_28 : decode cX5_passTick 28 = .ok (.goto 8, 3) := by decide +kernel
theorem dX5_passTick_36 : decode cX5_passTick 36 = .ok (.return_, 1) := by decide +kernel
theorem dX5_startSilence_0 : decode cX5_startSilence 0 = .ok (.aload_n 0, 1) := by decide +kernel
theorem dX5_startSilence_1 : decode cX5_startSilence 1 = .ok (.getfield 35, 3) := by decide +kernel
theorem dX5_startSilence_4 : decode cX5_startSilence 4 = .ok (.getfield 142, 3) := by decide +kernel
theorem dX5_startSilence_7 : decode cX5_startSilence 7 = .ok (.ifCond .ne 10, 3) := by decide +kernel
theorem dX5_startSilence_10 : decode cX5_startSilence 10 = .ok (.aload_n 0, 1) := by decide +kernel
theorem dX5_startSilence_11 : decode cX5_startSilence 11 = .ok (.getfield 42, 3) := by decide +kernel
theorem dX5_startSilence_14 : decode cX5_startSilence 14 = .ok (.invokevirtual 76, 3) := by decide +kernel
theorem dX5_startSilence_17 : decode cX5_startSilence 17 = .ok (.return_, 1) := by decide +kernel
theorem dX6_copyFrom_0 : decode cX6_copyFrom 0 = .ok (.aload_n 0, 1) := by decide +kernel
theorem dX6_copyFrom_1 : decode cX6_copyFrom 1 = .ok (.aload_n 1, 1) := by decide +kernel
theorem dX6_copyFrom_2 : decode cX6_copyFrom 2 = .ok (.getfield 9, 3) := by decide +kernel
theorem dX6_copyFrom_5 : decode cX6_copyFrom 5 = .ok (.putfield 9, 3) := by decide +kernel
theorem dX6_copyFrom_8 : decode cX6_copyFrom 8 = .ok (.aload_n 0, 1) := by decide +kernel
theorem dX6_copyFrom_9 : decode cX6_copyFrom 9 = .ok (.aload_n 1, 1) := by decide +kernel
theorem dX6_copyFrom_10 : decode cX6_copyFrom 10 = .ok (.getfield 15, 3) := by decide +kernel
theorem dX6_copyFrom_13 : decode cX6_copyFrom 13 = .ok (.putfield 15, 3) := by decide +kernel
theorem dX6_copyFrom_16 : decode cX6_copyFrom 16 = .ok (.aload_n 0, 1) := by decide +kernel
theorem dX6_copyFrom_17 : decode cX6_copyFrom 17 = .ok (.aload_n 1, 1) := by decide +kernel
theorem dX6_copyFrom_18 : decode cX6_copyFrom 18 = .ok (.getfield 18, 3) := by decide +kernel
theorem dX6_copyFrom_21 : decode cX6_copyFrom 21 = .ok (.putfield 18, 3) := by decide +kernel
theorem dX6_copyFrom_24 : decode cX6_copyFrom 24 = .ok (.aload_n 0, 1) := by decide +kernel
theorem dX6_copyFrom_25 : decode cX6_copyFrom 25 = .ok (.aload_n 1, 1) := by decide +kernel
theorem dX6_copyFrom_26 : decode cX6_copyFrom 26 = .ok (.getfield 21, 3) := by decide +kernel
theorem dX6_copyFrom_29 : decode cX6_copyFrom 29 = .ok (.putfield 21, 3) := by decide +kernel
theorem dX6_copyFrom_32 : decode cX6_copyFrom 32 = .ok (.return_, 1) := by decide +kernel
theorem dX6_init_0 : decode cX6_init 0 = .ok (.aload_n 0, 1) := by decide +kernel
theorem dX6_init_1 : decode cX6_init 1 = .ok (.invokespecial 3, 3) := by decide +kernel
theorem dX6_init_4 : decode cX6_init 4 = .ok (.aload_n 0, 1) := by decide +kernel
theorem dX6_init_5 : decode cX6_init 5 = .ok (.iconst 0, 1) := by decide +kernel
theorem dX6_init_6 : decode cX6_init 6 = .ok (.putfield 9, 3) := by decide +kernel
theorem dX6_init_9 : decode cX6_init 9 = .ok (.aload_n 0, 1) := by decide +kernel
theorem dX6_init_10 : decode cX6_init 10 = .ok (.iconst 0, 1) := by decide +kernel
theorem dX6_init_11 : decode cX6_init 11 = .ok (.putfield 15, 3) := by decide +kernel
theorem dX6_init_14 : decode cX6_init 14 = .ok (.aload_n 0, 1) := by decide +kernel
theorem dX6_init_15 : decode cX6_init 15 = .ok (.iconst (-1), 1) := by decide +kernel
theorem dX6_init_16 : decode cX6_init 16 = .ok (.putfield 18, 3) := by decide +kernel
theorem dX6_init_19 : decode cX6_init 19 = .ok (.aload_n 0, 1) := by decide +kernel
theorem dX6_init_20 : decode cX6_init 20 = .ok (.iconst (-1), 1) := by decide +kernel
theorem dX6_init_21 : decode cX6_init 21 = .ok (.putfield 21, 3) := by decide +kernel
theorem dX6_init_24 : decode cX6_init 24 = .ok (.return_, 1) := by decide +kernel
theorem dX6_restart_0 : decode cX6_restart 0 = .ok (.aload_n 0, 1) := by decide +kernel
theorem dX6_restart_1 : decode cX6_restart 1 = .ok (.iconst 0, 1) := by decide +kernel
theorem dX6_restart_2 : decode cX6_restart 2 = .ok (.putfield 9, 3) := by decide +kernel
theorem dX6_restart_5 : decode cX6_restart 5 = .ok (.aload_n 0, 1) := by decide +kernel
theorem dX6_restart_6 : decode cX6_restart 6 = .ok (.iconst 0, 1) := by decide +kernel
theorem dX6_restart_7 : decode cX6_restart 7 = .ok (.putfield 15, 3) := by decide +kernel
theorem dX6_restart_10 : decode cX6_restart 10 = .ok (.aload_n 0, 1) := by decide +kernel
theorem dX6_restart_11 : decode cX6_restart 11 = .ok (.iconst (-1), 1) := by decide +kernel
theorem dX6_restart_12 : decode cX6_restart 12 = .ok (.putfield 18, 3) := by decide +kernel
theorem dX6_restart_15 : decode cX6_restart 15 = .ok (.aload_n 0, 1) := by decide +kernel
theorem dX6_restart_16 : decode cX6_restart 16 = .ok (.iconst (-1), 1) := by decide +kernel
theorem dX6_restart_17 : decode cX6_restart 17 = .ok (.putfield 21, 3) := by decide +kernel
theorem dX6_restart_20 : decode cX6_restart 20 = .ok (.return_, 1) := by decide +kernel
theorem dX7_append_0 : decode cX7_append 0 = .ok (.aload_n 0, 1) := by decide +kernel
theorem dX7_append_1 : decode cX7_append 1 = .ok (.getfield 28, 3) := by decide +kernel
theorem dX7_append_4 : decode cX7_append 4 = .ok (.ifCond .lt 12, 3) := by decide +kernel
theorem dX7_append_7 : decode cX7_append 7 = .ok (.aload_n 0, 1) := by decide +kernel
theorem dX7_append_8 : decode cX7_append 8 = .ok (.getfield 28, 3) := by decide +kernel
theorem dX7_append_11 : decode cX7_append 11 = .ok (.bipush 8, 2) := by decide +kernel
theorem dX7_append_13 : decode cX7_append 13 = .ok (.if_icmp .lt 4, 3) := by decide +kernel
theorem dX7_append_17 : decode cX7_append 17 = .ok (.aload_n 0, 1) := by decide +kernel
theorem dX7_append_18 : decode cX7_append 18 = .ok (.getfield 9, 3) := by decide +kernel
theorem dX7_append_21 : decode cX7_append 21 = .ok (.aload_n 0, 1) := by decide +kernel
theorem dX7_append_22 : decode cX7_append 22 = .ok (.getfield 28, 3) := by decide +kernel
theorem dX7_append_25 : decode cX7_append 25 = .ok (.iload_n 1, 1) := by decide +kernel
theorem dX7_append_26 : decode cX7_append 26 = .ok (.iastore, 1) := by decide +kernel
theorem dX7_append_27 : decode cX7_append 27 = .ok (.aload_n 0, 1) := by decide +kernel
theorem dX7_append_28 : decode cX7_append 28 = .ok (.getfield 15, 3) := by decide +kernel
theorem dX7_append_31 : decode cX7_append 31 = .ok (.aload_n 0, 1) := by decide +kernel
theorem dX7_append_32 : decode cX7_append 32 = .ok (.getfield 28, 3) := by decide +kernel
theorem dX7_append_35 : decode cX7_append 35 = .ok (.iconst 1, 1) := by decide +kernel
theorem dX7_append_36 : decode cX7_append 36 = .ok (.bastore, 1) := by decide +kernel
theorem dX7_append_37 : decode cX7_append 37 = .ok (.aload_n 0, 1) := by decide +kernel
theorem dX7_append_38 : decode cX7_append 38 = .ok (.getfield 19, 3) := by decide +kernel
theorem dX7_append_41 : decode cX7_append 41 = .ok (.aload_n 0, 1) := by decide +kernel
theorem dX7_append_42 : decode cX7_append 42 = .ok (.getfield 28, 3) := by decide +kernel
theorem dX7_append_45 : decode cX7_append 45 = .ok (.iconst (-1), 1) := by decide +kernel
theorem dX7_append_46 : decode cX7_append 46 = .ok (.iastore, 1) := by decide +kernel
theorem dX7_append_47 : decode cX7_append 47 = .ok (.aload_n 0, 1) := by decide +kernel
theorem dX7_append_48 : decode cX7_append 48 = .ok (.getfield 22, 3) := by decide +kernel
theorem dX7_append_51 : decode cX7_append 51 = .ok (.aload_n 0, 1) := by decide +kernel
theorem dX7_append_52 : decode cX7_append 52 = .ok (.getfield 28, 3) := by decide +kernel
theorem dX7_append_55 : decode cX7_append 55 = .ok (.iconst 0, 1) := by decide +kernel
theorem dX7_append_56 : decode cX7_append 56 = .ok (.iastore, 1) := by decide +kernel
theorem dX7_append_57 : decode cX7_append 57 = .ok (.aload_n 0, 1) := by decide +kernel
theorem dX7_append_58 : decode cX7_append 58 = .ok (.getfield 25, 3) := by decide +kernel
theorem dX7_append_61 : decode cX7_append 61 = .ok (.aload_n 0, 1) := by decide +kernel
theorem dX7_append_62 : decode cX7_append 62 = .ok (.getfield 28, 3) := by decide +kernel
theorem dX7_append_65 : decode cX7_append 65 = .ok (.iconst 0, 1) := by decide +kernel
theorem dX7_append_66 : decode cX7_append 66 = .ok (.iastore, 1) := by decide +kernel
theorem dX7_append_67 : decode cX7_append 67 = .ok (.aload_n 0, 1) := by decide +kernel
theorem dX7_append_68 : decode cX7_append 68 = .ok (.dup, 1) := by decide +kernel
theorem dX7_append_69 : decode cX7_append 69 = .ok (.getfield 28, 3) := by decide +kernel
theorem dX7_append_72 : decode cX7_append 72 = .ok (.iconst 1, 1) := by decide +kernel
theorem dX7_append_73 : decode cX7_append 73 = .ok (.iadd, 1) := by decide +kernel
theorem dX7_append_74 : decode cX7_append 74 = .ok (.putfield 28, 3) := by decide +kernel
theorem dX7_append_77 : decode cX7_append 77 = .ok (.return_, 1) := by decide +kernel
theorem dX7_breakCounts_0 : decode cX7_breakCounts 0 = .ok (.aload_n 0, 1) := by decide +kernel
theorem dX7_breakCounts_1 : decode cX7_breakCounts 1 = .ok (.iconst (-1), 1) := by decide +kernel
theorem dX7_breakCounts_2 : decode cX7_breakCounts 2 = .ok (.invokevirtual 74, 3) := by decide +kernel
theorem dX7_breakCounts_5 : decode cX7_breakCounts 5 = .ok (.ireturn, 1) := by decide +kernel
theorem dX7_breakCountsWithout_0 : decode cX7_breakCountsWithout 0 = .ok (.aload_n 0, 1) := by decide +kernel
theorem dX7_breakCountsWithout_1 : decode cX7_breakCountsWithout 1 = .ok (.aload_n 0, 1) := by decide +kernel
theorem dX7_breakCountsWithout_2 : decode cX7_breakCountsWithout 2 = .ok (.getfield 35, 3) := by decide +kernel
theorem dX7_breakCountsWithout_5 : decode cX7_breakCountsWithout 5 = .ok (.invokevirtual 51, 3) := by decide +kernel
theorem dX7_breakCountsWithout_8 : decode cX7_breakCountsWithout 8 = .ok (.ifCond .ne 5, 3) := by decide +kernel
theorem dX7_breakCountsWithout_11 : decode cX7_breakCountsWithout 11 = .ok (.iconst 0, 1) := by decide +kernel
theorem dX7_breakCountsWithout_12 : decode cX7_breakCountsWithout 12 = .ok (.ireturn, 1) := by decide +kernel
theorem dX7_chiefIsOn_0 : decode cX7_chiefIsOn 0 = .ok (.aload_n 0, 1) := by decide +kernel
theorem dX7_chiefIsOn_1 : decode cX7_chiefIsOn 1 = .ok (.aload_n 0, 1) := by decide +kernel
theorem dX7_chiefIsOn_2 : decode cX7_chiefIsOn 2 = .ok (.getfield 32, 3) := by decide +kernel
theorem dX7_chiefIsOn_5 : decode cX7_chiefIsOn 5 = .ok (.invokevirtual 65, 3) := by decide +kernel
theorem dX7_chiefIsOn_8 : decode cX7_chiefIsOn 8 = .ok (.ireturn, 1) := by decide +kernel
theorem dX7_clear_0 : decode cX7_clear 0 = .ok (.aload_n 0, 1) := by decide +kernel
theorem dX7_clear_1 : decode cX7_clear 1 = .ok (.iconst 0, 1) := by decide +kernel
theorem dX7_clear_2 : decode cX7_clear 2 = .ok (.putfield 28, 3) := by decide +kernel
theorem dX7_clear_5 : decode cX7_clear 5 = .ok (.aload_n 0, 1) := by decide +kernel
theorem dX7_clear_6 : decode cX7_clear 6 = .ok (.iconst (-1), 1) := by decide +kernel
theorem dX7_clear_7 : decode cX7_clear 7 = .ok (.putfield 32, 3) := by decide +kernel
theorem dX7_clear_10 : decode cX7_clear 10 = .ok (.aload_n 0, 1) := by decide +kernel
theorem dX7_clear_11 : decode cX7_clear 11 = .ok (.iconst (-1), 1) := by decide +kernel
theorem dX7_clear_12 : decode cX7_clear 12 = .ok (.iconst (-1), 1) := by decide +kernel
theorem dX7_clear_13 : decode cX7_clear 13 = .ok (.invokevirtual 41, 3) := by decide +kernel
theorem dX7_clear_16 : decode cX7_clear 16 = .ok (.return_, 1) := by decide +kernel
theorem dX7_copyFrom_0 : decode cX7_copyFrom 0 = .ok (.aload_n 1, 1) := by decide +kernel
theorem dX7_copyFrom_1 : decode cX7_copyFrom 1 = .ok (.getfield 9, 3) := by decide +kernel
theorem dX7_copyFrom_4 : decode cX7_copyFrom 4 = .ok (.iconst 0, 1) := by decide +kernel
theorem dX7_copyFrom_5 : decode cX7_copyFrom 5 = .ok (.aload_n 0, 1) := by decide +kernel
theorem dX7_copyFrom_6 : decode cX7_copyFrom 6 = .ok (.getfield 9, 3) := by decide +kernel
theorem dX7_copyFrom_9 : decode cX7_copyFrom 9 = .ok (.iconst 0, 1) := by decide +kernel
theorem dX7_copyFrom_10 : decode cX7_copyFrom 10 = .ok (.bipush 8, 2) := by decide +kernel
theorem dX7_copyFrom_12 : decode cX7_copyFrom 12 = .ok (.invokestatic 45, 3) := by decide +kernel
theorem dX7_copyFrom_15 : decode cX7_copyFrom 15 = .ok (.aload_n 1, 1) := by decide +kernel
theorem dX7_copyFrom_16 : decode cX7_copyFrom 16 = .ok (.getfield 15, 3) := by decide +kernel
theorem dX7_copyFrom_19 : decode cX7_copyFrom 19 = .ok (.iconst 0, 1) := by decide +kernel
theorem dX7_copyFrom_20 : decode cX7_copyFrom 20 = .ok (.aload_n 0, 1) := by decide +kernel
theorem dX7_copyFrom_21 : decode cX7_copyFrom 21 = .ok (.getfield 15, 3) := by decide +kernel
theorem dX7_copyFrom_24 : decode cX7_copyFrom 24 = .ok (.iconst 0, 1) := by decide +kernel
theorem dX7_copyFrom_25 : decode cX7_copyFrom 25 = .ok (.bipush 8, 2) := by decide +kernel
theorem dX7_copyFrom_27 : decode cX7_copyFrom 27 = .ok (.invokestatic 45, 3) := by decide +kernel
theorem dX7_copyFrom_30 : decode cX7_copyFrom 30 = .ok (.aload_n 1, 1) := by decide +kernel
theorem dX7_copyFrom_31 : decode cX7_copyFrom 31 = .ok (.getfield 19, 3) := by decide +kernel
theorem dX7_copyFrom_34 : decode cX7_copyFrom 34 = .ok (.iconst 0, 1) := by decide +kernel
theorem dX7_copyFrom_35 : decode cX7_copyFrom 35 = .ok (.aload_n 0, 1) := by decide +kernel
theorem dX7_copyFrom_36 : decode cX7_copyFrom 36 = .ok (.getfield 19, 3) := by decide +kernel
theorem dX7_copyFrom_39 : decode cX7_copyFrom 39 = .ok (.iconst 0, 1) := by decide +kernel
theorem dX7_copyFrom_40 : decode cX7_copyFrom 40 = .ok (.bipush 8, 2) := by decide +kernel
theorem dX7_copyFrom_42 : decode cX7_copyFrom 42 = .ok (.invokestatic 45, 3) := by decide +kernel
theorem dX7_copyFrom_45 : decode cX7_copyFrom 45 = .ok (.aload_n 1, 1) := by decide +kernel
theorem dX7_copyFrom_46 : decode cX7_copyFrom 46 = .ok (.getfield 22, 3) := by decide +kernel
theorem dX7_copyFrom_49 : decode cX7_copyFrom 49 = .ok (.iconst 0, 1) := by decide +kernel
theorem dX7_copyFrom_50 : decode cX7_copyFrom 50 = .ok (.aload_n 0, 1) := by decide +kernel
theorem dX7_copyFrom_51 : decode cX7_copyFrom 51 = .ok (.getfield 22, 3) := by decide +kernel
theorem dX7_copyFrom_54 : decode cX7_copyFrom 54 = .ok (.iconst 0, 1) := by decide +kernel
theorem dX7_copyFrom_55 : decode cX7_copyFrom 55 = .ok (.bipush 8, 2) := by decide +kernel
theorem dX7_copyFrom_57 : decode cX7_copyFrom 57 = .ok (.invokestatic 45, 3) := by decide +kernel
theorem dX7_copyFrom_60 : decode cX7_copyFrom 60 = .ok (.aload_n 1, 1) := by decide +kernel
theorem dX7_copyFrom_61 : decode cX7_copyFrom 61 = .ok (.getfield 25, 3) := by decide +kernel
theorem dX7_copyFrom_64 : decode cX7_copyFrom 64 = .ok (.iconst 0, 1) := by decide +kernel
theorem dX7_copyFrom_65 : decode cX7_copyFrom 65 = .ok (.aload_n 0, 1) := by decide +kernel
theorem dX7_copyFrom_66 : decode cX7_copyFrom 66 = .ok (.getfield 25, 3) := by decide +kernel
theorem dX7_copyFrom_69 : decode cX7_copyFrom 69 = .ok (.iconst 0, 1) := by decide +kernel
theorem dX7_copyFrom_70 : decode cX7_copyFrom 70 = .ok (.bipush 8, 2) := by decide +kernel
theorem dX7_copyFrom_72 : decode cX7_copyFrom 72 = .ok (.invokestatic 45, 3) := by decide +kernel
theorem dX7_copyFrom_75 : decode cX7_copyFrom 75 = .ok (.aload_n 0, 1) := by decide +kernel
theorem dX7_copyFrom_76 : decode cX7_copyFrom 76 = .ok (.aload_n 1, 1) := by decide +kernel
theorem dX7_copyFrom_77 : decode cX7_copyFrom 77 = .ok (.getfield 28, 3) := by decide +kernel
theorem dX7_copyFrom_80 : decode cX7_copyFrom 80 = .ok (.putfield 28, 3) := by decide +kernel
theorem dX7_copyFrom_83 : decode cX7_copyFrom 83 = .ok (.aload_n 0, 1) := by decide +kernel
theorem dX7_copyFrom_84 : decode cX7_copyFrom 84 = .ok (.aload_n 1, 1) := by decide +kernel
theorem dX7_copyFrom_85 : decode cX7_copyFrom 85 = .ok (.getfield 32, 3) := by decide +kernel
theorem dX7_copyFrom_88 : decode cX7_copyFrom 88 = .ok (.putfield 32, 3) := by decide +kernel
theorem dX7_copyFrom_91 : decode cX7_copyFrom 91 = .ok (.aload_n 0, 1) := by decide +kernel
theorem dX7_copyFrom_92 : decode cX7_copyFrom 92 = .ok (.aload_n 1, 1) := by decide +kernel
theorem dX7_copyFrom_93 : decode cX7_copyFrom 93 = .ok (.getfield 35, 3) := by decide +kernel
theorem dX7_copyFrom_96 : decode cX7_copyFrom 96 = .ok (.putfield 35, 3) := by decide +kernel
theorem dX7_copyFrom_99 : decode cX7_copyFrom 99 = .ok (.aload_n 0, 1) := by decide +kernel
theorem dX7_copyFrom_100 : decode cX7_copyFrom 100 = .ok (.aload_n 1, 1) := by decide +kernel
theorem dX7_copyFrom_101 : decode cX7_copyFrom 101 = .ok (.getfield 38, 3) := by decide +kernel
theorem dX7_copyFrom_104 : decode cX7_copyFrom 104 = .ok (.putfield 38, 3) := by decide +kernel
theorem dX7_copyFrom_107 : decode cX7_copyFrom 107 = .ok (.return_, 1) := by decide +kernel
theorem dX7_exists_0 : decode cX7_exists 0 = .ok (.iload_n 1, 1) := by decide +kernel
theorem dX7_exists_1 : decode cX7_exists 1 = .ok (.ifCond .lt 21, 3) := by decide +kernel
theorem dX7_exists_4 : decode cX7_exists 4 = .ok (.iload_n 1, 1) := by decide +kernel
theorem dX7_exists_5 : decode cX7_exists 5 = .ok (.aload_n 0, 1) := by decide +kernel
theorem dX7_exists_6 : decode cX7_exists 6 = .ok (.getfield 28, 3) := by decide +kernel
theorem dX7_exists_9 : decode cX7_exists 9 = .ok (.if_icmp .ge 13, 3) := by decide +kernel
theorem dX7_exists_22 : decode cX7_exists 22 = .ok (.iconst 0, 1) := by decide +kernel
theorem dX7_exists_23 : decode cX7_exists 23 = .ok (.ireturn, 1) := by decide +kernel
theorem dX7_greatestOn_0 : decode cX7_greatestOn 0 = .ok (.iconst (-1), 1) := by decide +kernel
theorem dX7_greatestOn_1 : decode cX7_greatestOn 1 = .ok (.istore_n 1, 1) := by decide +kernel
theorem dX7_greatestOn_2 : decode cX7_greatestOn 2 = .ok (.iconst (-1), 1) := by decide +kernel
theorem dX7_greatestOn_3 : decode cX7_greatestOn 3 = .ok (.istore_n 2, 1) := by decide +kernel
theorem dX7_greatestOn_4 : decode cX7_greatestOn 4 = .ok (.iconst 0, 1) := by decide +kernel
theorem dX7_greatestOn_5 : decode cX7_greatestOn 5 = .ok (.istore_n 3, 1) := by decide +kernel
theorem dX7_greatestOn_6 : decode cX7_greatestOn 6 = .ok (.iload_n 3, 1) := by decide +kernel
theorem dX7_greatestOn_7 : decode cX7_greatestOn 7 = .ok (.aload_n 0, 1) := by decide +kernel
theorem dX7_greatestOn_8 : decode cX7_greatestOn 8 = .ok (.getfield 28, 3) := by decide +kernel
theorem dX7_greatestOn_11 : decode cX7_greatestOn 11 = .ok (.if_icmp .ge 36, 3) := by decide +kernel
theorem dX7_greatestOn_47 : decode cX7_greatestOn 47 = .ok (.iload_n 1, 1) := by decide +kernel
theorem dX7_greatestOn_48 : decode cX7_greatestOn 48 = .ok (.ireturn, 1) := by decide +kernel
theorem dX7_hasAddress_0 : decode cX7_hasAddress 0 = .ok (.iconst 0, 1) := by decide +kernel
theorem dX7_hasAddress_1 : decode cX7_hasAddress 1 = .ok (.istore_n 2, 1) := by decide +kernel
theorem dX7_hasAddress_2 : decode cX7_hasAddress 2 = .ok (.iload_n 2, 1) := by decide +kernel
theorem dX7_hasAddress_3 : decode cX7_hasAddress 3 = .ok (.aload_n 0, 1) := by decide +kernel
theorem dX7_hasAddress_4 : decode cX7_hasAddress 4 = .ok (.getfield 28, 3) := by decide +kernel
theorem dX7_hasAddress_7 : decode cX7_hasAddress 7 = .ok (.if_icmp .ge 29, 3) := by decide +kernel
theorem dX7_hasAddress_36 : decode cX7_hasAddress 36 = .ok (.iconst 0, 1) := by decide +kernel
theorem dX7_hasAddress_37 : decode cX7_hasAddress 37 = .ok (.ireturn, 1) := by decide +kernel
theorem dX7_init_0 : decode cX7_init 0 = .ok (.aload_n 0, 1) := by decide +kernel
theorem dX7_init_1 : decode cX7_init 1 = .ok (.invokespecial 3, 3) := by decide +kernel
theorem dX7_init_4 : decode cX7_init 4 = .ok (.aload_n 0, 1) := by decide +kernel
theorem dX7_init_5 : decode cX7_init 5 = .ok (.bipush 8, 2) := by decide +kernel
theorem dX7_init_7 : decode cX7_init 7 = .ok (.newarray .int, 2) := by decide +kernel
theorem dX7_init_9 : decode cX7_init 9 = .ok (.putfield 9, 3) := by decide +kernel
theorem dX7_init_12 : decode cX7_init 12 = .ok (.aload_n 0, 1) := by decide +kernel
theorem dX7_init_13 : decode cX7_init 13 = .ok (.bipush 8, 2) := by decide +kernel
theorem dX7_init_15 : decode cX7_init 15 = .ok (.newarray .boolean, 2) := by decide +kernel
theorem dX7_init_17 : decode cX7_init 17 = .ok (.putfield 15, 3) := by decide +kernel
theorem dX7_init_20 : decode cX7_init 20 = .ok (.aload_n 0, 1) := by decide +kernel
theorem dX7_init_21 : decode cX7_init 21 = .ok (.bipush 8, 2) := by decide +kernel
theorem dX7_init_23 : decode cX7_init 23 = .ok (.newarray .int, 2) := by decide +kernel
theorem dX7_init_25 : decode cX7_init 25 = .ok (.putfield 19, 3) := by decide +kernel
theorem dX7_init_28 : decode cX7_init 28 = .ok (.aload_n 0, 1) := by decide +kernel
theorem dX7_init_29 : decode cX7_init 29 = .ok (.bipush 8, 2) := by decide +kernel
theorem dX7_init_31 : decode cX7_init 31 = .ok (.newarray .int, 2) := by decide +kernel
theorem dX7_init_33 : decode cX7_init 33 = .ok (.putfield 22, 3) := by decide +kernel
theorem dX7_init_36 : decode cX7_init 36 = .ok (.aload_n 0, 1) := by decide +kernel
theorem dX7_init_37 : decode cX7_init 37 = .ok (.bipush 8, 2) := by decide +kernel
theorem dX7_init_39 : decode cX7_init 39 = .ok (.newarray .int, 2) := by decide +kernel
theorem dX7_init_41 : decode cX7_init 41 = .ok (.putfield 25, 3) := by decide +kernel
theorem dX7_init_44 : decode cX7_init 44 = .ok (.aload_n 0, 1) := by decide +kernel
theorem dX7_init_45 : decode cX7_init 45 = .ok (.iconst 0, 1) := by decide +kernel
theorem dX7_init_46 : decode cX7_init 46 = .ok (.putfield 28, 3) := by decide +kernel
theorem dX7_init_49 : decode cX7_init 49 = .ok (.aload_n 0, 1) := by decide +kernel
theorem dX7_init_50 : decode cX7_init 50 = .ok (.iconst (-1), 1) := by decide +kernel
theorem dX7_init_51 : decode cX7_init 51 = .ok (.putfield 32, 3) := by decide +kernel
theorem dX7_init_54 : decode cX7_init 54 = .ok (.aload_n 0, 1) := by decide +kernel
theorem dX7_init_55 : decode cX7_init 55 = .ok (.iconst (-1), 1) := by decide +kernel
theorem dX7_init_56 : decode cX7_init 56 = .ok (.putfield 35, 3) := by decide +kernel
theorem dX7_init_59 : decode cX7_init 59 = .ok (.aload_n 0, 1) := by decide +kernel
theorem dX7_init_60 : decode cX7_init 60 = .ok (.iconst (-1), 1) := by decide +kernel
theorem dX7_init_61 : decode cX7_init 61 = .ok (.putfield 38, 3) := by decide +kernel
theorem dX7_init_64 : decode cX7_init 64 = .ok (.return_, 1) := by decide +kernel
theorem dX7_isOn_0 : decode cX7_isOn 0 = .ok (.iload_n 1, 1) := by decide +kernel
theorem dX7_isOn_1 : decode cX7_isOn 1 = .ok (.ifCond .lt 30, 3) := by decide +kernel
theorem dX7_isOn_4 : decode cX7_isOn 4 = .ok (.iload_n 1, 1) := by decide +kernel
theorem dX7_isOn_5 : decode cX7_isOn 5 = .ok (.aload_n 0, 1) := by decide +kernel
theorem dX7_isOn_6 : decode cX7_isOn 6 = .ok (.getfield 28, 3) := by decide +kernel
theorem dX7_isOn_9 : decode cX7_isOn 9 = .ok (.if_icmp .ge 22, 3) := by decide +kernel
theorem dX7_isOn_31 : decode cX7_isOn 31 = .ok (.iconst 0, 1) := by decide +kernel
theorem dX7_isOn_32 : decode cX7_isOn 32 = .ok (.ireturn, 1) := by decide +kernel
theorem dX7_onBits_0 : decode cX7_onBits 0 = .ok (.iconst 0, 1) := by decide +kernel
theorem dX7_onBits_1 : decode cX7_onBits 1 = .ok (.istore_n 1, 1) := by decide +kernel
theorem dX7_onBits_2 : decode cX7_onBits 2 = .ok (.iconst 0, 1) := by decide +kernel
theorem dX7_onBits_3 : decode cX7_onBits 3 = .ok (.istore_n 2, 1) := by decide +kernel
theorem dX7_onBits_4 : decode cX7_onBits 4 = .ok (.iload_n 2, 1) := by decide +kernel
theorem dX7_onBits_5 : decode cX7_onBits 5 = .ok (.aload_n 0, 1) := by decide +kernel
theorem dX7_onBits_6 : decode cX7_onBits 6 = .ok (.getfield 28, 3) := by decide +kernel
theorem dX7_onBits_9 : decode cX7_onBits 9 = .ok (.if_icmp .ge 23, 3) := by decide +kernel
theorem dX7_onBits_32 : decode cX7_onBits 32 = .ok (.iload_n 1, 1) := by decide +kernel
theorem dX7_onBits_33 : decode cX7_onBits 33 = .ok (.ireturn, 1) := by decide +kernel
theorem dX7_onCount_0 : decode cX7_onCount 0 = .ok (.aload_n 0, 1) := by decide +kernel
theorem dX7_onCount_1 : decode cX7_onCount 1 = .ok (.invokevirtual 55, 3) := by decide +kernel
theorem dX7_onCount_4 : decode cX7_onCount 4 = .ok (.invokestatic 59, 3) := by decide +kernel
theorem dX7_onCount_7 : decode cX7_onCount 7 = .ok (.ireturn, 1) := by decide +kernel
theorem dX7_setBreak_0 : decode cX7_setBreak 0 = .ok (.aload_n 0, 1) := by decide +kernel
theorem dX7_setBreak_1 : decode cX7_setBreak 1 = .ok (.iload_n 1, 1) := by decide +kernel
theorem dX7_setBreak_2 : decode cX7_setBreak 2 = .ok (.putfield 35, 3) := by decide +kernel
theorem dX7_setBreak_5 : decode cX7_setBreak 5 = .ok (.aload_n 0, 1) := by decide +kernel
theorem dX7_setBreak_6 : decode cX7_setBreak 6 = .ok (.iload_n 2, 1) := by decide +kernel
theorem dX7_setBreak_7 : decode cX7_setBreak 7 = .ok (.putfield 38, 3) := by decide +kernel
theorem dX7_setBreak_10 : decode cX7_setBreak 10 = .ok (.return_, 1) := by decide +kernel
theorem dX7_staleBits_0 : decode cX7_staleBits 0 = .ok (.iconst 0, 1) := by decide +kernel
theorem dX7_staleBits_1 : decode cX7_staleBits 1 = .ok (.istore_n 1, 1) := by decide +kernel
theorem dX7_staleBits_2 : decode cX7_staleBits 2 = .ok (.iconst 0, 1) := by decide +kernel
theorem dX7_staleBits_3 : decode cX7_staleBits 3 = .ok (.istore_n 2, 1) := by decide +kernel
theorem dX7_staleBits_4 : decode cX7_staleBits 4 = .ok (.iload_n 2, 1) := by decide +kernel
theorem dX7_staleBits_5 : decode cX7_staleBits 5 = .ok (.aload_n 0, 1) := by decide +kernel
theorem dX7_staleBits_6 : decode cX7_staleBits 6 = .ok (.getfield 28, 3) := by decide +kernel
theorem dX7_staleBits_9 : decode cX7_staleBits 9 = .ok (.if_icmp .ge 37, 3) := by decide +kernel
theorem dX7_staleBits_46 : decode cX7_staleBits 46 = .ok (.iload_n 1, 1) := by decide +kernel
theorem dX7_staleBits_47 : decode cX7_staleBits 47 = .ok (.ireturn, 1) := by decide +kernel
theorem dX8_append_0 : decode cX8_append 0 = .ok (.bipush 24, 2) := by decide +kernel
theorem dX8_append_2 : decode cX8_append 2 = .ok (.istore_n 2, 1) := by decide +kernel
theorem dX8_append_3 : decode cX8_append 3 = .ok (.iload_n 2, 1) := by decide +kernel
theorem dX8_append_4 : decode cX8_append 4 = .ok (.ifCond .lt 49, 3) := by decide +kernel
theorem dX8_append_7 : decode cX8_append 7 = .ok (.aload_n 0, 1) := by decide +kernel
theorem dX8_append_8 : decode cX8_append 8 = .ok (.getfield 15, 3) := by decide +kernel
theorem dX8_append_11 : decode cX8_append 11 = .ok (.ifCond .lt 36, 3) := by decide +kernel
theorem dX8_append_14 : decode cX8_append 14 = .ok (.aload_n 0, 1) := by decide +kernel
theorem dX8_append_15 : decode cX8_append 15 = .ok (.getfield 15, 3) := by decide +kernel
theorem dX8_append_18 : decode cX8_append 18 = .ok (.sipush 500, 3) := by decide +kernel
theorem dX8_append_21 : decode cX8_append 21 = .ok (.if_icmp .ge 26, 3) := by decide +kernel
theorem dX8_append_24 : decode cX8_append 24 = .ok (.aload_n 0, 1) := by decide +kernel
theorem dX8_append_25 : decode cX8_append 25 = .ok (.getfield 9, 3) := by decide +kernel
theorem dX8_append_28 : decode cX8_append 28 = .ok (.aload_n 0, 1) := by decide +kernel
theorem dX8_append_29 : decode cX8_append 29 = .ok (.getfield 15, 3) := by decide +kernel
theorem dX8_append_32 : decode cX8_append 32 = .ok (.iload_n 1, 1) := by decide +kernel
theorem dX8_append_33 : decode cX8_append 33 = .ok (.iload_n 2, 1) := by decide +kernel
theorem dX8_append_34 : decode cX8_append 34 = .ok (.ishr, 1) := by decide +kernel
theorem dX8_append_35 : decode cX8_append 35 = .ok (.i2b, 1) := by decide +kernel
theorem dX8_append_36 : decode cX8_append 36 = .ok (.bastore, 1) := by decide +kernel
theorem dX8_append_37 : decode cX8_append 37 = .ok (.aload_n 0, 1) := by decide +kernel
theorem dX8_append_38 : decode cX8_append 38 = .ok (.dup, 1) := by decide +kernel
theorem dX8_append_39 : decode cX8_append 39 = .ok (.getfield 15, 3) := by decide +kernel
theorem dX8_append_42 : decode cX8_append 42 = .ok (.iconst 1, 1) := by decide +kernel
theorem dX8_append_43 : decode cX8_append 43 = .ok (.iadd, 1) := by decide +kernel
theorem dX8_append_44 : decode cX8_append 44 = .ok (.putfield 15, 3) := by decide +kernel
theorem dX8_append_47 : decode cX8_append 47 = .ok (.iinc 2 (-8), 3) := by decide +kernel
theorem dX8_append_50 : decode cX8_append 50 = .ok (.goto (-47), 3) := by decide +kernel
theorem dX8_append_53 : decode cX8_append 53 = .ok (.return_, 1) := by decide +kernel
theorem dX8_copyFrom_0 : decode cX8_copyFrom 0 = .ok (.aload_n 1, 1) := by decide +kernel
theorem dX8_copyFrom_1 : decode cX8_copyFrom 1 = .ok (.getfield 9, 3) := by decide +kernel
theorem dX8_copyFrom_4 : decode cX8_copyFrom 4 = .ok (.iconst 0, 1) := by decide +kernel
theorem dX8_copyFrom_5 : decode cX8_copyFrom 5 = .ok (.aload_n 0, 1) := by decide +kernel
theorem dX8_copyFrom_6 : decode cX8_copyFrom 6 = .ok (.getfield 9, 3) := by decide +kernel
theorem dX8_copyFrom_9 : decode cX8_copyFrom 9 = .ok (.iconst 0, 1) := by decide +kernel
theorem dX8_copyFrom_10 : decode cX8_copyFrom 10 = .ok (.sipush 500, 3) := by decide +kernel
theorem dX8_copyFrom_13 : decode cX8_copyFrom 13 = .ok (.invokestatic 25, 3) := by decide +kernel
theorem dX8_copyFrom_16 : decode cX8_copyFrom 16 = .ok (.aload_n 0, 1) := by decide +kernel
theorem dX8_copyFrom_17 : decode cX8_copyFrom 17 = .ok (.aload_n 1, 1) := by decide +kernel
theorem dX8_copyFrom_18 : decode cX8_copyFrom 18 = .ok (.getfield 15, 3) := by decide +kernel
theorem dX8_copyFrom_21 : decode cX8_copyFrom 21 = .ok (.putfield 15, 3) := by decide +kernel
theorem dX8_copyFrom_24 : decode cX8_copyFrom 24 = .ok (.aload_n 0, 1) := by decide +kernel
theorem dX8_copyFrom_25 : decode cX8_copyFrom 25 = .ok (.aload_n 1, 1) := by decide +kernel
theorem dX8_copyFrom_26 : decode cX8_copyFrom 26 = .ok (.getfield 19, 3) := by decide +kernel
theorem dX8_copyFrom_29 : decode cX8_copyFrom 29 = .ok (.putfield 19, 3) := by decide +kernel
theorem dX8_copyFrom_32 : decode cX8_copyFrom 32 = .ok (.aload_n 0, 1) := by decide +kernel
theorem dX8_copyFrom_33 : decode cX8_copyFrom 33 = .ok (.aload_n 1, 1) := by decide +kernel
theorem dX8_copyFrom_34 : decode cX8_copyFrom 34 = .ok (.getfield 22, 3) := by decide +kernel
theorem dX8_copyFrom_37 : decode cX8_copyFrom 37 = .ok (.putfield 22, 3) := by decide +kernel
theorem dX8_copyFrom_40 : decode cX8_copyFrom 40 = .ok (.return_, 1) := by decide +kernel
theorem dX8_init_0 : decode cX8_init 0 = .ok (.aload_n 0, 1) := by decide +kernel
theorem dX8_init_1 : decode cX8_init 1 = .ok (.invokespecial 3, 3) := by decide +kernel
theorem dX8_init_4 : decode cX8_init 4 = .ok (.aload_n 0, 1) := by decide +kernel
theorem dX8_init_5 : decode cX8_init 5 = .ok (.sipush 500, 3) := by decide +kernel
theorem dX8_init_8 : decode cX8_init 8 = .ok (.newarray .byte, 2) := by decide +kernel
theorem dX8_init_10 : decode cX8_init 10 = .ok (.putfield 9, 3) := by decide +kernel
theorem dX8_init_13 : decode cX8_init 13 = .ok (.aload_n 0, 1) := by decide +kernel
theorem dX8_init_14 : decode cX8_init 14 = .ok (.iconst 0, 1) := by decide +kernel
theorem dX8_init_15 : decode cX8_init 15 = .ok (.putfield 15, 3) := by decide +kernel
theorem dX8_init_18 : decode cX8_init 18 = .ok (.aload_n 0, 1) := by decide +kernel
theorem dX8_init_19 : decode cX8_init 19 = .ok (.iconst (-1), 1) := by decide +kernel
theorem dX8_init_20 : decode cX8_init 20 = .ok (.putfield 19, 3) := by decide +kernel
theorem dX8_init_23 : decode cX8_init 23 = .ok (.aload_n 0, 1) := by decide +kernel
theorem dX8_init_24 : decode cX8_init 24 = .ok (.iconst (-1), 1) := by decide +kernel
theorem dX8_init_25 : decode cX8_init 25 = .ok (.putfield 22, 3) := by decide +kernel
theorem dX8_init_28 : decode cX8_init 28 = .ok (.return_, 1) := by decide +kernel
theorem dX9_clear_0 : decode cX9_clear 0 = .ok (.aload_n 0, 1) := by decide +kernel
theorem dX9_clear_1 : decode cX9_clear 1 = .ok (.iconst 0, 1) := by decide +kernel
theorem dX9_clear_2 : decode cX9_clear 2 = .ok (.putfield 9, 3) := by decide +kernel
theorem dX9_clear_5 : decode cX9_clear 5 = .ok (.aload_n 0, 1) := by decide +kernel
theorem dX9_clear_6 : decode cX9_clear 6 = .ok (.iconst (-1), 1) := by decide +kernel
theorem dX9_clear_7 : decode cX9_clear 7 = .ok (.putfield 15, 3) := by decide +kernel
theorem dX9_clear_10 : decode cX9_clear 10 = .ok (.aload_n 0, 1) := by decide +kernel
theorem dX9_clear_11 : decode cX9_clear 11 = .ok (.iconst 0, 1) := by decide +kernel
theorem dX9_clear_12 : decode cX9_clear 12 = .ok (.putfield 18, 3) := by decide +kernel
theorem dX9_clear_15 : decode cX9_clear 15 = .ok (.aload_n 0, 1) := by decide +kernel
theorem dX9_clear_16 : decode cX9_clear 16 = .ok (.iconst 0, 1) := by decide +kernel
theorem dX9_clear_17 : decode cX9_clear 17 = .ok (.putfield 21, 3) := by decide +kernel
theorem dX9_clear_20 : decode cX9_clear 20 = .ok (.aload_n 0, 1) := by decide +kernel
theorem dX9_clear_21 : decode cX9_clear 21 = .ok (.iconst 0, 1) := by decide +kernel
theorem dX9_clear_22 : decode cX9_clear 22 = .ok (.putfield 24, 3) := by decide +kernel
theorem dX9_clear_25 : decode cX9_clear 25 = .ok (.return_, 1) := by decide +kernel
theorem dX9_copyFrom_0 : decode cX9_copyFrom 0 = .ok (.aload_n 0, 1) := by decide +kernel
theorem dX9_copyFrom_1 : decode cX9_copyFrom 1 = .ok (.aload_n 1, 1) := by decide +kernel
theorem dX9_copyFrom_2 : decode cX9_copyFrom 2 = .ok (.getfield 9, 3) := by decide +kernel
theorem dX9_copyFrom_5 : decode cX9_copyFrom 5 = .ok (.putfield 9, 3) := by decide +kernel
theorem dX9_copyFrom_8 : decode cX9_copyFrom 8 = .ok (.aload_n 0, 1) := by decide +kernel
theorem dX9_copyFrom_9 : decode cX9_copyFrom 9 = .ok (.aload_n 1, 1) := by decide +kernel
theorem dX9_copyFrom_10 : decode cX9_copyFrom 10 = .ok (.getfield 15, 3) := by decide +kernel
theorem dX9_copyFrom_13 : decode cX9_copyFrom 13 = .ok (.putfield 15, 3) := by decide +kernel
theorem dX9_copyFrom_16 : decode cX9_copyFrom 16 = .ok (.aload_n 0, 1) := by decide +kernel
theorem dX9_copyFrom_17 : decode cX9_copyFrom 17 = .ok (.aload_n 1, 1) := by decide +kernel
theorem dX9_copyFrom_18 : decode cX9_copyFrom 18 = .ok (.getfield 18, 3) := by decide +kernel
theorem dX9_copyFrom_21 : decode cX9_copyFrom 21 = .ok (.putfield 18, 3) := by decide +kernel
theorem dX9_copyFrom_24 : decode cX9_copyFrom 24 = .ok (.aload_n 0, 1) := by decide +kernel
theorem dX9_copyFrom_25 : decode cX9_copyFrom 25 = .ok (.aload_n 1, 1) := by decide +kernel
theorem dX9_copyFrom_26 : decode cX9_copyFrom 26 = .ok (.getfield 21, 3) := by decide +kernel
theorem dX9_copyFrom_29 : decode cX9_copyFrom 29 = .ok (.putfield 21, 3) := by decide +kernel
theorem dX9_copyFrom_32 : decode cX9_copyFrom 32 = .ok (.aload_n 0, 1) := by decide +kernel
theorem dX9_copyFrom_33 : decode cX9_copyFrom 33 = .ok (.aload_n 1, 1) := by decide +kernel
theorem dX9_copyFrom_34 : decode cX9_copyFrom 34 = .ok (.getfield 24, 3) := by decide +kernel
theorem dX9_copyFrom_37 : decode cX9_copyFrom 37 = .ok (.putfield 24, 3) := by decide +kernel
theorem dX9_copyFrom_40 : decode cX9_copyFrom 40 = .ok (.aload_n 0, 1) := by decide +kernel
theorem dX9_copyFrom_41 : decode cX9_copyFrom 41 = .ok (.aload_n 1, 1) := by decide +kernel
theorem dX9_copyFrom_42 : decode cX9_copyFrom 42 = .ok (.getfield 28, 3) := by decide +kernel
theorem dX9_copyFrom_45 : decode cX9_copyFrom 45 = .ok (.putfield 28, 3) := by decide +kernel
theorem dX9_copyFrom_48 : decode cX9_copyFrom 48 = .ok (.aload_n 0, 1) := by decide +kernel
theorem dX9_copyFrom_49 : decode cX9_copyFrom 49 = .ok (.aload_n 1, 1) := by decide +kernel
theorem dX9_copyFrom_50 : decode cX9_copyFrom 50 = .ok (.getfield 31, 3) := by decide +kernel
theorem dX9_copyFrom_53 : decode cX9_copyFrom 53 = .ok (.putfield 31, 3) := by decide +kernel
theorem dX9_copyFrom_56 : decode cX9_copyFrom 56 = .ok (.aload_n 0, 1) := by decide +kernel
theorem dX9_copyFrom_57 : decode cX9_copyFrom 57 = .ok (.aload_n 1, 1) := by decide +kernel
theorem dX9_copyFrom_58 : decode cX9_copyFrom 58 = .ok (.getfield 34, 3) := by decide +kernel
theorem dX9_copyFrom_61 : decode cX9_copyFrom 61 = .ok (.putfield 34, 3) := by decide +kernel
theorem dX9_copyFrom_64 : decode cX9_copyFrom 64 = .ok (.aload_n 0, 1) := by decide +kernel
theorem dX9_copyFrom_65 : decode cX9_copyFrom 65 = .ok (.aload_n 1, 1) := by decide +kernel
theorem dX9_copyFrom_66 : decode cX9_copyFrom 66 = .ok (.getfield 37, 3) := by decide +kernel
theorem dX9_copyFrom_69 : decode cX9_copyFrom 69 = .ok (.putfield 37, 3) := by decide +kernel
theorem dX9_copyFrom_72 : decode cX9_copyFrom 72 = .ok (.aload_n 0, 1) := by decide +kernel
theorem dX9_copyFrom_73 : decode cX9_copyFrom 73 = .ok (.aload_n 1, 1) := by decide +kernel
theorem dX9_copyFrom_74 : decode cX9_copyFrom 74 = .ok (.getfield 40, 3) := by decide +kernel
theorem dX9_copyFrom_77 : decode cX9_copyFrom 77 = .ok (.putfield 40, 3) := by decide +kernel
theorem dX9_copyFrom_80 : decode cX9_copyFrom 80 = .ok (.aload_n 0, 1) := by decide +kernel
theorem dX9_copyFrom_81 : decode cX9_copyFrom 81 = .ok (.aload_n 1, 1) := by decide +kernel
theorem dX9_copyFrom_82 : decode cX9_copyFrom 82 = .ok (.getfield 43, 3) := by decide +kernel
theorem dX9_copyFrom_85 : decode cX9_copyFrom 85 = .ok (.putfield 43, 3) := by decide +kernel
theorem dX9_copyFrom_88 : decode cX9_copyFrom 88 = .ok (.return_, 1) := by decide +kernel
theorem dX9_init_0 : decode cX9_init 0 = .ok (.aload_n 0, 1) := by decide +kernel
theorem dX9_init_1 : decode cX9_init 1 = .ok (.invokespecial 3, 3) := by decide +kernel
theorem dX9_init_4 : decode cX9_init 4 = .ok (.aload_n 0, 1) := by decide +kernel
theorem dX9_init_5 : decode cX9_init 5 = .ok (.iconst 0, 1) := by decide +kernel
theorem dX9_init_6 : decode cX9_init 6 = .ok (.putfield 9, 3) := by decide +kernel
theorem dX9_init_9 : decode cX9_init 9 = .ok (.aload_n 0, 1) := by decide +kernel
theorem dX9_init_10 : decode cX9_init 10 = .ok (.iconst (-1), 1) := by decide +kernel
theorem dX9_init_11 : decode cX9_init 11 = .ok (.putfield 15, 3) := by decide +kernel
theorem dX9_init_14 : decode cX9_init 14 = .ok (.aload_n 0, 1) := by decide +kernel
theorem dX9_init_15 : decode cX9_init 15 = .ok (.iconst 0, 1) := by decide +kernel
theorem dX9_init_16 : decode cX9_init 16 = .ok (.putfield 18, 3) := by decide +kernel
theorem dX9_init_19 : decode cX9_init 19 = .ok (.aload_n 0, 1) := by decide +kernel
theorem dX9_init_20 : decode cX9_init 20 = .ok (.iconst 0, 1) := by decide +kernel
theorem dX9_init_21 : decode cX9_init 21 = .ok (.putfield 21, 3) := by decide +kernel
theorem dX9_init_24 : decode cX9_init 24 = .ok (.aload_n 0, 1) := by decide +kernel
theorem dX9_init_25 : decode cX9_init 25 = .ok (.iconst 0, 1) := by decide +kernel
theorem dX9_init_26 : decode cX9_init 26 = .ok (.putfield 24, 3) := by decide +kernel
theorem dX9_init_29 : decode cX9_init 29 = .ok (.aload_n 0, 1) := by decide +kernel
theorem dX9_init_30 : decode cX9_init 30 = .ok (.iconst (-1), 1) := by decide +kernel
theorem dX9_init_31 : decode cX9_init 31 = .ok (.putfield 28, 3) := by decide +kernel
theorem dX9_init_34 : decode cX9_init 34 = .ok (.aload_n 0, 1) := by decide +kernel
theorem dX9_init_35 : decode cX9_init 35 = .ok (.iconst (-1), 1) := by decide +kernel
theorem dX9_init_36 : decode cX9_init 36 = .ok (.putfield 31, 3) := by decide +kernel
theorem dX9_init_39 : decode cX9_init 39 = .ok (.aload_n 0, 1) := by decide +kernel
theorem dX9_init_40 : decode cX9_init 40 = .ok (.iconst 0, 1) := by decide +kernel
theorem dX9_init_41 : decode cX9_init 41 = .ok (.putfield 34, 3) := by decide +kernel
theorem dX9_init_44 : decode cX9_init 44 = .ok (.aload_n 0, 1) := by decide +kernel
theorem dX9_init_45 : decode cX9_init 45 = .ok (.iconst 0, 1) := by decide +kernel
theorem dX9_init_46 : decode cX9_init 46 = .ok (.putfield 37, 3) := by decide +kernel
theorem dX9_init_49 : decode cX9_init 49 = .ok (.aload_n 0, 1) := by decide +kernel
theorem dX9_init_50 : decode cX9_init 50 = .ok (.iconst (-1), 1) := by decide +kernel
theorem dX9_init_51 : decode cX9_init 51 = .ok (.putfield 40, 3) := by decide +kernel
theorem dX9_init_54 : decode cX9_init 54 = .ok (.aload_n 0, 1) := by decide +kernel
theorem dX9_init_55 : decode cX9_init 55 = .ok (.iconst 0, 1) := by decide +kernel
theorem dX9_init_56 : decode cX9_init 56 = .ok (.putfield 43, 3) := by decide +kernel
theorem dX9_init_59 : decode cX9_init 59 = .ok (.return_, 1) := by decide +kernel
theorem dX9_tell_0 : decode cX9_tell 0 = .ok (.iload_n 1, 1) := by decide +kernel
theorem dX9_tell_1 : decode cX9_tell 1 = .ok (.tableswitch 121 0 9 #[55, 60, 65, 70, 75, 88, 93, 98, 103, 116], 55) := by decide +kernel
theorem dX9_tell_56 : decode cX9_tell 56 = .ok (.aload_n 0, 1) := by decide +kernel
theorem dX9_tell_57 : decode cX9_tell 57 = .ok (.getfield 9, 3) := by decide +kernel
theorem dX9_tell_60 : decode cX9_tell 60 = .ok (.ireturn, 1) := by decide +kernel
theorem dX9_tell_61 : decode cX9_tell 61 = .ok (.aload_n 0, 1) := by decide +kernel
theorem dX9_tell_62 : decode cX9_tell 62 = .ok (.getfield 15, 3) := by decide +kernel
theorem dX9_tell_65 : decode cX9_tell 65 = .ok (.ireturn, 1) := by decide +kernel
theorem dX9_tell_66 : decode cX9_tell 66 = .ok (.aload_n 0, 1) := by decide +kernel
theorem dX9_tell_67 : decode cX9_tell 67 = .ok (.getfield 18, 3) := by decide +kernel
theorem dX9_tell_70 : decode cX9_tell 70 = .ok (.ireturn, 1) := by decide +kernel
theorem dX9_tell_71 : decode cX9_tell 71 = .ok (.aload_n 0, 1) := by decide +kernel
theorem dX9_tell_72 : decode cX9_tell 72 = .ok (.getfield 21, 3) := by decide +kernel
theorem dX9_tell_75 : decode cX9_tell 75 = .ok (.ireturn, 1) := by decide +kernel
theorem dX9_tell_76 : decode cX9_tell 76 = .ok (.aload_n 0, 1) := by decide +kernel
theorem dX9_tell_77 : decode cX9_tell 77 = .ok (.getfield 24, 3) := by decide +kernel
theorem dX9_tell_80 : decode cX9_tell 80 = .ok (.ifCond .eq 7, 3) := by decide +kernel
theorem dX9_tell_87 : decode cX9_tell 87 = .ok (.iconst 0, 1) := by decide +kernel
theorem dX9_tell_88 : decode cX9_tell 88 = .ok (.ireturn, 1) := by decide +kernel
theorem dX9_tell_89 : decode cX9_tell 89 = .ok (.aload_n 0, 1) := by decide +kernel
theorem dX9_tell_90 : decode cX9_tell 90 = .ok (.getfield 28, 3) := by decide +kernel
theorem dX9_tell_93 : decode cX9_tell 93 = .ok (.ireturn, 1) := by decide +kernel
theorem dX9_tell_94 : decode cX9_tell 94 = .ok (.aload_n 0, 1) := by decide +kernel
theorem dX9_tell_95 : decode cX9_tell 95 = .ok (.getfield 31, 3) := by decide +kernel
theorem dX9_tell_98 : decode cX9_tell 98 = .ok (.ireturn, 1) := by decide +kernel
theorem dX9_tell_99 : decode cX9_tell 99 = .ok (.aload_n 0, 1) := by decide +kernel
theorem dX9_tell_100 : decode cX9_tell 100 = .ok (.getfield 34, 3) := by decide +kernel
theorem dX9_tell_103 : decode cX9_tell 103 = .ok (.ireturn, 1) := by decide +kernel
theorem dX9_tell_104 : decode cX9_tell 104 = .ok (.aload_n 0, 1) := by decide +kernel
theorem dX9_tell_105 : decode cX9_tell 105 = .ok (.getfield 37, 3) := by decide +kernel
theorem dX9_tell_108 : decode cX9_tell 108 = .ok (.ifCond .eq 7, 3) := by decide +kernel
theorem dX9_tell_115 : decode cX9_tell 115 = .ok (.iconst 0, 1) := by decide +kernel
theorem dX9_tell_116 : decode cX9_tell 116 = .ok (.ireturn, 1) := by decide +kernel
theorem dX9_tell_117 : decode cX9_tell 117 = .ok (.aload_n 0, 1) := by decide +kernel
theorem dX9_tell_118 : decode cX9_tell 118 = .ok (.getfield 40, 3) := by decide +kernel
theorem dX9_tell_121 : decode cX9_tell 121 = .ok (.ireturn, 1) := by decide +kernel
theorem dX9_tell_122 : decode cX9_tell 122 = .ok (.iconst (-1), 1) := by decide +kernel
theorem dX9_tell_123 : decode cX9_tell 123 = .ok (.ireturn, 1) := by decide +kernel
