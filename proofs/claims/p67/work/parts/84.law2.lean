abbrev mL_isVerdict : zM := (yL_isVerdict, cL_isVerdict, 10, (some .boolean), [])
theorem okL_isVerdict : zMok mL_isVerdict 1 := ⟨by decide, by decide, by decide +kernel⟩
theorem dL_isVerdict_0 : decode cL_isVerdict 0 = .ok (.aload_n 0, 1) := by decide +kernel
theorem dL_isVerdict_1 : decode cL_isVerdict 1 = .ok (.invokevirtual 174, 3) := by decide +kernel
theorem cw_RL_174 : zCwV RL 174 mX9_verdictPrinter := zall [1132, 1133, 1134, 31, 1135] (by decide +kernel) (by decide +kernel)
theorem dL_isVerdict_4 : decode cL_isVerdict 4 = .ok (.istore_n 1, 1) := by decide +kernel
theorem dL_isVerdict_5 : decode cL_isVerdict 5 = .ok (.aload_n 0, 1) := by decide +kernel
theorem dL_isVerdict_6 : decode cL_isVerdict 6 = .ok (.invokevirtual 177, 3) := by decide +kernel
theorem cw_RL_177 : zCwV RL 177 mX9_verdictYear := zall [1136, 1137, 1138, 31, 1139] (by decide +kernel) (by decide +kernel)
theorem dL_isVerdict_9 : decode cL_isVerdict 9 = .ok (.istore_n 2, 1) := by decide +kernel
theorem dL_isVerdict_10 : decode cL_isVerdict 10 = .ok (.iconst 0, 1) := by decide +kernel
theorem dL_isVerdict_11 : decode cL_isVerdict 11 = .ok (.istore_n 3, 1) := by decide +kernel
theorem dL_isVerdict_12 : decode cL_isVerdict 12 = .ok (.iconst 0, 1) := by decide +kernel
theorem dL_isVerdict_13 : decode cL_isVerdict 13 = .ok (.istore 4, 2) := by decide +kernel
theorem dL_isVerdict_15 : decode cL_isVerdict 15 = .ok (.iconst (-1), 1) := by decide +kernel
theorem dL_isVerdict_16 : decode cL_isVerdict 16 = .ok (.istore 5, 2) := by decide +kernel
theorem dL_isVerdict_18 : decode cL_isVerdict 18 = .ok (.iconst 0, 1) := by decide +kernel
theorem dL_isVerdict_19 : decode cL_isVerdict 19 = .ok (.istore 6, 2) := by decide +kernel
theorem dL_isVerdict_21 : decode cL_isVerdict 21 = .ok (.iconst 0, 1) := by decide +kernel
theorem dL_isVerdict_22 : decode cL_isVerdict 22 = .ok (.istore 7, 2) := by decide +kernel
theorem dL_isVerdict_24 : decode cL_isVerdict 24 = .ok (.iload 7, 2) := by decide +kernel
theorem dL_isVerdict_26 : decode cL_isVerdict 26 = .ok (.aload_n 0, 1) := by decide +kernel
theorem dL_isVerdict_27 : decode cL_isVerdict 27 = .ok (.invokevirtual 98, 3) := by decide +kernel
theorem dL_isVerdict_30 : decode cL_isVerdict 30 = .ok (.if_icmp .ge 176, 3) := by decide +kernel
theorem dL_isVerdict_206 : decode cL_isVerdict 206 = .ok (.iconst 0, 1) := by decide +kernel
theorem dL_isVerdict_207 : decode cL_isVerdict 207 = .ok (.istore 7, 2) := by decide +kernel
theorem dL_isVerdict_209 : decode cL_isVerdict 209 = .ok (.iload 7, 2) := by decide +kernel
theorem dL_isVerdict_211 : decode cL_isVerdict 211 = .ok (.aload_n 0, 1) := by decide +kernel
theorem dL_isVerdict_212 : decode cL_isVerdict 212 = .ok (.invokevirtual 133, 3) := by decide +kernel
theorem dL_isVerdict_215 : decode cL_isVerdict 215 = .ok (.if_icmp .ge 81, 3) := by decide +kernel
theorem dL_isVerdict_296 : decode cL_isVerdict 296 = .ok (.aload_n 0, 1) := by decide +kernel
theorem dL_isVerdict_297 : decode cL_isVerdict 297 = .ok (.iconst 1, 1) := by decide +kernel
theorem dL_isVerdict_298 : decode cL_isVerdict 298 = .ok (.invokevirtual 186, 3) := by decide +kernel
theorem cw_RL_186 : zCwV RL 186 mX9_printerByRank := zall [1150, 1151, 1152, 31, 1153] (by decide +kernel) (by decide +kernel)
theorem dL_isVerdict_301 : decode cL_isVerdict 301 = .ok (.istore 7, 2) := by decide +kernel
theorem dL_isVerdict_303 : decode cL_isVerdict 303 = .ok (.aload_n 0, 1) := by decide +kernel
theorem dL_isVerdict_304 : decode cL_isVerdict 304 = .ok (.invokevirtual 189, 3) := by decide +kernel
theorem cw_RL_189 : zCwV RL 189 mX9_verdictScore := zall [1155, 1156, 1157, 31, 1158] (by decide +kernel) (by decide +kernel)
theorem dL_isVerdict_307 : decode cL_isVerdict 307 = .ok (.iload 7, 2) := by decide +kernel
theorem dL_isVerdict_309 : decode cL_isVerdict 309 = .ok (.ifCond .ge 7, 3) := by decide +kernel
theorem dL_isVerdict_316 : decode cL_isVerdict 316 = .ok (.aload_n 0, 1) := by decide +kernel
theorem dL_isVerdict_317 : decode cL_isVerdict 317 = .ok (.iload 7, 2) := by decide +kernel
theorem dL_isVerdict_319 : decode cL_isVerdict 319 = .ok (.invokevirtual 147, 3) := by decide +kernel
theorem dL_isVerdict_322 : decode cL_isVerdict 322 = .ok (.isub, 1) := by decide +kernel
theorem dL_isVerdict_323 : decode cL_isVerdict 323 = .ok (.istore 8, 2) := by decide +kernel
theorem dL_isVerdict_325 : decode cL_isVerdict 325 = .ok (.aload_n 0, 1) := by decide +kernel
theorem dL_isVerdict_326 : decode cL_isVerdict 326 = .ok (.iconst 0, 1) := by decide +kernel
theorem dL_isVerdict_327 : decode cL_isVerdict 327 = .ok (.invokevirtual 186, 3) := by decide +kernel
theorem dL_isVerdict_330 : decode cL_isVerdict 330 = .ok (.iload_n 1, 1) := by decide +kernel
theorem dL_isVerdict_331 : decode cL_isVerdict 331 = .ok (.if_icmp .ne 140, 3) := by decide +kernel
theorem dL_isVerdict_334 : decode cL_isVerdict 334 = .ok (.aload_n 0, 1) := by decide +kernel
theorem dL_isVerdict_335 : decode cL_isVerdict 335 = .ok (.iload_n 1, 1) := by decide +kernel
theorem dL_isVerdict_336 : decode cL_isVerdict 336 = .ok (.invokevirtual 144, 3) := by decide +kernel
theorem dL_isVerdict_339 : decode cL_isVerdict 339 = .ok (.iload_n 2, 1) := by decide +kernel
theorem dL_isVerdict_340 : decode cL_isVerdict 340 = .ok (.if_icmp .ne 131, 3) := by decide +kernel
theorem dL_isVerdict_343 : decode cL_isVerdict 343 = .ok (.aload_n 0, 1) := by decide +kernel
theorem dL_isVerdict_344 : decode cL_isVerdict 344 = .ok (.iload_n 1, 1) := by decide +kernel
theorem dL_isVerdict_345 : decode cL_isVerdict 345 = .ok (.invokevirtual 147, 3) := by decide +kernel
theorem dL_isVerdict_348 : decode cL_isVerdict 348 = .ok (.aload_n 0, 1) := by decide +kernel
theorem dL_isVerdict_349 : decode cL_isVerdict 349 = .ok (.invokevirtual 189, 3) := by decide +kernel
theorem dL_isVerdict_352 : decode cL_isVerdict 352 = .ok (.if_icmp .ne 119, 3) := by decide +kernel
theorem dL_isVerdict_355 : decode cL_isVerdict 355 = .ok (.aload_n 0, 1) := by decide +kernel
theorem dL_isVerdict_356 : decode cL_isVerdict 356 = .ok (.invokevirtual 192, 3) := by decide +kernel
theorem cw_RL_192 : zCwV RL 192 mX9_margin := zall [1159, 1160, 1161, 31, 1162] (by decide +kernel) (by decide +kernel)
theorem dL_isVerdict_359 : decode cL_isVerdict 359 = .ok (.iload 8, 2) := by decide +kernel
theorem dL_isVerdict_361 : decode cL_isVerdict 361 = .ok (.if_icmp .ne 110, 3) := by decide +kernel
theorem dL_isVerdict_364 : decode cL_isVerdict 364 = .ok (.iload 8, 2) := by decide +kernel
theorem dL_isVerdict_366 : decode cL_isVerdict 366 = .ok (.ifCond .lt 105, 3) := by decide +kernel
theorem dL_isVerdict_369 : decode cL_isVerdict 369 = .ok (.aload_n 0, 1) := by decide +kernel
theorem dL_isVerdict_370 : decode cL_isVerdict 370 = .ok (.invokevirtual 195, 3) := by decide +kernel
theorem cw_RL_195 : zCwV RL 195 mX9_unexplainedCount := zall [1164, 1165, 1166, 31, 1167] (by decide +kernel) (by decide +kernel)
theorem dL_isVerdict_373 : decode cL_isVerdict 373 = .ok (.iload_n 3, 1) := by decide +kernel
theorem dL_isVerdict_374 : decode cL_isVerdict 374 = .ok (.if_icmp .ne 97, 3) := by decide +kernel
theorem dL_isVerdict_377 : decode cL_isVerdict 377 = .ok (.aload_n 0, 1) := by decide +kernel
theorem dL_isVerdict_378 : decode cL_isVerdict 378 = .ok (.iload_n 3, 1) := by decide +kernel
theorem dL_isVerdict_379 : decode cL_isVerdict 379 = .ok (.invokevirtual 183, 3) := by decide +kernel
theorem cw_RL_183 : zCwV RL 183 mX9_unexplainedClue := zall [1146, 1147, 1148, 31, 1149] (by decide +kernel) (by decide +kernel)
theorem dL_isVerdict_382 : decode cL_isVerdict 382 = .ok (.iconst (-1), 1) := by decide +kernel
theorem dL_isVerdict_383 : decode cL_isVerdict 383 = .ok (.if_icmp .ne 88, 3) := by decide +kernel
theorem dL_isVerdict_386 : decode cL_isVerdict 386 = .ok (.aload_n 0, 1) := by decide +kernel
theorem dL_isVerdict_387 : decode cL_isVerdict 387 = .ok (.invokevirtual 198, 3) := by decide +kernel
theorem cw_RL_198 : zCwV RL 198 mX9_nextClue := zall [1168, 1169, 1170, 31, 1171] (by decide +kernel) (by decide +kernel)
theorem dL_isVerdict_390 : decode cL_isVerdict 390 = .ok (.iload 5, 2) := by decide +kernel
theorem dL_isVerdict_392 : decode cL_isVerdict 392 = .ok (.if_icmp .ne 79, 3) := by decide +kernel
theorem dL_isVerdict_395 : decode cL_isVerdict 395 = .ok (.aload_n 0, 1) := by decide +kernel
theorem dL_isVerdict_396 : decode cL_isVerdict 396 = .ok (.invokevirtual 101, 3) := by decide +kernel
theorem dL_isVerdict_399 : decode cL_isVerdict 399 = .ok (.iload 6, 2) := by decide +kernel
theorem dL_isVerdict_401 : decode cL_isVerdict 401 = .ok (.if_icmp .ne 70, 3) := by decide +kernel
theorem dL_isVerdict_404 : decode cL_isVerdict 404 = .ok (.aload_n 0, 1) := by decide +kernel
theorem dL_isVerdict_405 : decode cL_isVerdict 405 = .ok (.invokevirtual 189, 3) := by decide +kernel
theorem dL_isVerdict_408 : decode cL_isVerdict 408 = .ok (.iload 4, 2) := by decide +kernel
theorem dL_isVerdict_410 : decode cL_isVerdict 410 = .ok (.iadd, 1) := by decide +kernel
theorem dL_isVerdict_411 : decode cL_isVerdict 411 = .ok (.iload 6, 2) := by decide +kernel
theorem dL_isVerdict_413 : decode cL_isVerdict 413 = .ok (.if_icmp .ne 58, 3) := by decide +kernel
theorem dL_isVerdict_416 : decode cL_isVerdict 416 = .ok (.aload_n 0, 1) := by decide +kernel
theorem dL_isVerdict_417 : decode cL_isVerdict 417 = .ok (.invokevirtual 201, 3) := by decide +kernel
theorem cw_RL_201 : zCwV RL 201 mX9_confidence := zall [1176, 1177, 1178, 31, 1179] (by decide +kernel) (by decide +kernel)
theorem dL_isVerdict_420 : decode cL_isVerdict 420 = .ok (.iload 6, 2) := by decide +kernel
theorem dL_isVerdict_422 : decode cL_isVerdict 422 = .ok (.ifCond .ne 7, 3) := by decide +kernel
theorem dL_isVerdict_429 : decode cL_isVerdict 429 = .ok (.aload_n 0, 1) := by decide +kernel
theorem dL_isVerdict_430 : decode cL_isVerdict 430 = .ok (.invokevirtual 189, 3) := by decide +kernel
theorem dL_isVerdict_433 : decode cL_isVerdict 433 = .ok (.i2d, 1) := by decide +kernel
theorem dL_isVerdict_434 : decode cL_isVerdict 434 = .ok (.iload 6, 2) := by decide +kernel
theorem dL_isVerdict_436 : decode cL_isVerdict 436 = .ok (.i2d, 1) := by decide +kernel
theorem dL_isVerdict_437 : decode cL_isVerdict 437 = .ok (.ddiv, 1) := by decide +kernel
theorem dL_isVerdict_438 : decode cL_isVerdict 438 = .ok (.dcmp .l, 1) := by decide +kernel
theorem dL_isVerdict_439 : decode cL_isVerdict 439 = .ok (.ifCond .ne 32, 3) := by decide +kernel
theorem dL_isVerdict_442 : decode cL_isVerdict 442 = .ok (.aload_n 0, 1) := by decide +kernel
theorem dL_isVerdict_443 : decode cL_isVerdict 443 = .ok (.invokevirtual 205, 3) := by decide +kernel
theorem cw_RL_205 : zCwV RL 205 mX9_rankingErrors := zall [1181, 1182, 1183, 31, 1184] (by decide +kernel) (by decide +kernel)
theorem dL_isVerdict_446 : decode cL_isVerdict 446 = .ok (.ifCond .ne 25, 3) := by decide +kernel
theorem dL_isVerdict_449 : decode cL_isVerdict 449 = .ok (.aload_n 0, 1) := by decide +kernel
theorem dL_isVerdict_450 : decode cL_isVerdict 450 = .ok (.iconst 0, 1) := by decide +kernel
theorem dL_isVerdict_451 : decode cL_isVerdict 451 = .ok (.invokevirtual 208, 3) := by decide +kernel
theorem cw_RL_208 : zCwV RL 208 mX9_printerAfter := zall [1189, 1190, 1191, 31, 1192] (by decide +kernel) (by decide +kernel)
theorem dL_isVerdict_454 : decode cL_isVerdict 454 = .ok (.iload_n 1, 1) := by decide +kernel
theorem dL_isVerdict_455 : decode cL_isVerdict 455 = .ok (.if_icmp .ne 16, 3) := by decide +kernel
theorem dL_isVerdict_458 : decode cL_isVerdict 458 = .ok (.aload_n 0, 1) := by decide +kernel
theorem dL_isVerdict_459 : decode cL_isVerdict 459 = .ok (.iconst 0, 1) := by decide +kernel
theorem dL_isVerdict_460 : decode cL_isVerdict 460 = .ok (.invokevirtual 211, 3) := by decide +kernel
theorem cw_RL_211 : zCwV RL 211 mX9_yearAfter := zall [1197, 1198, 1199, 31, 1200] (by decide +kernel) (by decide +kernel)
theorem dL_isVerdict_463 : decode cL_isVerdict 463 = .ok (.iload_n 2, 1) := by decide +kernel
theorem dL_isVerdict_464 : decode cL_isVerdict 464 = .ok (.if_icmp .ne 7, 3) := by decide +kernel
theorem dL_isVerdict_467 : decode cL_isVerdict 467 = .ok (.iconst 1, 1) := by decide +kernel
theorem dL_isVerdict_468 : decode cL_isVerdict 468 = .ok (.goto 4, 3) := by decide +kernel
theorem dL_isVerdict_472 : decode cL_isVerdict 472 = .ok (.ireturn, 1) := by decide +kernel
theorem dL_isVerdict_425 : decode cL_isVerdict 425 = .ok (.dconst 0, 1) := by decide +kernel
theorem dL_isVerdict_426 : decode cL_isVerdict 426 = .ok (.goto 12, 3) := by decide +kernel
theorem dL_isVerdict_312 : decode cL_isVerdict 312 = .ok (.iconst 0, 1) := by decide +kernel
theorem dL_isVerdict_313 : decode cL_isVerdict 313 = .ok (.goto 9, 3) := by decide +kernel
theorem dL_isVerdict_218 : decode cL_isVerdict 218 = .ok (.aload_n 0, 1) := by decide +kernel
theorem dL_isVerdict_219 : decode cL_isVerdict 219 = .ok (.iload 7, 2) := by decide +kernel
theorem dL_isVerdict_221 : decode cL_isVerdict 221 = .ok (.invokevirtual 186, 3) := by decide +kernel
theorem dL_isVerdict_224 : decode cL_isVerdict 224 = .ok (.istore 8, 2) := by decide +kernel
theorem dL_isVerdict_226 : decode cL_isVerdict 226 = .ok (.iload 7, 2) := by decide +kernel
theorem dL_isVerdict_228 : decode cL_isVerdict 228 = .ok (.ifCond .ne 8, 3) := by decide +kernel
theorem dL_isVerdict_236 : decode cL_isVerdict 236 = .ok (.aload_n 0, 1) := by decide +kernel
theorem dL_isVerdict_237 : decode cL_isVerdict 237 = .ok (.iload 7, 2) := by decide +kernel
theorem dL_isVerdict_239 : decode cL_isVerdict 239 = .ok (.iconst 1, 1) := by decide +kernel
theorem dL_isVerdict_240 : decode cL_isVerdict 240 = .ok (.isub, 1) := by decide +kernel
theorem dL_isVerdict_241 : decode cL_isVerdict 241 = .ok (.invokevirtual 186, 3) := by decide +kernel
theorem dL_isVerdict_244 : decode cL_isVerdict 244 = .ok (.istore 9, 2) := by decide +kernel
theorem dL_isVerdict_246 : decode cL_isVerdict 246 = .ok (.aload_n 0, 1) := by decide +kernel
theorem dL_isVerdict_247 : decode cL_isVerdict 247 = .ok (.iload 9, 2) := by decide +kernel
theorem dL_isVerdict_249 : decode cL_isVerdict 249 = .ok (.invokevirtual 147, 3) := by decide +kernel
theorem dL_isVerdict_252 : decode cL_isVerdict 252 = .ok (.aload_n 0, 1) := by decide +kernel
theorem dL_isVerdict_253 : decode cL_isVerdict 253 = .ok (.iload 8, 2) := by decide +kernel
theorem dL_isVerdict_255 : decode cL_isVerdict 255 = .ok (.invokevirtual 147, 3) := by decide +kernel
theorem dL_isVerdict_258 : decode cL_isVerdict 258 = .ok (.if_icmp .lt 30, 3) := by decide +kernel
theorem dL_isVerdict_261 : decode cL_isVerdict 261 = .ok (.iload 7, 2) := by decide +kernel
theorem dL_isVerdict_263 : decode cL_isVerdict 263 = .ok (.ifCond .le 27, 3) := by decide +kernel
theorem dL_isVerdict_290 : decode cL_isVerdict 290 = .ok (.iinc 7 1, 3) := by decide +kernel
theorem dL_isVerdict_293 : decode cL_isVerdict 293 = .ok (.goto (-84), 3) := by decide +kernel
theorem dL_isVerdict_266 : decode cL_isVerdict 266 = .ok (.aload_n 0, 1) := by decide +kernel
theorem dL_isVerdict_267 : decode cL_isVerdict 267 = .ok (.iload 9, 2) := by decide +kernel
theorem dL_isVerdict_269 : decode cL_isVerdict 269 = .ok (.invokevirtual 147, 3) := by decide +kernel
theorem dL_isVerdict_272 : decode cL_isVerdict 272 = .ok (.aload_n 0, 1) := by decide +kernel
theorem dL_isVerdict_273 : decode cL_isVerdict 273 = .ok (.iload 8, 2) := by decide +kernel
theorem dL_isVerdict_275 : decode cL_isVerdict 275 = .ok (.invokevirtual 147, 3) := by decide +kernel
theorem dL_isVerdict_278 : decode cL_isVerdict 278 = .ok (.if_icmp .ne 12, 3) := by decide +kernel
theorem dL_isVerdict_281 : decode cL_isVerdict 281 = .ok (.iload 9, 2) := by decide +kernel
theorem dL_isVerdict_283 : decode cL_isVerdict 283 = .ok (.iload 8, 2) := by decide +kernel
theorem dL_isVerdict_285 : decode cL_isVerdict 285 = .ok (.if_icmp .lt 5, 3) := by decide +kernel
theorem dL_isVerdict_231 : decode cL_isVerdict 231 = .ok (.iload 8, 2) := by decide +kernel
theorem dL_isVerdict_233 : decode cL_isVerdict 233 = .ok (.goto 11, 3) := by decide +kernel
theorem dL_isVerdict_33 : decode cL_isVerdict 33 = .ok (.aload_n 0, 1) := by decide +kernel
theorem dL_isVerdict_34 : decode cL_isVerdict 34 = .ok (.iload 7, 2) := by decide +kernel
theorem dL_isVerdict_36 : decode cL_isVerdict 36 = .ok (.invokevirtual 180, 3) := by decide +kernel
theorem cw_RL_180 : zCwV RL 180 mX9_clueInOrder := zall [1141, 1142, 1143, 31, 1144] (by decide +kernel) (by decide +kernel)
theorem dL_isVerdict_39 : decode cL_isVerdict 39 = .ok (.istore 8, 2) := by decide +kernel
theorem dL_isVerdict_41 : decode cL_isVerdict 41 = .ok (.iload 7, 2) := by decide +kernel
theorem dL_isVerdict_43 : decode cL_isVerdict 43 = .ok (.ifCond .ne 8, 3) := by decide +kernel
theorem dL_isVerdict_51 : decode cL_isVerdict 51 = .ok (.aload_n 0, 1) := by decide +kernel
theorem dL_isVerdict_52 : decode cL_isVerdict 52 = .ok (.iload 7, 2) := by decide +kernel
theorem dL_isVerdict_54 : decode cL_isVerdict 54 = .ok (.iconst 1, 1) := by decide +kernel
theorem dL_isVerdict_55 : decode cL_isVerdict 55 = .ok (.isub, 1) := by decide +kernel
theorem dL_isVerdict_56 : decode cL_isVerdict 56 = .ok (.invokevirtual 180, 3) := by decide +kernel
theorem dL_isVerdict_59 : decode cL_isVerdict 59 = .ok (.istore 9, 2) := by decide +kernel
theorem dL_isVerdict_61 : decode cL_isVerdict 61 = .ok (.aload_n 0, 1) := by decide +kernel
theorem dL_isVerdict_62 : decode cL_isVerdict 62 = .ok (.iload 9, 2) := by decide +kernel
theorem dL_isVerdict_64 : decode cL_isVerdict 64 = .ok (.invokevirtual 104, 3) := by decide +kernel
theorem dL_isVerdict_67 : decode cL_isVerdict 67 = .ok (.aload_n 0, 1) := by decide +kernel
theorem dL_isVerdict_68 : decode cL_isVerdict 68 = .ok (.iload 8, 2) := by decide +kernel
theorem dL_isVerdict_70 : decode cL_isVerdict 70 = .ok (.invokevirtual 104, 3) := by decide +kernel
theorem dL_isVerdict_73 : decode cL_isVerdict 73 = .ok (.if_icmp .lt 30, 3) := by decide +kernel
theorem dL_isVerdict_76 : decode cL_isVerdict 76 = .ok (.iload 7, 2) := by decide +kernel
theorem dL_isVerdict_78 : decode cL_isVerdict 78 = .ok (.ifCond .le 27, 3) := by decide +kernel
theorem dL_isVerdict_105 : decode cL_isVerdict 105 = .ok (.iload 5, 2) := by decide +kernel
theorem dL_isVerdict_107 : decode cL_isVerdict 107 = .ok (.ifCond .ge 17, 3) := by decide +kernel
theorem dL_isVerdict_124 : decode cL_isVerdict 124 = .ok (.iload 5, 2) := by decide +kernel
theorem dL_isVerdict_126 : decode cL_isVerdict 126 = .ok (.istore 5, 2) := by decide +kernel
theorem dL_isVerdict_128 : decode cL_isVerdict 128 = .ok (.aload_n 0, 1) := by decide +kernel
theorem dL_isVerdict_129 : decode cL_isVerdict 129 = .ok (.iload 8, 2) := by decide +kernel
theorem dL_isVerdict_131 : decode cL_isVerdict 131 = .ok (.invokevirtual 122, 3) := by decide +kernel
theorem dL_isVerdict_134 : decode cL_isVerdict 134 = .ok (.ifCond .eq 66, 3) := by decide +kernel
theorem dL_isVerdict_200 : decode cL_isVerdict 200 = .ok (.iinc 7 1, 3) := by decide +kernel
theorem dL_isVerdict_203 : decode cL_isVerdict 203 = .ok (.goto (-179), 3) := by decide +kernel
theorem dL_isVerdict_137 : decode cL_isVerdict 137 = .ok (.aload_n 0, 1) := by decide +kernel
theorem dL_isVerdict_138 : decode cL_isVerdict 138 = .ok (.iload 8, 2) := by decide +kernel
theorem dL_isVerdict_140 : decode cL_isVerdict 140 = .ok (.invokevirtual 128, 3) := by decide +kernel
theorem dL_isVerdict_143 : decode cL_isVerdict 143 = .ok (.ifCond .eq 6, 3) := by decide +kernel
theorem dL_isVerdict_149 : decode cL_isVerdict 149 = .ok (.iload 6, 2) := by decide +kernel
theorem dL_isVerdict_151 : decode cL_isVerdict 151 = .ok (.aload_n 0, 1) := by decide +kernel
theorem dL_isVerdict_152 : decode cL_isVerdict 152 = .ok (.iload 8, 2) := by decide +kernel
theorem dL_isVerdict_154 : decode cL_isVerdict 154 = .ok (.invokevirtual 119, 3) := by decide +kernel
theorem dL_isVerdict_157 : decode cL_isVerdict 157 = .ok (.iadd, 1) := by decide +kernel
theorem dL_isVerdict_158 : decode cL_isVerdict 158 = .ok (.istore 6, 2) := by decide +kernel
theorem dL_isVerdict_160 : decode cL_isVerdict 160 = .ok (.aload_n 0, 1) := by decide +kernel
theorem dL_isVerdict_161 : decode cL_isVerdict 161 = .ok (.iload_n 1, 1) := by decide +kernel
theorem dL_isVerdict_162 : decode cL_isVerdict 162 = .ok (.iload_n 2, 1) := by decide +kernel
theorem dL_isVerdict_163 : decode cL_isVerdict 163 = .ok (.iload 8, 2) := by decide +kernel
theorem dL_isVerdict_165 : decode cL_isVerdict 165 = .ok (.invokevirtual 140, 3) := by decide +kernel
theorem dL_isVerdict_168 : decode cL_isVerdict 168 = .ok (.ifCond .eq 6, 3) := by decide +kernel
theorem dL_isVerdict_174 : decode cL_isVerdict 174 = .ok (.aload_n 0, 1) := by decide +kernel
theorem dL_isVerdict_175 : decode cL_isVerdict 175 = .ok (.iload_n 3, 1) := by decide +kernel
theorem dL_isVerdict_176 : decode cL_isVerdict 176 = .ok (.invokevirtual 183, 3) := by decide +kernel
theorem dL_isVerdict_179 : decode cL_isVerdict 179 = .ok (.iload 8, 2) := by decide +kernel
theorem dL_isVerdict_181 : decode cL_isVerdict 181 = .ok (.if_icmp .eq 5, 3) := by decide +kernel
theorem dL_isVerdict_186 : decode cL_isVerdict 186 = .ok (.iload 4, 2) := by decide +kernel
theorem dL_isVerdict_188 : decode cL_isVerdict 188 = .ok (.aload_n 0, 1) := by decide +kernel
theorem dL_isVerdict_189 : decode cL_isVerdict 189 = .ok (.iload 8, 2) := by decide +kernel
theorem dL_isVerdict_191 : decode cL_isVerdict 191 = .ok (.invokevirtual 119, 3) := by decide +kernel
theorem dL_isVerdict_194 : decode cL_isVerdict 194 = .ok (.iadd, 1) := by decide +kernel
theorem dL_isVerdict_195 : decode cL_isVerdict 195 = .ok (.istore 4, 2) := by decide +kernel
theorem dL_isVerdict_197 : decode cL_isVerdict 197 = .ok (.iinc 3 1, 3) := by decide +kernel
theorem dL_isVerdict_171 : decode cL_isVerdict 171 = .ok (.goto 29, 3) := by decide +kernel
theorem dL_isVerdict_146 : decode cL_isVerdict 146 = .ok (.goto 54, 3) := by decide +kernel
theorem dL_isVerdict_110 : decode cL_isVerdict 110 = .ok (.aload_n 0, 1) := by decide +kernel
theorem dL_isVerdict_111 : decode cL_isVerdict 111 = .ok (.iload 8, 2) := by decide +kernel
theorem dL_isVerdict_113 : decode cL_isVerdict 113 = .ok (.invokevirtual 122, 3) := by decide +kernel
theorem dL_isVerdict_116 : decode cL_isVerdict 116 = .ok (.ifCond .ne 8, 3) := by decide +kernel
theorem dL_isVerdict_119 : decode cL_isVerdict 119 = .ok (.iload 8, 2) := by decide +kernel
theorem dL_isVerdict_121 : decode cL_isVerdict 121 = .ok (.goto 5, 3) := by decide +kernel
theorem dL_isVerdict_81 : decode cL_isVerdict 81 = .ok (.aload_n 0, 1) := by decide +kernel
theorem dL_isVerdict_82 : decode cL_isVerdict 82 = .ok (.iload 9, 2) := by decide +kernel
theorem dL_isVerdict_84 : decode cL_isVerdict 84 = .ok (.invokevirtual 104, 3) := by decide +kernel
theorem dL_isVerdict_87 : decode cL_isVerdict 87 = .ok (.aload_n 0, 1) := by decide +kernel
theorem dL_isVerdict_88 : decode cL_isVerdict 88 = .ok (.iload 8, 2) := by decide +kernel
theorem dL_isVerdict_90 : decode cL_isVerdict 90 = .ok (.invokevirtual 104, 3) := by decide +kernel
theorem dL_isVerdict_93 : decode cL_isVerdict 93 = .ok (.if_icmp .ne 12, 3) := by decide +kernel
theorem dL_isVerdict_96 : decode cL_isVerdict 96 = .ok (.iload 9, 2) := by decide +kernel
theorem dL_isVerdict_98 : decode cL_isVerdict 98 = .ok (.iload 8, 2) := by decide +kernel
theorem dL_isVerdict_100 : decode cL_isVerdict 100 = .ok (.if_icmp .lt 5, 3) := by decide +kernel
theorem dL_isVerdict_46 : decode cL_isVerdict 46 = .ok (.iload 8, 2) := by decide +kernel
theorem dL_isVerdict_48 : decode cL_isVerdict 48 = .ok (.goto 11, 3) := by decide +kernel
abbrev mL_stands : zM := (yL_stands, cL_stands, 4, (some .boolean), [])
theorem okL_stands : zMok mL_stands 2 := ⟨by decide, by decide, by decide +kernel⟩
theorem dL_stands_0 : decode cL_stands 0 = .ok (.iconst 0, 1) := by decide +kernel
theorem dL_stands_1 : decode cL_stands 1 = .ok (.istore_n 2, 1) := by decide +kernel
theorem dL_stands_2 : decode cL_stands 2 = .ok (.iload_n 2, 1) := by decide +kernel
theorem dL_stands_3 : decode cL_stands 3 = .ok (.aload_n 0, 1) := by decide +kernel
theorem dL_stands_4 : decode cL_stands 4 = .ok (.invokevirtual 133, 3) := by decide +kernel
theorem dL_stands_7 : decode cL_stands 7 = .ok (.if_icmp .ge 20, 3) := by decide +kernel
theorem dL_stands_27 : decode cL_stands 27 = .ok (.aload_n 0, 1) := by decide +kernel
theorem dL_stands_28 : decode cL_stands 28 = .ok (.invokevirtual 98, 3) := by decide +kernel
theorem dL_stands_31 : decode cL_stands 31 = .ok (.istore_n 2, 1) := by decide +kernel
theorem dL_stands_32 : decode cL_stands 32 = .ok (.iload_n 2, 1) := by decide +kernel
theorem dL_stands_33 : decode cL_stands 33 = .ok (.ifCond .le 19, 3) := by decide +kernel
theorem dL_stands_52 : decode cL_stands 52 = .ok (.aload_n 0, 1) := by decide +kernel
theorem dL_stands_53 : decode cL_stands 53 = .ok (.invokevirtual 221, 3) := by decide +kernel
theorem cw_RL_221 : zCwV RL 221 mX9_decisiveClue := zall [1124, 1125, 1126, 31, 1127] (by decide +kernel) (by decide +kernel)
theorem dL_stands_56 : decode cL_stands 56 = .ok (.istore_n 3, 1) := by decide +kernel
theorem dL_stands_57 : decode cL_stands 57 = .ok (.aload_n 0, 1) := by decide +kernel
theorem dL_stands_58 : decode cL_stands 58 = .ok (.invokestatic 224, 3) := by decide +kernel
theorem cw_RL_224 : zCwS RL 224 mL_isVerdict := zall [1129, 1130, 18, 1131] (by decide +kernel) (by decide +kernel)
theorem dL_stands_61 : decode cL_stands 61 = .ok (.ifCond .eq 27, 3) := by decide +kernel
theorem dL_stands_64 : decode cL_stands 64 = .ok (.iload_n 3, 1) := by decide +kernel
theorem dL_stands_65 : decode cL_stands 65 = .ok (.ifCond .lt 19, 3) := by decide +kernel
theorem dL_stands_84 : decode cL_stands 84 = .ok (.iconst 1, 1) := by decide +kernel
theorem dL_stands_85 : decode cL_stands 85 = .ok (.goto 4, 3) := by decide +kernel
theorem dL_stands_89 : decode cL_stands 89 = .ok (.ireturn, 1) := by decide +kernel
theorem dL_stands_68 : decode cL_stands 68 = .ok (.aload_n 0, 1) := by decide +kernel
theorem dL_stands_69 : decode cL_stands 69 = .ok (.iload_n 3, 1) := by decide +kernel
theorem dL_stands_70 : decode cL_stands 70 = .ok (.invokevirtual 122, 3) := by decide +kernel
theorem dL_stands_73 : decode cL_stands 73 = .ok (.ifCond .eq 15, 3) := by decide +kernel
theorem dL_stands_76 : decode cL_stands 76 = .ok (.aload_n 0, 1) := by decide +kernel
theorem dL_stands_77 : decode cL_stands 77 = .ok (.iload_n 3, 1) := by decide +kernel
theorem dL_stands_78 : decode cL_stands 78 = .ok (.invokevirtual 128, 3) := by decide +kernel
theorem dL_stands_81 : decode cL_stands 81 = .ok (.ifCond .ne 7, 3) := by decide +kernel
theorem dL_stands_36 : decode cL_stands 36 = .ok (.aload_n 0, 1) := by decide +kernel
theorem dL_stands_37 : decode cL_stands 37 = .ok (.iload_n 1, 1) := by decide +kernel
theorem dL_stands_38 : decode cL_stands 38 = .ok (.iload_n 2, 1) := by decide +kernel
theorem dL_stands_39 : decode cL_stands 39 = .ok (.irem, 1) := by decide +kernel
theorem dL_stands_40 : decode cL_stands 40 = .ok (.iload_n 1, 1) := by decide +kernel
theorem dL_stands_41 : decode cL_stands 41 = .ok (.bipush 7, 2) := by decide +kernel
theorem dL_stands_43 : decode cL_stands 43 = .ok (.idiv, 1) := by decide +kernel
theorem dL_stands_44 : decode cL_stands 44 = .ok (.invokestatic 218, 3) := by decide +kernel
theorem cw_RL_218 : zCwS RL 218 mL_isClue := zall [1098, 1099, 18, 1100] (by decide +kernel) (by decide +kernel)
theorem dL_stands_47 : decode cL_stands 47 = .ok (.ifCond .ne 5, 3) := by decide +kernel
theorem dL_stands_10 : decode cL_stands 10 = .ok (.aload_n 0, 1) := by decide +kernel
theorem dL_stands_11 : decode cL_stands 11 = .ok (.iload_n 2, 1) := by decide +kernel
theorem dL_stands_12 : decode cL_stands 12 = .ok (.iload_n 1, 1) := by decide +kernel
theorem dL_stands_13 : decode cL_stands 13 = .ok (.invokestatic 214, 3) := by decide +kernel
theorem cw_RL_214 : zCwS RL 214 mL_isPrinter := zall [1058, 1059, 18, 1060] (by decide +kernel) (by decide +kernel)
theorem dL_stands_16 : decode cL_stands 16 = .ok (.ifCond .ne 5, 3) := by decide +kernel
theorem dL_stands_21 : decode cL_stands 21 = .ok (.iinc 2 1, 3) := by decide +kernel
theorem dL_stands_24 : decode cL_stands 24 = .ok (.goto (-22), 3) := by decide +kernel
/-! facts for the law's word on the verdict -/
theorem dcmp_same {x : UInt64} (h : FP.Core.val64 x ≠ .nan) : Op.cmpValue (FP.dcmp x x) .l = Int32.ofInt 0 := by
  show Op.cmpValue (FP.Core.order (FP.Core.val64 x) (FP.Core.val64 x)) .l = 0
  cases hv : FP.Core.val64 x with
  | nan => exact absurd hv h
  | inf s => simp [FP.Core.order, Op.cmpValue, compare, compareOfLessAndEq]
  | fin s c q => simp [FP.Core.order, Op.cmpValue, compare, compareOfLessAndEq]
theorem dc_0 {D : zBk} (h : cW D = 0) : Op.cmpValue (FP.dcmp (cfd D) FP.dconst0) .l = Int32.ofInt 0 := by
  have e : cfd D = FP.dconst0 := by unfold cfd; rw [if_pos h]
  rw [e]
  exact dcmp_same (by decide +kernel)
theorem dc_1 {D : zBk} {wt : Int} (w : WF D) (hw : wt = cW D) (h : ¬ wt = 0) : Op.cmpValue (FP.dcmp (cfd D) (FP.ddiv (FP.i2d (Int32.ofInt (wS D (Ht D)))) (FP.i2d (Int32.ofInt wt)))) .l = Int32.ofInt 0 := by
  subst hw
  have e : cfd D = FP.ddiv (FP.i2d (Int32.ofInt (wS D (Ht D)))) (FP.i2d (Int32.ofInt (cW D))) := by unfold cfd; rw [if_neg h]
  rw [e]
  exact dcmp_same (ddiv_v (zr3 (cW_b w)) h)
theorem unx_r {D : zBk} {r : Nat} (hr : (r : Int) < D 12 0) (h : opn D (D 19 r).toNat) : unx D (zs (fun i => zb (opn D (D 19 i).toNat)) r) = D 19 r := by
  refine unx_at hr (fun j hj q => ?_) ⟨h, rfl⟩
  have e1 : zs (fun i => zb (opn D (D 19 i).toNat)) (j + 1) = zs (fun i => zb (opn D (D 19 i).toNat)) j + 1 := by rw [zs_s, zb_t q.1]
  have e2 := zsb_mono (fun i => opn D (D 19 i).toNat) (show j + 1 ≤ r from hj)
  omega
theorem unx_none {D : zBk} : unx D (zs (fun i => zb (opn D (D 19 i).toNat)) (D 12 0).toNat) = -1 := by
  refine unx_no (fun j hj q => ?_)
  have e1 : zs (fun i => zb (opn D (D 19 i).toNat)) (j + 1) = zs (fun i => zb (opn D (D 19 i).toNat)) j + 1 := by rw [zs_s, zb_t q.1]
  have e2 := zsb_mono (fun i => opn D (D 19 i).toNat) (show j + 1 ≤ (D 12 0).toNat from hj)
  omega
theorem unx_zr {D : zBk} (w : WF D) (x : Int) : zr (unx D x) := by
  have hn := w.1.2.2.2
  unfold unx
  rcases zfst_cases (fun p => opn D (D 19 p).toNat ∧ zs (fun i => zb (opn D (D 19 i).toNat)) p = x) (D 12 0).toNat with ⟨h1, -⟩ | ⟨i, h1, h2, -⟩
  · rw [h1, if_pos rfl]; unfold zr; omega
  · have ho := w.2.2.2.2.2.1 i (by omega)
    rw [h2, if_neg (by omega), Int.toNat_natCast]; unfold zr; omega
noncomputable def nxR (D : zBk) (r : Nat) : Int := if zfst (fun i => D 17 (D 19 i).toNat = 0) r = -1 then -1 else D 19 (zfst (fun i => D 17 (D 19 i).toNat = 0) r).toNat
theorem nxR_all (D : zBk) : nxR D (D 12 0).toNat = nxU D := rfl
theorem nxR_0 (D : zBk) : nxR D 0 = -1 := rfl
theorem nxR_b {D : zBk} (w : WF D) {r : Nat} (hr : (r : Int) ≤ D 12 0) : (nxR D r = -1 ∧ zfst (fun i => D 17 (D 19 i).toNat = 0) r = -1) ∨ (0 ≤ nxR D r ∧ nxR D r < D 12 0 ∧ ¬ zfst (fun i => D 17 (D 19 i).toNat = 0) r = -1) := by
  unfold nxR
  rcases zfst_cases (fun i => D 17 (D 19 i).toNat = 0) r with ⟨h1, -⟩ | ⟨i, h1, h2, -⟩
  · rw [h1, if_pos rfl]; exact Or.inl ⟨rfl, rfl⟩
  · have ho := w.2.2.2.2.2.1 i (by omega)
    rw [h2, if_neg (by omega), Int.toNat_natCast]
    exact Or.inr ⟨ho.1, ho.2, by omega⟩
theorem nxR_s (D : zBk) (r : Nat) : zfst (fun i => D 17 (D 19 i).toNat = 0) (r + 1) = if zfst (fun i => D 17 (D 19 i).toNat = 0) r = -1 then (@ite Int (D 17 (D 19 r).toNat = 0) (Classical.propDecidable _) (r : Int) (-1)) else zfst (fun i => D 17 (D 19 i).toNat = 0) r := rfl
/-- one place further: still the one found before -/
theorem nxR_k {D : zBk} (w : WF D) {r : Nat} (hr : (r : Int) < D 12 0) (h : 0 ≤ nxR D r) : nxR D (r + 1) = nxR D r := by
  rcases nxR_b w (r := r) (by omega) with ⟨h1, -⟩ | ⟨-, -, h2⟩
  · omega
  · unfold nxR
    rw [nxR_s, if_neg h2]
theorem nxR_n {D : zBk} (w : WF D) {r : Nat} (hr : (r : Int) < D 12 0) (h : nxR D r < 0) (hp : ¬ D 17 (D 19 r).toNat = 0) : nxR D (r + 1) = nxR D r := by
  rcases nxR_b w (r := r) (by omega) with ⟨h1, h2⟩ | ⟨h3, -⟩
  · unfold nxR
    rw [nxR_s, if_pos h2, if_neg hp, if_pos rfl, h2, if_pos rfl]
  · omega
theorem nxR_t {D : zBk} (w : WF D) {r : Nat} (hr : (r : Int) < D 12 0) (h : nxR D r < 0) (hp : D 17 (D 19 r).toNat = 0) : nxR D (r + 1) = D 19 r := by
  rcases nxR_b w (r := r) (by omega) with ⟨h1, h2⟩ | ⟨h3, -⟩
  · unfold nxR
    rw [nxR_s, if_pos h2, if_pos hp, if_neg (by omega)]
    rfl
  · omega
theorem zsw_n {D : zBk} (w : WF D) (P : Nat → Prop) {r : Nat} (hr : (r : Int) ≤ D 12 0) : 0 ≤ zs (fun i => zif (P (D 19 i).toNat) (D 16 (D 19 i).toNat)) r ∧ zs (fun i => zif (P (D 19 i).toNat) (D 16 (D 19 i).toNat)) r ≤ 360 := by
  have hn := w.1.2.2.2
  have h := zs_bnd (f := fun i => zif (P (D 19 i).toNat) (D 16 (D 19 i).toNat)) (b := 9) (by omega) (n := r) (fun i hi => by
    have ho := w.2.2.2.2.2.1 i (by omega)
    have hw := (w.2.2.2.2.1 (D 19 i).toNat (by omega)).2.2.1
    by_cases q : P (D 19 i).toNat
    · rw [zif_t q]; omega
    · rw [zif_f q]; omega)
  omega
theorem rkP_in {D : zBk} {q : Nat} (hq : (q : Int) < D 1 0) : ∃ a : Nat, rkP D (Ht D) (q : Int) = (a : Int) ∧ (a : Int) < D 1 0 := by
  obtain ⟨o, ho⟩ := rk_ex D (Ht D)
  have e1 : rkP D (Ht D) ((q : Nat) : Int) = _ := ordOK_at ho (i := q) (by omega)
  have b1 := ho.1 q (by omega)
  exact ⟨_, e1, by omega⟩
theorem rkP_pr {D : zBk} {q a : Nat} (hq : (q : Int) < D 1 0) (h0 : ¬ ((q : Nat) : Int) = 0) (ha : rkP D (Ht D) (q : Int) = (a : Int)) : ∃ b : Nat, rkP D (Ht D) ((q : Int) - 1) = (b : Int) ∧ (b : Int) < D 1 0 ∧ ahd D (Ht D) b a := by
  obtain ⟨b, a', e1, e2, e3, e4, e5⟩ := rk_ah (D := D) (r := q - 1) (by omega)
  have g1 : ((q - 1 : Nat) : Int) = (q : Int) - 1 := by omega
  rw [g1] at e1 e2
  rw [show (q : Int) - 1 + 1 = q by omega, ha] at e2
  have : a = a' := by omega
  subst this
  exact ⟨b, e1, e3, e5⟩
theorem rkP_out {D : zBk} {r : Int} (h : ¬ (0 ≤ r ∧ r < D 1 0)) (h1 : 0 ≤ D 1 0) : rkP D (Ht D) r = -1 := by
  obtain ⟨o, ho⟩ := rk_ex D (Ht D)
  exact ordOK_no ho (by omega)
/-- what the second of the ranking says of the margin -/
theorem scd_1 {D : zBk} (w : WF D) (h1 : 1 ≤ D 1 0) : (rkP D (Ht D) 1 = -1 ∧ scd D (Ht D) = 0) ∨ ((0 ≤ rkP D (Ht D) 1 ∧ rkP D (Ht D) 1 < D 1 0) ∧ scd D (Ht D) = tS D (Ht D) (rkP D (Ht D) 1).toNat ∧ tS D (Ht D) (rkP D (Ht D) 1).toNat ≤ wS D (Ht D)) := by
  by_cases h2 : 2 ≤ D 1 0
  · obtain ⟨a, b, e1, e2, e3, e4, e5⟩ := rk_ah (D := D) (r := 0) (by omega)
    have e2 : rkP D (Ht D) 1 = (b : Int) := e2
    have e1 : rkP D (Ht D) 0 = (a : Int) := e1
    refine Or.inr ⟨by rw [e2]; omega, by unfold scd; rw [if_pos h2], ?_⟩
    have e6 : wP D (Ht D) = a := by unfold wP; rw [e1]; rfl
    rw [e2]
    unfold wS
    rw [e6]
    unfold ahd at e5
    show tS D (Ht D) b ≤ _
    omega
  · exact Or.inl ⟨rkP_out (by omega) (by omega), by unfold scd; rw [if_neg h2]⟩
theorem dcs_in {D : zBk} (h : 0 ≤ dcs D) : dcs D < D 12 0 ∧ Ht D (dcs D).toNat ∧ ¬ wP D (Hd D 0 (dcs D)) = wP D (Ht D) := by
  unfold dcs at *
  rcases zfst_cases (fun c => Ht D c ∧ ¬ wP D (Hd D 0 ((c : Nat) : Int)) = wP D (Ht D)) (D 12 0).toNat with ⟨h1, -⟩ | ⟨i, h1, h2, h3, -⟩
  · omega
  · rw [h2]
    refine ⟨by omega, ?_, ?_⟩
    · rw [Int.toNat_natCast]; exact h3.1
    · exact h3.2
theorem dcs_zr {D : zBk} (w : WF D) : zr (dcs D) := by
  have hn := w.1.2.2.2
  unfold dcs
  rcases zfst_cases (fun c => Ht D c ∧ ¬ wP D (Hd D 0 ((c : Nat) : Int)) = wP D (Ht D)) (D 12 0).toNat with ⟨h1, -⟩ | ⟨i, h1, h2, h3, -⟩
  · rw [h1]; unfold zr; omega
  · rw [h2]; unfold zr; omega

set_option maxRecDepth 20000 in
set_option maxHeartbeats 2000000 in
theorem sL_isVerdict {l : Launch} {w : zW} (hfl : l.stackTraces = false) {σ : zS} {D : zBk}  (hz : zOK σ) (hB : bK σ = D) (hW : WF D) (hP1 : 1 ≤ D 1 0) : Sp l w mL_isVerdict 8 0 [zf 9 0] σ (zqv (some (zi 1)) (fun τ => zOK τ ∧ zSame (fun q => 252 ≤ q ∧ q ≤ 258) σ τ ∧ bK τ = D)) := by
  obtain ⟨Q, hQ⟩ : ∃ Q : zQ, Q = (zqv (some (zi 1)) (fun τ => zOK τ ∧ zSame (fun q => 252 ≤ q ∧ q ≤ 258) σ τ ∧ bK τ = D)) := ⟨_, rfl⟩
  rw [← hQ]
  refine zx_enter hfl (by decide) rfl 9 rfl ?_
  show zX l w mL_isVerdict (zMQ w 8 0 Q) 0 [zf 9 0, zu, zu, zu, zu, zu, zu, zu, zu, zu] [] 0 σ
  have hzD := hzDof hB hz
  have hn1 : 0 ≤ D 1 0 ∧ D 1 0 ≤ 8 := hW.1.1
  have hn12 : 0 ≤ D 12 0 ∧ D 12 0 ≤ 40 := hW.1.2.2.2
  have hwl : (wP D (Ht D) : Int) < D 1 0 := wP_l hW hP1
  have hdec : works D (wP D (Ht D)) (wY D (Ht D)) := dec_b hW hP1 (c := 0)
  have hyr := (hW.2.1 _ hwl).2
  have hwy : 1450 ≤ wY D (Ht D) ∧ wY D (Ht D) ≤ 1999 := by have q := hdec; unfold works at q; omega
  have hws := wS_b hW
  have hO : ∀ i : Nat, (i : Int) < D 12 0 → 0 ≤ D 19 i ∧ D 19 i < D 12 0 := hW.2.2.2.2.2.1
  have hwz : zr (wY D (Ht D)) := by unfold zr; omega
  refine zx_aloadN dL_isVerdict_0 rfl rfl ?_
  refine zy_cvR [] (fX9_verdictPrinter  hfl hz hB hW hP1) dL_isVerdict_1 (by decide) rfl cw_RL_174 okX9_verdictPrinter rfl (Nat.le_of_ble_eq_true rfl) ⟨Nat.le_of_ble_eq_true rfl, Nat.le_of_ble_eq_true rfl, Nat.le_of_ble_eq_true rfl, Nat.le_of_ble_eq_true rfl⟩ (fun τ1 hr1 => ?_)
  have hz1 : zOK τ1 := hr1.1
  refine zy_istoreN [zf 9 0, zi ((wP D (Ht D) : Nat) : Int), zu, zu, zu, zu, zu, zu, zu, zu] dL_isVerdict_4 rfl (Nat.le_of_ble_eq_true rfl) (Nat.le_of_ble_eq_true rfl) rfl rfl ?_
  refine zx_aloadN dL_isVerdict_5 rfl rfl ?_
  refine zy_cvR [] (fX9_verdictYear  hfl hz1 hr1.2.2 hW hP1) dL_isVerdict_6 (by decide) rfl cw_RL_177 okX9_verdictYear rfl (Nat.le_of_ble_eq_true rfl) ⟨Nat.le_of_ble_eq_true rfl, Nat.le_of_ble_eq_true rfl, Nat.le_of_ble_eq_true rfl, Nat.le_of_ble_eq_true rfl⟩ (fun τ6 hr6 => ?_)
  have hz6 : zOK τ6 := hr6.1
  refine zy_istoreN [zf 9 0, zi ((wP D (Ht D) : Nat) : Int), zi (wY D (Ht D)), zu, zu, zu, zu, zu, zu, zu] dL_isVerdict_9 rfl (Nat.le_of_ble_eq_true rfl) (Nat.le_of_ble_eq_true rfl) rfl rfl ?_
  refine zx_iconst dL_isVerdict_10 ?_
  refine zy_istoreN [zf 9 0, zi ((wP D (Ht D) : Nat) : Int), zi (wY D (Ht D)), zi 0, zu, zu, zu, zu, zu, zu] dL_isVerdict_11 rfl (Nat.le_of_ble_eq_true rfl) (Nat.le_of_ble_eq_true rfl) rfl rfl ?_
  refine zx_iconst dL_isVerdict_12 ?_
  refine zy_istore [zf 9 0, zi ((wP D (Ht D) : Nat) : Int), zi (wY D (Ht D)), zi 0, zi 0, zu, zu, zu, zu, zu] dL_isVerdict_13 (Nat.le_of_ble_eq_true rfl) (Nat.le_of_ble_eq_true rfl) rfl rfl ?_
  refine zx_iconst dL_isVerdict_15 ?_
  refine zy_istore [zf 9 0, zi ((wP D (Ht D) : Nat) : Int), zi (wY D (Ht D)), zi 0, zi 0, zi (-1), zu, zu, zu, zu] dL_isVerdict_16 (Nat.le_of_ble_eq_true rfl) (Nat.le_of_ble_eq_true rfl) rfl rfl ?_
  refine zx_iconst dL_isVerdict_18 ?_
  refine zy_istore [zf 9 0, zi ((wP D (Ht D) : Nat) : Int), zi (wY D (Ht D)), zi 0, zi 0, zi (-1), zi 0, zu, zu, zu] dL_isVerdict_19 (Nat.le_of_ble_eq_true rfl) (Nat.le_of_ble_eq_true rfl) rfl rfl ?_
  refine zx_iconst dL_isVerdict_21 ?_
  refine zy_istore [zf 9 0, zi ((wP D (Ht D) : Nat) : Int), zi (wY D (Ht D)), zi 0, zi 0, zi (-1), zi 0, zi 0, zu, zu] dL_isVerdict_22 (Nat.le_of_ble_eq_true rfl) (Nat.le_of_ble_eq_true rfl) rfl rfl ?_
  have L24 : ∀ (N : Nat) (τ : zS) (r : Nat) (op : Int) (ms : Int) (nx : Int) (wt : Int), (zOK τ) → (bK τ = D) → (zSame (fun q => 252 ≤ q ∧ q ≤ 258) σ τ) → ((r : Int) ≤ D 12 0) → (op = zs (fun i => zb (opn D (D 19 i).toNat)) r) → (ms = zs (fun i => zif (opn D (D 19 i).toNat) (D 16 (D 19 i).toNat)) r) → (nx = nxR D r) → (wt = zs (fun i => zif (Ht D (D 19 i).toNat) (D 16 (D 19 i).toNat)) r) → (41 - r) < N → zX l w mL_isVerdict (zMQ w 8 0 Q) 24 [zf 9 0, zi ((wP D (Ht D) : Nat) : Int), zi (wY D (Ht D)), zi op, zi ms, zi nx, zi wt, zi ((r : Nat) : Int), zu, zu] [] 0 τ := by
    intro N
    induction N with
    | zero => intro τ r op ms nx wt _ _ _ _ _ _ _ _ _; exact absurd (by assumption) (Nat.not_lt_zero _)
    | succ N ih24 =>
      intro τ r op ms nx wt hz hB hF hr_ hop hms hnx hwt hN
      have hob := zsb_le (fun i => opn D (D 19 i).toNat) r
      have hmb := zsw_n hW (opn D) (r := r) (by omega)
      have hwb := zsw_n hW (Ht D) (r := r) (by omega)
      have hnb := nxR_b hW (r := r) (by omega)
      rw [← hop] at hob
      rw [← hms] at hmb
      rw [← hwt] at hwb
      rw [← hnx] at hnb
      refine zx_iload dL_isVerdict_24 rfl ?_
      refine zx_aloadN dL_isVerdict_26 rfl rfl ?_
      refine zy_cv [] (fX9_clueCount  hfl hz hB hW) dL_isVerdict_27 (by decide) rfl cw_RL_98 okX9_clueCount rfl (Nat.le_of_ble_eq_true rfl) ⟨Nat.le_of_ble_eq_true rfl, Nat.le_of_ble_eq_true rfl, Nat.le_of_ble_eq_true rfl, Nat.le_of_ble_eq_true rfl⟩ ?_
      refine zx_icmp_ge (tgt := 206) (by first | exact hz _ _ | assumption | exact zr_b _ | exact zcmp_r _ _ | exact hzD _ _ | exact zr3 (tS_b hW _) | exact zr3 (lsc_b hW _ _) | exact zr3 (sc_b hW _ _) | exact rkP_zr hW _ | exact scA_zr hW _ _ | exact zr3 (cW_b hW) | exact zr3 (wS_b hW) | exact unx_zr hW _ | exact dcs_zr hW | (unfold zr at *; omega)) (by first | exact hz _ _ | assumption | exact zr_b _ | exact zcmp_r _ _ | exact hzD _ _ | exact zr3 (tS_b hW _) | exact zr3 (lsc_b hW _ _) | exact zr3 (sc_b hW _ _) | exact rkP_zr hW _ | exact scA_zr hW _ _ | exact zr3 (cW_b hW) | exact zr3 (wS_b hW) | exact unx_zr hW _ | exact dcs_zr hW | (unfold zr at *; omega)) dL_isVerdict_30 (by decide) (fun h30 => ?_) (fun h30 => ?_)
      · refine zx_iconst dL_isVerdict_206 ?_
        refine zy_istore [zf 9 0, zi ((wP D (Ht D) : Nat) : Int), zi (wY D (Ht D)), zi op, zi ms, zi nx, zi wt, zi 0, zu, zu] dL_isVerdict_207 (Nat.le_of_ble_eq_true rfl) (Nat.le_of_ble_eq_true rfl) rfl rfl ?_
        have L209 : ∀ (N : Nat) (υ : zS) (q : Nat), (zOK υ) → (bK υ = D) → (zSame (fun q => 252 ≤ q ∧ q ≤ 258) σ υ) → ((q : Int) ≤ D 1 0) → (9 - q) < N → zX l w mL_isVerdict (zMQ w 8 0 Q) 209 [zf 9 0, zi ((wP D (Ht D) : Nat) : Int), zi (wY D (Ht D)), zi op, zi ms, zi nx, zi wt, zi ((q : Nat) : Int), zu, zu] [] 0 υ := by
          intro N
          induction N with
          | zero => intro υ q _ _ _ _ _; exact absurd (by assumption) (Nat.not_lt_zero _)
          | succ N ih209 =>
            intro υ q hz hB hF hq_ hN
            refine zx_iload dL_isVerdict_209 rfl ?_
            refine zx_aloadN dL_isVerdict_211 rfl rfl ?_
            refine zy_cv [] (fX9_printerCount  hfl hz hB hW) dL_isVerdict_212 (by decide) rfl cw_RL_133 okX9_printerCount rfl (Nat.le_of_ble_eq_true rfl) ⟨Nat.le_of_ble_eq_true rfl, Nat.le_of_ble_eq_true rfl, Nat.le_of_ble_eq_true rfl, Nat.le_of_ble_eq_true rfl⟩ ?_
            refine zx_icmp_ge (tgt := 296) (by first | exact hz _ _ | assumption | exact zr_b _ | exact zcmp_r _ _ | exact hzD _ _ | exact zr3 (tS_b hW _) | exact zr3 (lsc_b hW _ _) | exact zr3 (sc_b hW _ _) | exact rkP_zr hW _ | exact scA_zr hW _ _ | exact zr3 (cW_b hW) | exact zr3 (wS_b hW) | exact unx_zr hW _ | exact dcs_zr hW | (unfold zr at *; omega)) (by first | exact hz _ _ | assumption | exact zr_b _ | exact zcmp_r _ _ | exact hzD _ _ | exact zr3 (tS_b hW _) | exact zr3 (lsc_b hW _ _) | exact zr3 (sc_b hW _ _) | exact rkP_zr hW _ | exact scA_zr hW _ _ | exact zr3 (cW_b hW) | exact zr3 (wS_b hW) | exact unx_zr hW _ | exact dcs_zr hW | (unfold zr at *; omega)) dL_isVerdict_215 (by decide) (fun h215 => ?_) (fun h215 => ?_)
            · have hop2 : op = zs (fun c => zb (opn D c)) (D 12 0).toNat := by rw [hop, show r = (D 12 0).toNat by omega]; exact zs_ord hW (fun c => zb (opn D c))
              have hms2 : ms = zs (fun c => zif (opn D c) (D 16 c)) (D 12 0).toNat := by rw [hms, show r = (D 12 0).toNat by omega]; exact zs_ord hW (fun c => zif (opn D c) (D 16 c))
              have hwt2 : wt = cW D := by rw [hwt, show r = (D 12 0).toNat by omega]; exact zs_ord hW (fun c => zif (Ht D c) (D 16 c))
              have hnx2 : nx = nxU D := by rw [hnx, show r = (D 12 0).toNat by omega]; rfl
              have hun : unx D op = -1 := by rw [hop, show r = (D 12 0).toNat by omega]; exact unx_none
              have hcw := cW_e hW hP1
              have hscd := scd_1 hW hP1
              have hnz : zr (nxU D) := by rw [← hnx2]; unfold zr; omega
              have hoz : zr (zs (fun c => zb (opn D c)) (D 12 0).toNat) := by rw [← hop2]; unfold zr; omega
              have hsz : zr (wS D (Ht D) - scd D (Ht D)) := by have q := tS_b (H := Ht D) hW (rkP D (Ht D) 1).toNat; unfold zr; omega
              have hts := tS_b (H := Ht D) hW (rkP D (Ht D) 1).toNat
              refine zx_aloadN dL_isVerdict_296 rfl rfl ?_
              refine zx_iconst dL_isVerdict_297 ?_
              refine zy_cvR [zi 1] (fX9_printerByRank  hfl hz hB hW hP1 (by first | exact hz _ _ | assumption | exact zr_b _ | exact zcmp_r _ _ | exact hzD _ _ | exact zr3 (tS_b hW _) | exact zr3 (lsc_b hW _ _) | exact zr3 (sc_b hW _ _) | exact rkP_zr hW _ | exact scA_zr hW _ _ | exact zr3 (cW_b hW) | exact zr3 (wS_b hW) | exact unx_zr hW _ | exact dcs_zr hW | (unfold zr at *; omega))) dL_isVerdict_298 (by decide) rfl cw_RL_186 okX9_printerByRank rfl (Nat.le_of_ble_eq_true rfl) ⟨Nat.le_of_ble_eq_true rfl, Nat.le_of_ble_eq_true rfl, Nat.le_of_ble_eq_true rfl, Nat.le_of_ble_eq_true rfl⟩ (fun τ298 hr298 => ?_)
              have hz298 : zOK τ298 := hr298.1
              refine zy_istore [zf 9 0, zi ((wP D (Ht D) : Nat) : Int), zi (wY D (Ht D)), zi op, zi ms, zi nx, zi wt, zi (rkP D (Ht D) 1), zu, zu] dL_isVerdict_301 (Nat.le_of_ble_eq_true rfl) (Nat.le_of_ble_eq_true rfl) rfl rfl ?_
              refine zx_aloadN dL_isVerdict_303 rfl rfl ?_
              refine zy_cvR [] (fX9_verdictScore  hfl hz298 hr298.2.2 hW hP1) dL_isVerdict_304 (by decide) rfl cw_RL_189 okX9_verdictScore rfl (Nat.le_of_ble_eq_true rfl) ⟨Nat.le_of_ble_eq_true rfl, Nat.le_of_ble_eq_true rfl, Nat.le_of_ble_eq_true rfl, Nat.le_of_ble_eq_true rfl⟩ (fun τ304 hr304 => ?_)
              have hz304 : zOK τ304 := hr304.1
              refine zx_iload dL_isVerdict_307 rfl ?_
              refine zx_if_ge (tgt := 316) (by first | exact hz304 _ _ | assumption | exact zr_b _ | exact zcmp_r _ _ | exact hzD _ _ | exact zr3 (tS_b hW _) | exact zr3 (lsc_b hW _ _) | exact zr3 (sc_b hW _ _) | exact rkP_zr hW _ | exact scA_zr hW _ _ | exact zr3 (cW_b hW) | exact zr3 (wS_b hW) | exact unx_zr hW _ | exact dcs_zr hW | (unfold zr at *; omega)) dL_isVerdict_309 (by decide) (fun h309 => ?_) (fun h309 => ?_)
              · refine zx_aloadN dL_isVerdict_316 rfl rfl ?_
                refine zx_iload dL_isVerdict_317 rfl ?_
                refine zy_cvR [zi (rkP D (Ht D) 1)] (fX9_bestScore  hfl hz304 hr304.2.2 hW hP1 (by first | exact hz304 _ _ | assumption | exact zr_b _ | exact zcmp_r _ _ | exact hzD _ _ | exact zr3 (tS_b hW _) | exact zr3 (lsc_b hW _ _) | exact zr3 (sc_b hW _ _) | exact rkP_zr hW _ | exact scA_zr hW _ _ | exact zr3 (cW_b hW) | exact zr3 (wS_b hW) | exact unx_zr hW _ | exact dcs_zr hW | (unfold zr at *; omega)) (by first | assumption | omega)) dL_isVerdict_319 (by decide) rfl cw_RL_147 okX9_bestScore rfl (Nat.le_of_ble_eq_true rfl) ⟨Nat.le_of_ble_eq_true rfl, Nat.le_of_ble_eq_true rfl, Nat.le_of_ble_eq_true rfl, Nat.le_of_ble_eq_true rfl⟩ (fun τ319 hr319 => ?_)
                have hz319 : zOK τ319 := hr319.1
                refine zx_isub dL_isVerdict_322 ?_
                refine zy_istore [zf 9 0, zi ((wP D (Ht D) : Nat) : Int), zi (wY D (Ht D)), zi op, zi ms, zi nx, zi wt, zi (rkP D (Ht D) 1), zi ((wS D (Ht D)) - (tS D (Ht D) (rkP D (Ht D) 1).toNat)), zu] dL_isVerdict_323 (Nat.le_of_ble_eq_true rfl) (Nat.le_of_ble_eq_true rfl) rfl rfl ?_
                refine zx_aloadN dL_isVerdict_325 rfl rfl ?_
                refine zx_iconst dL_isVerdict_326 ?_
                refine zy_cvR [zi 0] (fX9_printerByRank  hfl hz319 hr319.2.2 hW hP1 (by first | exact hz319 _ _ | assumption | exact zr_b _ | exact zcmp_r _ _ | exact hzD _ _ | exact zr3 (tS_b hW _) | exact zr3 (lsc_b hW _ _) | exact zr3 (sc_b hW _ _) | exact rkP_zr hW _ | exact scA_zr hW _ _ | exact zr3 (cW_b hW) | exact zr3 (wS_b hW) | exact unx_zr hW _ | exact dcs_zr hW | (unfold zr at *; omega))) dL_isVerdict_327 (by decide) rfl cw_RL_186 okX9_printerByRank rfl (Nat.le_of_ble_eq_true rfl) ⟨Nat.le_of_ble_eq_true rfl, Nat.le_of_ble_eq_true rfl, Nat.le_of_ble_eq_true rfl, Nat.le_of_ble_eq_true rfl⟩ (fun τ327 hr327 => ?_)
                have hz327 : zOK τ327 := hr327.1
                refine zy_top (b := ((wP D (Ht D) : Nat) : Int)) (wP_e hW hP1) ?_
                refine zx_iloadN dL_isVerdict_330 rfl rfl ?_
                refine zx_icmp_ne (tgt := 471) (by first | exact hz327 _ _ | assumption | exact zr_b _ | exact zcmp_r _ _ | exact hzD _ _ | exact zr3 (tS_b hW _) | exact zr3 (lsc_b hW _ _) | exact zr3 (sc_b hW _ _) | exact rkP_zr hW _ | exact scA_zr hW _ _ | exact zr3 (cW_b hW) | exact zr3 (wS_b hW) | exact unx_zr hW _ | exact dcs_zr hW | (unfold zr at *; omega)) (by first | exact hz327 _ _ | assumption | exact zr_b _ | exact zcmp_r _ _ | exact hzD _ _ | exact zr3 (tS_b hW _) | exact zr3 (lsc_b hW _ _) | exact zr3 (sc_b hW _ _) | exact rkP_zr hW _ | exact scA_zr hW _ _ | exact zr3 (cW_b hW) | exact zr3 (wS_b hW) | exact unx_zr hW _ | exact dcs_zr hW | (unfold zr at *; omega)) dL_isVerdict_331 (by decide) (fun h331 => ?_) (fun h331 => ?_)
                · exfalso
                  first
                  | exact h331 rfl
                  | exact h340 rfl
                  | exact h352 rfl
                  | exact h374 hop2.symm
                  | exact h392 hnx2.symm
                  | exact h401 hwt2.symm
                  | exact h413 (by omega)
                  | exact h454 rfl
                  | exact h463 rfl
                  | omega
                · refine zx_aloadN dL_isVerdict_334 rfl rfl ?_
                  refine zx_iloadN dL_isVerdict_335 rfl rfl ?_
                  refine zy_cvR [zi ((wP D (Ht D) : Nat) : Int)] (fX9_bestYear  hfl hz327 hr327.2.2 hW hP1 (by first | exact hz327 _ _ | assumption | exact zr_b _ | exact zcmp_r _ _ | exact hzD _ _ | exact zr3 (tS_b hW _) | exact zr3 (lsc_b hW _ _) | exact zr3 (sc_b hW _ _) | exact rkP_zr hW _ | exact scA_zr hW _ _ | exact zr3 (cW_b hW) | exact zr3 (wS_b hW) | exact unx_zr hW _ | exact dcs_zr hW | (unfold zr at *; omega)) (by first | assumption | omega)) dL_isVerdict_336 (by decide) rfl cw_RL_144 okX9_bestYear rfl (Nat.le_of_ble_eq_true rfl) ⟨Nat.le_of_ble_eq_true rfl, Nat.le_of_ble_eq_true rfl, Nat.le_of_ble_eq_true rfl, Nat.le_of_ble_eq_true rfl⟩ (fun τ336 hr336 => ?_)
                  refine zy_top (b := 1450 + ((tR D (Ht D) (wP D (Ht D)) : Nat) : Int)) rfl ?_
                  have hz336 : zOK τ336 := hr336.1
                  refine zx_iloadN dL_isVerdict_339 rfl rfl ?_
                  refine zx_icmp_ne (tgt := 471) (by first | exact hz336 _ _ | assumption | exact zr_b _ | exact zcmp_r _ _ | exact hzD _ _ | exact zr3 (tS_b hW _) | exact zr3 (lsc_b hW _ _) | exact zr3 (sc_b hW _ _) | exact rkP_zr hW _ | exact scA_zr hW _ _ | exact zr3 (cW_b hW) | exact zr3 (wS_b hW) | exact unx_zr hW _ | exact dcs_zr hW | (unfold zr at *; omega)) (by first | exact hz336 _ _ | assumption | exact zr_b _ | exact zcmp_r _ _ | exact hzD _ _ | exact zr3 (tS_b hW _) | exact zr3 (lsc_b hW _ _) | exact zr3 (sc_b hW _ _) | exact rkP_zr hW _ | exact scA_zr hW _ _ | exact zr3 (cW_b hW) | exact zr3 (wS_b hW) | exact unx_zr hW _ | exact dcs_zr hW | (unfold zr at *; omega)) dL_isVerdict_340 (by decide) (fun h340 => ?_) (fun h340 => ?_)
                  · exfalso
                    first
                    | exact h331 rfl
                    | exact h340 rfl
                    | exact h352 rfl
                    | exact h374 hop2.symm
                    | exact h392 hnx2.symm
                    | exact h401 hwt2.symm
                    | exact h413 (by omega)
                    | exact h454 rfl
                    | exact h463 rfl
                    | omega
                  · refine zx_aloadN dL_isVerdict_343 rfl rfl ?_
                    refine zx_iloadN dL_isVerdict_344 rfl rfl ?_
                    refine zy_cvR [zi ((wP D (Ht D) : Nat) : Int)] (fX9_bestScore  hfl hz336 hr336.2.2 hW hP1 (by first | exact hz336 _ _ | assumption | exact zr_b _ | exact zcmp_r _ _ | exact hzD _ _ | exact zr3 (tS_b hW _) | exact zr3 (lsc_b hW _ _) | exact zr3 (sc_b hW _ _) | exact rkP_zr hW _ | exact scA_zr hW _ _ | exact zr3 (cW_b hW) | exact zr3 (wS_b hW) | exact unx_zr hW _ | exact dcs_zr hW | (unfold zr at *; omega)) (by first | assumption | omega)) dL_isVerdict_345 (by decide) rfl cw_RL_147 okX9_bestScore rfl (Nat.le_of_ble_eq_true rfl) ⟨Nat.le_of_ble_eq_true rfl, Nat.le_of_ble_eq_true rfl, Nat.le_of_ble_eq_true rfl, Nat.le_of_ble_eq_true rfl⟩ (fun τ345 hr345 => ?_)
                    refine zy_top (b := tS D (Ht D) (wP D (Ht D))) rfl ?_
                    have hz345 : zOK τ345 := hr345.1
                    refine zx_aloadN dL_isVerdict_348 rfl rfl ?_
                    refine zy_cvR [] (fX9_verdictScore  hfl hz345 hr345.2.2 hW hP1) dL_isVerdict_349 (by decide) rfl cw_RL_189 okX9_verdictScore rfl (Nat.le_of_ble_eq_true rfl) ⟨Nat.le_of_ble_eq_true rfl, Nat.le_of_ble_eq_true rfl, Nat.le_of_ble_eq_true rfl, Nat.le_of_ble_eq_true rfl⟩ (fun τ349 hr349 => ?_)
                    have hz349 : zOK τ349 := hr349.1
                    refine zx_icmp_ne (tgt := 471) (by first | exact hz349 _ _ | assumption | exact zr_b _ | exact zcmp_r _ _ | exact hzD _ _ | exact zr3 (tS_b hW _) | exact zr3 (lsc_b hW _ _) | exact zr3 (sc_b hW _ _) | exact rkP_zr hW _ | exact scA_zr hW _ _ | exact zr3 (cW_b hW) | exact zr3 (wS_b hW) | exact unx_zr hW _ | exact dcs_zr hW | (unfold zr at *; omega)) (by first | exact hz349 _ _ | assumption | exact zr_b _ | exact zcmp_r _ _ | exact hzD _ _ | exact zr3 (tS_b hW _) | exact zr3 (lsc_b hW _ _) | exact zr3 (sc_b hW _ _) | exact rkP_zr hW _ | exact scA_zr hW _ _ | exact zr3 (cW_b hW) | exact zr3 (wS_b hW) | exact unx_zr hW _ | exact dcs_zr hW | (unfold zr at *; omega)) dL_isVerdict_352 (by decide) (fun h352 => ?_) (fun h352 => ?_)
                    · exfalso
                      first
                      | exact h331 rfl
                      | exact h340 rfl
                      | exact h352 rfl
                      | exact h374 hop2.symm
                      | exact h392 hnx2.symm
                      | exact h401 hwt2.symm
                      | exact h413 (by omega)
                      | exact h454 rfl
                      | exact h463 rfl
                      | omega
                    · refine zx_aloadN dL_isVerdict_355 rfl rfl ?_
                      refine zy_cvR [] (fX9_margin  hfl hz349 hr349.2.2 hW hP1) dL_isVerdict_356 (by decide) rfl cw_RL_192 okX9_margin rfl (Nat.le_of_ble_eq_true rfl) ⟨Nat.le_of_ble_eq_true rfl, Nat.le_of_ble_eq_true rfl, Nat.le_of_ble_eq_true rfl, Nat.le_of_ble_eq_true rfl⟩ (fun τ356 hr356 => ?_)
                      have hz356 : zOK τ356 := hr356.1
                      refine zx_iload dL_isVerdict_359 rfl ?_
                      refine zx_icmp_ne (tgt := 471) (by first | exact hz356 _ _ | assumption | exact zr_b _ | exact zcmp_r _ _ | exact hzD _ _ | exact zr3 (tS_b hW _) | exact zr3 (lsc_b hW _ _) | exact zr3 (sc_b hW _ _) | exact rkP_zr hW _ | exact scA_zr hW _ _ | exact zr3 (cW_b hW) | exact zr3 (wS_b hW) | exact unx_zr hW _ | exact dcs_zr hW | (unfold zr at *; omega)) (by first | exact hz356 _ _ | assumption | exact zr_b _ | exact zcmp_r _ _ | exact hzD _ _ | exact zr3 (tS_b hW _) | exact zr3 (lsc_b hW _ _) | exact zr3 (sc_b hW _ _) | exact rkP_zr hW _ | exact scA_zr hW _ _ | exact zr3 (cW_b hW) | exact zr3 (wS_b hW) | exact unx_zr hW _ | exact dcs_zr hW | (unfold zr at *; omega)) dL_isVerdict_361 (by decide) (fun h361 => ?_) (fun h361 => ?_)
                      · exfalso
                        first
                        | exact h331 rfl
                        | exact h340 rfl
                        | exact h352 rfl
                        | exact h374 hop2.symm
                        | exact h392 hnx2.symm
                        | exact h401 hwt2.symm
                        | exact h413 (by omega)
                        | exact h454 rfl
                        | exact h463 rfl
                        | omega
                      · refine zx_iload dL_isVerdict_364 rfl ?_
                        refine zx_if_lt (tgt := 471) (by first | exact hz356 _ _ | assumption | exact zr_b _ | exact zcmp_r _ _ | exact hzD _ _ | exact zr3 (tS_b hW _) | exact zr3 (lsc_b hW _ _) | exact zr3 (sc_b hW _ _) | exact rkP_zr hW _ | exact scA_zr hW _ _ | exact zr3 (cW_b hW) | exact zr3 (wS_b hW) | exact unx_zr hW _ | exact dcs_zr hW | (unfold zr at *; omega)) dL_isVerdict_366 (by decide) (fun h366 => ?_) (fun h366 => ?_)
                        · exfalso
                          first
                          | exact h331 rfl
                          | exact h340 rfl
                          | exact h352 rfl
                          | exact h374 hop2.symm
                          | exact h392 hnx2.symm
                          | exact h401 hwt2.symm
                          | exact h413 (by omega)
                          | exact h454 rfl
                          | exact h463 rfl
                          | omega
                        · refine zx_aloadN dL_isVerdict_369 rfl rfl ?_
                          refine zy_cvR [] (fX9_unexplainedCount  hfl hz356 hr356.2.2 hW hP1) dL_isVerdict_370 (by decide) rfl cw_RL_195 okX9_unexplainedCount rfl (Nat.le_of_ble_eq_true rfl) ⟨Nat.le_of_ble_eq_true rfl, Nat.le_of_ble_eq_true rfl, Nat.le_of_ble_eq_true rfl, Nat.le_of_ble_eq_true rfl⟩ (fun τ370 hr370 => ?_)
                          have hz370 : zOK τ370 := hr370.1
                          refine zx_iloadN dL_isVerdict_373 rfl rfl ?_
                          refine zx_icmp_ne (tgt := 471) (by first | exact hz370 _ _ | assumption | exact zr_b _ | exact zcmp_r _ _ | exact hzD _ _ | exact zr3 (tS_b hW _) | exact zr3 (lsc_b hW _ _) | exact zr3 (sc_b hW _ _) | exact rkP_zr hW _ | exact scA_zr hW _ _ | exact zr3 (cW_b hW) | exact zr3 (wS_b hW) | exact unx_zr hW _ | exact dcs_zr hW | (unfold zr at *; omega)) (by first | exact hz370 _ _ | assumption | exact zr_b _ | exact zcmp_r _ _ | exact hzD _ _ | exact zr3 (tS_b hW _) | exact zr3 (lsc_b hW _ _) | exact zr3 (sc_b hW _ _) | exact rkP_zr hW _ | exact scA_zr hW _ _ | exact zr3 (cW_b hW) | exact zr3 (wS_b hW) | exact unx_zr hW _ | exact dcs_zr hW | (unfold zr at *; omega)) dL_isVerdict_374 (by decide) (fun h374 => ?_) (fun h374 => ?_)
                          · exfalso
                            first
                            | exact h331 rfl
                            | exact h340 rfl
                            | exact h352 rfl
                            | exact h374 hop2.symm
                            | exact h392 hnx2.symm
                            | exact h401 hwt2.symm
                            | exact h413 (by omega)
                            | exact h454 rfl
                            | exact h463 rfl
                            | omega
                          · refine zx_aloadN dL_isVerdict_377 rfl rfl ?_
                            refine zx_iloadN dL_isVerdict_378 rfl rfl ?_
                            refine zy_cvR [zi op] (fX9_unexplainedClue  hfl hz370 hr370.2.2 hW hP1 (by first | exact hz370 _ _ | assumption | exact zr_b _ | exact zcmp_r _ _ | exact hzD _ _ | exact zr3 (tS_b hW _) | exact zr3 (lsc_b hW _ _) | exact zr3 (sc_b hW _ _) | exact rkP_zr hW _ | exact scA_zr hW _ _ | exact zr3 (cW_b hW) | exact zr3 (wS_b hW) | exact unx_zr hW _ | exact dcs_zr hW | (unfold zr at *; omega))) dL_isVerdict_379 (by decide) rfl cw_RL_183 okX9_unexplainedClue rfl (Nat.le_of_ble_eq_true rfl) ⟨Nat.le_of_ble_eq_true rfl, Nat.le_of_ble_eq_true rfl, Nat.le_of_ble_eq_true rfl, Nat.le_of_ble_eq_true rfl⟩ (fun τ379 hr379 => ?_)
                            have hz379 : zOK τ379 := hr379.1
                            refine zy_top (b := -1) (hun) ?_
                            refine zx_iconst dL_isVerdict_382 ?_
                            refine zx_icmp_ne (tgt := 471) (by first | exact hz379 _ _ | assumption | exact zr_b _ | exact zcmp_r _ _ | exact hzD _ _ | exact zr3 (tS_b hW _) | exact zr3 (lsc_b hW _ _) | exact zr3 (sc_b hW _ _) | exact rkP_zr hW _ | exact scA_zr hW _ _ | exact zr3 (cW_b hW) | exact zr3 (wS_b hW) | exact unx_zr hW _ | exact dcs_zr hW | (unfold zr at *; omega)) (by first | exact hz379 _ _ | assumption | exact zr_b _ | exact zcmp_r _ _ | exact hzD _ _ | exact zr3 (tS_b hW _) | exact zr3 (lsc_b hW _ _) | exact zr3 (sc_b hW _ _) | exact rkP_zr hW _ | exact scA_zr hW _ _ | exact zr3 (cW_b hW) | exact zr3 (wS_b hW) | exact unx_zr hW _ | exact dcs_zr hW | (unfold zr at *; omega)) dL_isVerdict_383 (by decide) (fun h383 => ?_) (fun h383 => ?_)
                            · exact absurd h383 (by decide)
                            · refine zx_aloadN dL_isVerdict_386 rfl rfl ?_
                              refine zy_cv [] (fX9_nextClue  hfl hz379 hr379.2.2 hW) dL_isVerdict_387 (by decide) rfl cw_RL_198 okX9_nextClue rfl (Nat.le_of_ble_eq_true rfl) ⟨Nat.le_of_ble_eq_true rfl, Nat.le_of_ble_eq_true rfl, Nat.le_of_ble_eq_true rfl, Nat.le_of_ble_eq_true rfl⟩ ?_
                              refine zx_iload dL_isVerdict_390 rfl ?_
                              refine zx_icmp_ne (tgt := 471) (by first | exact hz379 _ _ | assumption | exact zr_b _ | exact zcmp_r _ _ | exact hzD _ _ | exact zr3 (tS_b hW _) | exact zr3 (lsc_b hW _ _) | exact zr3 (sc_b hW _ _) | exact rkP_zr hW _ | exact scA_zr hW _ _ | exact zr3 (cW_b hW) | exact zr3 (wS_b hW) | exact unx_zr hW _ | exact dcs_zr hW | (unfold zr at *; omega)) (by first | exact hz379 _ _ | assumption | exact zr_b _ | exact zcmp_r _ _ | exact hzD _ _ | exact zr3 (tS_b hW _) | exact zr3 (lsc_b hW _ _) | exact zr3 (sc_b hW _ _) | exact rkP_zr hW _ | exact scA_zr hW _ _ | exact zr3 (cW_b hW) | exact zr3 (wS_b hW) | exact unx_zr hW _ | exact dcs_zr hW | (unfold zr at *; omega)) dL_isVerdict_392 (by decide) (fun h392 => ?_) (fun h392 => ?_)
                              · exfalso
                                first
                                | exact h331 rfl
                                | exact h340 rfl
                                | exact h352 rfl
                                | exact h374 hop2.symm
                                | exact h392 hnx2.symm
                                | exact h401 hwt2.symm
                                | exact h413 (by omega)
                                | exact h454 rfl
                                | exact h463 rfl
                                | omega
                              · refine zx_aloadN dL_isVerdict_395 rfl rfl ?_
                                refine zy_cv [] (fX9_countingWeight  hfl hz379 hr379.2.2 hW) dL_isVerdict_396 (by decide) rfl cw_RL_101 okX9_countingWeight rfl (Nat.le_of_ble_eq_true rfl) ⟨Nat.le_of_ble_eq_true rfl, Nat.le_of_ble_eq_true rfl, Nat.le_of_ble_eq_true rfl, Nat.le_of_ble_eq_true rfl⟩ ?_
                                refine zx_iload dL_isVerdict_399 rfl ?_
                                refine zx_icmp_ne (tgt := 471) (by first | exact hz379 _ _ | assumption | exact zr_b _ | exact zcmp_r _ _ | exact hzD _ _ | exact zr3 (tS_b hW _) | exact zr3 (lsc_b hW _ _) | exact zr3 (sc_b hW _ _) | exact rkP_zr hW _ | exact scA_zr hW _ _ | exact zr3 (cW_b hW) | exact zr3 (wS_b hW) | exact unx_zr hW _ | exact dcs_zr hW | (unfold zr at *; omega)) (by first | exact hz379 _ _ | assumption | exact zr_b _ | exact zcmp_r _ _ | exact hzD _ _ | exact zr3 (tS_b hW _) | exact zr3 (lsc_b hW _ _) | exact zr3 (sc_b hW _ _) | exact rkP_zr hW _ | exact scA_zr hW _ _ | exact zr3 (cW_b hW) | exact zr3 (wS_b hW) | exact unx_zr hW _ | exact dcs_zr hW | (unfold zr at *; omega)) dL_isVerdict_401 (by decide) (fun h401 => ?_) (fun h401 => ?_)
                                · exfalso
                                  first
                                  | exact h331 rfl
                                  | exact h340 rfl
                                  | exact h352 rfl
                                  | exact h374 hop2.symm
                                  | exact h392 hnx2.symm
                                  | exact h401 hwt2.symm
                                  | exact h413 (by omega)
                                  | exact h454 rfl
                                  | exact h463 rfl
                                  | omega
                                · refine zx_aloadN dL_isVerdict_404 rfl rfl ?_
                                  refine zy_cvR [] (fX9_verdictScore  hfl hz379 hr379.2.2 hW hP1) dL_isVerdict_405 (by decide) rfl cw_RL_189 okX9_verdictScore rfl (Nat.le_of_ble_eq_true rfl) ⟨Nat.le_of_ble_eq_true rfl, Nat.le_of_ble_eq_true rfl, Nat.le_of_ble_eq_true rfl, Nat.le_of_ble_eq_true rfl⟩ (fun τ405 hr405 => ?_)
                                  have hz405 : zOK τ405 := hr405.1
                                  refine zx_iload dL_isVerdict_408 rfl ?_
                                  refine zx_iadd dL_isVerdict_410 ?_
                                  refine zx_iload dL_isVerdict_411 rfl ?_
                                  refine zx_icmp_ne (tgt := 471) (by first | exact hz405 _ _ | assumption | exact zr_b _ | exact zcmp_r _ _ | exact hzD _ _ | exact zr3 (tS_b hW _) | exact zr3 (lsc_b hW _ _) | exact zr3 (sc_b hW _ _) | exact rkP_zr hW _ | exact scA_zr hW _ _ | exact zr3 (cW_b hW) | exact zr3 (wS_b hW) | exact unx_zr hW _ | exact dcs_zr hW | (unfold zr at *; omega)) (by first | exact hz405 _ _ | assumption | exact zr_b _ | exact zcmp_r _ _ | exact hzD _ _ | exact zr3 (tS_b hW _) | exact zr3 (lsc_b hW _ _) | exact zr3 (sc_b hW _ _) | exact rkP_zr hW _ | exact scA_zr hW _ _ | exact zr3 (cW_b hW) | exact zr3 (wS_b hW) | exact unx_zr hW _ | exact dcs_zr hW | (unfold zr at *; omega)) dL_isVerdict_413 (by decide) (fun h413 => ?_) (fun h413 => ?_)
                                  · exfalso
                                    first
                                    | exact h331 rfl
                                    | exact h340 rfl
                                    | exact h352 rfl
                                    | exact h374 hop2.symm
                                    | exact h392 hnx2.symm
                                    | exact h401 hwt2.symm
                                    | exact h413 (by omega)
                                    | exact h454 rfl
                                    | exact h463 rfl
                                    | omega
                                  · refine zx_aloadN dL_isVerdict_416 rfl rfl ?_
                                    refine zy_cvR [] (fX9_confidence  hfl hz405 hr405.2.2 hW hP1) dL_isVerdict_417 (by decide) rfl cw_RL_201 okX9_confidence rfl (Nat.le_of_ble_eq_true rfl) ⟨Nat.le_of_ble_eq_true rfl, Nat.le_of_ble_eq_true rfl, Nat.le_of_ble_eq_true rfl, Nat.le_of_ble_eq_true rfl⟩ (fun τ417 hr417 => ?_)
                                    have hz417 : zOK τ417 := hr417.1
                                    refine zx_iload dL_isVerdict_420 rfl ?_
                                    refine zx_if_ne (tgt := 429) (by first | exact hz417 _ _ | assumption | exact zr_b _ | exact zcmp_r _ _ | exact hzD _ _ | exact zr3 (tS_b hW _) | exact zr3 (lsc_b hW _ _) | exact zr3 (sc_b hW _ _) | exact rkP_zr hW _ | exact scA_zr hW _ _ | exact zr3 (cW_b hW) | exact zr3 (wS_b hW) | exact unx_zr hW _ | exact dcs_zr hW | (unfold zr at *; omega)) dL_isVerdict_422 (by decide) (fun h422 => ?_) (fun h422 => ?_)
                                    · refine zx_aloadN dL_isVerdict_429 rfl rfl ?_
                                      refine zy_cvR [] (fX9_verdictScore  hfl hz417 hr417.2.2 hW hP1) dL_isVerdict_430 (by decide) rfl cw_RL_189 okX9_verdictScore rfl (Nat.le_of_ble_eq_true rfl) ⟨Nat.le_of_ble_eq_true rfl, Nat.le_of_ble_eq_true rfl, Nat.le_of_ble_eq_true rfl, Nat.le_of_ble_eq_true rfl⟩ (fun τ430 hr430 => ?_)
                                      have hz430 : zOK τ430 := hr430.1
                                      refine zx_i2d dL_isVerdict_433 ?_
                                      refine zx_iload dL_isVerdict_434 rfl ?_
                                      refine zx_i2d dL_isVerdict_436 ?_
                                      refine zx_ddiv (ddiv_n (by unfold zr; omega) h422) dL_isVerdict_437 ?_
                                      refine zx_dcmp (a := 0) (dc_1 hW hwt2 h422) dL_isVerdict_438 ?_
                                      refine zx_if_ne (tgt := 471) (by unfold zr; omega) dL_isVerdict_439 (by decide) (fun h439 => ?_) (fun h439 => ?_)
                                      · exact absurd h439 (by decide)
                                      · refine zx_aloadN dL_isVerdict_442 rfl rfl ?_
                                        refine zy_cvR [] (fX9_rankingErrors  hfl hz430 hr430.2.2 hW hP1) dL_isVerdict_443 (by decide) rfl cw_RL_205 okX9_rankingErrors rfl (Nat.le_of_ble_eq_true rfl) ⟨Nat.le_of_ble_eq_true rfl, Nat.le_of_ble_eq_true rfl, Nat.le_of_ble_eq_true rfl, Nat.le_of_ble_eq_true rfl⟩ (fun τ443 hr443 => ?_)
                                        have hz443 : zOK τ443 := hr443.1
                                        refine zx_if_ne (tgt := 471) (by unfold zr; omega) dL_isVerdict_446 (by decide) (fun h446 => ?_) (fun h446 => ?_)
                                        · exact absurd h446 (by decide)
                                        · refine zx_aloadN dL_isVerdict_449 rfl rfl ?_
                                          refine zx_iconst dL_isVerdict_450 ?_
                                          refine zy_cvR [zi 0] (fX9_printerAfter  hfl hz443 hr443.2.2 hW hP1 (by first | exact hz443 _ _ | assumption | exact zr_b _ | exact zcmp_r _ _ | exact hzD _ _ | exact zr3 (tS_b hW _) | exact zr3 (lsc_b hW _ _) | exact zr3 (sc_b hW _ _) | exact rkP_zr hW _ | exact scA_zr hW _ _ | exact zr3 (cW_b hW) | exact zr3 (wS_b hW) | exact unx_zr hW _ | exact dcs_zr hW | (unfold zr at *; omega)) (by first | assumption | omega)) dL_isVerdict_451 (by decide) rfl cw_RL_208 okX9_printerAfter rfl (Nat.le_of_ble_eq_true rfl) ⟨Nat.le_of_ble_eq_true rfl, Nat.le_of_ble_eq_true rfl, Nat.le_of_ble_eq_true rfl, Nat.le_of_ble_eq_true rfl⟩ (fun τ451 hr451 => ?_)
                                          have hz451 : zOK τ451 := hr451.1
                                          refine zy_top (b := ((wP D (Ht D) : Nat) : Int)) (congrArg (fun n : Nat => (n : Int)) (wP_hc (fun c hc => Hd_Ht hW hc))) ?_
                                          refine zx_iloadN dL_isVerdict_454 rfl rfl ?_
                                          refine zx_icmp_ne (tgt := 471) (by first | exact hz451 _ _ | assumption | exact zr_b _ | exact zcmp_r _ _ | exact hzD _ _ | exact zr3 (tS_b hW _) | exact zr3 (lsc_b hW _ _) | exact zr3 (sc_b hW _ _) | exact rkP_zr hW _ | exact scA_zr hW _ _ | exact zr3 (cW_b hW) | exact zr3 (wS_b hW) | exact unx_zr hW _ | exact dcs_zr hW | (unfold zr at *; omega)) (by first | exact hz451 _ _ | assumption | exact zr_b _ | exact zcmp_r _ _ | exact hzD _ _ | exact zr3 (tS_b hW _) | exact zr3 (lsc_b hW _ _) | exact zr3 (sc_b hW _ _) | exact rkP_zr hW _ | exact scA_zr hW _ _ | exact zr3 (cW_b hW) | exact zr3 (wS_b hW) | exact unx_zr hW _ | exact dcs_zr hW | (unfold zr at *; omega)) dL_isVerdict_455 (by decide) (fun h455 => ?_) (fun h455 => ?_)
                                          · exfalso
                                            first
                                            | exact h331 rfl
                                            | exact h340 rfl
                                            | exact h352 rfl
                                            | exact h374 hop2.symm
                                            | exact h392 hnx2.symm
                                            | exact h401 hwt2.symm
                                            | exact h413 (by omega)
                                            | exact h454 rfl
                                            | exact h463 rfl
                                            | omega
                                          · refine zx_aloadN dL_isVerdict_458 rfl rfl ?_
                                            refine zx_iconst dL_isVerdict_459 ?_
                                            refine zy_cvR [zi 0] (fX9_yearAfter  hfl hz451 hr451.2.2 hW hP1 (by first | exact hz451 _ _ | assumption | exact zr_b _ | exact zcmp_r _ _ | exact hzD _ _ | exact zr3 (tS_b hW _) | exact zr3 (lsc_b hW _ _) | exact zr3 (sc_b hW _ _) | exact rkP_zr hW _ | exact scA_zr hW _ _ | exact zr3 (cW_b hW) | exact zr3 (wS_b hW) | exact unx_zr hW _ | exact dcs_zr hW | (unfold zr at *; omega)) (by first | assumption | omega)) dL_isVerdict_460 (by decide) rfl cw_RL_211 okX9_yearAfter rfl (Nat.le_of_ble_eq_true rfl) ⟨Nat.le_of_ble_eq_true rfl, Nat.le_of_ble_eq_true rfl, Nat.le_of_ble_eq_true rfl, Nat.le_of_ble_eq_true rfl⟩ (fun τ460 hr460 => ?_)
                                            have hz460 : zOK τ460 := hr460.1
                                            refine zy_top (b := wY D (Ht D)) (wY_hc (fun c hc => Hd_Ht hW hc)) ?_
                                            refine zx_iloadN dL_isVerdict_463 rfl rfl ?_
                                            refine zx_icmp_ne (tgt := 471) (by first | exact hz460 _ _ | assumption | exact zr_b _ | exact zcmp_r _ _ | exact hzD _ _ | exact zr3 (tS_b hW _) | exact zr3 (lsc_b hW _ _) | exact zr3 (sc_b hW _ _) | exact rkP_zr hW _ | exact scA_zr hW _ _ | exact zr3 (cW_b hW) | exact zr3 (wS_b hW) | exact unx_zr hW _ | exact dcs_zr hW | (unfold zr at *; omega)) (by first | exact hz460 _ _ | assumption | exact zr_b _ | exact zcmp_r _ _ | exact hzD _ _ | exact zr3 (tS_b hW _) | exact zr3 (lsc_b hW _ _) | exact zr3 (sc_b hW _ _) | exact rkP_zr hW _ | exact scA_zr hW _ _ | exact zr3 (cW_b hW) | exact zr3 (wS_b hW) | exact unx_zr hW _ | exact dcs_zr hW | (unfold zr at *; omega)) dL_isVerdict_464 (by decide) (fun h464 => ?_) (fun h464 => ?_)
                                            · exfalso
                                              first
                                              | exact h331 rfl
                                              | exact h340 rfl
                                              | exact h352 rfl
                                              | exact h374 hop2.symm
                                              | exact h392 hnx2.symm
                                              | exact h401 hwt2.symm
                                              | exact h413 (by omega)
                                              | exact h454 rfl
                                              | exact h463 rfl
                                              | omega
                                            · refine zx_iconst dL_isVerdict_467 ?_
                                              refine zx_goto (tgt := 472) dL_isVerdict_468 (by decide) ?_
                                              refine zx_iret rfl rfl dL_isVerdict_472 ?_
                                              rw [hQ]
                                              refine ⟨congrArg (fun z : Int => (Sum.inl (some (zi z)) : Option zV ⊕ String)) ?_, ?_⟩
                                              · first | rfl | assumption | omega
                                              exact ⟨hz460, (zJ (zJ (zJ (zJ (zJ (zJ (zJ (zJ (zJ (zJ (zJ (zJ (zJ (zJ (zJ (zJ hF hr298.2.1) hr304.2.1) hr319.2.1) hr327.2.1) hr336.2.1) hr345.2.1) hr349.2.1) hr356.2.1) hr370.2.1) hr379.2.1) hr405.2.1) hr417.2.1) hr430.2.1) hr443.2.1) hr451.2.1) hr460.2.1), hr460.2.2⟩
                                    · refine zx_dconst0 dL_isVerdict_425 ?_
                                      refine zx_goto (tgt := 438) dL_isVerdict_426 (by decide) ?_
                                      refine zx_dcmp (a := 0) (dc_0 (by omega)) dL_isVerdict_438 ?_
                                      refine zx_if_ne (tgt := 471) (by unfold zr; omega) dL_isVerdict_439 (by decide) (fun h439 => ?_) (fun h439 => ?_)
                                      · exact absurd h439 (by decide)
                                      · refine zx_aloadN dL_isVerdict_442 rfl rfl ?_
                                        refine zy_cvR [] (fX9_rankingErrors  hfl hz417 hr417.2.2 hW hP1) dL_isVerdict_443 (by decide) rfl cw_RL_205 okX9_rankingErrors rfl (Nat.le_of_ble_eq_true rfl) ⟨Nat.le_of_ble_eq_true rfl, Nat.le_of_ble_eq_true rfl, Nat.le_of_ble_eq_true rfl, Nat.le_of_ble_eq_true rfl⟩ (fun τ443 hr443 => ?_)
                                        have hz443 : zOK τ443 := hr443.1
                                        refine zx_if_ne (tgt := 471) (by unfold zr; omega) dL_isVerdict_446 (by decide) (fun h446 => ?_) (fun h446 => ?_)
                                        · exact absurd h446 (by decide)
                                        · refine zx_aloadN dL_isVerdict_449 rfl rfl ?_
                                          refine zx_iconst dL_isVerdict_450 ?_
                                          refine zy_cvR [zi 0] (fX9_printerAfter  hfl hz443 hr443.2.2 hW hP1 (by first | exact hz443 _ _ | assumption | exact zr_b _ | exact zcmp_r _ _ | exact hzD _ _ | exact zr3 (tS_b hW _) | exact zr3 (lsc_b hW _ _) | exact zr3 (sc_b hW _ _) | exact rkP_zr hW _ | exact scA_zr hW _ _ | exact zr3 (cW_b hW) | exact zr3 (wS_b hW) | exact unx_zr hW _ | exact dcs_zr hW | (unfold zr at *; omega)) (by first | assumption | omega)) dL_isVerdict_451 (by decide) rfl cw_RL_208 okX9_printerAfter rfl (Nat.le_of_ble_eq_true rfl) ⟨Nat.le_of_ble_eq_true rfl, Nat.le_of_ble_eq_true rfl, Nat.le_of_ble_eq_true rfl, Nat.le_of_ble_eq_true rfl⟩ (fun τ451 hr451 => ?_)
                                          have hz451 : zOK τ451 := hr451.1
                                          refine zy_top (b := ((wP D (Ht D) : Nat) : Int)) (congrArg (fun n : Nat => (n : Int)) (wP_hc (fun c hc => Hd_Ht hW hc))) ?_
                                          refine zx_iloadN dL_isVerdict_454 rfl rfl ?_
                                          refine zx_icmp_ne (tgt := 471) (by first | exact hz451 _ _ | assumption | exact zr_b _ | exact zcmp_r _ _ | exact hzD _ _ | exact zr3 (tS_b hW _) | exact zr3 (lsc_b hW _ _) | exact zr3 (sc_b hW _ _) | exact rkP_zr hW _ | exact scA_zr hW _ _ | exact zr3 (cW_b hW) | exact zr3 (wS_b hW) | exact unx_zr hW _ | exact dcs_zr hW | (unfold zr at *; omega)) (by first | exact hz451 _ _ | assumption | exact zr_b _ | exact zcmp_r _ _ | exact hzD _ _ | exact zr3 (tS_b hW _) | exact zr3 (lsc_b hW _ _) | exact zr3 (sc_b hW _ _) | exact rkP_zr hW _ | exact scA_zr hW _ _ | exact zr3 (cW_b hW) | exact zr3 (wS_b hW) | exact unx_zr hW _ | exact dcs_zr hW | (unfold zr at *; omega)) dL_isVerdict_455 (by decide) (fun h455 => ?_) (fun h455 => ?_)
                                          · exfalso
                                            first
                                            | exact h331 rfl
                                            | exact h340 rfl
                                            | exact h352 rfl
                                            | exact h374 hop2.symm
                                            | exact h392 hnx2.symm
                                            | exact h401 hwt2.symm
                                            | exact h413 (by omega)
                                            | exact h454 rfl
                                            | exact h463 rfl
                                            | omega
                                          · refine zx_aloadN dL_isVerdict_458 rfl rfl ?_
                                            refine zx_iconst dL_isVerdict_459 ?_
                                            refine zy_cvR [zi 0] (fX9_yearAfter  hfl hz451 hr451.2.2 hW hP1 (by first | exact hz451 _ _ | assumption | exact zr_b _ | exact zcmp_r _ _ | exact hzD _ _ | exact zr3 (tS_b hW _) | exact zr3 (lsc_b hW _ _) | exact zr3 (sc_b hW _ _) | exact rkP_zr hW _ | exact scA_zr hW _ _ | exact zr3 (cW_b hW) | exact zr3 (wS_b hW) | exact unx_zr hW _ | exact dcs_zr hW | (unfold zr at *; omega)) (by first | assumption | omega)) dL_isVerdict_460 (by decide) rfl cw_RL_211 okX9_yearAfter rfl (Nat.le_of_ble_eq_true rfl) ⟨Nat.le_of_ble_eq_true rfl, Nat.le_of_ble_eq_true rfl, Nat.le_of_ble_eq_true rfl, Nat.le_of_ble_eq_true rfl⟩ (fun τ460 hr460 => ?_)
                                            have hz460 : zOK τ460 := hr460.1
                                            refine zy_top (b := wY D (Ht D)) (wY_hc (fun c hc => Hd_Ht hW hc)) ?_
                                            refine zx_iloadN dL_isVerdict_463 rfl rfl ?_
                                            refine zx_icmp_ne (tgt := 471) (by first | exact hz460 _ _ | assumption | exact zr_b _ | exact zcmp_r _ _ | exact hzD _ _ | exact zr3 (tS_b hW _) | exact zr3 (lsc_b hW _ _) | exact zr3 (sc_b hW _ _) | exact rkP_zr hW _ | exact scA_zr hW _ _ | exact zr3 (cW_b hW) | exact zr3 (wS_b hW) | exact unx_zr hW _ | exact dcs_zr hW | (unfold zr at *; omega)) (by first | exact hz460 _ _ | assumption | exact zr_b _ | exact zcmp_r _ _ | exact hzD _ _ | exact zr3 (tS_b hW _) | exact zr3 (lsc_b hW _ _) | exact zr3 (sc_b hW _ _) | exact rkP_zr hW _ | exact scA_zr hW _ _ | exact zr3 (cW_b hW) | exact zr3 (wS_b hW) | exact unx_zr hW _ | exact dcs_zr hW | (unfold zr at *; omega)) dL_isVerdict_464 (by decide) (fun h464 => ?_) (fun h464 => ?_)
                                            · exfalso
                                              first
                                              | exact h331 rfl
                                              | exact h340 rfl
                                              | exact h352 rfl
                                              | exact h374 hop2.symm
                                              | exact h392 hnx2.symm
                                              | exact h401 hwt2.symm
                                              | exact h413 (by omega)
                                              | exact h454 rfl
                                              | exact h463 rfl
                                              | omega
                                            · refine zx_iconst dL_isVerdict_467 ?_
                                              refine zx_goto (tgt := 472) dL_isVerdict_468 (by decide) ?_
                                              refine zx_iret rfl rfl dL_isVerdict_472 ?_
                                              rw [hQ]
                                              refine ⟨congrArg (fun z : Int => (Sum.inl (some (zi z)) : Option zV ⊕ String)) ?_, ?_⟩
                                              · first | rfl | assumption | omega
                                              exact ⟨hz460, (zJ (zJ (zJ (zJ (zJ (zJ (zJ (zJ (zJ (zJ (zJ (zJ (zJ (zJ (zJ hF hr298.2.1) hr304.2.1) hr319.2.1) hr327.2.1) hr336.2.1) hr345.2.1) hr349.2.1) hr356.2.1) hr370.2.1) hr379.2.1) hr405.2.1) hr417.2.1) hr443.2.1) hr451.2.1) hr460.2.1), hr460.2.2⟩
              · refine zx_iconst dL_isVerdict_312 ?_
                refine zx_goto (tgt := 322) dL_isVerdict_313 (by decide) ?_
                refine zx_isub dL_isVerdict_322 ?_
                refine zy_istore [zf 9 0, zi ((wP D (Ht D) : Nat) : Int), zi (wY D (Ht D)), zi op, zi ms, zi nx, zi wt, zi (rkP D (Ht D) 1), zi ((wS D (Ht D)) - 0), zu] dL_isVerdict_323 (Nat.le_of_ble_eq_true rfl) (Nat.le_of_ble_eq_true rfl) rfl rfl ?_
                refine zx_aloadN dL_isVerdict_325 rfl rfl ?_
                refine zx_iconst dL_isVerdict_326 ?_
                refine zy_cvR [zi 0] (fX9_printerByRank  hfl hz304 hr304.2.2 hW hP1 (by first | exact hz304 _ _ | assumption | exact zr_b _ | exact zcmp_r _ _ | exact hzD _ _ | exact zr3 (tS_b hW _) | exact zr3 (lsc_b hW _ _) | exact zr3 (sc_b hW _ _) | exact rkP_zr hW _ | exact scA_zr hW _ _ | exact zr3 (cW_b hW) | exact zr3 (wS_b hW) | exact unx_zr hW _ | exact dcs_zr hW | (unfold zr at *; omega))) dL_isVerdict_327 (by decide) rfl cw_RL_186 okX9_printerByRank rfl (Nat.le_of_ble_eq_true rfl) ⟨Nat.le_of_ble_eq_true rfl, Nat.le_of_ble_eq_true rfl, Nat.le_of_ble_eq_true rfl, Nat.le_of_ble_eq_true rfl⟩ (fun τ327 hr327 => ?_)
                have hz327 : zOK τ327 := hr327.1
                refine zy_top (b := ((wP D (Ht D) : Nat) : Int)) (wP_e hW hP1) ?_
                refine zx_iloadN dL_isVerdict_330 rfl rfl ?_
                refine zx_icmp_ne (tgt := 471) (by first | exact hz327 _ _ | assumption | exact zr_b _ | exact zcmp_r _ _ | exact hzD _ _ | exact zr3 (tS_b hW _) | exact zr3 (lsc_b hW _ _) | exact zr3 (sc_b hW _ _) | exact rkP_zr hW _ | exact scA_zr hW _ _ | exact zr3 (cW_b hW) | exact zr3 (wS_b hW) | exact unx_zr hW _ | exact dcs_zr hW | (unfold zr at *; omega)) (by first | exact hz327 _ _ | assumption | exact zr_b _ | exact zcmp_r _ _ | exact hzD _ _ | exact zr3 (tS_b hW _) | exact zr3 (lsc_b hW _ _) | exact zr3 (sc_b hW _ _) | exact rkP_zr hW _ | exact scA_zr hW _ _ | exact zr3 (cW_b hW) | exact zr3 (wS_b hW) | exact unx_zr hW _ | exact dcs_zr hW | (unfold zr at *; omega)) dL_isVerdict_331 (by decide) (fun h331 => ?_) (fun h331 => ?_)
                · exfalso
                  first
                  | exact h331 rfl
                  | exact h340 rfl
                  | exact h352 rfl
                  | exact h374 hop2.symm
                  | exact h392 hnx2.symm
                  | exact h401 hwt2.symm
                  | exact h413 (by omega)
                  | exact h454 rfl
                  | exact h463 rfl
                  | omega
                · refine zx_aloadN dL_isVerdict_334 rfl rfl ?_
                  refine zx_iloadN dL_isVerdict_335 rfl rfl ?_
                  refine zy_cvR [zi ((wP D (Ht D) : Nat) : Int)] (fX9_bestYear  hfl hz327 hr327.2.2 hW hP1 (by first | exact hz327 _ _ | assumption | exact zr_b _ | exact zcmp_r _ _ | exact hzD _ _ | exact zr3 (tS_b hW _) | exact zr3 (lsc_b hW _ _) | exact zr3 (sc_b hW _ _) | exact rkP_zr hW _ | exact scA_zr hW _ _ | exact zr3 (cW_b hW) | exact zr3 (wS_b hW) | exact unx_zr hW _ | exact dcs_zr hW | (unfold zr at *; omega)) (by first | assumption | omega)) dL_isVerdict_336 (by decide) rfl cw_RL_144 okX9_bestYear rfl (Nat.le_of_ble_eq_true rfl) ⟨Nat.le_of_ble_eq_true rfl, Nat.le_of_ble_eq_true rfl, Nat.le_of_ble_eq_true rfl, Nat.le_of_ble_eq_true rfl⟩ (fun τ336 hr336 => ?_)
                  refine zy_top (b := 1450 + ((tR D (Ht D) (wP D (Ht D)) : Nat) : Int)) rfl ?_
                  have hz336 : zOK τ336 := hr336.1
                  refine zx_iloadN dL_isVerdict_339 rfl rfl ?_
                  refine zx_icmp_ne (tgt := 471) (by first | exact hz336 _ _ | assumption | exact zr_b _ | exact zcmp_r _ _ | exact hzD _ _ | exact zr3 (tS_b hW _) | exact zr3 (lsc_b hW _ _) | exact zr3 (sc_b hW _ _) | exact rkP_zr hW _ | exact scA_zr hW _ _ | exact zr3 (cW_b hW) | exact zr3 (wS_b hW) | exact unx_zr hW _ | exact dcs_zr hW | (unfold zr at *; omega)) (by first | exact hz336 _ _ | assumption | exact zr_b _ | exact zcmp_r _ _ | exact hzD _ _ | exact zr3 (tS_b hW _) | exact zr3 (lsc_b hW _ _) | exact zr3 (sc_b hW _ _) | exact rkP_zr hW _ | exact scA_zr hW _ _ | exact zr3 (cW_b hW) | exact zr3 (wS_b hW) | exact unx_zr hW _ | exact dcs_zr hW | (unfold zr at *; omega)) dL_isVerdict_340 (by decide) (fun h340 => ?_) (fun h340 => ?_)
                  · exfalso
                    first
                    | exact h331 rfl
                    | exact h340 rfl
                    | exact h352 rfl
                    | exact h374 hop2.symm
                    | exact h392 hnx2.symm
                    | exact h401 hwt2.symm
                    | exact h413 (by omega)
                    | exact h454 rfl
                    | exact h463 rfl
                    | omega
                  · refine zx_aloadN dL_isVerdict_343 rfl rfl ?_
                    refine zx_iloadN dL_isVerdict_344 rfl rfl ?_
                    refine zy_cvR [zi ((wP D (Ht D) : Nat) : Int)] (fX9_bestScore  hfl hz336 hr336.2.2 hW hP1 (by first | exact hz336 _ _ | assumption | exact zr_b _ | exact zcmp_r _ _ | exact hzD _ _ | exact zr3 (tS_b hW _) | exact zr3 (lsc_b hW _ _) | exact zr3 (sc_b hW _ _) | exact rkP_zr hW _ | exact scA_zr hW _ _ | exact zr3 (cW_b hW) | exact zr3 (wS_b hW) | exact unx_zr hW _ | exact dcs_zr hW | (unfold zr at *; omega)) (by first | assumption | omega)) dL_isVerdict_345 (by decide) rfl cw_RL_147 okX9_bestScore rfl (Nat.le_of_ble_eq_true rfl) ⟨Nat.le_of_ble_eq_true rfl, Nat.le_of_ble_eq_true rfl, Nat.le_of_ble_eq_true rfl, Nat.le_of_ble_eq_true rfl⟩ (fun τ345 hr345 => ?_)
                    refine zy_top (b := tS D (Ht D) (wP D (Ht D))) rfl ?_
                    have hz345 : zOK τ345 := hr345.1
                    refine zx_aloadN dL_isVerdict_348 rfl rfl ?_
                    refine zy_cvR [] (fX9_verdictScore  hfl hz345 hr345.2.2 hW hP1) dL_isVerdict_349 (by decide) rfl cw_RL_189 okX9_verdictScore rfl (Nat.le_of_ble_eq_true rfl) ⟨Nat.le_of_ble_eq_true rfl, Nat.le_of_ble_eq_true rfl, Nat.le_of_ble_eq_true rfl, Nat.le_of_ble_eq_true rfl⟩ (fun τ349 hr349 => ?_)
                    have hz349 : zOK τ349 := hr349.1
                    refine zx_icmp_ne (tgt := 471) (by first | exact hz349 _ _ | assumption | exact zr_b _ | exact zcmp_r _ _ | exact hzD _ _ | exact zr3 (tS_b hW _) | exact zr3 (lsc_b hW _ _) | exact zr3 (sc_b hW _ _) | exact rkP_zr hW _ | exact scA_zr hW _ _ | exact zr3 (cW_b hW) | exact zr3 (wS_b hW) | exact unx_zr hW _ | exact dcs_zr hW | (unfold zr at *; omega)) (by first | exact hz349 _ _ | assumption | exact zr_b _ | exact zcmp_r _ _ | exact hzD _ _ | exact zr3 (tS_b hW _) | exact zr3 (lsc_b hW _ _) | exact zr3 (sc_b hW _ _) | exact rkP_zr hW _ | exact scA_zr hW _ _ | exact zr3 (cW_b hW) | exact zr3 (wS_b hW) | exact unx_zr hW _ | exact dcs_zr hW | (unfold zr at *; omega)) dL_isVerdict_352 (by decide) (fun h352 => ?_) (fun h352 => ?_)
                    · exfalso
                      first
                      | exact h331 rfl
                      | exact h340 rfl
                      | exact h352 rfl
                      | exact h374 hop2.symm
                      | exact h392 hnx2.symm
                      | exact h401 hwt2.symm
                      | exact h413 (by omega)
                      | exact h454 rfl
                      | exact h463 rfl
                      | omega
                    · refine zx_aloadN dL_isVerdict_355 rfl rfl ?_
                      refine zy_cvR [] (fX9_margin  hfl hz349 hr349.2.2 hW hP1) dL_isVerdict_356 (by decide) rfl cw_RL_192 okX9_margin rfl (Nat.le_of_ble_eq_true rfl) ⟨Nat.le_of_ble_eq_true rfl, Nat.le_of_ble_eq_true rfl, Nat.le_of_ble_eq_true rfl, Nat.le_of_ble_eq_true rfl⟩ (fun τ356 hr356 => ?_)
                      have hz356 : zOK τ356 := hr356.1
                      refine zx_iload dL_isVerdict_359 rfl ?_
                      refine zx_icmp_ne (tgt := 471) (by first | exact hz356 _ _ | assumption | exact zr_b _ | exact zcmp_r _ _ | exact hzD _ _ | exact zr3 (tS_b hW _) | exact zr3 (lsc_b hW _ _) | exact zr3 (sc_b hW _ _) | exact rkP_zr hW _ | exact scA_zr hW _ _ | exact zr3 (cW_b hW) | exact zr3 (wS_b hW) | exact unx_zr hW _ | exact dcs_zr hW | (unfold zr at *; omega)) (by first | exact hz356 _ _ | assumption | exact zr_b _ | exact zcmp_r _ _ | exact hzD _ _ | exact zr3 (tS_b hW _) | exact zr3 (lsc_b hW _ _) | exact zr3 (sc_b hW _ _) | exact rkP_zr hW _ | exact scA_zr hW _ _ | exact zr3 (cW_b hW) | exact zr3 (wS_b hW) | exact unx_zr hW _ | exact dcs_zr hW | (unfold zr at *; omega)) dL_isVerdict_361 (by decide) (fun h361 => ?_) (fun h361 => ?_)
                      · exfalso
                        first
                        | exact h331 rfl
                        | exact h340 rfl
                        | exact h352 rfl
                        | exact h374 hop2.symm
                        | exact h392 hnx2.symm
                        | exact h401 hwt2.symm
                        | exact h413 (by omega)
                        | exact h454 rfl
                        | exact h463 rfl
                        | omega
                      · refine zx_iload dL_isVerdict_364 rfl ?_
                        refine zx_if_lt (tgt := 471) (by first | exact hz356 _ _ | assumption | exact zr_b _ | exact zcmp_r _ _ | exact hzD _ _ | exact zr3 (tS_b hW _) | exact zr3 (lsc_b hW _ _) | exact zr3 (sc_b hW _ _) | exact rkP_zr hW _ | exact scA_zr hW _ _ | exact zr3 (cW_b hW) | exact zr3 (wS_b hW) | exact unx_zr hW _ | exact dcs_zr hW | (unfold zr at *; omega)) dL_isVerdict_366 (by decide) (fun h366 => ?_) (fun h366 => ?_)
                        · exfalso
                          first
                          | exact h331 rfl
                          | exact h340 rfl
                          | exact h352 rfl
                          | exact h374 hop2.symm
                          | exact h392 hnx2.symm
                          | exact h401 hwt2.symm
                          | exact h413 (by omega)
                          | exact h454 rfl
                          | exact h463 rfl
                          | omega
                        · refine zx_aloadN dL_isVerdict_369 rfl rfl ?_
                          refine zy_cvR [] (fX9_unexplainedCount  hfl hz356 hr356.2.2 hW hP1) dL_isVerdict_370 (by decide) rfl cw_RL_195 okX9_unexplainedCount rfl (Nat.le_of_ble_eq_true rfl) ⟨Nat.le_of_ble_eq_true rfl, Nat.le_of_ble_eq_true rfl, Nat.le_of_ble_eq_true rfl, Nat.le_of_ble_eq_true rfl⟩ (fun τ370 hr370 => ?_)
                          have hz370 : zOK τ370 := hr370.1
                          refine zx_iloadN dL_isVerdict_373 rfl rfl ?_
                          refine zx_icmp_ne (tgt := 471) (by first | exact hz370 _ _ | assumption | exact zr_b _ | exact zcmp_r _ _ | exact hzD _ _ | exact zr3 (tS_b hW _) | exact zr3 (lsc_b hW _ _) | exact zr3 (sc_b hW _ _) | exact rkP_zr hW _ | exact scA_zr hW _ _ | exact zr3 (cW_b hW) | exact zr3 (wS_b hW) | exact unx_zr hW _ | exact dcs_zr hW | (unfold zr at *; omega)) (by first | exact hz370 _ _ | assumption | exact zr_b _ | exact zcmp_r _ _ | exact hzD _ _ | exact zr3 (tS_b hW _) | exact zr3 (lsc_b hW _ _) | exact zr3 (sc_b hW _ _) | exact rkP_zr hW _ | exact scA_zr hW _ _ | exact zr3 (cW_b hW) | exact zr3 (wS_b hW) | exact unx_zr hW _ | exact dcs_zr hW | (unfold zr at *; omega)) dL_isVerdict_374 (by decide) (fun h374 => ?_) (fun h374 => ?_)
                          · exfalso
                            first
                            | exact h331 rfl
                            | exact h340 rfl
                            | exact h352 rfl
                            | exact h374 hop2.symm
                            | exact h392 hnx2.symm
                            | exact h401 hwt2.symm
                            | exact h413 (by omega)
                            | exact h454 rfl
                            | exact h463 rfl
                            | omega
                          · refine zx_aloadN dL_isVerdict_377 rfl rfl ?_
                            refine zx_iloadN dL_isVerdict_378 rfl rfl ?_
                            refine zy_cvR [zi op] (fX9_unexplainedClue  hfl hz370 hr370.2.2 hW hP1 (by first | exact hz370 _ _ | assumption | exact zr_b _ | exact zcmp_r _ _ | exact hzD _ _ | exact zr3 (tS_b hW _) | exact zr3 (lsc_b hW _ _) | exact zr3 (sc_b hW _ _) | exact rkP_zr hW _ | exact scA_zr hW _ _ | exact zr3 (cW_b hW) | exact zr3 (wS_b hW) | exact unx_zr hW _ | exact dcs_zr hW | (unfold zr at *; omega))) dL_isVerdict_379 (by decide) rfl cw_RL_183 okX9_unexplainedClue rfl (Nat.le_of_ble_eq_true rfl) ⟨Nat.le_of_ble_eq_true rfl, Nat.le_of_ble_eq_true rfl, Nat.le_of_ble_eq_true rfl, Nat.le_of_ble_eq_true rfl⟩ (fun τ379 hr379 => ?_)
                            have hz379 : zOK τ379 := hr379.1
                            refine zy_top (b := -1) (hun) ?_
                            refine zx_iconst dL_isVerdict_382 ?_
                            refine zx_icmp_ne (tgt := 471) (by first | exact hz379 _ _ | assumption | exact zr_b _ | exact zcmp_r _ _ | exact hzD _ _ | exact zr3 (tS_b hW _) | exact zr3 (lsc_b hW _ _) | exact zr3 (sc_b hW _ _) | exact rkP_zr hW _ | exact scA_zr hW _ _ | exact zr3 (cW_b hW) | exact zr3 (wS_b hW) | exact unx_zr hW _ | exact dcs_zr hW | (unfold zr at *; omega)) (by first | exact hz379 _ _ | assumption | exact zr_b _ | exact zcmp_r _ _ | exact hzD _ _ | exact zr3 (tS_b hW _) | exact zr3 (lsc_b hW _ _) | exact zr3 (sc_b hW _ _) | exact rkP_zr hW _ | exact scA_zr hW _ _ | exact zr3 (cW_b hW) | exact zr3 (wS_b hW) | exact unx_zr hW _ | exact dcs_zr hW | (unfold zr at *; omega)) dL_isVerdict_383 (by decide) (fun h383 => ?_) (fun h383 => ?_)
                            · exact absurd h383 (by decide)
                            · refine zx_aloadN dL_isVerdict_386 rfl rfl ?_
                              refine zy_cv [] (fX9_nextClue  hfl hz379 hr379.2.2 hW) dL_isVerdict_387 (by decide) rfl cw_RL_198 okX9_nextClue rfl (Nat.le_of_ble_eq_true rfl) ⟨Nat.le_of_ble_eq_true rfl, Nat.le_of_ble_eq_true rfl, Nat.le_of_ble_eq_true rfl, Nat.le_of_ble_eq_true rfl⟩ ?_
                              refine zx_iload dL_isVerdict_390 rfl ?_
                              refine zx_icmp_ne (tgt := 471) (by first | exact hz379 _ _ | assumption | exact zr_b _ | exact zcmp_r _ _ | exact hzD _ _ | exact zr3 (tS_b hW _) | exact zr3 (lsc_b hW _ _) | exact zr3 (sc_b hW _ _) | exact rkP_zr hW _ | exact scA_zr hW _ _ | exact zr3 (cW_b hW) | exact zr3 (wS_b hW) | exact unx_zr hW _ | exact dcs_zr hW | (unfold zr at *; omega)) (by first | exact hz379 _ _ | assumption | exact zr_b _ | exact zcmp_r _ _ | exact hzD _ _ | exact zr3 (tS_b hW _) | exact zr3 (lsc_b hW _ _) | exact zr3 (sc_b hW _ _) | exact rkP_zr hW _ | exact scA_zr hW _ _ | exact zr3 (cW_b hW) | exact zr3 (wS_b hW) | exact unx_zr hW _ | exact dcs_zr hW | (unfold zr at *; omega)) dL_isVerdict_392 (by decide) (fun h392 => ?_) (fun h392 => ?_)
                              · exfalso
                                first
                                | exact h331 rfl
                                | exact h340 rfl
                                | exact h352 rfl
                                | exact h374 hop2.symm
                                | exact h392 hnx2.symm
                                | exact h401 hwt2.symm
                                | exact h413 (by omega)
                                | exact h454 rfl
                                | exact h463 rfl
                                | omega
                              · refine zx_aloadN dL_isVerdict_395 rfl rfl ?_
                                refine zy_cv [] (fX9_countingWeight  hfl hz379 hr379.2.2 hW) dL_isVerdict_396 (by decide) rfl cw_RL_101 okX9_countingWeight rfl (Nat.le_of_ble_eq_true rfl) ⟨Nat.le_of_ble_eq_true rfl, Nat.le_of_ble_eq_true rfl, Nat.le_of_ble_eq_true rfl, Nat.le_of_ble_eq_true rfl⟩ ?_
                                refine zx_iload dL_isVerdict_399 rfl ?_
                                refine zx_icmp_ne (tgt := 471) (by first | exact hz379 _ _ | assumption | exact zr_b _ | exact zcmp_r _ _ | exact hzD _ _ | exact zr3 (tS_b hW _) | exact zr3 (lsc_b hW _ _) | exact zr3 (sc_b hW _ _) | exact rkP_zr hW _ | exact scA_zr hW _ _ | exact zr3 (cW_b hW) | exact zr3 (wS_b hW) | exact unx_zr hW _ | exact dcs_zr hW | (unfold zr at *; omega)) (by first | exact hz379 _ _ | assumption | exact zr_b _ | exact zcmp_r _ _ | exact hzD _ _ | exact zr3 (tS_b hW _) | exact zr3 (lsc_b hW _ _) | exact zr3 (sc_b hW _ _) | exact rkP_zr hW _ | exact scA_zr hW _ _ | exact zr3 (cW_b hW) | exact zr3 (wS_b hW) | exact unx_zr hW _ | exact dcs_zr hW | (unfold zr at *; omega)) dL_isVerdict_401 (by decide) (fun h401 => ?_) (fun h401 => ?_)
                                · exfalso
                                  first
                                  | exact h331 rfl
                                  | exact h340 rfl
                                  | exact h352 rfl
                                  | exact h374 hop2.symm
                                  | exact h392 hnx2.symm
                                  | exact h401 hwt2.symm
                                  | exact h413 (by omega)
                                  | exact h454 rfl
                                  | exact h463 rfl
                                  | omega
                                · refine zx_aloadN dL_isVerdict_404 rfl rfl ?_
                                  refine zy_cvR [] (fX9_verdictScore  hfl hz379 hr379.2.2 hW hP1) dL_isVerdict_405 (by decide) rfl cw_RL_189 okX9_verdictScore rfl (Nat.le_of_ble_eq_true rfl) ⟨Nat.le_of_ble_eq_true rfl, Nat.le_of_ble_eq_true rfl, Nat.le_of_ble_eq_true rfl, Nat.le_of_ble_eq_true rfl⟩ (fun τ405 hr405 => ?_)
                                  have hz405 : zOK τ405 := hr405.1
                                  refine zx_iload dL_isVerdict_408 rfl ?_
                                  refine zx_iadd dL_isVerdict_410 ?_
                                  refine zx_iload dL_isVerdict_411 rfl ?_
                                  refine zx_icmp_ne (tgt := 471) (by first | exact hz405 _ _ | assumption | exact zr_b _ | exact zcmp_r _ _ | exact hzD _ _ | exact zr3 (tS_b hW _) | exact zr3 (lsc_b hW _ _) | exact zr3 (sc_b hW _ _) | exact rkP_zr hW _ | exact scA_zr hW _ _ | exact zr3 (cW_b hW) | exact zr3 (wS_b hW) | exact unx_zr hW _ | exact dcs_zr hW | (unfold zr at *; omega)) (by first | exact hz405 _ _ | assumption | exact zr_b _ | exact zcmp_r _ _ | exact hzD _ _ | exact zr3 (tS_b hW _) | exact zr3 (lsc_b hW _ _) | exact zr3 (sc_b hW _ _) | exact rkP_zr hW _ | exact scA_zr hW _ _ | exact zr3 (cW_b hW) | exact zr3 (wS_b hW) | exact unx_zr hW _ | exact dcs_zr hW | (unfold zr at *; omega)) dL_isVerdict_413 (by decide) (fun h413 => ?_) (fun h413 => ?_)
                                  · exfalso
                                    first
                                    | exact h331 rfl
                                    | exact h340 rfl
                                    | exact h352 rfl
                                    | exact h374 hop2.symm
                                    | exact h392 hnx2.symm
                                    | exact h401 hwt2.symm
                                    | exact h413 (by omega)
                                    | exact h454 rfl
                                    | exact h463 rfl
                                    | omega
                                  · refine zx_aloadN dL_isVerdict_416 rfl rfl ?_
                                    refine zy_cvR [] (fX9_confidence  hfl hz405 hr405.2.2 hW hP1) dL_isVerdict_417 (by decide) rfl cw_RL_201 okX9_confidence rfl (Nat.le_of_ble_eq_true rfl) ⟨Nat.le_of_ble_eq_true rfl, Nat.le_of_ble_eq_true rfl, Nat.le_of_ble_eq_true rfl, Nat.le_of_ble_eq_true rfl⟩ (fun τ417 hr417 => ?_)
                                    have hz417 : zOK τ417 := hr417.1
                                    refine zx_iload dL_isVerdict_420 rfl ?_
                                    refine zx_if_ne (tgt := 429) (by first | exact hz417 _ _ | assumption | exact zr_b _ | exact zcmp_r _ _ | exact hzD _ _ | exact zr3 (tS_b hW _) | exact zr3 (lsc_b hW _ _) | exact zr3 (sc_b hW _ _) | exact rkP_zr hW _ | exact scA_zr hW _ _ | exact zr3 (cW_b hW) | exact zr3 (wS_b hW) | exact unx_zr hW _ | exact dcs_zr hW | (unfold zr at *; omega)) dL_isVerdict_422 (by decide) (fun h422 => ?_) (fun h422 => ?_)
                                    · refine zx_aloadN dL_isVerdict_429 rfl rfl ?_
                                      refine zy_cvR [] (fX9_verdictScore  hfl hz417 hr417.2.2 hW hP1) dL_isVerdict_430 (by decide) rfl cw_RL_189 okX9_verdictScore rfl (Nat.le_of_ble_eq_true rfl) ⟨Nat.le_of_ble_eq_true rfl, Nat.le_of_ble_eq_true rfl, Nat.le_of_ble_eq_true rfl, Nat.le_of_ble_eq_true rfl⟩ (fun τ430 hr430 => ?_)
                                      have hz430 : zOK τ430 := hr430.1
                                      refine zx_i2d dL_isVerdict_433 ?_
                                      refine zx_iload dL_isVerdict_434 rfl ?_
                                      refine zx_i2d dL_isVerdict_436 ?_
                                      refine zx_ddiv (ddiv_n (by unfold zr; omega) h422) dL_isVerdict_437 ?_
                                      refine zx_dcmp (a := 0) (dc_1 hW hwt2 h422) dL_isVerdict_438 ?_
                                      refine zx_if_ne (tgt := 471) (by unfold zr; omega) dL_isVerdict_439 (by decide) (fun h439 => ?_) (fun h439 => ?_)
                                      · exact absurd h439 (by decide)
                                      · refine zx_aloadN dL_isVerdict_442 rfl rfl ?_
                                        refine zy_cvR [] (fX9_rankingErrors  hfl hz430 hr430.2.2 hW hP1) dL_isVerdict_443 (by decide) rfl cw_RL_205 okX9_rankingErrors rfl (Nat.le_of_ble_eq_true rfl) ⟨Nat.le_of_ble_eq_true rfl, Nat.le_of_ble_eq_true rfl, Nat.le_of_ble_eq_true rfl, Nat.le_of_ble_eq_true rfl⟩ (fun τ443 hr443 => ?_)
                                        have hz443 : zOK τ443 := hr443.1
                                        refine zx_if_ne (tgt := 471) (by unfold zr; omega) dL_isVerdict_446 (by decide) (fun h446 => ?_) (fun h446 => ?_)
                                        · exact absurd h446 (by decide)
                                        · refine zx_aloadN dL_isVerdict_449 rfl rfl ?_
                                          refine zx_iconst dL_isVerdict_450 ?_
                                          refine zy_cvR [zi 0] (fX9_printerAfter  hfl hz443 hr443.2.2 hW hP1 (by first | exact hz443 _ _ | assumption | exact zr_b _ | exact zcmp_r _ _ | exact hzD _ _ | exact zr3 (tS_b hW _) | exact zr3 (lsc_b hW _ _) | exact zr3 (sc_b hW _ _) | exact rkP_zr hW _ | exact scA_zr hW _ _ | exact zr3 (cW_b hW) | exact zr3 (wS_b hW) | exact unx_zr hW _ | exact dcs_zr hW | (unfold zr at *; omega)) (by first | assumption | omega)) dL_isVerdict_451 (by decide) rfl cw_RL_208 okX9_printerAfter rfl (Nat.le_of_ble_eq_true rfl) ⟨Nat.le_of_ble_eq_true rfl, Nat.le_of_ble_eq_true rfl, Nat.le_of_ble_eq_true rfl, Nat.le_of_ble_eq_true rfl⟩ (fun τ451 hr451 => ?_)
                                          have hz451 : zOK τ451 := hr451.1
                                          refine zy_top (b := ((wP D (Ht D) : Nat) : Int)) (congrArg (fun n : Nat => (n : Int)) (wP_hc (fun c hc => Hd_Ht hW hc))) ?_
                                          refine zx_iloadN dL_isVerdict_454 rfl rfl ?_
                                          refine zx_icmp_ne (tgt := 471) (by first | exact hz451 _ _ | assumption | exact zr_b _ | exact zcmp_r _ _ | exact hzD _ _ | exact zr3 (tS_b hW _) | exact zr3 (lsc_b hW _ _) | exact zr3 (sc_b hW _ _) | exact rkP_zr hW _ | exact scA_zr hW _ _ | exact zr3 (cW_b hW) | exact zr3 (wS_b hW) | exact unx_zr hW _ | exact dcs_zr hW | (unfold zr at *; omega)) (by first | exact hz451 _ _ | assumption | exact zr_b _ | exact zcmp_r _ _ | exact hzD _ _ | exact zr3 (tS_b hW _) | exact zr3 (lsc_b hW _ _) | exact zr3 (sc_b hW _ _) | exact rkP_zr hW _ | exact scA_zr hW _ _ | exact zr3 (cW_b hW) | exact zr3 (wS_b hW) | exact unx_zr hW _ | exact dcs_zr hW | (unfold zr at *; omega)) dL_isVerdict_455 (by decide) (fun h455 => ?_) (fun h455 => ?_)
                                          · exfalso
                                            first
                                            | exact h331 rfl
                                            | exact h340 rfl
                                            | exact h352 rfl
                                            | exact h374 hop2.symm
                                            | exact h392 hnx2.symm
                                            | exact h401 hwt2.symm
                                            | exact h413 (by omega)
                                            | exact h454 rfl
                                            | exact h463 rfl
                                            | omega
                                          · refine zx_aloadN dL_isVerdict_458 rfl rfl ?_
                                            refine zx_iconst dL_isVerdict_459 ?_
                                            refine zy_cvR [zi 0] (fX9_yearAfter  hfl hz451 hr451.2.2 hW hP1 (by first | exact hz451 _ _ | assumption | exact zr_b _ | exact zcmp_r _ _ | exact hzD _ _ | exact zr3 (tS_b hW _) | exact zr3 (lsc_b hW _ _) | exact zr3 (sc_b hW _ _) | exact rkP_zr hW _ | exact scA_zr hW _ _ | exact zr3 (cW_b hW) | exact zr3 (wS_b hW) | exact unx_zr hW _ | exact dcs_zr hW | (unfold zr at *; omega)) (by first | assumption | omega)) dL_isVerdict_460 (by decide) rfl cw_RL_211 okX9_yearAfter rfl (Nat.le_of_ble_eq_true rfl) ⟨Nat.le_of_ble_eq_true rfl, Nat.le_of_ble_eq_true rfl, Nat.le_of_ble_eq_true rfl, Nat.le_of_ble_eq_true rfl⟩ (fun τ460 hr460 => ?_)
                                            have hz460 : zOK τ460 := hr460.1
                                            refine zy_top (b := wY D (Ht D)) (wY_hc (fun c hc => Hd_Ht hW hc)) ?_
                                            refine zx_iloadN dL_isVerdict_463 rfl rfl ?_
                                            refine zx_icmp_ne (tgt := 471) (by first | exact hz460 _ _ | assumption | exact zr_b _ | exact zcmp_r _ _ | exact hzD _ _ | exact zr3 (tS_b hW _) | exact zr3 (lsc_b hW _ _) | exact zr3 (sc_b hW _ _) | exact rkP_zr hW _ | exact scA_zr hW _ _ | exact zr3 (cW_b hW) | exact zr3 (wS_b hW) | exact unx_zr hW _ | exact dcs_zr hW | (unfold zr at *; omega)) (by first | exact hz460 _ _ | assumption | exact zr_b _ | exact zcmp_r _ _ | exact hzD _ _ | exact zr3 (tS_b hW _) | exact zr3 (lsc_b hW _ _) | exact zr3 (sc_b hW _ _) | exact rkP_zr hW _ | exact scA_zr hW _ _ | exact zr3 (cW_b hW) | exact zr3 (wS_b hW) | exact unx_zr hW _ | exact dcs_zr hW | (unfold zr at *; omega)) dL_isVerdict_464 (by decide) (fun h464 => ?_) (fun h464 => ?_)
                                            · exfalso
                                              first
                                              | exact h331 rfl
                                              | exact h340 rfl
                                              | exact h352 rfl
                                              | exact h374 hop2.symm
                                              | exact h392 hnx2.symm
                                              | exact h401 hwt2.symm
                                              | exact h413 (by omega)
                                              | exact h454 rfl
                                              | exact h463 rfl
                                              | omega
                                            · refine zx_iconst dL_isVerdict_467 ?_
                                              refine zx_goto (tgt := 472) dL_isVerdict_468 (by decide) ?_
                                              refine zx_iret rfl rfl dL_isVerdict_472 ?_
                                              rw [hQ]
                                              refine ⟨congrArg (fun z : Int => (Sum.inl (some (zi z)) : Option zV ⊕ String)) ?_, ?_⟩
                                              · first | rfl | assumption | omega
                                              exact ⟨hz460, (zJ (zJ (zJ (zJ (zJ (zJ (zJ (zJ (zJ (zJ (zJ (zJ (zJ (zJ (zJ hF hr298.2.1) hr304.2.1) hr327.2.1) hr336.2.1) hr345.2.1) hr349.2.1) hr356.2.1) hr370.2.1) hr379.2.1) hr405.2.1) hr417.2.1) hr430.2.1) hr443.2.1) hr451.2.1) hr460.2.1), hr460.2.2⟩
                                    · refine zx_dconst0 dL_isVerdict_425 ?_
                                      refine zx_goto (tgt := 438) dL_isVerdict_426 (by decide) ?_
                                      refine zx_dcmp (a := 0) (dc_0 (by omega)) dL_isVerdict_438 ?_
                                      refine zx_if_ne (tgt := 471) (by unfold zr; omega) dL_isVerdict_439 (by decide) (fun h439 => ?_) (fun h439 => ?_)
                                      · exact absurd h439 (by decide)
                                      · refine zx_aloadN dL_isVerdict_442 rfl rfl ?_
                                        refine zy_cvR [] (fX9_rankingErrors  hfl hz417 hr417.2.2 hW hP1) dL_isVerdict_443 (by decide) rfl cw_RL_205 okX9_rankingErrors rfl (Nat.le_of_ble_eq_true rfl) ⟨Nat.le_of_ble_eq_true rfl, Nat.le_of_ble_eq_true rfl, Nat.le_of_ble_eq_true rfl, Nat.le_of_ble_eq_true rfl⟩ (fun τ443 hr443 => ?_)
                                        have hz443 : zOK τ443 := hr443.1
                                        refine zx_if_ne (tgt := 471) (by unfold zr; omega) dL_isVerdict_446 (by decide) (fun h446 => ?_) (fun h446 => ?_)
                                        · exact absurd h446 (by decide)
                                        · refine zx_aloadN dL_isVerdict_449 rfl rfl ?_
                                          refine zx_iconst dL_isVerdict_450 ?_
                                          refine zy_cvR [zi 0] (fX9_printerAfter  hfl hz443 hr443.2.2 hW hP1 (by first | exact hz443 _ _ | assumption | exact zr_b _ | exact zcmp_r _ _ | exact hzD _ _ | exact zr3 (tS_b hW _) | exact zr3 (lsc_b hW _ _) | exact zr3 (sc_b hW _ _) | exact rkP_zr hW _ | exact scA_zr hW _ _ | exact zr3 (cW_b hW) | exact zr3 (wS_b hW) | exact unx_zr hW _ | exact dcs_zr hW | (unfold zr at *; omega)) (by first | assumption | omega)) dL_isVerdict_451 (by decide) rfl cw_RL_208 okX9_printerAfter rfl (Nat.le_of_ble_eq_true rfl) ⟨Nat.le_of_ble_eq_true rfl, Nat.le_of_ble_eq_true rfl, Nat.le_of_ble_eq_true rfl, Nat.le_of_ble_eq_true rfl⟩ (fun τ451 hr451 => ?_)
                                          have hz451 : zOK τ451 := hr451.1
                                          refine zy_top (b := ((wP D (Ht D) : Nat) : Int)) (congrArg (fun n : Nat => (n : Int)) (wP_hc (fun c hc => Hd_Ht hW hc))) ?_
                                          refine zx_iloadN dL_isVerdict_454 rfl rfl ?_
                                          refine zx_icmp_ne (tgt := 471) (by first | exact hz451 _ _ | assumption | exact zr_b _ | exact zcmp_r _ _ | exact hzD _ _ | exact zr3 (tS_b hW _) | exact zr3 (lsc_b hW _ _) | exact zr3 (sc_b hW _ _) | exact rkP_zr hW _ | exact scA_zr hW _ _ | exact zr3 (cW_b hW) | exact zr3 (wS_b hW) | exact unx_zr hW _ | exact dcs_zr hW | (unfold zr at *; omega)) (by first | exact hz451 _ _ | assumption | exact zr_b _ | exact zcmp_r _ _ | exact hzD _ _ | exact zr3 (tS_b hW _) | exact zr3 (lsc_b hW _ _) | exact zr3 (sc_b hW _ _) | exact rkP_zr hW _ | exact scA_zr hW _ _ | exact zr3 (cW_b hW) | exact zr3 (wS_b hW) | exact unx_zr hW _ | exact dcs_zr hW | (unfold zr at *; omega)) dL_isVerdict_455 (by decide) (fun h455 => ?_) (fun h455 => ?_)
                                          · exfalso
                                            first
                                            | exact h331 rfl
                                            | exact h340 rfl
                                            | exact h352 rfl
                                            | exact h374 hop2.symm
                                            | exact h392 hnx2.symm
                                            | exact h401 hwt2.symm
                                            | exact h413 (by omega)
                                            | exact h454 rfl
                                            | exact h463 rfl
                                            | omega
                                          · refine zx_aloadN dL_isVerdict_458 rfl rfl ?_
                                            refine zx_iconst dL_isVerdict_459 ?_
                                            refine zy_cvR [zi 0] (fX9_yearAfter  hfl hz451 hr451.2.2 hW hP1 (by first | exact hz451 _ _ | assumption | exact zr_b _ | exact zcmp_r _ _ | exact hzD _ _ | exact zr3 (tS_b hW _) | exact zr3 (lsc_b hW _ _) | exact zr3 (sc_b hW _ _) | exact rkP_zr hW _ | exact scA_zr hW _ _ | exact zr3 (cW_b hW) | exact zr3 (wS_b hW) | exact unx_zr hW _ | exact dcs_zr hW | (unfold zr at *; omega)) (by first | assumption | omega)) dL_isVerdict_460 (by decide) rfl cw_RL_211 okX9_yearAfter rfl (Nat.le_of_ble_eq_true rfl) ⟨Nat.le_of_ble_eq_true rfl, Nat.le_of_ble_eq_true rfl, Nat.le_of_ble_eq_true rfl, Nat.le_of_ble_eq_true rfl⟩ (fun τ460 hr460 => ?_)
                                            have hz460 : zOK τ460 := hr460.1
                                            refine zy_top (b := wY D (Ht D)) (wY_hc (fun c hc => Hd_Ht hW hc)) ?_
                                            refine zx_iloadN dL_isVerdict_463 rfl rfl ?_
                                            refine zx_icmp_ne (tgt := 471) (by first | exact hz460 _ _ | assumption | exact zr_b _ | exact zcmp_r _ _ | exact hzD _ _ | exact zr3 (tS_b hW _) | exact zr3 (lsc_b hW _ _) | exact zr3 (sc_b hW _ _) | exact rkP_zr hW _ | exact scA_zr hW _ _ | exact zr3 (cW_b hW) | exact zr3 (wS_b hW) | exact unx_zr hW _ | exact dcs_zr hW | (unfold zr at *; omega)) (by first | exact hz460 _ _ | assumption | exact zr_b _ | exact zcmp_r _ _ | exact hzD _ _ | exact zr3 (tS_b hW _) | exact zr3 (lsc_b hW _ _) | exact zr3 (sc_b hW _ _) | exact rkP_zr hW _ | exact scA_zr hW _ _ | exact zr3 (cW_b hW) | exact zr3 (wS_b hW) | exact unx_zr hW _ | exact dcs_zr hW | (unfold zr at *; omega)) dL_isVerdict_464 (by decide) (fun h464 => ?_) (fun h464 => ?_)
                                            · exfalso
                                              first
                                              | exact h331 rfl
                                              | exact h340 rfl
                                              | exact h352 rfl
                                              | exact h374 hop2.symm
                                              | exact h392 hnx2.symm
                                              | exact h401 hwt2.symm
                                              | exact h413 (by omega)
                                              | exact h454 rfl
                                              | exact h463 rfl
                                              | omega
                                            · refine zx_iconst dL_isVerdict_467 ?_
                                              refine zx_goto (tgt := 472) dL_isVerdict_468 (by decide) ?_
                                              refine zx_iret rfl rfl dL_isVerdict_472 ?_
                                              rw [hQ]
                                              refine ⟨congrArg (fun z : Int => (Sum.inl (some (zi z)) : Option zV ⊕ String)) ?_, ?_⟩
                                              · first | rfl | assumption | omega
                                              exact ⟨hz460, (zJ (zJ (zJ (zJ (zJ (zJ (zJ (zJ (zJ (zJ (zJ (zJ (zJ (zJ hF hr298.2.1) hr304.2.1) hr327.2.1) hr336.2.1) hr345.2.1) hr349.2.1) hr356.2.1) hr370.2.1) hr379.2.1) hr405.2.1) hr417.2.1) hr443.2.1) hr451.2.1) hr460.2.1), hr460.2.2⟩
            · obtain ⟨a, ea, al⟩ := rkP_in (D := D) (q := q) (by omega)
              refine zx_aloadN dL_isVerdict_218 rfl rfl ?_
              refine zx_iload dL_isVerdict_219 rfl ?_
              refine zy_cvR [zi ((q : Nat) : Int)] (fX9_printerByRank  hfl hz hB hW hP1 (by first | exact hz _ _ | assumption | exact zr_b _ | exact zcmp_r _ _ | exact hzD _ _ | exact zr3 (tS_b hW _) | exact zr3 (lsc_b hW _ _) | exact zr3 (sc_b hW _ _) | exact rkP_zr hW _ | exact scA_zr hW _ _ | exact zr3 (cW_b hW) | exact zr3 (wS_b hW) | exact unx_zr hW _ | exact dcs_zr hW | (unfold zr at *; omega))) dL_isVerdict_221 (by decide) rfl cw_RL_186 okX9_printerByRank rfl (Nat.le_of_ble_eq_true rfl) ⟨Nat.le_of_ble_eq_true rfl, Nat.le_of_ble_eq_true rfl, Nat.le_of_ble_eq_true rfl, Nat.le_of_ble_eq_true rfl⟩ (fun τ221 hr221 => ?_)
              have hz221 : zOK τ221 := hr221.1
              refine zy_top (b := ((a : Nat) : Int)) (ea) ?_
              refine zy_istore [zf 9 0, zi ((wP D (Ht D) : Nat) : Int), zi (wY D (Ht D)), zi op, zi ms, zi nx, zi wt, zi ((q : Nat) : Int), zi ((a : Nat) : Int), zu] dL_isVerdict_224 (Nat.le_of_ble_eq_true rfl) (Nat.le_of_ble_eq_true rfl) rfl rfl ?_
              refine zx_iload dL_isVerdict_226 rfl ?_
              refine zx_if_ne (tgt := 236) (by first | exact hz221 _ _ | assumption | exact zr_b _ | exact zcmp_r _ _ | exact hzD _ _ | exact zr3 (tS_b hW _) | exact zr3 (lsc_b hW _ _) | exact zr3 (sc_b hW _ _) | exact rkP_zr hW _ | exact scA_zr hW _ _ | exact zr3 (cW_b hW) | exact zr3 (wS_b hW) | exact unx_zr hW _ | exact dcs_zr hW | (unfold zr at *; omega)) dL_isVerdict_228 (by decide) (fun h228 => ?_) (fun h228 => ?_)
              · obtain ⟨a0, e0, al0, hah⟩ := rkP_pr (by omega) h228 ea
                unfold ahd at hah
                refine zx_aloadN dL_isVerdict_236 rfl rfl ?_
                refine zx_iload dL_isVerdict_237 rfl ?_
                refine zx_iconst dL_isVerdict_239 ?_
                refine zx_isub dL_isVerdict_240 ?_
                refine zy_cvR [zi (((q : Nat) : Int) - 1)] (fX9_printerByRank  hfl hz221 hr221.2.2 hW hP1 (by first | exact hz221 _ _ | assumption | exact zr_b _ | exact zcmp_r _ _ | exact hzD _ _ | exact zr3 (tS_b hW _) | exact zr3 (lsc_b hW _ _) | exact zr3 (sc_b hW _ _) | exact rkP_zr hW _ | exact scA_zr hW _ _ | exact zr3 (cW_b hW) | exact zr3 (wS_b hW) | exact unx_zr hW _ | exact dcs_zr hW | (unfold zr at *; omega))) dL_isVerdict_241 (by decide) rfl cw_RL_186 okX9_printerByRank rfl (Nat.le_of_ble_eq_true rfl) ⟨Nat.le_of_ble_eq_true rfl, Nat.le_of_ble_eq_true rfl, Nat.le_of_ble_eq_true rfl, Nat.le_of_ble_eq_true rfl⟩ (fun τ241 hr241 => ?_)
                have hz241 : zOK τ241 := hr241.1
                refine zy_top (b := ((a0 : Nat) : Int)) (e0) ?_
                refine zy_istore [zf 9 0, zi ((wP D (Ht D) : Nat) : Int), zi (wY D (Ht D)), zi op, zi ms, zi nx, zi wt, zi ((q : Nat) : Int), zi ((a : Nat) : Int), zi ((a0 : Nat) : Int)] dL_isVerdict_244 (Nat.le_of_ble_eq_true rfl) (Nat.le_of_ble_eq_true rfl) rfl rfl ?_
                refine zx_aloadN dL_isVerdict_246 rfl rfl ?_
                refine zx_iload dL_isVerdict_247 rfl ?_
                refine zy_cvR [zi ((a0 : Nat) : Int)] (fX9_bestScore  hfl hz241 hr241.2.2 hW hP1 (by first | exact hz241 _ _ | assumption | exact zr_b _ | exact zcmp_r _ _ | exact hzD _ _ | exact zr3 (tS_b hW _) | exact zr3 (lsc_b hW _ _) | exact zr3 (sc_b hW _ _) | exact rkP_zr hW _ | exact scA_zr hW _ _ | exact zr3 (cW_b hW) | exact zr3 (wS_b hW) | exact unx_zr hW _ | exact dcs_zr hW | (unfold zr at *; omega)) (by first | assumption | omega)) dL_isVerdict_249 (by decide) rfl cw_RL_147 okX9_bestScore rfl (Nat.le_of_ble_eq_true rfl) ⟨Nat.le_of_ble_eq_true rfl, Nat.le_of_ble_eq_true rfl, Nat.le_of_ble_eq_true rfl, Nat.le_of_ble_eq_true rfl⟩ (fun τ249 hr249 => ?_)
                refine zy_top (b := tS D (Ht D) a0) rfl ?_
                have hz249 : zOK τ249 := hr249.1
                refine zx_aloadN dL_isVerdict_252 rfl rfl ?_
                refine zx_iload dL_isVerdict_253 rfl ?_
                refine zy_cvR [zi ((a : Nat) : Int)] (fX9_bestScore  hfl hz249 hr249.2.2 hW hP1 (by first | exact hz249 _ _ | assumption | exact zr_b _ | exact zcmp_r _ _ | exact hzD _ _ | exact zr3 (tS_b hW _) | exact zr3 (lsc_b hW _ _) | exact zr3 (sc_b hW _ _) | exact rkP_zr hW _ | exact scA_zr hW _ _ | exact zr3 (cW_b hW) | exact zr3 (wS_b hW) | exact unx_zr hW _ | exact dcs_zr hW | (unfold zr at *; omega)) (by first | assumption | omega)) dL_isVerdict_255 (by decide) rfl cw_RL_147 okX9_bestScore rfl (Nat.le_of_ble_eq_true rfl) ⟨Nat.le_of_ble_eq_true rfl, Nat.le_of_ble_eq_true rfl, Nat.le_of_ble_eq_true rfl, Nat.le_of_ble_eq_true rfl⟩ (fun τ255 hr255 => ?_)
                refine zy_top (b := tS D (Ht D) a) rfl ?_
                have hz255 : zOK τ255 := hr255.1
                refine zx_icmp_lt (tgt := 288) (by first | exact hz255 _ _ | assumption | exact zr_b _ | exact zcmp_r _ _ | exact hzD _ _ | exact zr3 (tS_b hW _) | exact zr3 (lsc_b hW _ _) | exact zr3 (sc_b hW _ _) | exact rkP_zr hW _ | exact scA_zr hW _ _ | exact zr3 (cW_b hW) | exact zr3 (wS_b hW) | exact unx_zr hW _ | exact dcs_zr hW | (unfold zr at *; omega)) (by first | exact hz255 _ _ | assumption | exact zr_b _ | exact zcmp_r _ _ | exact hzD _ _ | exact zr3 (tS_b hW _) | exact zr3 (lsc_b hW _ _) | exact zr3 (sc_b hW _ _) | exact rkP_zr hW _ | exact scA_zr hW _ _ | exact zr3 (cW_b hW) | exact zr3 (wS_b hW) | exact unx_zr hW _ | exact dcs_zr hW | (unfold zr at *; omega)) dL_isVerdict_258 (by decide) (fun h258 => ?_) (fun h258 => ?_)
                · exfalso; omega
                · refine zx_iload dL_isVerdict_261 rfl ?_
                  refine zx_if_le (tgt := 290) (by first | exact hz255 _ _ | assumption | exact zr_b _ | exact zcmp_r _ _ | exact hzD _ _ | exact zr3 (tS_b hW _) | exact zr3 (lsc_b hW _ _) | exact zr3 (sc_b hW _ _) | exact rkP_zr hW _ | exact scA_zr hW _ _ | exact zr3 (cW_b hW) | exact zr3 (wS_b hW) | exact unx_zr hW _ | exact dcs_zr hW | (unfold zr at *; omega)) dL_isVerdict_263 (by decide) (fun h263 => ?_) (fun h263 => ?_)
                  · refine zy_iinc (b := ((q + 1 : Nat) : Int)) [zf 9 0, zi ((wP D (Ht D) : Nat) : Int), zi (wY D (Ht D)), zi op, zi ms, zi nx, zi wt, zi ((q + 1 : Nat) : Int), zi ((a : Nat) : Int), zi ((a0 : Nat) : Int)] dL_isVerdict_290 rfl (by omega) (Nat.le_of_ble_eq_true rfl) rfl rfl ?_
                    refine zx_goto (tgt := 209) dL_isVerdict_293 (by decide) ?_
                    refine zy_drop 8 [zf 9 0, zi ((wP D (Ht D) : Nat) : Int), zi (wY D (Ht D)), zi op, zi ms, zi nx, zi wt, zi ((q + 1 : Nat) : Int), zu, zi ((a0 : Nat) : Int)] rfl ?_
                    refine zy_drop 9 [zf 9 0, zi ((wP D (Ht D) : Nat) : Int), zi (wY D (Ht D)), zi op, zi ms, zi nx, zi wt, zi ((q + 1 : Nat) : Int), zu, zu] rfl ?_
                    exact ih209 τ255 (q + 1) hz255 hr255.2.2 (zJ (zJ (zJ (zJ hF hr221.2.1) hr241.2.1) hr249.2.1) hr255.2.1) (by omega) (by omega)
                  · refine zx_aloadN dL_isVerdict_266 rfl rfl ?_
                    refine zx_iload dL_isVerdict_267 rfl ?_
                    refine zy_cvR [zi ((a0 : Nat) : Int)] (fX9_bestScore  hfl hz255 hr255.2.2 hW hP1 (by first | exact hz255 _ _ | assumption | exact zr_b _ | exact zcmp_r _ _ | exact hzD _ _ | exact zr3 (tS_b hW _) | exact zr3 (lsc_b hW _ _) | exact zr3 (sc_b hW _ _) | exact rkP_zr hW _ | exact scA_zr hW _ _ | exact zr3 (cW_b hW) | exact zr3 (wS_b hW) | exact unx_zr hW _ | exact dcs_zr hW | (unfold zr at *; omega)) (by first | assumption | omega)) dL_isVerdict_269 (by decide) rfl cw_RL_147 okX9_bestScore rfl (Nat.le_of_ble_eq_true rfl) ⟨Nat.le_of_ble_eq_true rfl, Nat.le_of_ble_eq_true rfl, Nat.le_of_ble_eq_true rfl, Nat.le_of_ble_eq_true rfl⟩ (fun τ269 hr269 => ?_)
                    refine zy_top (b := tS D (Ht D) a0) rfl ?_
                    have hz269 : zOK τ269 := hr269.1
                    refine zx_aloadN dL_isVerdict_272 rfl rfl ?_
                    refine zx_iload dL_isVerdict_273 rfl ?_
                    refine zy_cvR [zi ((a : Nat) : Int)] (fX9_bestScore  hfl hz269 hr269.2.2 hW hP1 (by first | exact hz269 _ _ | assumption | exact zr_b _ | exact zcmp_r _ _ | exact hzD _ _ | exact zr3 (tS_b hW _) | exact zr3 (lsc_b hW _ _) | exact zr3 (sc_b hW _ _) | exact rkP_zr hW _ | exact scA_zr hW _ _ | exact zr3 (cW_b hW) | exact zr3 (wS_b hW) | exact unx_zr hW _ | exact dcs_zr hW | (unfold zr at *; omega)) (by first | assumption | omega)) dL_isVerdict_275 (by decide) rfl cw_RL_147 okX9_bestScore rfl (Nat.le_of_ble_eq_true rfl) ⟨Nat.le_of_ble_eq_true rfl, Nat.le_of_ble_eq_true rfl, Nat.le_of_ble_eq_true rfl, Nat.le_of_ble_eq_true rfl⟩ (fun τ275 hr275 => ?_)
                    refine zy_top (b := tS D (Ht D) a) rfl ?_
                    have hz275 : zOK τ275 := hr275.1
                    refine zx_icmp_ne (tgt := 290) (by first | exact hz275 _ _ | assumption | exact zr_b _ | exact zcmp_r _ _ | exact hzD _ _ | exact zr3 (tS_b hW _) | exact zr3 (lsc_b hW _ _) | exact zr3 (sc_b hW _ _) | exact rkP_zr hW _ | exact scA_zr hW _ _ | exact zr3 (cW_b hW) | exact zr3 (wS_b hW) | exact unx_zr hW _ | exact dcs_zr hW | (unfold zr at *; omega)) (by first | exact hz275 _ _ | assumption | exact zr_b _ | exact zcmp_r _ _ | exact hzD _ _ | exact zr3 (tS_b hW _) | exact zr3 (lsc_b hW _ _) | exact zr3 (sc_b hW _ _) | exact rkP_zr hW _ | exact scA_zr hW _ _ | exact zr3 (cW_b hW) | exact zr3 (wS_b hW) | exact unx_zr hW _ | exact dcs_zr hW | (unfold zr at *; omega)) dL_isVerdict_278 (by decide) (fun h278 => ?_) (fun h278 => ?_)
                    · refine zy_iinc (b := ((q + 1 : Nat) : Int)) [zf 9 0, zi ((wP D (Ht D) : Nat) : Int), zi (wY D (Ht D)), zi op, zi ms, zi nx, zi wt, zi ((q + 1 : Nat) : Int), zi ((a : Nat) : Int), zi ((a0 : Nat) : Int)] dL_isVerdict_290 rfl (by omega) (Nat.le_of_ble_eq_true rfl) rfl rfl ?_
                      refine zx_goto (tgt := 209) dL_isVerdict_293 (by decide) ?_
                      refine zy_drop 8 [zf 9 0, zi ((wP D (Ht D) : Nat) : Int), zi (wY D (Ht D)), zi op, zi ms, zi nx, zi wt, zi ((q + 1 : Nat) : Int), zu, zi ((a0 : Nat) : Int)] rfl ?_
                      refine zy_drop 9 [zf 9 0, zi ((wP D (Ht D) : Nat) : Int), zi (wY D (Ht D)), zi op, zi ms, zi nx, zi wt, zi ((q + 1 : Nat) : Int), zu, zu] rfl ?_
                      exact ih209 τ275 (q + 1) hz275 hr275.2.2 (zJ (zJ (zJ (zJ (zJ (zJ hF hr221.2.1) hr241.2.1) hr249.2.1) hr255.2.1) hr269.2.1) hr275.2.1) (by omega) (by omega)
                    · refine zx_iload dL_isVerdict_281 rfl ?_
                      refine zx_iload dL_isVerdict_283 rfl ?_
                      refine zx_icmp_lt (tgt := 290) (by first | exact hz275 _ _ | assumption | exact zr_b _ | exact zcmp_r _ _ | exact hzD _ _ | exact zr3 (tS_b hW _) | exact zr3 (lsc_b hW _ _) | exact zr3 (sc_b hW _ _) | exact rkP_zr hW _ | exact scA_zr hW _ _ | exact zr3 (cW_b hW) | exact zr3 (wS_b hW) | exact unx_zr hW _ | exact dcs_zr hW | (unfold zr at *; omega)) (by first | exact hz275 _ _ | assumption | exact zr_b _ | exact zcmp_r _ _ | exact hzD _ _ | exact zr3 (tS_b hW _) | exact zr3 (lsc_b hW _ _) | exact zr3 (sc_b hW _ _) | exact rkP_zr hW _ | exact scA_zr hW _ _ | exact zr3 (cW_b hW) | exact zr3 (wS_b hW) | exact unx_zr hW _ | exact dcs_zr hW | (unfold zr at *; omega)) dL_isVerdict_285 (by decide) (fun h285 => ?_) (fun h285 => ?_)
                      · refine zy_iinc (b := ((q + 1 : Nat) : Int)) [zf 9 0, zi ((wP D (Ht D) : Nat) : Int), zi (wY D (Ht D)), zi op, zi ms, zi nx, zi wt, zi ((q + 1 : Nat) : Int), zi ((a : Nat) : Int), zi ((a0 : Nat) : Int)] dL_isVerdict_290 rfl (by omega) (Nat.le_of_ble_eq_true rfl) rfl rfl ?_
                        refine zx_goto (tgt := 209) dL_isVerdict_293 (by decide) ?_
                        refine zy_drop 8 [zf 9 0, zi ((wP D (Ht D) : Nat) : Int), zi (wY D (Ht D)), zi op, zi ms, zi nx, zi wt, zi ((q + 1 : Nat) : Int), zu, zi ((a0 : Nat) : Int)] rfl ?_
                        refine zy_drop 9 [zf 9 0, zi ((wP D (Ht D) : Nat) : Int), zi (wY D (Ht D)), zi op, zi ms, zi nx, zi wt, zi ((q + 1 : Nat) : Int), zu, zu] rfl ?_
                        exact ih209 τ275 (q + 1) hz275 hr275.2.2 (zJ (zJ (zJ (zJ (zJ (zJ hF hr221.2.1) hr241.2.1) hr249.2.1) hr255.2.1) hr269.2.1) hr275.2.1) (by omega) (by omega)
                      · exfalso; omega
              · refine zx_iload dL_isVerdict_231 rfl ?_
                refine zx_goto (tgt := 244) dL_isVerdict_233 (by decide) ?_
                refine zy_istore [zf 9 0, zi ((wP D (Ht D) : Nat) : Int), zi (wY D (Ht D)), zi op, zi ms, zi nx, zi wt, zi ((q : Nat) : Int), zi ((a : Nat) : Int), zi ((a : Nat) : Int)] dL_isVerdict_244 (Nat.le_of_ble_eq_true rfl) (Nat.le_of_ble_eq_true rfl) rfl rfl ?_
                refine zx_aloadN dL_isVerdict_246 rfl rfl ?_
                refine zx_iload dL_isVerdict_247 rfl ?_
                refine zy_cvR [zi ((a : Nat) : Int)] (fX9_bestScore  hfl hz221 hr221.2.2 hW hP1 (by first | exact hz221 _ _ | assumption | exact zr_b _ | exact zcmp_r _ _ | exact hzD _ _ | exact zr3 (tS_b hW _) | exact zr3 (lsc_b hW _ _) | exact zr3 (sc_b hW _ _) | exact rkP_zr hW _ | exact scA_zr hW _ _ | exact zr3 (cW_b hW) | exact zr3 (wS_b hW) | exact unx_zr hW _ | exact dcs_zr hW | (unfold zr at *; omega)) (by first | assumption | omega)) dL_isVerdict_249 (by decide) rfl cw_RL_147 okX9_bestScore rfl (Nat.le_of_ble_eq_true rfl) ⟨Nat.le_of_ble_eq_true rfl, Nat.le_of_ble_eq_true rfl, Nat.le_of_ble_eq_true rfl, Nat.le_of_ble_eq_true rfl⟩ (fun τ249 hr249 => ?_)
                refine zy_top (b := tS D (Ht D) a) rfl ?_
                have hz249 : zOK τ249 := hr249.1
                refine zx_aloadN dL_isVerdict_252 rfl rfl ?_
                refine zx_iload dL_isVerdict_253 rfl ?_
                refine zy_cvR [zi ((a : Nat) : Int)] (fX9_bestScore  hfl hz249 hr249.2.2 hW hP1 (by first | exact hz249 _ _ | assumption | exact zr_b _ | exact zcmp_r _ _ | exact hzD _ _ | exact zr3 (tS_b hW _) | exact zr3 (lsc_b hW _ _) | exact zr3 (sc_b hW _ _) | exact rkP_zr hW _ | exact scA_zr hW _ _ | exact zr3 (cW_b hW) | exact zr3 (wS_b hW) | exact unx_zr hW _ | exact dcs_zr hW | (unfold zr at *; omega)) (by first | assumption | omega)) dL_isVerdict_255 (by decide) rfl cw_RL_147 okX9_bestScore rfl (Nat.le_of_ble_eq_true rfl) ⟨Nat.le_of_ble_eq_true rfl, Nat.le_of_ble_eq_true rfl, Nat.le_of_ble_eq_true rfl, Nat.le_of_ble_eq_true rfl⟩ (fun τ255 hr255 => ?_)
                refine zy_top (b := tS D (Ht D) a) rfl ?_
                have hz255 : zOK τ255 := hr255.1
                refine zx_icmp_lt (tgt := 288) (by first | exact hz255 _ _ | assumption | exact zr_b _ | exact zcmp_r _ _ | exact hzD _ _ | exact zr3 (tS_b hW _) | exact zr3 (lsc_b hW _ _) | exact zr3 (sc_b hW _ _) | exact rkP_zr hW _ | exact scA_zr hW _ _ | exact zr3 (cW_b hW) | exact zr3 (wS_b hW) | exact unx_zr hW _ | exact dcs_zr hW | (unfold zr at *; omega)) (by first | exact hz255 _ _ | assumption | exact zr_b _ | exact zcmp_r _ _ | exact hzD _ _ | exact zr3 (tS_b hW _) | exact zr3 (lsc_b hW _ _) | exact zr3 (sc_b hW _ _) | exact rkP_zr hW _ | exact scA_zr hW _ _ | exact zr3 (cW_b hW) | exact zr3 (wS_b hW) | exact unx_zr hW _ | exact dcs_zr hW | (unfold zr at *; omega)) dL_isVerdict_258 (by decide) (fun h258 => ?_) (fun h258 => ?_)
                · exfalso; omega
                · refine zx_iload dL_isVerdict_261 rfl ?_
                  refine zx_if_le (tgt := 290) (by first | exact hz255 _ _ | assumption | exact zr_b _ | exact zcmp_r _ _ | exact hzD _ _ | exact zr3 (tS_b hW _) | exact zr3 (lsc_b hW _ _) | exact zr3 (sc_b hW _ _) | exact rkP_zr hW _ | exact scA_zr hW _ _ | exact zr3 (cW_b hW) | exact zr3 (wS_b hW) | exact unx_zr hW _ | exact dcs_zr hW | (unfold zr at *; omega)) dL_isVerdict_263 (by decide) (fun h263 => ?_) (fun h263 => ?_)
                  · refine zy_iinc (b := ((q + 1 : Nat) : Int)) [zf 9 0, zi ((wP D (Ht D) : Nat) : Int), zi (wY D (Ht D)), zi op, zi ms, zi nx, zi wt, zi ((q + 1 : Nat) : Int), zi ((a : Nat) : Int), zi ((a : Nat) : Int)] dL_isVerdict_290 rfl (by omega) (Nat.le_of_ble_eq_true rfl) rfl rfl ?_
                    refine zx_goto (tgt := 209) dL_isVerdict_293 (by decide) ?_
                    refine zy_drop 8 [zf 9 0, zi ((wP D (Ht D) : Nat) : Int), zi (wY D (Ht D)), zi op, zi ms, zi nx, zi wt, zi ((q + 1 : Nat) : Int), zu, zi ((a : Nat) : Int)] rfl ?_
                    refine zy_drop 9 [zf 9 0, zi ((wP D (Ht D) : Nat) : Int), zi (wY D (Ht D)), zi op, zi ms, zi nx, zi wt, zi ((q + 1 : Nat) : Int), zu, zu] rfl ?_
                    exact ih209 τ255 (q + 1) hz255 hr255.2.2 (zJ (zJ (zJ hF hr221.2.1) hr249.2.1) hr255.2.1) (by omega) (by omega)
                  · refine zx_aloadN dL_isVerdict_266 rfl rfl ?_
                    refine zx_iload dL_isVerdict_267 rfl ?_
                    refine zy_cvR [zi ((a : Nat) : Int)] (fX9_bestScore  hfl hz255 hr255.2.2 hW hP1 (by first | exact hz255 _ _ | assumption | exact zr_b _ | exact zcmp_r _ _ | exact hzD _ _ | exact zr3 (tS_b hW _) | exact zr3 (lsc_b hW _ _) | exact zr3 (sc_b hW _ _) | exact rkP_zr hW _ | exact scA_zr hW _ _ | exact zr3 (cW_b hW) | exact zr3 (wS_b hW) | exact unx_zr hW _ | exact dcs_zr hW | (unfold zr at *; omega)) (by first | assumption | omega)) dL_isVerdict_269 (by decide) rfl cw_RL_147 okX9_bestScore rfl (Nat.le_of_ble_eq_true rfl) ⟨Nat.le_of_ble_eq_true rfl, Nat.le_of_ble_eq_true rfl, Nat.le_of_ble_eq_true rfl, Nat.le_of_ble_eq_true rfl⟩ (fun τ269 hr269 => ?_)
                    refine zy_top (b := tS D (Ht D) a) rfl ?_
                    have hz269 : zOK τ269 := hr269.1
                    refine zx_aloadN dL_isVerdict_272 rfl rfl ?_
                    refine zx_iload dL_isVerdict_273 rfl ?_
                    refine zy_cvR [zi ((a : Nat) : Int)] (fX9_bestScore  hfl hz269 hr269.2.2 hW hP1 (by first | exact hz269 _ _ | assumption | exact zr_b _ | exact zcmp_r _ _ | exact hzD _ _ | exact zr3 (tS_b hW _) | exact zr3 (lsc_b hW _ _) | exact zr3 (sc_b hW _ _) | exact rkP_zr hW _ | exact scA_zr hW _ _ | exact zr3 (cW_b hW) | exact zr3 (wS_b hW) | exact unx_zr hW _ | exact dcs_zr hW | (unfold zr at *; omega)) (by first | assumption | omega)) dL_isVerdict_275 (by decide) rfl cw_RL_147 okX9_bestScore rfl (Nat.le_of_ble_eq_true rfl) ⟨Nat.le_of_ble_eq_true rfl, Nat.le_of_ble_eq_true rfl, Nat.le_of_ble_eq_true rfl, Nat.le_of_ble_eq_true rfl⟩ (fun τ275 hr275 => ?_)
                    refine zy_top (b := tS D (Ht D) a) rfl ?_
                    have hz275 : zOK τ275 := hr275.1
                    refine zx_icmp_ne (tgt := 290) (by first | exact hz275 _ _ | assumption | exact zr_b _ | exact zcmp_r _ _ | exact hzD _ _ | exact zr3 (tS_b hW _) | exact zr3 (lsc_b hW _ _) | exact zr3 (sc_b hW _ _) | exact rkP_zr hW _ | exact scA_zr hW _ _ | exact zr3 (cW_b hW) | exact zr3 (wS_b hW) | exact unx_zr hW _ | exact dcs_zr hW | (unfold zr at *; omega)) (by first | exact hz275 _ _ | assumption | exact zr_b _ | exact zcmp_r _ _ | exact hzD _ _ | exact zr3 (tS_b hW _) | exact zr3 (lsc_b hW _ _) | exact zr3 (sc_b hW _ _) | exact rkP_zr hW _ | exact scA_zr hW _ _ | exact zr3 (cW_b hW) | exact zr3 (wS_b hW) | exact unx_zr hW _ | exact dcs_zr hW | (unfold zr at *; omega)) dL_isVerdict_278 (by decide) (fun h278 => ?_) (fun h278 => ?_)
                    · refine zy_iinc (b := ((q + 1 : Nat) : Int)) [zf 9 0, zi ((wP D (Ht D) : Nat) : Int), zi (wY D (Ht D)), zi op, zi ms, zi nx, zi wt, zi ((q + 1 : Nat) : Int), zi ((a : Nat) : Int), zi ((a : Nat) : Int)] dL_isVerdict_290 rfl (by omega) (Nat.le_of_ble_eq_true rfl) rfl rfl ?_
                      refine zx_goto (tgt := 209) dL_isVerdict_293 (by decide) ?_
                      refine zy_drop 8 [zf 9 0, zi ((wP D (Ht D) : Nat) : Int), zi (wY D (Ht D)), zi op, zi ms, zi nx, zi wt, zi ((q + 1 : Nat) : Int), zu, zi ((a : Nat) : Int)] rfl ?_
                      refine zy_drop 9 [zf 9 0, zi ((wP D (Ht D) : Nat) : Int), zi (wY D (Ht D)), zi op, zi ms, zi nx, zi wt, zi ((q + 1 : Nat) : Int), zu, zu] rfl ?_
                      exact ih209 τ275 (q + 1) hz275 hr275.2.2 (zJ (zJ (zJ (zJ (zJ hF hr221.2.1) hr249.2.1) hr255.2.1) hr269.2.1) hr275.2.1) (by omega) (by omega)
                    · refine zx_iload dL_isVerdict_281 rfl ?_
                      refine zx_iload dL_isVerdict_283 rfl ?_
                      refine zx_icmp_lt (tgt := 290) (by first | exact hz275 _ _ | assumption | exact zr_b _ | exact zcmp_r _ _ | exact hzD _ _ | exact zr3 (tS_b hW _) | exact zr3 (lsc_b hW _ _) | exact zr3 (sc_b hW _ _) | exact rkP_zr hW _ | exact scA_zr hW _ _ | exact zr3 (cW_b hW) | exact zr3 (wS_b hW) | exact unx_zr hW _ | exact dcs_zr hW | (unfold zr at *; omega)) (by first | exact hz275 _ _ | assumption | exact zr_b _ | exact zcmp_r _ _ | exact hzD _ _ | exact zr3 (tS_b hW _) | exact zr3 (lsc_b hW _ _) | exact zr3 (sc_b hW _ _) | exact rkP_zr hW _ | exact scA_zr hW _ _ | exact zr3 (cW_b hW) | exact zr3 (wS_b hW) | exact unx_zr hW _ | exact dcs_zr hW | (unfold zr at *; omega)) dL_isVerdict_285 (by decide) (fun h285 => ?_) (fun h285 => ?_)
                      · refine zy_iinc (b := ((q + 1 : Nat) : Int)) [zf 9 0, zi ((wP D (Ht D) : Nat) : Int), zi (wY D (Ht D)), zi op, zi ms, zi nx, zi wt, zi ((q + 1 : Nat) : Int), zi ((a : Nat) : Int), zi ((a : Nat) : Int)] dL_isVerdict_290 rfl (by omega) (Nat.le_of_ble_eq_true rfl) rfl rfl ?_
                        refine zx_goto (tgt := 209) dL_isVerdict_293 (by decide) ?_
                        refine zy_drop 8 [zf 9 0, zi ((wP D (Ht D) : Nat) : Int), zi (wY D (Ht D)), zi op, zi ms, zi nx, zi wt, zi ((q + 1 : Nat) : Int), zu, zi ((a : Nat) : Int)] rfl ?_
                        refine zy_drop 9 [zf 9 0, zi ((wP D (Ht D) : Nat) : Int), zi (wY D (Ht D)), zi op, zi ms, zi nx, zi wt, zi ((q + 1 : Nat) : Int), zu, zu] rfl ?_
                        exact ih209 τ275 (q + 1) hz275 hr275.2.2 (zJ (zJ (zJ (zJ (zJ hF hr221.2.1) hr249.2.1) hr255.2.1) hr269.2.1) hr275.2.1) (by omega) (by omega)
                      · exfalso; omega
        exact L209 _ τ 0 hz hB hF (by omega) (Nat.lt_succ_self _)
      · have o1 := hO r (by omega)
        refine zx_aloadN dL_isVerdict_33 rfl rfl ?_
        refine zx_iload dL_isVerdict_34 rfl ?_
        refine zy_cv [zi ((r : Nat) : Int)] (fX9_clueInOrder  hfl hz hB hW (by first | exact hz _ _ | assumption | exact zr_b _ | exact zcmp_r _ _ | exact hzD _ _ | exact zr3 (tS_b hW _) | exact zr3 (lsc_b hW _ _) | exact zr3 (sc_b hW _ _) | exact rkP_zr hW _ | exact scA_zr hW _ _ | exact zr3 (cW_b hW) | exact zr3 (wS_b hW) | exact unx_zr hW _ | exact dcs_zr hW | (unfold zr at *; omega))) dL_isVerdict_36 (by decide) rfl cw_RL_180 okX9_clueInOrder rfl (Nat.le_of_ble_eq_true rfl) ⟨Nat.le_of_ble_eq_true rfl, Nat.le_of_ble_eq_true rfl, Nat.le_of_ble_eq_true rfl, Nat.le_of_ble_eq_true rfl⟩ ?_
        refine zy_top (b := if 0 ≤ ((r : Nat) : Int) ∧ ((r : Nat) : Int) < D 12 0 then D 19 r else -1) rfl ?_
        refine zy_top (b := D 19 r) (if_pos (by omega)) ?_
        refine zy_istore [zf 9 0, zi ((wP D (Ht D) : Nat) : Int), zi (wY D (Ht D)), zi op, zi ms, zi nx, zi wt, zi ((r : Nat) : Int), zi (D 19 r), zu] dL_isVerdict_39 (Nat.le_of_ble_eq_true rfl) (Nat.le_of_ble_eq_true rfl) rfl rfl ?_
        refine zx_iload dL_isVerdict_41 rfl ?_
        refine zx_if_ne (tgt := 51) (by first | exact hz _ _ | assumption | exact zr_b _ | exact zcmp_r _ _ | exact hzD _ _ | exact zr3 (tS_b hW _) | exact zr3 (lsc_b hW _ _) | exact zr3 (sc_b hW _ _) | exact rkP_zr hW _ | exact scA_zr hW _ _ | exact zr3 (cW_b hW) | exact zr3 (wS_b hW) | exact unx_zr hW _ | exact dcs_zr hW | (unfold zr at *; omega)) dL_isVerdict_43 (by decide) (fun h43 => ?_) (fun h43 => ?_)
        · have o0 := hO (r - 1) (by omega)
          have hbf := hW.2.2.2.2.2.2.1 (r - 1) r (by omega) (by omega)
          unfold bef at hbf
          refine zx_aloadN dL_isVerdict_51 rfl rfl ?_
          refine zx_iload dL_isVerdict_52 rfl ?_
          refine zx_iconst dL_isVerdict_54 ?_
          refine zx_isub dL_isVerdict_55 ?_
          refine zy_cv [zi (((r : Nat) : Int) - 1)] (fX9_clueInOrder  hfl hz hB hW (by first | exact hz _ _ | assumption | exact zr_b _ | exact zcmp_r _ _ | exact hzD _ _ | exact zr3 (tS_b hW _) | exact zr3 (lsc_b hW _ _) | exact zr3 (sc_b hW _ _) | exact rkP_zr hW _ | exact scA_zr hW _ _ | exact zr3 (cW_b hW) | exact zr3 (wS_b hW) | exact unx_zr hW _ | exact dcs_zr hW | (unfold zr at *; omega))) dL_isVerdict_56 (by decide) rfl cw_RL_180 okX9_clueInOrder rfl (Nat.le_of_ble_eq_true rfl) ⟨Nat.le_of_ble_eq_true rfl, Nat.le_of_ble_eq_true rfl, Nat.le_of_ble_eq_true rfl, Nat.le_of_ble_eq_true rfl⟩ ?_
          refine zy_top (b := D 19 (r - 1)) (by rw [if_pos (by omega)]; congr 1; omega) ?_
          refine zy_istore [zf 9 0, zi ((wP D (Ht D) : Nat) : Int), zi (wY D (Ht D)), zi op, zi ms, zi nx, zi wt, zi ((r : Nat) : Int), zi (D 19 r), zi (D 19 (r - 1))] dL_isVerdict_59 (Nat.le_of_ble_eq_true rfl) (Nat.le_of_ble_eq_true rfl) rfl rfl ?_
          refine zx_aloadN dL_isVerdict_61 rfl rfl ?_
          refine zx_iload dL_isVerdict_62 rfl ?_
          refine zy_cv [zi (D 19 (r - 1))] (fX9_pageOf  hfl hz hB hW (by first | exact hz _ _ | assumption | exact zr_b _ | exact zcmp_r _ _ | exact hzD _ _ | exact zr3 (tS_b hW _) | exact zr3 (lsc_b hW _ _) | exact zr3 (sc_b hW _ _) | exact rkP_zr hW _ | exact scA_zr hW _ _ | exact zr3 (cW_b hW) | exact zr3 (wS_b hW) | exact unx_zr hW _ | exact dcs_zr hW | (unfold zr at *; omega)) (by first | assumption | omega)) dL_isVerdict_64 (by decide) rfl cw_RL_104 okX9_pageOf rfl (Nat.le_of_ble_eq_true rfl) ⟨Nat.le_of_ble_eq_true rfl, Nat.le_of_ble_eq_true rfl, Nat.le_of_ble_eq_true rfl, Nat.le_of_ble_eq_true rfl⟩ ?_
          refine zx_aloadN dL_isVerdict_67 rfl rfl ?_
          refine zx_iload dL_isVerdict_68 rfl ?_
          refine zy_cv [zi (D 19 r)] (fX9_pageOf  hfl hz hB hW (by first | exact hz _ _ | assumption | exact zr_b _ | exact zcmp_r _ _ | exact hzD _ _ | exact zr3 (tS_b hW _) | exact zr3 (lsc_b hW _ _) | exact zr3 (sc_b hW _ _) | exact rkP_zr hW _ | exact scA_zr hW _ _ | exact zr3 (cW_b hW) | exact zr3 (wS_b hW) | exact unx_zr hW _ | exact dcs_zr hW | (unfold zr at *; omega)) (by first | assumption | omega)) dL_isVerdict_70 (by decide) rfl cw_RL_104 okX9_pageOf rfl (Nat.le_of_ble_eq_true rfl) ⟨Nat.le_of_ble_eq_true rfl, Nat.le_of_ble_eq_true rfl, Nat.le_of_ble_eq_true rfl, Nat.le_of_ble_eq_true rfl⟩ ?_
          refine zx_icmp_lt (tgt := 103) (by first | exact hz _ _ | assumption | exact zr_b _ | exact zcmp_r _ _ | exact hzD _ _ | exact zr3 (tS_b hW _) | exact zr3 (lsc_b hW _ _) | exact zr3 (sc_b hW _ _) | exact rkP_zr hW _ | exact scA_zr hW _ _ | exact zr3 (cW_b hW) | exact zr3 (wS_b hW) | exact unx_zr hW _ | exact dcs_zr hW | (unfold zr at *; omega)) (by first | exact hz _ _ | assumption | exact zr_b _ | exact zcmp_r _ _ | exact hzD _ _ | exact zr3 (tS_b hW _) | exact zr3 (lsc_b hW _ _) | exact zr3 (sc_b hW _ _) | exact rkP_zr hW _ | exact scA_zr hW _ _ | exact zr3 (cW_b hW) | exact zr3 (wS_b hW) | exact unx_zr hW _ | exact dcs_zr hW | (unfold zr at *; omega)) dL_isVerdict_73 (by decide) (fun h73 => ?_) (fun h73 => ?_)
          · exfalso; omega
          · refine zx_iload dL_isVerdict_76 rfl ?_
            refine zx_if_le (tgt := 105) (by first | exact hz _ _ | assumption | exact zr_b _ | exact zcmp_r _ _ | exact hzD _ _ | exact zr3 (tS_b hW _) | exact zr3 (lsc_b hW _ _) | exact zr3 (sc_b hW _ _) | exact rkP_zr hW _ | exact scA_zr hW _ _ | exact zr3 (cW_b hW) | exact zr3 (wS_b hW) | exact unx_zr hW _ | exact dcs_zr hW | (unfold zr at *; omega)) dL_isVerdict_78 (by decide) (fun h78 => ?_) (fun h78 => ?_)
            · refine zx_iload dL_isVerdict_105 rfl ?_
              refine zx_if_ge (tgt := 124) (by first | exact hz _ _ | assumption | exact zr_b _ | exact zcmp_r _ _ | exact hzD _ _ | exact zr3 (tS_b hW _) | exact zr3 (lsc_b hW _ _) | exact zr3 (sc_b hW _ _) | exact rkP_zr hW _ | exact scA_zr hW _ _ | exact zr3 (cW_b hW) | exact zr3 (wS_b hW) | exact unx_zr hW _ | exact dcs_zr hW | (unfold zr at *; omega)) dL_isVerdict_107 (by decide) (fun h107 => ?_) (fun h107 => ?_)
              · refine zx_iload dL_isVerdict_124 rfl ?_
                refine zy_istore [zf 9 0, zi ((wP D (Ht D) : Nat) : Int), zi (wY D (Ht D)), zi op, zi ms, zi nx, zi wt, zi ((r : Nat) : Int), zi (D 19 r), zi (D 19 (r - 1))] dL_isVerdict_126 (Nat.le_of_ble_eq_true rfl) (Nat.le_of_ble_eq_true rfl) rfl rfl ?_
                refine zx_aloadN dL_isVerdict_128 rfl rfl ?_
                refine zx_iload dL_isVerdict_129 rfl ?_
                refine zy_cv [zi (D 19 r)] (fX9_isRead  hfl hz hB hW (by first | exact hz _ _ | assumption | exact zr_b _ | exact zcmp_r _ _ | exact hzD _ _ | exact zr3 (tS_b hW _) | exact zr3 (lsc_b hW _ _) | exact zr3 (sc_b hW _ _) | exact rkP_zr hW _ | exact scA_zr hW _ _ | exact zr3 (cW_b hW) | exact zr3 (wS_b hW) | exact unx_zr hW _ | exact dcs_zr hW | (unfold zr at *; omega)) (by first | assumption | omega)) dL_isVerdict_131 (by decide) rfl cw_RL_122 okX9_isRead rfl (Nat.le_of_ble_eq_true rfl) ⟨Nat.le_of_ble_eq_true rfl, Nat.le_of_ble_eq_true rfl, Nat.le_of_ble_eq_true rfl, Nat.le_of_ble_eq_true rfl⟩ ?_
                refine zx_if_eq (tgt := 200) (by first | exact hz _ _ | assumption | exact zr_b _ | exact zcmp_r _ _ | exact hzD _ _ | exact zr3 (tS_b hW _) | exact zr3 (lsc_b hW _ _) | exact zr3 (sc_b hW _ _) | exact rkP_zr hW _ | exact scA_zr hW _ _ | exact zr3 (cW_b hW) | exact zr3 (wS_b hW) | exact unx_zr hW _ | exact dcs_zr hW | (unfold zr at *; omega)) dL_isVerdict_134 (by decide) (fun h134 => ?_) (fun h134 => ?_)
                · refine zy_iinc (b := ((r + 1 : Nat) : Int)) [zf 9 0, zi ((wP D (Ht D) : Nat) : Int), zi (wY D (Ht D)), zi op, zi ms, zi nx, zi wt, zi ((r + 1 : Nat) : Int), zi (D 19 r), zi (D 19 (r - 1))] dL_isVerdict_200 rfl (by omega) (Nat.le_of_ble_eq_true rfl) rfl rfl ?_
                  refine zx_goto (tgt := 24) dL_isVerdict_203 (by decide) ?_
                  refine zy_drop 8 [zf 9 0, zi ((wP D (Ht D) : Nat) : Int), zi (wY D (Ht D)), zi op, zi ms, zi nx, zi wt, zi ((r + 1 : Nat) : Int), zu, zi (D 19 (r - 1))] rfl ?_
                  refine zy_drop 9 [zf 9 0, zi ((wP D (Ht D) : Nat) : Int), zi (wY D (Ht D)), zi op, zi ms, zi nx, zi wt, zi ((r + 1 : Nat) : Int), zu, zu] rfl ?_
                  exact ih24 τ (r + 1) op ms nx wt hz hB hF (by first | assumption | omega) (by subst hop; first | exact zsb_f (P := fun i => opn D (D 19 i).toNat) (fun q => by first | exact q.1.1 h134 | exact h143 q.1.2 | exact q.2 h168.2) | exact zsb_t (P := fun i => opn D (D 19 i).toNat) hopn) (by subst hms; first | exact zsw_f (P := fun i => opn D (D 19 i).toNat) (v := fun i => D 16 (D 19 i).toNat) (fun q => by first | exact q.1.1 h134 | exact h143 q.1.2 | exact q.2 h168.2) | exact zsw_t (P := fun i => opn D (D 19 i).toNat) (v := fun i => D 16 (D 19 i).toNat) hopn) (by first | (rw [hnx]; exact (nxR_k hW (by omega) (by omega)).symm) | (rw [hnx]; exact (nxR_n hW (by omega) (by omega) h116).symm) | exact (nxR_t hW (by omega) (by omega) h116).symm) (by subst hwt; first | exact zsw_f (P := fun i => Ht D (D 19 i).toNat) (v := fun i => D 16 (D 19 i).toNat) (fun q => by first | exact q.1 h134 | exact h143 q.2) | exact zsw_t (P := fun i => Ht D (D 19 i).toNat) (v := fun i => D 16 (D 19 i).toNat) ⟨h134, h143⟩) (by omega)
                · refine zx_aloadN dL_isVerdict_137 rfl rfl ?_
                  refine zx_iload dL_isVerdict_138 rfl ?_
                  refine zy_cv [zi (D 19 r)] (fX9_isAside  hfl hz hB hW (by first | exact hz _ _ | assumption | exact zr_b _ | exact zcmp_r _ _ | exact hzD _ _ | exact zr3 (tS_b hW _) | exact zr3 (lsc_b hW _ _) | exact zr3 (sc_b hW _ _) | exact rkP_zr hW _ | exact scA_zr hW _ _ | exact zr3 (cW_b hW) | exact zr3 (wS_b hW) | exact unx_zr hW _ | exact dcs_zr hW | (unfold zr at *; omega)) (by first | assumption | omega)) dL_isVerdict_140 (by decide) rfl cw_RL_128 okX9_isAside rfl (Nat.le_of_ble_eq_true rfl) ⟨Nat.le_of_ble_eq_true rfl, Nat.le_of_ble_eq_true rfl, Nat.le_of_ble_eq_true rfl, Nat.le_of_ble_eq_true rfl⟩ ?_
                  refine zx_if_eq (tgt := 149) (by first | exact hz _ _ | assumption | exact zr_b _ | exact zcmp_r _ _ | exact hzD _ _ | exact zr3 (tS_b hW _) | exact zr3 (lsc_b hW _ _) | exact zr3 (sc_b hW _ _) | exact rkP_zr hW _ | exact scA_zr hW _ _ | exact zr3 (cW_b hW) | exact zr3 (wS_b hW) | exact unx_zr hW _ | exact dcs_zr hW | (unfold zr at *; omega)) dL_isVerdict_143 (by decide) (fun h143 => ?_) (fun h143 => ?_)
                  · refine zx_iload dL_isVerdict_149 rfl ?_
                    refine zx_aloadN dL_isVerdict_151 rfl rfl ?_
                    refine zx_iload dL_isVerdict_152 rfl ?_
                    refine zy_cv [zi (D 19 r)] (fX9_weightOf  hfl hz hB hW (by first | exact hz _ _ | assumption | exact zr_b _ | exact zcmp_r _ _ | exact hzD _ _ | exact zr3 (tS_b hW _) | exact zr3 (lsc_b hW _ _) | exact zr3 (sc_b hW _ _) | exact rkP_zr hW _ | exact scA_zr hW _ _ | exact zr3 (cW_b hW) | exact zr3 (wS_b hW) | exact unx_zr hW _ | exact dcs_zr hW | (unfold zr at *; omega)) (by first | assumption | omega)) dL_isVerdict_154 (by decide) rfl cw_RL_119 okX9_weightOf rfl (Nat.le_of_ble_eq_true rfl) ⟨Nat.le_of_ble_eq_true rfl, Nat.le_of_ble_eq_true rfl, Nat.le_of_ble_eq_true rfl, Nat.le_of_ble_eq_true rfl⟩ ?_
                    refine zx_iadd dL_isVerdict_157 ?_
                    refine zy_istore [zf 9 0, zi ((wP D (Ht D) : Nat) : Int), zi (wY D (Ht D)), zi op, zi ms, zi nx, zi (wt + (D 16 (D 19 r).toNat)), zi ((r : Nat) : Int), zi (D 19 r), zi (D 19 (r - 1))] dL_isVerdict_158 (Nat.le_of_ble_eq_true rfl) (Nat.le_of_ble_eq_true rfl) rfl rfl ?_
                    refine zx_aloadN dL_isVerdict_160 rfl rfl ?_
                    refine zx_iloadN dL_isVerdict_161 rfl rfl ?_
                    refine zx_iloadN dL_isVerdict_162 rfl rfl ?_
                    refine zx_iload dL_isVerdict_163 rfl ?_
                    refine zy_cv [zi ((wP D (Ht D) : Nat) : Int), zi (wY D (Ht D)), zi (D 19 r)] (fX9_explains  hfl hz hB hW (by first | exact hz _ _ | assumption | exact zr_b _ | exact zcmp_r _ _ | exact hzD _ _ | exact zr3 (tS_b hW _) | exact zr3 (lsc_b hW _ _) | exact zr3 (sc_b hW _ _) | exact rkP_zr hW _ | exact scA_zr hW _ _ | exact zr3 (cW_b hW) | exact zr3 (wS_b hW) | exact unx_zr hW _ | exact dcs_zr hW | (unfold zr at *; omega)) (by first | exact hz _ _ | assumption | exact zr_b _ | exact zcmp_r _ _ | exact hzD _ _ | exact zr3 (tS_b hW _) | exact zr3 (lsc_b hW _ _) | exact zr3 (sc_b hW _ _) | exact rkP_zr hW _ | exact scA_zr hW _ _ | exact zr3 (cW_b hW) | exact zr3 (wS_b hW) | exact unx_zr hW _ | exact dcs_zr hW | (unfold zr at *; omega)) (by first | exact hz _ _ | assumption | exact zr_b _ | exact zcmp_r _ _ | exact hzD _ _ | exact zr3 (tS_b hW _) | exact zr3 (lsc_b hW _ _) | exact zr3 (sc_b hW _ _) | exact rkP_zr hW _ | exact scA_zr hW _ _ | exact zr3 (cW_b hW) | exact zr3 (wS_b hW) | exact unx_zr hW _ | exact dcs_zr hW | (unfold zr at *; omega)) (by first | assumption | omega) (by first | assumption | omega) (by first | assumption | omega)) dL_isVerdict_165 (by decide) rfl cw_RL_140 okX9_explains rfl (Nat.le_of_ble_eq_true rfl) ⟨Nat.le_of_ble_eq_true rfl, Nat.le_of_ble_eq_true rfl, Nat.le_of_ble_eq_true rfl, Nat.le_of_ble_eq_true rfl⟩ ?_
                    refine zy_top (b := zb (works D (wP D (Ht D)) (wY D (Ht D)) ∧ cFit D (wP D (Ht D)) (wY D (Ht D)) (D 19 r).toNat)) rfl ?_
                    refine zx_if_eq (tgt := 174) (by first | exact hz _ _ | assumption | exact zr_b _ | exact zcmp_r _ _ | exact hzD _ _ | exact zr3 (tS_b hW _) | exact zr3 (lsc_b hW _ _) | exact zr3 (sc_b hW _ _) | exact rkP_zr hW _ | exact scA_zr hW _ _ | exact zr3 (cW_b hW) | exact zr3 (wS_b hW) | exact unx_zr hW _ | exact dcs_zr hW | (unfold zr at *; omega)) dL_isVerdict_168 (by decide) (fun h168 => ?_) (fun h168 => ?_)
                    · have h168 := zb_0.mp h168
                      have hopn : opn D (D 19 r).toNat := ⟨⟨h134, h143⟩, fun z => h168 ⟨hdec, z⟩⟩
                      refine zx_aloadN dL_isVerdict_174 rfl rfl ?_
                      refine zx_iloadN dL_isVerdict_175 rfl rfl ?_
                      refine zy_cvR [zi op] (fX9_unexplainedClue  hfl hz hB hW hP1 (by first | exact hz _ _ | assumption | exact zr_b _ | exact zcmp_r _ _ | exact hzD _ _ | exact zr3 (tS_b hW _) | exact zr3 (lsc_b hW _ _) | exact zr3 (sc_b hW _ _) | exact rkP_zr hW _ | exact scA_zr hW _ _ | exact zr3 (cW_b hW) | exact zr3 (wS_b hW) | exact unx_zr hW _ | exact dcs_zr hW | (unfold zr at *; omega))) dL_isVerdict_176 (by decide) rfl cw_RL_183 okX9_unexplainedClue rfl (Nat.le_of_ble_eq_true rfl) ⟨Nat.le_of_ble_eq_true rfl, Nat.le_of_ble_eq_true rfl, Nat.le_of_ble_eq_true rfl, Nat.le_of_ble_eq_true rfl⟩ (fun τ176 hr176 => ?_)
                      have hz176 : zOK τ176 := hr176.1
                      refine zy_top (b := D 19 r) (by rw [hop]; exact unx_r (by omega) hopn) ?_
                      refine zx_iload dL_isVerdict_179 rfl ?_
                      refine zx_icmp_eq (tgt := 186) (by first | exact hz176 _ _ | assumption | exact zr_b _ | exact zcmp_r _ _ | exact hzD _ _ | exact zr3 (tS_b hW _) | exact zr3 (lsc_b hW _ _) | exact zr3 (sc_b hW _ _) | exact rkP_zr hW _ | exact scA_zr hW _ _ | exact zr3 (cW_b hW) | exact zr3 (wS_b hW) | exact unx_zr hW _ | exact dcs_zr hW | (unfold zr at *; omega)) (by first | exact hz176 _ _ | assumption | exact zr_b _ | exact zcmp_r _ _ | exact hzD _ _ | exact zr3 (tS_b hW _) | exact zr3 (lsc_b hW _ _) | exact zr3 (sc_b hW _ _) | exact rkP_zr hW _ | exact scA_zr hW _ _ | exact zr3 (cW_b hW) | exact zr3 (wS_b hW) | exact unx_zr hW _ | exact dcs_zr hW | (unfold zr at *; omega)) dL_isVerdict_181 (by decide) (fun h181 => ?_) (fun h181 => ?_)
                      · refine zx_iload dL_isVerdict_186 rfl ?_
                        refine zx_aloadN dL_isVerdict_188 rfl rfl ?_
                        refine zx_iload dL_isVerdict_189 rfl ?_
                        refine zy_cv [zi (D 19 r)] (fX9_weightOf  hfl hz176 hr176.2.2 hW (by first | exact hz176 _ _ | assumption | exact zr_b _ | exact zcmp_r _ _ | exact hzD _ _ | exact zr3 (tS_b hW _) | exact zr3 (lsc_b hW _ _) | exact zr3 (sc_b hW _ _) | exact rkP_zr hW _ | exact scA_zr hW _ _ | exact zr3 (cW_b hW) | exact zr3 (wS_b hW) | exact unx_zr hW _ | exact dcs_zr hW | (unfold zr at *; omega)) (by first | assumption | omega)) dL_isVerdict_191 (by decide) rfl cw_RL_119 okX9_weightOf rfl (Nat.le_of_ble_eq_true rfl) ⟨Nat.le_of_ble_eq_true rfl, Nat.le_of_ble_eq_true rfl, Nat.le_of_ble_eq_true rfl, Nat.le_of_ble_eq_true rfl⟩ ?_
                        refine zx_iadd dL_isVerdict_194 ?_
                        refine zy_istore [zf 9 0, zi ((wP D (Ht D) : Nat) : Int), zi (wY D (Ht D)), zi op, zi (ms + (D 16 (D 19 r).toNat)), zi nx, zi (wt + (D 16 (D 19 r).toNat)), zi ((r : Nat) : Int), zi (D 19 r), zi (D 19 (r - 1))] dL_isVerdict_195 (Nat.le_of_ble_eq_true rfl) (Nat.le_of_ble_eq_true rfl) rfl rfl ?_
                        refine zy_iinc (b := op + 1) [zf 9 0, zi ((wP D (Ht D) : Nat) : Int), zi (wY D (Ht D)), zi (op + 1), zi (ms + (D 16 (D 19 r).toNat)), zi nx, zi (wt + (D 16 (D 19 r).toNat)), zi ((r : Nat) : Int), zi (D 19 r), zi (D 19 (r - 1))] dL_isVerdict_197 rfl (by omega) (Nat.le_of_ble_eq_true rfl) rfl rfl ?_
                        refine zy_iinc (b := ((r + 1 : Nat) : Int)) [zf 9 0, zi ((wP D (Ht D) : Nat) : Int), zi (wY D (Ht D)), zi (op + 1), zi (ms + (D 16 (D 19 r).toNat)), zi nx, zi (wt + (D 16 (D 19 r).toNat)), zi ((r + 1 : Nat) : Int), zi (D 19 r), zi (D 19 (r - 1))] dL_isVerdict_200 rfl (by omega) (Nat.le_of_ble_eq_true rfl) rfl rfl ?_
                        refine zx_goto (tgt := 24) dL_isVerdict_203 (by decide) ?_
                        refine zy_drop 8 [zf 9 0, zi ((wP D (Ht D) : Nat) : Int), zi (wY D (Ht D)), zi (op + 1), zi (ms + (D 16 (D 19 r).toNat)), zi nx, zi (wt + (D 16 (D 19 r).toNat)), zi ((r + 1 : Nat) : Int), zu, zi (D 19 (r - 1))] rfl ?_
                        refine zy_drop 9 [zf 9 0, zi ((wP D (Ht D) : Nat) : Int), zi (wY D (Ht D)), zi (op + 1), zi (ms + (D 16 (D 19 r).toNat)), zi nx, zi (wt + (D 16 (D 19 r).toNat)), zi ((r + 1 : Nat) : Int), zu, zu] rfl ?_
                        exact ih24 τ176 (r + 1) (op + 1) (ms + (D 16 (D 19 r).toNat)) nx (wt + (D 16 (D 19 r).toNat)) hz176 hr176.2.2 (zJ hF hr176.2.1) (by first | assumption | omega) (by subst hop; first | exact zsb_f (P := fun i => opn D (D 19 i).toNat) (fun q => by first | exact q.1.1 h134 | exact h143 q.1.2 | exact q.2 h168.2) | exact zsb_t (P := fun i => opn D (D 19 i).toNat) hopn) (by subst hms; first | exact zsw_f (P := fun i => opn D (D 19 i).toNat) (v := fun i => D 16 (D 19 i).toNat) (fun q => by first | exact q.1.1 h134 | exact h143 q.1.2 | exact q.2 h168.2) | exact zsw_t (P := fun i => opn D (D 19 i).toNat) (v := fun i => D 16 (D 19 i).toNat) hopn) (by first | (rw [hnx]; exact (nxR_k hW (by omega) (by omega)).symm) | (rw [hnx]; exact (nxR_n hW (by omega) (by omega) h116).symm) | exact (nxR_t hW (by omega) (by omega) h116).symm) (by subst hwt; first | exact zsw_f (P := fun i => Ht D (D 19 i).toNat) (v := fun i => D 16 (D 19 i).toNat) (fun q => by first | exact q.1 h134 | exact h143 q.2) | exact zsw_t (P := fun i => Ht D (D 19 i).toNat) (v := fun i => D 16 (D 19 i).toNat) ⟨h134, h143⟩) (by omega)
                      · exact absurd rfl h181
                    · have h168 := zb_n.mp h168
                      refine zx_goto (tgt := 200) dL_isVerdict_171 (by decide) ?_
                      refine zy_iinc (b := ((r + 1 : Nat) : Int)) [zf 9 0, zi ((wP D (Ht D) : Nat) : Int), zi (wY D (Ht D)), zi op, zi ms, zi nx, zi (wt + (D 16 (D 19 r).toNat)), zi ((r + 1 : Nat) : Int), zi (D 19 r), zi (D 19 (r - 1))] dL_isVerdict_200 rfl (by omega) (Nat.le_of_ble_eq_true rfl) rfl rfl ?_
                      refine zx_goto (tgt := 24) dL_isVerdict_203 (by decide) ?_
                      refine zy_drop 8 [zf 9 0, zi ((wP D (Ht D) : Nat) : Int), zi (wY D (Ht D)), zi op, zi ms, zi nx, zi (wt + (D 16 (D 19 r).toNat)), zi ((r + 1 : Nat) : Int), zu, zi (D 19 (r - 1))] rfl ?_
                      refine zy_drop 9 [zf 9 0, zi ((wP D (Ht D) : Nat) : Int), zi (wY D (Ht D)), zi op, zi ms, zi nx, zi (wt + (D 16 (D 19 r).toNat)), zi ((r + 1 : Nat) : Int), zu, zu] rfl ?_
                      exact ih24 τ (r + 1) op ms nx (wt + (D 16 (D 19 r).toNat)) hz hB hF (by first | assumption | omega) (by subst hop; first | exact zsb_f (P := fun i => opn D (D 19 i).toNat) (fun q => by first | exact q.1.1 h134 | exact h143 q.1.2 | exact q.2 h168.2) | exact zsb_t (P := fun i => opn D (D 19 i).toNat) hopn) (by subst hms; first | exact zsw_f (P := fun i => opn D (D 19 i).toNat) (v := fun i => D 16 (D 19 i).toNat) (fun q => by first | exact q.1.1 h134 | exact h143 q.1.2 | exact q.2 h168.2) | exact zsw_t (P := fun i => opn D (D 19 i).toNat) (v := fun i => D 16 (D 19 i).toNat) hopn) (by first | (rw [hnx]; exact (nxR_k hW (by omega) (by omega)).symm) | (rw [hnx]; exact (nxR_n hW (by omega) (by omega) h116).symm) | exact (nxR_t hW (by omega) (by omega) h116).symm) (by subst hwt; first | exact zsw_f (P := fun i => Ht D (D 19 i).toNat) (v := fun i => D 16 (D 19 i).toNat) (fun q => by first | exact q.1 h134 | exact h143 q.2) | exact zsw_t (P := fun i => Ht D (D 19 i).toNat) (v := fun i => D 16 (D 19 i).toNat) ⟨h134, h143⟩) (by omega)
                  · refine zx_goto (tgt := 200) dL_isVerdict_146 (by decide) ?_
                    refine zy_iinc (b := ((r + 1 : Nat) : Int)) [zf 9 0, zi ((wP D (Ht D) : Nat) : Int), zi (wY D (Ht D)), zi op, zi ms, zi nx, zi wt, zi ((r + 1 : Nat) : Int), zi (D 19 r), zi (D 19 (r - 1))] dL_isVerdict_200 rfl (by omega) (Nat.le_of_ble_eq_true rfl) rfl rfl ?_
                    refine zx_goto (tgt := 24) dL_isVerdict_203 (by decide) ?_
                    refine zy_drop 8 [zf 9 0, zi ((wP D (Ht D) : Nat) : Int), zi (wY D (Ht D)), zi op, zi ms, zi nx, zi wt, zi ((r + 1 : Nat) : Int), zu, zi (D 19 (r - 1))] rfl ?_
                    refine zy_drop 9 [zf 9 0, zi ((wP D (Ht D) : Nat) : Int), zi (wY D (Ht D)), zi op, zi ms, zi nx, zi wt, zi ((r + 1 : Nat) : Int), zu, zu] rfl ?_
                    exact ih24 τ (r + 1) op ms nx wt hz hB hF (by first | assumption | omega) (by subst hop; first | exact zsb_f (P := fun i => opn D (D 19 i).toNat) (fun q => by first | exact q.1.1 h134 | exact h143 q.1.2 | exact q.2 h168.2) | exact zsb_t (P := fun i => opn D (D 19 i).toNat) hopn) (by subst hms; first | exact zsw_f (P := fun i => opn D (D 19 i).toNat) (v := fun i => D 16 (D 19 i).toNat) (fun q => by first | exact q.1.1 h134 | exact h143 q.1.2 | exact q.2 h168.2) | exact zsw_t (P := fun i => opn D (D 19 i).toNat) (v := fun i => D 16 (D 19 i).toNat) hopn) (by first | (rw [hnx]; exact (nxR_k hW (by omega) (by omega)).symm) | (rw [hnx]; exact (nxR_n hW (by omega) (by omega) h116).symm) | exact (nxR_t hW (by omega) (by omega) h116).symm) (by subst hwt; first | exact zsw_f (P := fun i => Ht D (D 19 i).toNat) (v := fun i => D 16 (D 19 i).toNat) (fun q => by first | exact q.1 h134 | exact h143 q.2) | exact zsw_t (P := fun i => Ht D (D 19 i).toNat) (v := fun i => D 16 (D 19 i).toNat) ⟨h134, h143⟩) (by omega)
              · refine zx_aloadN dL_isVerdict_110 rfl rfl ?_
                refine zx_iload dL_isVerdict_111 rfl ?_
                refine zy_cv [zi (D 19 r)] (fX9_isRead  hfl hz hB hW (by first | exact hz _ _ | assumption | exact zr_b _ | exact zcmp_r _ _ | exact hzD _ _ | exact zr3 (tS_b hW _) | exact zr3 (lsc_b hW _ _) | exact zr3 (sc_b hW _ _) | exact rkP_zr hW _ | exact scA_zr hW _ _ | exact zr3 (cW_b hW) | exact zr3 (wS_b hW) | exact unx_zr hW _ | exact dcs_zr hW | (unfold zr at *; omega)) (by first | assumption | omega)) dL_isVerdict_113 (by decide) rfl cw_RL_122 okX9_isRead rfl (Nat.le_of_ble_eq_true rfl) ⟨Nat.le_of_ble_eq_true rfl, Nat.le_of_ble_eq_true rfl, Nat.le_of_ble_eq_true rfl, Nat.le_of_ble_eq_true rfl⟩ ?_
                refine zx_if_ne (tgt := 124) (by first | exact hz _ _ | assumption | exact zr_b _ | exact zcmp_r _ _ | exact hzD _ _ | exact zr3 (tS_b hW _) | exact zr3 (lsc_b hW _ _) | exact zr3 (sc_b hW _ _) | exact rkP_zr hW _ | exact scA_zr hW _ _ | exact zr3 (cW_b hW) | exact zr3 (wS_b hW) | exact unx_zr hW _ | exact dcs_zr hW | (unfold zr at *; omega)) dL_isVerdict_116 (by decide) (fun h116 => ?_) (fun h116 => ?_)
                · refine zx_iload dL_isVerdict_124 rfl ?_
                  refine zy_istore [zf 9 0, zi ((wP D (Ht D) : Nat) : Int), zi (wY D (Ht D)), zi op, zi ms, zi nx, zi wt, zi ((r : Nat) : Int), zi (D 19 r), zi (D 19 (r - 1))] dL_isVerdict_126 (Nat.le_of_ble_eq_true rfl) (Nat.le_of_ble_eq_true rfl) rfl rfl ?_
                  refine zx_aloadN dL_isVerdict_128 rfl rfl ?_
                  refine zx_iload dL_isVerdict_129 rfl ?_
                  refine zy_cv [zi (D 19 r)] (fX9_isRead  hfl hz hB hW (by first | exact hz _ _ | assumption | exact zr_b _ | exact zcmp_r _ _ | exact hzD _ _ | exact zr3 (tS_b hW _) | exact zr3 (lsc_b hW _ _) | exact zr3 (sc_b hW _ _) | exact rkP_zr hW _ | exact scA_zr hW _ _ | exact zr3 (cW_b hW) | exact zr3 (wS_b hW) | exact unx_zr hW _ | exact dcs_zr hW | (unfold zr at *; omega)) (by first | assumption | omega)) dL_isVerdict_131 (by decide) rfl cw_RL_122 okX9_isRead rfl (Nat.le_of_ble_eq_true rfl) ⟨Nat.le_of_ble_eq_true rfl, Nat.le_of_ble_eq_true rfl, Nat.le_of_ble_eq_true rfl, Nat.le_of_ble_eq_true rfl⟩ ?_
                  refine zx_if_eq (tgt := 200) (by first | exact hz _ _ | assumption | exact zr_b _ | exact zcmp_r _ _ | exact hzD _ _ | exact zr3 (tS_b hW _) | exact zr3 (lsc_b hW _ _) | exact zr3 (sc_b hW _ _) | exact rkP_zr hW _ | exact scA_zr hW _ _ | exact zr3 (cW_b hW) | exact zr3 (wS_b hW) | exact unx_zr hW _ | exact dcs_zr hW | (unfold zr at *; omega)) dL_isVerdict_134 (by decide) (fun h134 => ?_) (fun h134 => ?_)
                  · refine zy_iinc (b := ((r + 1 : Nat) : Int)) [zf 9 0, zi ((wP D (Ht D) : Nat) : Int), zi (wY D (Ht D)), zi op, zi ms, zi nx, zi wt, zi ((r + 1 : Nat) : Int), zi (D 19 r), zi (D 19 (r - 1))] dL_isVerdict_200 rfl (by omega) (Nat.le_of_ble_eq_true rfl) rfl rfl ?_
                    refine zx_goto (tgt := 24) dL_isVerdict_203 (by decide) ?_
                    refine zy_drop 8 [zf 9 0, zi ((wP D (Ht D) : Nat) : Int), zi (wY D (Ht D)), zi op, zi ms, zi nx, zi wt, zi ((r + 1 : Nat) : Int), zu, zi (D 19 (r - 1))] rfl ?_
                    refine zy_drop 9 [zf 9 0, zi ((wP D (Ht D) : Nat) : Int), zi (wY D (Ht D)), zi op, zi ms, zi nx, zi wt, zi ((r + 1 : Nat) : Int), zu, zu] rfl ?_
                    exact ih24 τ (r + 1) op ms nx wt hz hB hF (by first | assumption | omega) (by subst hop; first | exact zsb_f (P := fun i => opn D (D 19 i).toNat) (fun q => by first | exact q.1.1 h134 | exact h143 q.1.2 | exact q.2 h168.2) | exact zsb_t (P := fun i => opn D (D 19 i).toNat) hopn) (by subst hms; first | exact zsw_f (P := fun i => opn D (D 19 i).toNat) (v := fun i => D 16 (D 19 i).toNat) (fun q => by first | exact q.1.1 h134 | exact h143 q.1.2 | exact q.2 h168.2) | exact zsw_t (P := fun i => opn D (D 19 i).toNat) (v := fun i => D 16 (D 19 i).toNat) hopn) (by first | (rw [hnx]; exact (nxR_k hW (by omega) (by omega)).symm) | (rw [hnx]; exact (nxR_n hW (by omega) (by omega) h116).symm) | exact (nxR_t hW (by omega) (by omega) h116).symm) (by subst hwt; first | exact zsw_f (P := fun i => Ht D (D 19 i).toNat) (v := fun i => D 16 (D 19 i).toNat) (fun q => by first | exact q.1 h134 | exact h143 q.2) | exact zsw_t (P := fun i => Ht D (D 19 i).toNat) (v := fun i => D 16 (D 19 i).toNat) ⟨h134, h143⟩) (by omega)
                  · refine zx_aloadN dL_isVerdict_137 rfl rfl ?_
                    refine zx_iload dL_isVerdict_138 rfl ?_
                    refine zy_cv [zi (D 19 r)] (fX9_isAside  hfl hz hB hW (by first | exact hz _ _ | assumption | exact zr_b _ | exact zcmp_r _ _ | exact hzD _ _ | exact zr3 (tS_b hW _) | exact zr3 (lsc_b hW _ _) | exact zr3 (sc_b hW _ _) | exact rkP_zr hW _ | exact scA_zr hW _ _ | exact zr3 (cW_b hW) | exact zr3 (wS_b hW) | exact unx_zr hW _ | exact dcs_zr hW | (unfold zr at *; omega)) (by first | assumption | omega)) dL_isVerdict_140 (by decide) rfl cw_RL_128 okX9_isAside rfl (Nat.le_of_ble_eq_true rfl) ⟨Nat.le_of_ble_eq_true rfl, Nat.le_of_ble_eq_true rfl, Nat.le_of_ble_eq_true rfl, Nat.le_of_ble_eq_true rfl⟩ ?_
                    refine zx_if_eq (tgt := 149) (by first | exact hz _ _ | assumption | exact zr_b _ | exact zcmp_r _ _ | exact hzD _ _ | exact zr3 (tS_b hW _) | exact zr3 (lsc_b hW _ _) | exact zr3 (sc_b hW _ _) | exact rkP_zr hW _ | exact scA_zr hW _ _ | exact zr3 (cW_b hW) | exact zr3 (wS_b hW) | exact unx_zr hW _ | exact dcs_zr hW | (unfold zr at *; omega)) dL_isVerdict_143 (by decide) (fun h143 => ?_) (fun h143 => ?_)
                    · refine zx_iload dL_isVerdict_149 rfl ?_
                      refine zx_aloadN dL_isVerdict_151 rfl rfl ?_
                      refine zx_iload dL_isVerdict_152 rfl ?_
                      refine zy_cv [zi (D 19 r)] (fX9_weightOf  hfl hz hB hW (by first | exact hz _ _ | assumption | exact zr_b _ | exact zcmp_r _ _ | exact hzD _ _ | exact zr3 (tS_b hW _) | exact zr3 (lsc_b hW _ _) | exact zr3 (sc_b hW _ _) | exact rkP_zr hW _ | exact scA_zr hW _ _ | exact zr3 (cW_b hW) | exact zr3 (wS_b hW) | exact unx_zr hW _ | exact dcs_zr hW | (unfold zr at *; omega)) (by first | assumption | omega)) dL_isVerdict_154 (by decide) rfl cw_RL_119 okX9_weightOf rfl (Nat.le_of_ble_eq_true rfl) ⟨Nat.le_of_ble_eq_true rfl, Nat.le_of_ble_eq_true rfl, Nat.le_of_ble_eq_true rfl, Nat.le_of_ble_eq_true rfl⟩ ?_
                      refine zx_iadd dL_isVerdict_157 ?_
                      refine zy_istore [zf 9 0, zi ((wP D (Ht D) : Nat) : Int), zi (wY D (Ht D)), zi op, zi ms, zi nx, zi (wt + (D 16 (D 19 r).toNat)), zi ((r : Nat) : Int), zi (D 19 r), zi (D 19 (r - 1))] dL_isVerdict_158 (Nat.le_of_ble_eq_true rfl) (Nat.le_of_ble_eq_true rfl) rfl rfl ?_
                      refine zx_aloadN dL_isVerdict_160 rfl rfl ?_
                      refine zx_iloadN dL_isVerdict_161 rfl rfl ?_
                      refine zx_iloadN dL_isVerdict_162 rfl rfl ?_
                      refine zx_iload dL_isVerdict_163 rfl ?_
                      refine zy_cv [zi ((wP D (Ht D) : Nat) : Int), zi (wY D (Ht D)), zi (D 19 r)] (fX9_explains  hfl hz hB hW (by first | exact hz _ _ | assumption | exact zr_b _ | exact zcmp_r _ _ | exact hzD _ _ | exact zr3 (tS_b hW _) | exact zr3 (lsc_b hW _ _) | exact zr3 (sc_b hW _ _) | exact rkP_zr hW _ | exact scA_zr hW _ _ | exact zr3 (cW_b hW) | exact zr3 (wS_b hW) | exact unx_zr hW _ | exact dcs_zr hW | (unfold zr at *; omega)) (by first | exact hz _ _ | assumption | exact zr_b _ | exact zcmp_r _ _ | exact hzD _ _ | exact zr3 (tS_b hW _) | exact zr3 (lsc_b hW _ _) | exact zr3 (sc_b hW _ _) | exact rkP_zr hW _ | exact scA_zr hW _ _ | exact zr3 (cW_b hW) | exact zr3 (wS_b hW) | exact unx_zr hW _ | exact dcs_zr hW | (unfold zr at *; omega)) (by first | exact hz _ _ | assumption | exact zr_b _ | exact zcmp_r _ _ | exact hzD _ _ | exact zr3 (tS_b hW _) | exact zr3 (lsc_b hW _ _) | exact zr3 (sc_b hW _ _) | exact rkP_zr hW _ | exact scA_zr hW _ _ | exact zr3 (cW_b hW) | exact zr3 (wS_b hW) | exact unx_zr hW _ | exact dcs_zr hW | (unfold zr at *; omega)) (by first | assumption | omega) (by first | assumption | omega) (by first | assumption | omega)) dL_isVerdict_165 (by decide) rfl cw_RL_140 okX9_explains rfl (Nat.le_of_ble_eq_true rfl) ⟨Nat.le_of_ble_eq_true rfl, Nat.le_of_ble_eq_true rfl, Nat.le_of_ble_eq_true rfl, Nat.le_of_ble_eq_true rfl⟩ ?_
                      refine zy_top (b := zb (works D (wP D (Ht D)) (wY D (Ht D)) ∧ cFit D (wP D (Ht D)) (wY D (Ht D)) (D 19 r).toNat)) rfl ?_
                      refine zx_if_eq (tgt := 174) (by first | exact hz _ _ | assumption | exact zr_b _ | exact zcmp_r _ _ | exact hzD _ _ | exact zr3 (tS_b hW _) | exact zr3 (lsc_b hW _ _) | exact zr3 (sc_b hW _ _) | exact rkP_zr hW _ | exact scA_zr hW _ _ | exact zr3 (cW_b hW) | exact zr3 (wS_b hW) | exact unx_zr hW _ | exact dcs_zr hW | (unfold zr at *; omega)) dL_isVerdict_168 (by decide) (fun h168 => ?_) (fun h168 => ?_)
                      · have h168 := zb_0.mp h168
                        have hopn : opn D (D 19 r).toNat := ⟨⟨h134, h143⟩, fun z => h168 ⟨hdec, z⟩⟩
                        refine zx_aloadN dL_isVerdict_174 rfl rfl ?_
                        refine zx_iloadN dL_isVerdict_175 rfl rfl ?_
                        refine zy_cvR [zi op] (fX9_unexplainedClue  hfl hz hB hW hP1 (by first | exact hz _ _ | assumption | exact zr_b _ | exact zcmp_r _ _ | exact hzD _ _ | exact zr3 (tS_b hW _) | exact zr3 (lsc_b hW _ _) | exact zr3 (sc_b hW _ _) | exact rkP_zr hW _ | exact scA_zr hW _ _ | exact zr3 (cW_b hW) | exact zr3 (wS_b hW) | exact unx_zr hW _ | exact dcs_zr hW | (unfold zr at *; omega))) dL_isVerdict_176 (by decide) rfl cw_RL_183 okX9_unexplainedClue rfl (Nat.le_of_ble_eq_true rfl) ⟨Nat.le_of_ble_eq_true rfl, Nat.le_of_ble_eq_true rfl, Nat.le_of_ble_eq_true rfl, Nat.le_of_ble_eq_true rfl⟩ (fun τ176 hr176 => ?_)
                        have hz176 : zOK τ176 := hr176.1
                        refine zy_top (b := D 19 r) (by rw [hop]; exact unx_r (by omega) hopn) ?_
                        refine zx_iload dL_isVerdict_179 rfl ?_
                        refine zx_icmp_eq (tgt := 186) (by first | exact hz176 _ _ | assumption | exact zr_b _ | exact zcmp_r _ _ | exact hzD _ _ | exact zr3 (tS_b hW _) | exact zr3 (lsc_b hW _ _) | exact zr3 (sc_b hW _ _) | exact rkP_zr hW _ | exact scA_zr hW _ _ | exact zr3 (cW_b hW) | exact zr3 (wS_b hW) | exact unx_zr hW _ | exact dcs_zr hW | (unfold zr at *; omega)) (by first | exact hz176 _ _ | assumption | exact zr_b _ | exact zcmp_r _ _ | exact hzD _ _ | exact zr3 (tS_b hW _) | exact zr3 (lsc_b hW _ _) | exact zr3 (sc_b hW _ _) | exact rkP_zr hW _ | exact scA_zr hW _ _ | exact zr3 (cW_b hW) | exact zr3 (wS_b hW) | exact unx_zr hW _ | exact dcs_zr hW | (unfold zr at *; omega)) dL_isVerdict_181 (by decide) (fun h181 => ?_) (fun h181 => ?_)
                        · refine zx_iload dL_isVerdict_186 rfl ?_
                          refine zx_aloadN dL_isVerdict_188 rfl rfl ?_
                          refine zx_iload dL_isVerdict_189 rfl ?_
                          refine zy_cv [zi (D 19 r)] (fX9_weightOf  hfl hz176 hr176.2.2 hW (by first | exact hz176 _ _ | assumption | exact zr_b _ | exact zcmp_r _ _ | exact hzD _ _ | exact zr3 (tS_b hW _) | exact zr3 (lsc_b hW _ _) | exact zr3 (sc_b hW _ _) | exact rkP_zr hW _ | exact scA_zr hW _ _ | exact zr3 (cW_b hW) | exact zr3 (wS_b hW) | exact unx_zr hW _ | exact dcs_zr hW | (unfold zr at *; omega)) (by first | assumption | omega)) dL_isVerdict_191 (by decide) rfl cw_RL_119 okX9_weightOf rfl (Nat.le_of_ble_eq_true rfl) ⟨Nat.le_of_ble_eq_true rfl, Nat.le_of_ble_eq_true rfl, Nat.le_of_ble_eq_true rfl, Nat.le_of_ble_eq_true rfl⟩ ?_
                          refine zx_iadd dL_isVerdict_194 ?_
                          refine zy_istore [zf 9 0, zi ((wP D (Ht D) : Nat) : Int), zi (wY D (Ht D)), zi op, zi (ms + (D 16 (D 19 r).toNat)), zi nx, zi (wt + (D 16 (D 19 r).toNat)), zi ((r : Nat) : Int), zi (D 19 r), zi (D 19 (r - 1))] dL_isVerdict_195 (Nat.le_of_ble_eq_true rfl) (Nat.le_of_ble_eq_true rfl) rfl rfl ?_
                          refine zy_iinc (b := op + 1) [zf 9 0, zi ((wP D (Ht D) : Nat) : Int), zi (wY D (Ht D)), zi (op + 1), zi (ms + (D 16 (D 19 r).toNat)), zi nx, zi (wt + (D 16 (D 19 r).toNat)), zi ((r : Nat) : Int), zi (D 19 r), zi (D 19 (r - 1))] dL_isVerdict_197 rfl (by omega) (Nat.le_of_ble_eq_true rfl) rfl rfl ?_
                          refine zy_iinc (b := ((r + 1 : Nat) : Int)) [zf 9 0, zi ((wP D (Ht D) : Nat) : Int), zi (wY D (Ht D)), zi (op + 1), zi (ms + (D 16 (D 19 r).toNat)), zi nx, zi (wt + (D 16 (D 19 r).toNat)), zi ((r + 1 : Nat) : Int), zi (D 19 r), zi (D 19 (r - 1))] dL_isVerdict_200 rfl (by omega) (Nat.le_of_ble_eq_true rfl) rfl rfl ?_
                          refine zx_goto (tgt := 24) dL_isVerdict_203 (by decide) ?_
                          refine zy_drop 8 [zf 9 0, zi ((wP D (Ht D) : Nat) : Int), zi (wY D (Ht D)), zi (op + 1), zi (ms + (D 16 (D 19 r).toNat)), zi nx, zi (wt + (D 16 (D 19 r).toNat)), zi ((r + 1 : Nat) : Int), zu, zi (D 19 (r - 1))] rfl ?_
                          refine zy_drop 9 [zf 9 0, zi ((wP D (Ht D) : Nat) : Int), zi (wY D (Ht D)), zi (op + 1), zi (ms + (D 16 (D 19 r).toNat)), zi nx, zi (wt + (D 16 (D 19 r).toNat)), zi ((r + 1 : Nat) : Int), zu, zu] rfl ?_
                          exact ih24 τ176 (r + 1) (op + 1) (ms + (D 16 (D 19 r).toNat)) nx (wt + (D 16 (D 19 r).toNat)) hz176 hr176.2.2 (zJ hF hr176.2.1) (by first | assumption | omega) (by subst hop; first | exact zsb_f (P := fun i => opn D (D 19 i).toNat) (fun q => by first | exact q.1.1 h134 | exact h143 q.1.2 | exact q.2 h168.2) | exact zsb_t (P := fun i => opn D (D 19 i).toNat) hopn) (by subst hms; first | exact zsw_f (P := fun i => opn D (D 19 i).toNat) (v := fun i => D 16 (D 19 i).toNat) (fun q => by first | exact q.1.1 h134 | exact h143 q.1.2 | exact q.2 h168.2) | exact zsw_t (P := fun i => opn D (D 19 i).toNat) (v := fun i => D 16 (D 19 i).toNat) hopn) (by first | (rw [hnx]; exact (nxR_k hW (by omega) (by omega)).symm) | (rw [hnx]; exact (nxR_n hW (by omega) (by omega) h116).symm) | exact (nxR_t hW (by omega) (by omega) h116).symm) (by subst hwt; first | exact zsw_f (P := fun i => Ht D (D 19 i).toNat) (v := fun i => D 16 (D 19 i).toNat) (fun q => by first | exact q.1 h134 | exact h143 q.2) | exact zsw_t (P := fun i => Ht D (D 19 i).toNat) (v := fun i => D 16 (D 19 i).toNat) ⟨h134, h143⟩) (by omega)
                        · exact absurd rfl h181
                      · have h168 := zb_n.mp h168
                        refine zx_goto (tgt := 200) dL_isVerdict_171 (by decide) ?_
                        refine zy_iinc (b := ((r + 1 : Nat) : Int)) [zf 9 0, zi ((wP D (Ht D) : Nat) : Int), zi (wY D (Ht D)), zi op, zi ms, zi nx, zi (wt + (D 16 (D 19 r).toNat)), zi ((r + 1 : Nat) : Int), zi (D 19 r), zi (D 19 (r - 1))] dL_isVerdict_200 rfl (by omega) (Nat.le_of_ble_eq_true rfl) rfl rfl ?_
                        refine zx_goto (tgt := 24) dL_isVerdict_203 (by decide) ?_
                        refine zy_drop 8 [zf 9 0, zi ((wP D (Ht D) : Nat) : Int), zi (wY D (Ht D)), zi op, zi ms, zi nx, zi (wt + (D 16 (D 19 r).toNat)), zi ((r + 1 : Nat) : Int), zu, zi (D 19 (r - 1))] rfl ?_
                        refine zy_drop 9 [zf 9 0, zi ((wP D (Ht D) : Nat) : Int), zi (wY D (Ht D)), zi op, zi ms, zi nx, zi (wt + (D 16 (D 19 r).toNat)), zi ((r + 1 : Nat) : Int), zu, zu] rfl ?_
                        exact ih24 τ (r + 1) op ms nx (wt + (D 16 (D 19 r).toNat)) hz hB hF (by first | assumption | omega) (by subst hop; first | exact zsb_f (P := fun i => opn D (D 19 i).toNat) (fun q => by first | exact q.1.1 h134 | exact h143 q.1.2 | exact q.2 h168.2) | exact zsb_t (P := fun i => opn D (D 19 i).toNat) hopn) (by subst hms; first | exact zsw_f (P := fun i => opn D (D 19 i).toNat) (v := fun i => D 16 (D 19 i).toNat) (fun q => by first | exact q.1.1 h134 | exact h143 q.1.2 | exact q.2 h168.2) | exact zsw_t (P := fun i => opn D (D 19 i).toNat) (v := fun i => D 16 (D 19 i).toNat) hopn) (by first | (rw [hnx]; exact (nxR_k hW (by omega) (by omega)).symm) | (rw [hnx]; exact (nxR_n hW (by omega) (by omega) h116).symm) | exact (nxR_t hW (by omega) (by omega) h116).symm) (by subst hwt; first | exact zsw_f (P := fun i => Ht D (D 19 i).toNat) (v := fun i => D 16 (D 19 i).toNat) (fun q => by first | exact q.1 h134 | exact h143 q.2) | exact zsw_t (P := fun i => Ht D (D 19 i).toNat) (v := fun i => D 16 (D 19 i).toNat) ⟨h134, h143⟩) (by omega)
                    · refine zx_goto (tgt := 200) dL_isVerdict_146 (by decide) ?_
                      refine zy_iinc (b := ((r + 1 : Nat) : Int)) [zf 9 0, zi ((wP D (Ht D) : Nat) : Int), zi (wY D (Ht D)), zi op, zi ms, zi nx, zi wt, zi ((r + 1 : Nat) : Int), zi (D 19 r), zi (D 19 (r - 1))] dL_isVerdict_200 rfl (by omega) (Nat.le_of_ble_eq_true rfl) rfl rfl ?_
                      refine zx_goto (tgt := 24) dL_isVerdict_203 (by decide) ?_
                      refine zy_drop 8 [zf 9 0, zi ((wP D (Ht D) : Nat) : Int), zi (wY D (Ht D)), zi op, zi ms, zi nx, zi wt, zi ((r + 1 : Nat) : Int), zu, zi (D 19 (r - 1))] rfl ?_
                      refine zy_drop 9 [zf 9 0, zi ((wP D (Ht D) : Nat) : Int), zi (wY D (Ht D)), zi op, zi ms, zi nx, zi wt, zi ((r + 1 : Nat) : Int), zu, zu] rfl ?_
                      exact ih24 τ (r + 1) op ms nx wt hz hB hF (by first | assumption | omega) (by subst hop; first | exact zsb_f (P := fun i => opn D (D 19 i).toNat) (fun q => by first | exact q.1.1 h134 | exact h143 q.1.2 | exact q.2 h168.2) | exact zsb_t (P := fun i => opn D (D 19 i).toNat) hopn) (by subst hms; first | exact zsw_f (P := fun i => opn D (D 19 i).toNat) (v := fun i => D 16 (D 19 i).toNat) (fun q => by first | exact q.1.1 h134 | exact h143 q.1.2 | exact q.2 h168.2) | exact zsw_t (P := fun i => opn D (D 19 i).toNat) (v := fun i => D 16 (D 19 i).toNat) hopn) (by first | (rw [hnx]; exact (nxR_k hW (by omega) (by omega)).symm) | (rw [hnx]; exact (nxR_n hW (by omega) (by omega) h116).symm) | exact (nxR_t hW (by omega) (by omega) h116).symm) (by subst hwt; first | exact zsw_f (P := fun i => Ht D (D 19 i).toNat) (v := fun i => D 16 (D 19 i).toNat) (fun q => by first | exact q.1 h134 | exact h143 q.2) | exact zsw_t (P := fun i => Ht D (D 19 i).toNat) (v := fun i => D 16 (D 19 i).toNat) ⟨h134, h143⟩) (by omega)
                · refine zx_iload dL_isVerdict_119 rfl ?_
                  refine zx_goto (tgt := 126) dL_isVerdict_121 (by decide) ?_
                  refine zy_istore [zf 9 0, zi ((wP D (Ht D) : Nat) : Int), zi (wY D (Ht D)), zi op, zi ms, zi (D 19 r), zi wt, zi ((r : Nat) : Int), zi (D 19 r), zi (D 19 (r - 1))] dL_isVerdict_126 (Nat.le_of_ble_eq_true rfl) (Nat.le_of_ble_eq_true rfl) rfl rfl ?_
                  refine zx_aloadN dL_isVerdict_128 rfl rfl ?_
                  refine zx_iload dL_isVerdict_129 rfl ?_
                  refine zy_cv [zi (D 19 r)] (fX9_isRead  hfl hz hB hW (by first | exact hz _ _ | assumption | exact zr_b _ | exact zcmp_r _ _ | exact hzD _ _ | exact zr3 (tS_b hW _) | exact zr3 (lsc_b hW _ _) | exact zr3 (sc_b hW _ _) | exact rkP_zr hW _ | exact scA_zr hW _ _ | exact zr3 (cW_b hW) | exact zr3 (wS_b hW) | exact unx_zr hW _ | exact dcs_zr hW | (unfold zr at *; omega)) (by first | assumption | omega)) dL_isVerdict_131 (by decide) rfl cw_RL_122 okX9_isRead rfl (Nat.le_of_ble_eq_true rfl) ⟨Nat.le_of_ble_eq_true rfl, Nat.le_of_ble_eq_true rfl, Nat.le_of_ble_eq_true rfl, Nat.le_of_ble_eq_true rfl⟩ ?_
                  refine zx_if_eq (tgt := 200) (by first | exact hz _ _ | assumption | exact zr_b _ | exact zcmp_r _ _ | exact hzD _ _ | exact zr3 (tS_b hW _) | exact zr3 (lsc_b hW _ _) | exact zr3 (sc_b hW _ _) | exact rkP_zr hW _ | exact scA_zr hW _ _ | exact zr3 (cW_b hW) | exact zr3 (wS_b hW) | exact unx_zr hW _ | exact dcs_zr hW | (unfold zr at *; omega)) dL_isVerdict_134 (by decide) (fun h134 => ?_) (fun h134 => ?_)
                  · refine zy_iinc (b := ((r + 1 : Nat) : Int)) [zf 9 0, zi ((wP D (Ht D) : Nat) : Int), zi (wY D (Ht D)), zi op, zi ms, zi (D 19 r), zi wt, zi ((r + 1 : Nat) : Int), zi (D 19 r), zi (D 19 (r - 1))] dL_isVerdict_200 rfl (by omega) (Nat.le_of_ble_eq_true rfl) rfl rfl ?_
                    refine zx_goto (tgt := 24) dL_isVerdict_203 (by decide) ?_
                    refine zy_drop 8 [zf 9 0, zi ((wP D (Ht D) : Nat) : Int), zi (wY D (Ht D)), zi op, zi ms, zi (D 19 r), zi wt, zi ((r + 1 : Nat) : Int), zu, zi (D 19 (r - 1))] rfl ?_
                    refine zy_drop 9 [zf 9 0, zi ((wP D (Ht D) : Nat) : Int), zi (wY D (Ht D)), zi op, zi ms, zi (D 19 r), zi wt, zi ((r + 1 : Nat) : Int), zu, zu] rfl ?_
                    exact ih24 τ (r + 1) op ms (D 19 r) wt hz hB hF (by first | assumption | omega) (by subst hop; first | exact zsb_f (P := fun i => opn D (D 19 i).toNat) (fun q => by first | exact q.1.1 h134 | exact h143 q.1.2 | exact q.2 h168.2) | exact zsb_t (P := fun i => opn D (D 19 i).toNat) hopn) (by subst hms; first | exact zsw_f (P := fun i => opn D (D 19 i).toNat) (v := fun i => D 16 (D 19 i).toNat) (fun q => by first | exact q.1.1 h134 | exact h143 q.1.2 | exact q.2 h168.2) | exact zsw_t (P := fun i => opn D (D 19 i).toNat) (v := fun i => D 16 (D 19 i).toNat) hopn) (by first | (rw [hnx]; exact (nxR_k hW (by omega) (by omega)).symm) | (rw [hnx]; exact (nxR_n hW (by omega) (by omega) h116).symm) | exact (nxR_t hW (by omega) (by omega) h116).symm) (by subst hwt; first | exact zsw_f (P := fun i => Ht D (D 19 i).toNat) (v := fun i => D 16 (D 19 i).toNat) (fun q => by first | exact q.1 h134 | exact h143 q.2) | exact zsw_t (P := fun i => Ht D (D 19 i).toNat) (v := fun i => D 16 (D 19 i).toNat) ⟨h134, h143⟩) (by omega)
                  · refine zx_aloadN dL_isVerdict_137 rfl rfl ?_
                    refine zx_iload dL_isVerdict_138 rfl ?_
                    refine zy_cv [zi (D 19 r)] (fX9_isAside  hfl hz hB hW (by first | exact hz _ _ | assumption | exact zr_b _ | exact zcmp_r _ _ | exact hzD _ _ | exact zr3 (tS_b hW _) | exact zr3 (lsc_b hW _ _) | exact zr3 (sc_b hW _ _) | exact rkP_zr hW _ | exact scA_zr hW _ _ | exact zr3 (cW_b hW) | exact zr3 (wS_b hW) | exact unx_zr hW _ | exact dcs_zr hW | (unfold zr at *; omega)) (by first | assumption | omega)) dL_isVerdict_140 (by decide) rfl cw_RL_128 okX9_isAside rfl (Nat.le_of_ble_eq_true rfl) ⟨Nat.le_of_ble_eq_true rfl, Nat.le_of_ble_eq_true rfl, Nat.le_of_ble_eq_true rfl, Nat.le_of_ble_eq_true rfl⟩ ?_
                    refine zx_if_eq (tgt := 149) (by first | exact hz _ _ | assumption | exact zr_b _ | exact zcmp_r _ _ | exact hzD _ _ | exact zr3 (tS_b hW _) | exact zr3 (lsc_b hW _ _) | exact zr3 (sc_b hW _ _) | exact rkP_zr hW _ | exact scA_zr hW _ _ | exact zr3 (cW_b hW) | exact zr3 (wS_b hW) | exact unx_zr hW _ | exact dcs_zr hW | (unfold zr at *; omega)) dL_isVerdict_143 (by decide) (fun h143 => ?_) (fun h143 => ?_)
                    · refine zx_iload dL_isVerdict_149 rfl ?_
                      refine zx_aloadN dL_isVerdict_151 rfl rfl ?_
                      refine zx_iload dL_isVerdict_152 rfl ?_
                      refine zy_cv [zi (D 19 r)] (fX9_weightOf  hfl hz hB hW (by first | exact hz _ _ | assumption | exact zr_b _ | exact zcmp_r _ _ | exact hzD _ _ | exact zr3 (tS_b hW _) | exact zr3 (lsc_b hW _ _) | exact zr3 (sc_b hW _ _) | exact rkP_zr hW _ | exact scA_zr hW _ _ | exact zr3 (cW_b hW) | exact zr3 (wS_b hW) | exact unx_zr hW _ | exact dcs_zr hW | (unfold zr at *; omega)) (by first | assumption | omega)) dL_isVerdict_154 (by decide) rfl cw_RL_119 okX9_weightOf rfl (Nat.le_of_ble_eq_true rfl) ⟨Nat.le_of_ble_eq_true rfl, Nat.le_of_ble_eq_true rfl, Nat.le_of_ble_eq_true rfl, Nat.le_of_ble_eq_true rfl⟩ ?_
                      refine zx_iadd dL_isVerdict_157 ?_
                      refine zy_istore [zf 9 0, zi ((wP D (Ht D) : Nat) : Int), zi (wY D (Ht D)), zi op, zi ms, zi (D 19 r), zi (wt + (D 16 (D 19 r).toNat)), zi ((r : Nat) : Int), zi (D 19 r), zi (D 19 (r - 1))] dL_isVerdict_158 (Nat.le_of_ble_eq_true rfl) (Nat.le_of_ble_eq_true rfl) rfl rfl ?_
                      refine zx_aloadN dL_isVerdict_160 rfl rfl ?_
                      refine zx_iloadN dL_isVerdict_161 rfl rfl ?_
                      refine zx_iloadN dL_isVerdict_162 rfl rfl ?_
                      refine zx_iload dL_isVerdict_163 rfl ?_
                      refine zy_cv [zi ((wP D (Ht D) : Nat) : Int), zi (wY D (Ht D)), zi (D 19 r)] (fX9_explains  hfl hz hB hW (by first | exact hz _ _ | assumption | exact zr_b _ | exact zcmp_r _ _ | exact hzD _ _ | exact zr3 (tS_b hW _) | exact zr3 (lsc_b hW _ _) | exact zr3 (sc_b hW _ _) | exact rkP_zr hW _ | exact scA_zr hW _ _ | exact zr3 (cW_b hW) | exact zr3 (wS_b hW) | exact unx_zr hW _ | exact dcs_zr hW | (unfold zr at *; omega)) (by first | exact hz _ _ | assumption | exact zr_b _ | exact zcmp_r _ _ | exact hzD _ _ | exact zr3 (tS_b hW _) | exact zr3 (lsc_b hW _ _) | exact zr3 (sc_b hW _ _) | exact rkP_zr hW _ | exact scA_zr hW _ _ | exact zr3 (cW_b hW) | exact zr3 (wS_b hW) | exact unx_zr hW _ | exact dcs_zr hW | (unfold zr at *; omega)) (by first | exact hz _ _ | assumption | exact zr_b _ | exact zcmp_r _ _ | exact hzD _ _ | exact zr3 (tS_b hW _) | exact zr3 (lsc_b hW _ _) | exact zr3 (sc_b hW _ _) | exact rkP_zr hW _ | exact scA_zr hW _ _ | exact zr3 (cW_b hW) | exact zr3 (wS_b hW) | exact unx_zr hW _ | exact dcs_zr hW | (unfold zr at *; omega)) (by first | assumption | omega) (by first | assumption | omega) (by first | assumption | omega)) dL_isVerdict_165 (by decide) rfl cw_RL_140 okX9_explains rfl (Nat.le_of_ble_eq_true rfl) ⟨Nat.le_of_ble_eq_true rfl, Nat.le_of_ble_eq_true rfl, Nat.le_of_ble_eq_true rfl, Nat.le_of_ble_eq_true rfl⟩ ?_
                      refine zy_top (b := zb (works D (wP D (Ht D)) (wY D (Ht D)) ∧ cFit D (wP D (Ht D)) (wY D (Ht D)) (D 19 r).toNat)) rfl ?_
                      refine zx_if_eq (tgt := 174) (by first | exact hz _ _ | assumption | exact zr_b _ | exact zcmp_r _ _ | exact hzD _ _ | exact zr3 (tS_b hW _) | exact zr3 (lsc_b hW _ _) | exact zr3 (sc_b hW _ _) | exact rkP_zr hW _ | exact scA_zr hW _ _ | exact zr3 (cW_b hW) | exact zr3 (wS_b hW) | exact unx_zr hW _ | exact dcs_zr hW | (unfold zr at *; omega)) dL_isVerdict_168 (by decide) (fun h168 => ?_) (fun h168 => ?_)
                      · have h168 := zb_0.mp h168
                        have hopn : opn D (D 19 r).toNat := ⟨⟨h134, h143⟩, fun z => h168 ⟨hdec, z⟩⟩
                        refine zx_aloadN dL_isVerdict_174 rfl rfl ?_
                        refine zx_iloadN dL_isVerdict_175 rfl rfl ?_
                        refine zy_cvR [zi op] (fX9_unexplainedClue  hfl hz hB hW hP1 (by first | exact hz _ _ | assumption | exact zr_b _ | exact zcmp_r _ _ | exact hzD _ _ | exact zr3 (tS_b hW _) | exact zr3 (lsc_b hW _ _) | exact zr3 (sc_b hW _ _) | exact rkP_zr hW _ | exact scA_zr hW _ _ | exact zr3 (cW_b hW) | exact zr3 (wS_b hW) | exact unx_zr hW _ | exact dcs_zr hW | (unfold zr at *; omega))) dL_isVerdict_176 (by decide) rfl cw_RL_183 okX9_unexplainedClue rfl (Nat.le_of_ble_eq_true rfl) ⟨Nat.le_of_ble_eq_true rfl, Nat.le_of_ble_eq_true rfl, Nat.le_of_ble_eq_true rfl, Nat.le_of_ble_eq_true rfl⟩ (fun τ176 hr176 => ?_)
                        have hz176 : zOK τ176 := hr176.1
                        refine zy_top (b := D 19 r) (by rw [hop]; exact unx_r (by omega) hopn) ?_
                        refine zx_iload dL_isVerdict_179 rfl ?_
                        refine zx_icmp_eq (tgt := 186) (by first | exact hz176 _ _ | assumption | exact zr_b _ | exact zcmp_r _ _ | exact hzD _ _ | exact zr3 (tS_b hW _) | exact zr3 (lsc_b hW _ _) | exact zr3 (sc_b hW _ _) | exact rkP_zr hW _ | exact scA_zr hW _ _ | exact zr3 (cW_b hW) | exact zr3 (wS_b hW) | exact unx_zr hW _ | exact dcs_zr hW | (unfold zr at *; omega)) (by first | exact hz176 _ _ | assumption | exact zr_b _ | exact zcmp_r _ _ | exact hzD _ _ | exact zr3 (tS_b hW _) | exact zr3 (lsc_b hW _ _) | exact zr3 (sc_b hW _ _) | exact rkP_zr hW _ | exact scA_zr hW _ _ | exact zr3 (cW_b hW) | exact zr3 (wS_b hW) | exact unx_zr hW _ | exact dcs_zr hW | (unfold zr at *; omega)) dL_isVerdict_181 (by decide) (fun h181 => ?_) (fun h181 => ?_)
                        · refine zx_iload dL_isVerdict_186 rfl ?_
                          refine zx_aloadN dL_isVerdict_188 rfl rfl ?_
                          refine zx_iload dL_isVerdict_189 rfl ?_
                          refine zy_cv [zi (D 19 r)] (fX9_weightOf  hfl hz176 hr176.2.2 hW (by first | exact hz176 _ _ | assumption | exact zr_b _ | exact zcmp_r _ _ | exact hzD _ _ | exact zr3 (tS_b hW _) | exact zr3 (lsc_b hW _ _) | exact zr3 (sc_b hW _ _) | exact rkP_zr hW _ | exact scA_zr hW _ _ | exact zr3 (cW_b hW) | exact zr3 (wS_b hW) | exact unx_zr hW _ | exact dcs_zr hW | (unfold zr at *; omega)) (by first | assumption | omega)) dL_isVerdict_191 (by decide) rfl cw_RL_119 okX9_weightOf rfl (Nat.le_of_ble_eq_true rfl) ⟨Nat.le_of_ble_eq_true rfl, Nat.le_of_ble_eq_true rfl, Nat.le_of_ble_eq_true rfl, Nat.le_of_ble_eq_true rfl⟩ ?_
                          refine zx_iadd dL_isVerdict_194 ?_
                          refine zy_istore [zf 9 0, zi ((wP D (Ht D) : Nat) : Int), zi (wY D (Ht D)), zi op, zi (ms + (D 16 (D 19 r).toNat)), zi (D 19 r), zi (wt + (D 16 (D 19 r).toNat)), zi ((r : Nat) : Int), zi (D 19 r), zi (D 19 (r - 1))] dL_isVerdict_195 (Nat.le_of_ble_eq_true rfl) (Nat.le_of_ble_eq_true rfl) rfl rfl ?_
                          refine zy_iinc (b := op + 1) [zf 9 0, zi ((wP D (Ht D) : Nat) : Int), zi (wY D (Ht D)), zi (op + 1), zi (ms + (D 16 (D 19 r).toNat)), zi (D 19 r), zi (wt + (D 16 (D 19 r).toNat)), zi ((r : Nat) : Int), zi (D 19 r), zi (D 19 (r - 1))] dL_isVerdict_197 rfl (by omega) (Nat.le_of_ble_eq_true rfl) rfl rfl ?_
                          refine zy_iinc (b := ((r + 1 : Nat) : Int)) [zf 9 0, zi ((wP D (Ht D) : Nat) : Int), zi (wY D (Ht D)), zi (op + 1), zi (ms + (D 16 (D 19 r).toNat)), zi (D 19 r), zi (wt + (D 16 (D 19 r).toNat)), zi ((r + 1 : Nat) : Int), zi (D 19 r), zi (D 19 (r - 1))] dL_isVerdict_200 rfl (by omega) (Nat.le_of_ble_eq_true rfl) rfl rfl ?_
                          refine zx_goto (tgt := 24) dL_isVerdict_203 (by decide) ?_
                          refine zy_drop 8 [zf 9 0, zi ((wP D (Ht D) : Nat) : Int), zi (wY D (Ht D)), zi (op + 1), zi (ms + (D 16 (D 19 r).toNat)), zi (D 19 r), zi (wt + (D 16 (D 19 r).toNat)), zi ((r + 1 : Nat) : Int), zu, zi (D 19 (r - 1))] rfl ?_
                          refine zy_drop 9 [zf 9 0, zi ((wP D (Ht D) : Nat) : Int), zi (wY D (Ht D)), zi (op + 1), zi (ms + (D 16 (D 19 r).toNat)), zi (D 19 r), zi (wt + (D 16 (D 19 r).toNat)), zi ((r + 1 : Nat) : Int), zu, zu] rfl ?_
                          exact ih24 τ176 (r + 1) (op + 1) (ms + (D 16 (D 19 r).toNat)) (D 19 r) (wt + (D 16 (D 19 r).toNat)) hz176 hr176.2.2 (zJ hF hr176.2.1) (by first | assumption | omega) (by subst hop; first | exact zsb_f (P := fun i => opn D (D 19 i).toNat) (fun q => by first | exact q.1.1 h134 | exact h143 q.1.2 | exact q.2 h168.2) | exact zsb_t (P := fun i => opn D (D 19 i).toNat) hopn) (by subst hms; first | exact zsw_f (P := fun i => opn D (D 19 i).toNat) (v := fun i => D 16 (D 19 i).toNat) (fun q => by first | exact q.1.1 h134 | exact h143 q.1.2 | exact q.2 h168.2) | exact zsw_t (P := fun i => opn D (D 19 i).toNat) (v := fun i => D 16 (D 19 i).toNat) hopn) (by first | (rw [hnx]; exact (nxR_k hW (by omega) (by omega)).symm) | (rw [hnx]; exact (nxR_n hW (by omega) (by omega) h116).symm) | exact (nxR_t hW (by omega) (by omega) h116).symm) (by subst hwt; first | exact zsw_f (P := fun i => Ht D (D 19 i).toNat) (v := fun i => D 16 (D 19 i).toNat) (fun q => by first | exact q.1 h134 | exact h143 q.2) | exact zsw_t (P := fun i => Ht D (D 19 i).toNat) (v := fun i => D 16 (D 19 i).toNat) ⟨h134, h143⟩) (by omega)
                        · exact absurd rfl h181
                      · have h168 := zb_n.mp h168
                        refine zx_goto (tgt := 200) dL_isVerdict_171 (by decide) ?_
                        refine zy_iinc (b := ((r + 1 : Nat) : Int)) [zf 9 0, zi ((wP D (Ht D) : Nat) : Int), zi (wY D (Ht D)), zi op, zi ms, zi (D 19 r), zi (wt + (D 16 (D 19 r).toNat)), zi ((r + 1 : Nat) : Int), zi (D 19 r), zi (D 19 (r - 1))] dL_isVerdict_200 rfl (by omega) (Nat.le_of_ble_eq_true rfl) rfl rfl ?_
                        refine zx_goto (tgt := 24) dL_isVerdict_203 (by decide) ?_
                        refine zy_drop 8 [zf 9 0, zi ((wP D (Ht D) : Nat) : Int), zi (wY D (Ht D)), zi op, zi ms, zi (D 19 r), zi (wt + (D 16 (D 19 r).toNat)), zi ((r + 1 : Nat) : Int), zu, zi (D 19 (r - 1))] rfl ?_
                        refine zy_drop 9 [zf 9 0, zi ((wP D (Ht D) : Nat) : Int), zi (wY D (Ht D)), zi op, zi ms, zi (D 19 r), zi (wt + (D 16 (D 19 r).toNat)), zi ((r + 1 : Nat) : Int), zu, zu] rfl ?_
                        exact ih24 τ (r + 1) op ms (D 19 r) (wt + (D 16 (D 19 r).toNat)) hz hB hF (by first | assumption | omega) (by subst hop; first | exact zsb_f (P := fun i => opn D (D 19 i).toNat) (fun q => by first | exact q.1.1 h134 | exact h143 q.1.2 | exact q.2 h168.2) | exact zsb_t (P := fun i => opn D (D 19 i).toNat) hopn) (by subst hms; first | exact zsw_f (P := fun i => opn D (D 19 i).toNat) (v := fun i => D 16 (D 19 i).toNat) (fun q => by first | exact q.1.1 h134 | exact h143 q.1.2 | exact q.2 h168.2) | exact zsw_t (P := fun i => opn D (D 19 i).toNat) (v := fun i => D 16 (D 19 i).toNat) hopn) (by first | (rw [hnx]; exact (nxR_k hW (by omega) (by omega)).symm) | (rw [hnx]; exact (nxR_n hW (by omega) (by omega) h116).symm) | exact (nxR_t hW (by omega) (by omega) h116).symm) (by subst hwt; first | exact zsw_f (P := fun i => Ht D (D 19 i).toNat) (v := fun i => D 16 (D 19 i).toNat) (fun q => by first | exact q.1 h134 | exact h143 q.2) | exact zsw_t (P := fun i => Ht D (D 19 i).toNat) (v := fun i => D 16 (D 19 i).toNat) ⟨h134, h143⟩) (by omega)
                    · refine zx_goto (tgt := 200) dL_isVerdict_146 (by decide) ?_
                      refine zy_iinc (b := ((r + 1 : Nat) : Int)) [zf 9 0, zi ((wP D (Ht D) : Nat) : Int), zi (wY D (Ht D)), zi op, zi ms, zi (D 19 r), zi wt, zi ((r + 1 : Nat) : Int), zi (D 19 r), zi (D 19 (r - 1))] dL_isVerdict_200 rfl (by omega) (Nat.le_of_ble_eq_true rfl) rfl rfl ?_
                      refine zx_goto (tgt := 24) dL_isVerdict_203 (by decide) ?_
                      refine zy_drop 8 [zf 9 0, zi ((wP D (Ht D) : Nat) : Int), zi (wY D (Ht D)), zi op, zi ms, zi (D 19 r), zi wt, zi ((r + 1 : Nat) : Int), zu, zi (D 19 (r - 1))] rfl ?_
                      refine zy_drop 9 [zf 9 0, zi ((wP D (Ht D) : Nat) : Int), zi (wY D (Ht D)), zi op, zi ms, zi (D 19 r), zi wt, zi ((r + 1 : Nat) : Int), zu, zu] rfl ?_
                      exact ih24 τ (r + 1) op ms (D 19 r) wt hz hB hF (by first | assumption | omega) (by subst hop; first | exact zsb_f (P := fun i => opn D (D 19 i).toNat) (fun q => by first | exact q.1.1 h134 | exact h143 q.1.2 | exact q.2 h168.2) | exact zsb_t (P := fun i => opn D (D 19 i).toNat) hopn) (by subst hms; first | exact zsw_f (P := fun i => opn D (D 19 i).toNat) (v := fun i => D 16 (D 19 i).toNat) (fun q => by first | exact q.1.1 h134 | exact h143 q.1.2 | exact q.2 h168.2) | exact zsw_t (P := fun i => opn D (D 19 i).toNat) (v := fun i => D 16 (D 19 i).toNat) hopn) (by first | (rw [hnx]; exact (nxR_k hW (by omega) (by omega)).symm) | (rw [hnx]; exact (nxR_n hW (by omega) (by omega) h116).symm) | exact (nxR_t hW (by omega) (by omega) h116).symm) (by subst hwt; first | exact zsw_f (P := fun i => Ht D (D 19 i).toNat) (v := fun i => D 16 (D 19 i).toNat) (fun q => by first | exact q.1 h134 | exact h143 q.2) | exact zsw_t (P := fun i => Ht D (D 19 i).toNat) (v := fun i => D 16 (D 19 i).toNat) ⟨h134, h143⟩) (by omega)
            · refine zx_aloadN dL_isVerdict_81 rfl rfl ?_
              refine zx_iload dL_isVerdict_82 rfl ?_
              refine zy_cv [zi (D 19 (r - 1))] (fX9_pageOf  hfl hz hB hW (by first | exact hz _ _ | assumption | exact zr_b _ | exact zcmp_r _ _ | exact hzD _ _ | exact zr3 (tS_b hW _) | exact zr3 (lsc_b hW _ _) | exact zr3 (sc_b hW _ _) | exact rkP_zr hW _ | exact scA_zr hW _ _ | exact zr3 (cW_b hW) | exact zr3 (wS_b hW) | exact unx_zr hW _ | exact dcs_zr hW | (unfold zr at *; omega)) (by first | assumption | omega)) dL_isVerdict_84 (by decide) rfl cw_RL_104 okX9_pageOf rfl (Nat.le_of_ble_eq_true rfl) ⟨Nat.le_of_ble_eq_true rfl, Nat.le_of_ble_eq_true rfl, Nat.le_of_ble_eq_true rfl, Nat.le_of_ble_eq_true rfl⟩ ?_
              refine zx_aloadN dL_isVerdict_87 rfl rfl ?_
              refine zx_iload dL_isVerdict_88 rfl ?_
              refine zy_cv [zi (D 19 r)] (fX9_pageOf  hfl hz hB hW (by first | exact hz _ _ | assumption | exact zr_b _ | exact zcmp_r _ _ | exact hzD _ _ | exact zr3 (tS_b hW _) | exact zr3 (lsc_b hW _ _) | exact zr3 (sc_b hW _ _) | exact rkP_zr hW _ | exact scA_zr hW _ _ | exact zr3 (cW_b hW) | exact zr3 (wS_b hW) | exact unx_zr hW _ | exact dcs_zr hW | (unfold zr at *; omega)) (by first | assumption | omega)) dL_isVerdict_90 (by decide) rfl cw_RL_104 okX9_pageOf rfl (Nat.le_of_ble_eq_true rfl) ⟨Nat.le_of_ble_eq_true rfl, Nat.le_of_ble_eq_true rfl, Nat.le_of_ble_eq_true rfl, Nat.le_of_ble_eq_true rfl⟩ ?_
              refine zx_icmp_ne (tgt := 105) (by first | exact hz _ _ | assumption | exact zr_b _ | exact zcmp_r _ _ | exact hzD _ _ | exact zr3 (tS_b hW _) | exact zr3 (lsc_b hW _ _) | exact zr3 (sc_b hW _ _) | exact rkP_zr hW _ | exact scA_zr hW _ _ | exact zr3 (cW_b hW) | exact zr3 (wS_b hW) | exact unx_zr hW _ | exact dcs_zr hW | (unfold zr at *; omega)) (by first | exact hz _ _ | assumption | exact zr_b _ | exact zcmp_r _ _ | exact hzD _ _ | exact zr3 (tS_b hW _) | exact zr3 (lsc_b hW _ _) | exact zr3 (sc_b hW _ _) | exact rkP_zr hW _ | exact scA_zr hW _ _ | exact zr3 (cW_b hW) | exact zr3 (wS_b hW) | exact unx_zr hW _ | exact dcs_zr hW | (unfold zr at *; omega)) dL_isVerdict_93 (by decide) (fun h93 => ?_) (fun h93 => ?_)
              · refine zx_iload dL_isVerdict_105 rfl ?_
                refine zx_if_ge (tgt := 124) (by first | exact hz _ _ | assumption | exact zr_b _ | exact zcmp_r _ _ | exact hzD _ _ | exact zr3 (tS_b hW _) | exact zr3 (lsc_b hW _ _) | exact zr3 (sc_b hW _ _) | exact rkP_zr hW _ | exact scA_zr hW _ _ | exact zr3 (cW_b hW) | exact zr3 (wS_b hW) | exact unx_zr hW _ | exact dcs_zr hW | (unfold zr at *; omega)) dL_isVerdict_107 (by decide) (fun h107 => ?_) (fun h107 => ?_)
                · refine zx_iload dL_isVerdict_124 rfl ?_
                  refine zy_istore [zf 9 0, zi ((wP D (Ht D) : Nat) : Int), zi (wY D (Ht D)), zi op, zi ms, zi nx, zi wt, zi ((r : Nat) : Int), zi (D 19 r), zi (D 19 (r - 1))] dL_isVerdict_126 (Nat.le_of_ble_eq_true rfl) (Nat.le_of_ble_eq_true rfl) rfl rfl ?_
                  refine zx_aloadN dL_isVerdict_128 rfl rfl ?_
                  refine zx_iload dL_isVerdict_129 rfl ?_
                  refine zy_cv [zi (D 19 r)] (fX9_isRead  hfl hz hB hW (by first | exact hz _ _ | assumption | exact zr_b _ | exact zcmp_r _ _ | exact hzD _ _ | exact zr3 (tS_b hW _) | exact zr3 (lsc_b hW _ _) | exact zr3 (sc_b hW _ _) | exact rkP_zr hW _ | exact scA_zr hW _ _ | exact zr3 (cW_b hW) | exact zr3 (wS_b hW) | exact unx_zr hW _ | exact dcs_zr hW | (unfold zr at *; omega)) (by first | assumption | omega)) dL_isVerdict_131 (by decide) rfl cw_RL_122 okX9_isRead rfl (Nat.le_of_ble_eq_true rfl) ⟨Nat.le_of_ble_eq_true rfl, Nat.le_of_ble_eq_true rfl, Nat.le_of_ble_eq_true rfl, Nat.le_of_ble_eq_true rfl⟩ ?_
                  refine zx_if_eq (tgt := 200) (by first | exact hz _ _ | assumption | exact zr_b _ | exact zcmp_r _ _ | exact hzD _ _ | exact zr3 (tS_b hW _) | exact zr3 (lsc_b hW _ _) | exact zr3 (sc_b hW _ _) | exact rkP_zr hW _ | exact scA_zr hW _ _ | exact zr3 (cW_b hW) | exact zr3 (wS_b hW) | exact unx_zr hW _ | exact dcs_zr hW | (unfold zr at *; omega)) dL_isVerdict_134 (by decide) (fun h134 => ?_) (fun h134 => ?_)
                  · refine zy_iinc (b := ((r + 1 : Nat) : Int)) [zf 9 0, zi ((wP D (Ht D) : Nat) : Int), zi (wY D (Ht D)), zi op, zi ms, zi nx, zi wt, zi ((r + 1 : Nat) : Int), zi (D 19 r), zi (D 19 (r - 1))] dL_isVerdict_200 rfl (by omega) (Nat.le_of_ble_eq_true rfl) rfl rfl ?_
                    refine zx_goto (tgt := 24) dL_isVerdict_203 (by decide) ?_
                    refine zy_drop 8 [zf 9 0, zi ((wP D (Ht D) : Nat) : Int), zi (wY D (Ht D)), zi op, zi ms, zi nx, zi wt, zi ((r + 1 : Nat) : Int), zu, zi (D 19 (r - 1))] rfl ?_
                    refine zy_drop 9 [zf 9 0, zi ((wP D (Ht D) : Nat) : Int), zi (wY D (Ht D)), zi op, zi ms, zi nx, zi wt, zi ((r + 1 : Nat) : Int), zu, zu] rfl ?_
                    exact ih24 τ (r + 1) op ms nx wt hz hB hF (by first | assumption | omega) (by subst hop; first | exact zsb_f (P := fun i => opn D (D 19 i).toNat) (fun q => by first | exact q.1.1 h134 | exact h143 q.1.2 | exact q.2 h168.2) | exact zsb_t (P := fun i => opn D (D 19 i).toNat) hopn) (by subst hms; first | exact zsw_f (P := fun i => opn D (D 19 i).toNat) (v := fun i => D 16 (D 19 i).toNat) (fun q => by first | exact q.1.1 h134 | exact h143 q.1.2 | exact q.2 h168.2) | exact zsw_t (P := fun i => opn D (D 19 i).toNat) (v := fun i => D 16 (D 19 i).toNat) hopn) (by first | (rw [hnx]; exact (nxR_k hW (by omega) (by omega)).symm) | (rw [hnx]; exact (nxR_n hW (by omega) (by omega) h116).symm) | exact (nxR_t hW (by omega) (by omega) h116).symm) (by subst hwt; first | exact zsw_f (P := fun i => Ht D (D 19 i).toNat) (v := fun i => D 16 (D 19 i).toNat) (fun q => by first | exact q.1 h134 | exact h143 q.2) | exact zsw_t (P := fun i => Ht D (D 19 i).toNat) (v := fun i => D 16 (D 19 i).toNat) ⟨h134, h143⟩) (by omega)
                  · refine zx_aloadN dL_isVerdict_137 rfl rfl ?_
                    refine zx_iload dL_isVerdict_138 rfl ?_
                    refine zy_cv [zi (D 19 r)] (fX9_isAside  hfl hz hB hW (by first | exact hz _ _ | assumption | exact zr_b _ | exact zcmp_r _ _ | exact hzD _ _ | exact zr3 (tS_b hW _) | exact zr3 (lsc_b hW _ _) | exact zr3 (sc_b hW _ _) | exact rkP_zr hW _ | exact scA_zr hW _ _ | exact zr3 (cW_b hW) | exact zr3 (wS_b hW) | exact unx_zr hW _ | exact dcs_zr hW | (unfold zr at *; omega)) (by first | assumption | omega)) dL_isVerdict_140 (by decide) rfl cw_RL_128 okX9_isAside rfl (Nat.le_of_ble_eq_true rfl) ⟨Nat.le_of_ble_eq_true rfl, Nat.le_of_ble_eq_true rfl, Nat.le_of_ble_eq_true rfl, Nat.le_of_ble_eq_true rfl⟩ ?_
                    refine zx_if_eq (tgt := 149) (by first | exact hz _ _ | assumption | exact zr_b _ | exact zcmp_r _ _ | exact hzD _ _ | exact zr3 (tS_b hW _) | exact zr3 (lsc_b hW _ _) | exact zr3 (sc_b hW _ _) | exact rkP_zr hW _ | exact scA_zr hW _ _ | exact zr3 (cW_b hW) | exact zr3 (wS_b hW) | exact unx_zr hW _ | exact dcs_zr hW | (unfold zr at *; omega)) dL_isVerdict_143 (by decide) (fun h143 => ?_) (fun h143 => ?_)
                    · refine zx_iload dL_isVerdict_149 rfl ?_
                      refine zx_aloadN dL_isVerdict_151 rfl rfl ?_
                      refine zx_iload dL_isVerdict_152 rfl ?_
                      refine zy_cv [zi (D 19 r)] (fX9_weightOf  hfl hz hB hW (by first | exact hz _ _ | assumption | exact zr_b _ | exact zcmp_r _ _ | exact hzD _ _ | exact zr3 (tS_b hW _) | exact zr3 (lsc_b hW _ _) | exact zr3 (sc_b hW _ _) | exact rkP_zr hW _ | exact scA_zr hW _ _ | exact zr3 (cW_b hW) | exact zr3 (wS_b hW) | exact unx_zr hW _ | exact dcs_zr hW | (unfold zr at *; omega)) (by first | assumption | omega)) dL_isVerdict_154 (by decide) rfl cw_RL_119 okX9_weightOf rfl (Nat.le_of_ble_eq_true rfl) ⟨Nat.le_of_ble_eq_true rfl, Nat.le_of_ble_eq_true rfl, Nat.le_of_ble_eq_true rfl, Nat.le_of_ble_eq_true rfl⟩ ?_
                      refine zx_iadd dL_isVerdict_157 ?_
                      refine zy_istore [zf 9 0, zi ((wP D (Ht D) : Nat) : Int), zi (wY D (Ht D)), zi op, zi ms, zi nx, zi (wt + (D 16 (D 19 r).toNat)), zi ((r : Nat) : Int), zi (D 19 r), zi (D 19 (r - 1))] dL_isVerdict_158 (Nat.le_of_ble_eq_true rfl) (Nat.le_of_ble_eq_true rfl) rfl rfl ?_
                      refine zx_aloadN dL_isVerdict_160 rfl rfl ?_
                      refine zx_iloadN dL_isVerdict_161 rfl rfl ?_
                      refine zx_iloadN dL_isVerdict_162 rfl rfl ?_
                      refine zx_iload dL_isVerdict_163 rfl ?_
                      refine zy_cv [zi ((wP D (Ht D) : Nat) : Int), zi (wY D (Ht D)), zi (D 19 r)] (fX9_explains  hfl hz hB hW (by first | exact hz _ _ | assumption | exact zr_b _ | exact zcmp_r _ _ | exact hzD _ _ | exact zr3 (tS_b hW _) | exact zr3 (lsc_b hW _ _) | exact zr3 (sc_b hW _ _) | exact rkP_zr hW _ | exact scA_zr hW _ _ | exact zr3 (cW_b hW) | exact zr3 (wS_b hW) | exact unx_zr hW _ | exact dcs_zr hW | (unfold zr at *; omega)) (by first | exact hz _ _ | assumption | exact zr_b _ | exact zcmp_r _ _ | exact hzD _ _ | exact zr3 (tS_b hW _) | exact zr3 (lsc_b hW _ _) | exact zr3 (sc_b hW _ _) | exact rkP_zr hW _ | exact scA_zr hW _ _ | exact zr3 (cW_b hW) | exact zr3 (wS_b hW) | exact unx_zr hW _ | exact dcs_zr hW | (unfold zr at *; omega)) (by first | exact hz _ _ | assumption | exact zr_b _ | exact zcmp_r _ _ | exact hzD _ _ | exact zr3 (tS_b hW _) | exact zr3 (lsc_b hW _ _) | exact zr3 (sc_b hW _ _) | exact rkP_zr hW _ | exact scA_zr hW _ _ | exact zr3 (cW_b hW) | exact zr3 (wS_b hW) | exact unx_zr hW _ | exact dcs_zr hW | (unfold zr at *; omega)) (by first | assumption | omega) (by first | assumption | omega) (by first | assumption | omega)) dL_isVerdict_165 (by decide) rfl cw_RL_140 okX9_explains rfl (Nat.le_of_ble_eq_true rfl) ⟨Nat.le_of_ble_eq_true rfl, Nat.le_of_ble_eq_true rfl, Nat.le_of_ble_eq_true rfl, Nat.le_of_ble_eq_true rfl⟩ ?_
                      refine zy_top (b := zb (works D (wP D (Ht D)) (wY D (Ht D)) ∧ cFit D (wP D (Ht D)) (wY D (Ht D)) (D 19 r).toNat)) rfl ?_
                      refine zx_if_eq (tgt := 174) (by first | exact hz _ _ | assumption | exact zr_b _ | exact zcmp_r _ _ | exact hzD _ _ | exact zr3 (tS_b hW _) | exact zr3 (lsc_b hW _ _) | exact zr3 (sc_b hW _ _) | exact rkP_zr hW _ | exact scA_zr hW _ _ | exact zr3 (cW_b hW) | exact zr3 (wS_b hW) | exact unx_zr hW _ | exact dcs_zr hW | (unfold zr at *; omega)) dL_isVerdict_168 (by decide) (fun h168 => ?_) (fun h168 => ?_)
                      · have h168 := zb_0.mp h168
                        have hopn : opn D (D 19 r).toNat := ⟨⟨h134, h143⟩, fun z => h168 ⟨hdec, z⟩⟩
                        refine zx_aloadN dL_isVerdict_174 rfl rfl ?_
                        refine zx_iloadN dL_isVerdict_175 rfl rfl ?_
                        refine zy_cvR [zi op] (fX9_unexplainedClue  hfl hz hB hW hP1 (by first | exact hz _ _ | assumption | exact zr_b _ | exact zcmp_r _ _ | exact hzD _ _ | exact zr3 (tS_b hW _) | exact zr3 (lsc_b hW _ _) | exact zr3 (sc_b hW _ _) | exact rkP_zr hW _ | exact scA_zr hW _ _ | exact zr3 (cW_b hW) | exact zr3 (wS_b hW) | exact unx_zr hW _ | exact dcs_zr hW | (unfold zr at *; omega))) dL_isVerdict_176 (by decide) rfl cw_RL_183 okX9_unexplainedClue rfl (Nat.le_of_ble_eq_true rfl) ⟨Nat.le_of_ble_eq_true rfl, Nat.le_of_ble_eq_true rfl, Nat.le_of_ble_eq_true rfl, Nat.le_of_ble_eq_true rfl⟩ (fun τ176 hr176 => ?_)
                        have hz176 : zOK τ176 := hr176.1
                        refine zy_top (b := D 19 r) (by rw [hop]; exact unx_r (by omega) hopn) ?_
                        refine zx_iload dL_isVerdict_179 rfl ?_
                        refine zx_icmp_eq (tgt := 186) (by first | exact hz176 _ _ | assumption | exact zr_b _ | exact zcmp_r _ _ | exact hzD _ _ | exact zr3 (tS_b hW _) | exact zr3 (lsc_b hW _ _) | exact zr3 (sc_b hW _ _) | exact rkP_zr hW _ | exact scA_zr hW _ _ | exact zr3 (cW_b hW) | exact zr3 (wS_b hW) | exact unx_zr hW _ | exact dcs_zr hW | (unfold zr at *; omega)) (by first | exact hz176 _ _ | assumption | exact zr_b _ | exact zcmp_r _ _ | exact hzD _ _ | exact zr3 (tS_b hW _) | exact zr3 (lsc_b hW _ _) | exact zr3 (sc_b hW _ _) | exact rkP_zr hW _ | exact scA_zr hW _ _ | exact zr3 (cW_b hW) | exact zr3 (wS_b hW) | exact unx_zr hW _ | exact dcs_zr hW | (unfold zr at *; omega)) dL_isVerdict_181 (by decide) (fun h181 => ?_) (fun h181 => ?_)
                        · refine zx_iload dL_isVerdict_186 rfl ?_
                          refine zx_aloadN dL_isVerdict_188 rfl rfl ?_
                          refine zx_iload dL_isVerdict_189 rfl ?_
                          refine zy_cv [zi (D 19 r)] (fX9_weightOf  hfl hz176 hr176.2.2 hW (by first | exact hz176 _ _ | assumption | exact zr_b _ | exact zcmp_r _ _ | exact hzD _ _ | exact zr3 (tS_b hW _) | exact zr3 (lsc_b hW _ _) | exact zr3 (sc_b hW _ _) | exact rkP_zr hW _ | exact scA_zr hW _ _ | exact zr3 (cW_b hW) | exact zr3 (wS_b hW) | exact unx_zr hW _ | exact dcs_zr hW | (unfold zr at *; omega)) (by first | assumption | omega)) dL_isVerdict_191 (by decide) rfl cw_RL_119 okX9_weightOf rfl (Nat.le_of_ble_eq_true rfl) ⟨Nat.le_of_ble_eq_true rfl, Nat.le_of_ble_eq_true rfl, Nat.le_of_ble_eq_true rfl, Nat.le_of_ble_eq_true rfl⟩ ?_
                          refine zx_iadd dL_isVerdict_194 ?_
                          refine zy_istore [zf 9 0, zi ((wP D (Ht D) : Nat) : Int), zi (wY D (Ht D)), zi op, zi (ms + (D 16 (D 19 r).toNat)), zi nx, zi (wt + (D 16 (D 19 r).toNat)), zi ((r : Nat) : Int), zi (D 19 r), zi (D 19 (r - 1))] dL_isVerdict_195 (Nat.le_of_ble_eq_true rfl) (Nat.le_of_ble_eq_true rfl) rfl rfl ?_
                          refine zy_iinc (b := op + 1) [zf 9 0, zi ((wP D (Ht D) : Nat) : Int), zi (wY D (Ht D)), zi (op + 1), zi (ms + (D 16 (D 19 r).toNat)), zi nx, zi (wt + (D 16 (D 19 r).toNat)), zi ((r : Nat) : Int), zi (D 19 r), zi (D 19 (r - 1))] dL_isVerdict_197 rfl (by omega) (Nat.le_of_ble_eq_true rfl) rfl rfl ?_
                          refine zy_iinc (b := ((r + 1 : Nat) : Int)) [zf 9 0, zi ((wP D (Ht D) : Nat) : Int), zi (wY D (Ht D)), zi (op + 1), zi (ms + (D 16 (D 19 r).toNat)), zi nx, zi (wt + (D 16 (D 19 r).toNat)), zi ((r + 1 : Nat) : Int), zi (D 19 r), zi (D 19 (r - 1))] dL_isVerdict_200 rfl (by omega) (Nat.le_of_ble_eq_true rfl) rfl rfl ?_
                          refine zx_goto (tgt := 24) dL_isVerdict_203 (by decide) ?_
                          refine zy_drop 8 [zf 9 0, zi ((wP D (Ht D) : Nat) : Int), zi (wY D (Ht D)), zi (op + 1), zi (ms + (D 16 (D 19 r).toNat)), zi nx, zi (wt + (D 16 (D 19 r).toNat)), zi ((r + 1 : Nat) : Int), zu, zi (D 19 (r - 1))] rfl ?_
                          refine zy_drop 9 [zf 9 0, zi ((wP D (Ht D) : Nat) : Int), zi (wY D (Ht D)), zi (op + 1), zi (ms + (D 16 (D 19 r).toNat)), zi nx, zi (wt + (D 16 (D 19 r).toNat)), zi ((r + 1 : Nat) : Int), zu, zu] rfl ?_
                          exact ih24 τ176 (r + 1) (op + 1) (ms + (D 16 (D 19 r).toNat)) nx (wt + (D 16 (D 19 r).toNat)) hz176 hr176.2.2 (zJ hF hr176.2.1) (by first | assumption | omega) (by subst hop; first | exact zsb_f (P := fun i => opn D (D 19 i).toNat) (fun q => by first | exact q.1.1 h134 | exact h143 q.1.2 | exact q.2 h168.2) | exact zsb_t (P := fun i => opn D (D 19 i).toNat) hopn) (by subst hms; first | exact zsw_f (P := fun i => opn D (D 19 i).toNat) (v := fun i => D 16 (D 19 i).toNat) (fun q => by first | exact q.1.1 h134 | exact h143 q.1.2 | exact q.2 h168.2) | exact zsw_t (P := fun i => opn D (D 19 i).toNat) (v := fun i => D 16 (D 19 i).toNat) hopn) (by first | (rw [hnx]; exact (nxR_k hW (by omega) (by omega)).symm) | (rw [hnx]; exact (nxR_n hW (by omega) (by omega) h116).symm) | exact (nxR_t hW (by omega) (by omega) h116).symm) (by subst hwt; first | exact zsw_f (P := fun i => Ht D (D 19 i).toNat) (v := fun i => D 16 (D 19 i).toNat) (fun q => by first | exact q.1 h134 | exact h143 q.2) | exact zsw_t (P := fun i => Ht D (D 19 i).toNat) (v := fun i => D 16 (D 19 i).toNat) ⟨h134, h143⟩) (by omega)
                        · exact absurd rfl h181
                      · have h168 := zb_n.mp h168
                        refine zx_goto (tgt := 200) dL_isVerdict_171 (by decide) ?_
                        refine zy_iinc (b := ((r + 1 : Nat) : Int)) [zf 9 0, zi ((wP D (Ht D) : Nat) : Int), zi (wY D (Ht D)), zi op, zi ms, zi nx, zi (wt + (D 16 (D 19 r).toNat)), zi ((r + 1 : Nat) : Int), zi (D 19 r), zi (D 19 (r - 1))] dL_isVerdict_200 rfl (by omega) (Nat.le_of_ble_eq_true rfl) rfl rfl ?_
                        refine zx_goto (tgt := 24) dL_isVerdict_203 (by decide) ?_
                        refine zy_drop 8 [zf 9 0, zi ((wP D (Ht D) : Nat) : Int), zi (wY D (Ht D)), zi op, zi ms, zi nx, zi (wt + (D 16 (D 19 r).toNat)), zi ((r + 1 : Nat) : Int), zu, zi (D 19 (r - 1))] rfl ?_
                        refine zy_drop 9 [zf 9 0, zi ((wP D (Ht D) : Nat) : Int), zi (wY D (Ht D)), zi op, zi ms, zi nx, zi (wt + (D 16 (D 19 r).toNat)), zi ((r + 1 : Nat) : Int), zu, zu] rfl ?_
                        exact ih24 τ (r + 1) op ms nx (wt + (D 16 (D 19 r).toNat)) hz hB hF (by first | assumption | omega) (by subst hop; first | exact zsb_f (P := fun i => opn D (D 19 i).toNat) (fun q => by first | exact q.1.1 h134 | exact h143 q.1.2 | exact q.2 h168.2) | exact zsb_t (P := fun i => opn D (D 19 i).toNat) hopn) (by subst hms; first | exact zsw_f (P := fun i => opn D (D 19 i).toNat) (v := fun i => D 16 (D 19 i).toNat) (fun q => by first | exact q.1.1 h134 | exact h143 q.1.2 | exact q.2 h168.2) | exact zsw_t (P := fun i => opn D (D 19 i).toNat) (v := fun i => D 16 (D 19 i).toNat) hopn) (by first | (rw [hnx]; exact (nxR_k hW (by omega) (by omega)).symm) | (rw [hnx]; exact (nxR_n hW (by omega) (by omega) h116).symm) | exact (nxR_t hW (by omega) (by omega) h116).symm) (by subst hwt; first | exact zsw_f (P := fun i => Ht D (D 19 i).toNat) (v := fun i => D 16 (D 19 i).toNat) (fun q => by first | exact q.1 h134 | exact h143 q.2) | exact zsw_t (P := fun i => Ht D (D 19 i).toNat) (v := fun i => D 16 (D 19 i).toNat) ⟨h134, h143⟩) (by omega)
                    · refine zx_goto (tgt := 200) dL_isVerdict_146 (by decide) ?_
                      refine zy_iinc (b := ((r + 1 : Nat) : Int)) [zf 9 0, zi ((wP D (Ht D) : Nat) : Int), zi (wY D (Ht D)), zi op, zi ms, zi nx, zi wt, zi ((r + 1 : Nat) : Int), zi (D 19 r), zi (D 19 (r - 1))] dL_isVerdict_200 rfl (by omega) (Nat.le_of_ble_eq_true rfl) rfl rfl ?_
                      refine zx_goto (tgt := 24) dL_isVerdict_203 (by decide) ?_
                      refine zy_drop 8 [zf 9 0, zi ((wP D (Ht D) : Nat) : Int), zi (wY D (Ht D)), zi op, zi ms, zi nx, zi wt, zi ((r + 1 : Nat) : Int), zu, zi (D 19 (r - 1))] rfl ?_
                      refine zy_drop 9 [zf 9 0, zi ((wP D (Ht D) : Nat) : Int), zi (wY D (Ht D)), zi op, zi ms, zi nx, zi wt, zi ((r + 1 : Nat) : Int), zu, zu] rfl ?_
                      exact ih24 τ (r + 1) op ms nx wt hz hB hF (by first | assumption | omega) (by subst hop; first | exact zsb_f (P := fun i => opn D (D 19 i).toNat) (fun q => by first | exact q.1.1 h134 | exact h143 q.1.2 | exact q.2 h168.2) | exact zsb_t (P := fun i => opn D (D 19 i).toNat) hopn) (by subst hms; first | exact zsw_f (P := fun i => opn D (D 19 i).toNat) (v := fun i => D 16 (D 19 i).toNat) (fun q => by first | exact q.1.1 h134 | exact h143 q.1.2 | exact q.2 h168.2) | exact zsw_t (P := fun i => opn D (D 19 i).toNat) (v := fun i => D 16 (D 19 i).toNat) hopn) (by first | (rw [hnx]; exact (nxR_k hW (by omega) (by omega)).symm) | (rw [hnx]; exact (nxR_n hW (by omega) (by omega) h116).symm) | exact (nxR_t hW (by omega) (by omega) h116).symm) (by subst hwt; first | exact zsw_f (P := fun i => Ht D (D 19 i).toNat) (v := fun i => D 16 (D 19 i).toNat) (fun q => by first | exact q.1 h134 | exact h143 q.2) | exact zsw_t (P := fun i => Ht D (D 19 i).toNat) (v := fun i => D 16 (D 19 i).toNat) ⟨h134, h143⟩) (by omega)
                · refine zx_aloadN dL_isVerdict_110 rfl rfl ?_
                  refine zx_iload dL_isVerdict_111 rfl ?_
                  refine zy_cv [zi (D 19 r)] (fX9_isRead  hfl hz hB hW (by first | exact hz _ _ | assumption | exact zr_b _ | exact zcmp_r _ _ | exact hzD _ _ | exact zr3 (tS_b hW _) | exact zr3 (lsc_b hW _ _) | exact zr3 (sc_b hW _ _) | exact rkP_zr hW _ | exact scA_zr hW _ _ | exact zr3 (cW_b hW) | exact zr3 (wS_b hW) | exact unx_zr hW _ | exact dcs_zr hW | (unfold zr at *; omega)) (by first | assumption | omega)) dL_isVerdict_113 (by decide) rfl cw_RL_122 okX9_isRead rfl (Nat.le_of_ble_eq_true rfl) ⟨Nat.le_of_ble_eq_true rfl, Nat.le_of_ble_eq_true rfl, Nat.le_of_ble_eq_true rfl, Nat.le_of_ble_eq_true rfl⟩ ?_
                  refine zx_if_ne (tgt := 124) (by first | exact hz _ _ | assumption | exact zr_b _ | exact zcmp_r _ _ | exact hzD _ _ | exact zr3 (tS_b hW _) | exact zr3 (lsc_b hW _ _) | exact zr3 (sc_b hW _ _) | exact rkP_zr hW _ | exact scA_zr hW _ _ | exact zr3 (cW_b hW) | exact zr3 (wS_b hW) | exact unx_zr hW _ | exact dcs_zr hW | (unfold zr at *; omega)) dL_isVerdict_116 (by decide) (fun h116 => ?_) (fun h116 => ?_)
                  · refine zx_iload dL_isVerdict_124 rfl ?_
                    refine zy_istore [zf 9 0, zi ((wP D (Ht D) : Nat) : Int), zi (wY D (Ht D)), zi op, zi ms, zi nx, zi wt, zi ((r : Nat) : Int), zi (D 19 r), zi (D 19 (r - 1))] dL_isVerdict_126 (Nat.le_of_ble_eq_true rfl) (Nat.le_of_ble_eq_true rfl) rfl rfl ?_
                    refine zx_aloadN dL_isVerdict_128 rfl rfl ?_
                    refine zx_iload dL_isVerdict_129 rfl ?_
                    refine zy_cv [zi (D 19 r)] (fX9_isRead  hfl hz hB hW (by first | exact hz _ _ | assumption | exact zr_b _ | exact zcmp_r _ _ | exact hzD _ _ | exact zr3 (tS_b hW _) | exact zr3 (lsc_b hW _ _) | exact zr3 (sc_b hW _ _) | exact rkP_zr hW _ | exact scA_zr hW _ _ | exact zr3 (cW_b hW) | exact zr3 (wS_b hW) | exact unx_zr hW _ | exact dcs_zr hW | (unfold zr at *; omega)) (by first | assumption | omega)) dL_isVerdict_131 (by decide) rfl cw_RL_122 okX9_isRead rfl (Nat.le_of_ble_eq_true rfl) ⟨Nat.le_of_ble_eq_true rfl, Nat.le_of_ble_eq_true rfl, Nat.le_of_ble_eq_true rfl, Nat.le_of_ble_eq_true rfl⟩ ?_
                    refine zx_if_eq (tgt := 200) (by first | exact hz _ _ | assumption | exact zr_b _ | exact zcmp_r _ _ | exact hzD _ _ | exact zr3 (tS_b hW _) | exact zr3 (lsc_b hW _ _) | exact zr3 (sc_b hW _ _) | exact rkP_zr hW _ | exact scA_zr hW _ _ | exact zr3 (cW_b hW) | exact zr3 (wS_b hW) | exact unx_zr hW _ | exact dcs_zr hW | (unfold zr at *; omega)) dL_isVerdict_134 (by decide) (fun h134 => ?_) (fun h134 => ?_)
                    · refine zy_iinc (b := ((r + 1 : Nat) : Int)) [zf 9 0, zi ((wP D (Ht D) : Nat) : Int), zi (wY D (Ht D)), zi op, zi ms, zi nx, zi wt, zi ((r + 1 : Nat) : Int), zi (D 19 r), zi (D 19 (r - 1))] dL_isVerdict_200 rfl (by omega) (Nat.le_of_ble_eq_true rfl) rfl rfl ?_
                      refine zx_goto (tgt := 24) dL_isVerdict_203 (by decide) ?_
                      refine zy_drop 8 [zf 9 0, zi ((wP D (Ht D) : Nat) : Int), zi (wY D (Ht D)), zi op, zi ms, zi nx, zi wt, zi ((r + 1 : Nat) : Int), zu, zi (D 19 (r - 1))] rfl ?_
                      refine zy_drop 9 [zf 9 0, zi ((wP D (Ht D) : Nat) : Int), zi (wY D (Ht D)), zi op, zi ms, zi nx, zi wt, zi ((r + 1 : Nat) : Int), zu, zu] rfl ?_
                      exact ih24 τ (r + 1) op ms nx wt hz hB hF (by first | assumption | omega) (by subst hop; first | exact zsb_f (P := fun i => opn D (D 19 i).toNat) (fun q => by first | exact q.1.1 h134 | exact h143 q.1.2 | exact q.2 h168.2) | exact zsb_t (P := fun i => opn D (D 19 i).toNat) hopn) (by subst hms; first | exact zsw_f (P := fun i => opn D (D 19 i).toNat) (v := fun i => D 16 (D 19 i).toNat) (fun q => by first | exact q.1.1 h134 | exact h143 q.1.2 | exact q.2 h168.2) | exact zsw_t (P := fun i => opn D (D 19 i).toNat) (v := fun i => D 16 (D 19 i).toNat) hopn) (by first | (rw [hnx]; exact (nxR_k hW (by omega) (by omega)).symm) | (rw [hnx]; exact (nxR_n hW (by omega) (by omega) h116).symm) | exact (nxR_t hW (by omega) (by omega) h116).symm) (by subst hwt; first | exact zsw_f (P := fun i => Ht D (D 19 i).toNat) (v := fun i => D 16 (D 19 i).toNat) (fun q => by first | exact q.1 h134 | exact h143 q.2) | exact zsw_t (P := fun i => Ht D (D 19 i).toNat) (v := fun i => D 16 (D 19 i).toNat) ⟨h134, h143⟩) (by omega)
                    · refine zx_aloadN dL_isVerdict_137 rfl rfl ?_
                      refine zx_iload dL_isVerdict_138 rfl ?_
                      refine zy_cv [zi (D 19 r)] (fX9_isAside  hfl hz hB hW (by first | exact hz _ _ | assumption | exact zr_b _ | exact zcmp_r _ _ | exact hzD _ _ | exact zr3 (tS_b hW _) | exact zr3 (lsc_b hW _ _) | exact zr3 (sc_b hW _ _) | exact rkP_zr hW _ | exact scA_zr hW _ _ | exact zr3 (cW_b hW) | exact zr3 (wS_b hW) | exact unx_zr hW _ | exact dcs_zr hW | (unfold zr at *; omega)) (by first | assumption | omega)) dL_isVerdict_140 (by decide) rfl cw_RL_128 okX9_isAside rfl (Nat.le_of_ble_eq_true rfl) ⟨Nat.le_of_ble_eq_true rfl, Nat.le_of_ble_eq_true rfl, Nat.le_of_ble_eq_true rfl, Nat.le_of_ble_eq_true rfl⟩ ?_
                      refine zx_if_eq (tgt := 149) (by first | exact hz _ _ | assumption | exact zr_b _ | exact zcmp_r _ _ | exact hzD _ _ | exact zr3 (tS_b hW _) | exact zr3 (lsc_b hW _ _) | exact zr3 (sc_b hW _ _) | exact rkP_zr hW _ | exact scA_zr hW _ _ | exact zr3 (cW_b hW) | exact zr3 (wS_b hW) | exact unx_zr hW _ | exact dcs_zr hW | (unfold zr at *; omega)) dL_isVerdict_143 (by decide) (fun h143 => ?_) (fun h143 => ?_)
                      · refine zx_iload dL_isVerdict_149 rfl ?_
                        refine zx_aloadN dL_isVerdict_151 rfl rfl ?_
                        refine zx_iload dL_isVerdict_152 rfl ?_
                        refine zy_cv [zi (D 19 r)] (fX9_weightOf  hfl hz hB hW (by first | exact hz _ _ | assumption | exact zr_b _ | exact zcmp_r _ _ | exact hzD _ _ | exact zr3 (tS_b hW _) | exact zr3 (lsc_b hW _ _) | exact zr3 (sc_b hW _ _) | exact rkP_zr hW _ | exact scA_zr hW _ _ | exact zr3 (cW_b hW) | exact zr3 (wS_b hW) | exact unx_zr hW _ | exact dcs_zr hW | (unfold zr at *; omega)) (by first | assumption | omega)) dL_isVerdict_154 (by decide) rfl cw_RL_119 okX9_weightOf rfl (Nat.le_of_ble_eq_true rfl) ⟨Nat.le_of_ble_eq_true rfl, Nat.le_of_ble_eq_true rfl, Nat.le_of_ble_eq_true rfl, Nat.le_of_ble_eq_true rfl⟩ ?_
                        refine zx_iadd dL_isVerdict_157 ?_
                        refine zy_istore [zf 9 0, zi ((wP D (Ht D) : Nat) : Int), zi (wY D (Ht D)), zi op, zi ms, zi nx, zi (wt + (D 16 (D 19 r).toNat)), zi ((r : Nat) : Int), zi (D 19 r), zi (D 19 (r - 1))] dL_isVerdict_158 (Nat.le_of_ble_eq_true rfl) (Nat.le_of_ble_eq_true rfl) rfl rfl ?_
                        refine zx_aloadN dL_isVerdict_160 rfl rfl ?_
                        refine zx_iloadN dL_isVerdict_161 rfl rfl ?_
                        refine zx_iloadN dL_isVerdict_162 rfl rfl ?_
                        refine zx_iload dL_isVerdict_163 rfl ?_
                        refine zy_cv [zi ((wP D (Ht D) : Nat) : Int), zi (wY D (Ht D)), zi (D 19 r)] (fX9_explains  hfl hz hB hW (by first | exact hz _ _ | assumption | exact zr_b _ | exact zcmp_r _ _ | exact hzD _ _ | exact zr3 (tS_b hW _) | exact zr3 (lsc_b hW _ _) | exact zr3 (sc_b hW _ _) | exact rkP_zr hW _ | exact scA_zr hW _ _ | exact zr3 (cW_b hW) | exact zr3 (wS_b hW) | exact unx_zr hW _ | exact dcs_zr hW | (unfold zr at *; omega)) (by first | exact hz _ _ | assumption | exact zr_b _ | exact zcmp_r _ _ | exact hzD _ _ | exact zr3 (tS_b hW _) | exact zr3 (lsc_b hW _ _) | exact zr3 (sc_b hW _ _) | exact rkP_zr hW _ | exact scA_zr hW _ _ | exact zr3 (cW_b hW) | exact zr3 (wS_b hW) | exact unx_zr hW _ | exact dcs_zr hW | (unfold zr at *; omega)) (by first | exact hz _ _ | assumption | exact zr_b _ | exact zcmp_r _ _ | exact hzD _ _ | exact zr3 (tS_b hW _) | exact zr3 (lsc_b hW _ _) | exact zr3 (sc_b hW _ _) | exact rkP_zr hW _ | exact scA_zr hW _ _ | exact zr3 (cW_b hW) | exact zr3 (wS_b hW) | exact unx_zr hW _ | exact dcs_zr hW | (unfold zr at *; omega)) (by first | assumption | omega) (by first | assumption | omega) (by first | assumption | omega)) dL_isVerdict_165 (by decide) rfl cw_RL_140 okX9_explains rfl (Nat.le_of_ble_eq_true rfl) ⟨Nat.le_of_ble_eq_true rfl, Nat.le_of_ble_eq_true rfl, Nat.le_of_ble_eq_true rfl, Nat.le_of_ble_eq_true rfl⟩ ?_
                        refine zy_top (b := zb (works D (wP D (Ht D)) (wY D (Ht D)) ∧ cFit D (wP D (Ht D)) (wY D (Ht D)) (D 19 r).toNat)) rfl ?_
                        refine zx_if_eq (tgt := 174) (by first | exact hz _ _ | assumption | exact zr_b _ | exact zcmp_r _ _ | exact hzD _ _ | exact zr3 (tS_b hW _) | exact zr3 (lsc_b hW _ _) | exact zr3 (sc_b hW _ _) | exact rkP_zr hW _ | exact scA_zr hW _ _ | exact zr3 (cW_b hW) | exact zr3 (wS_b hW) | exact unx_zr hW _ | exact dcs_zr hW | (unfold zr at *; omega)) dL_isVerdict_168 (by decide) (fun h168 => ?_) (fun h168 => ?_)
                        · have h168 := zb_0.mp h168
                          have hopn : opn D (D 19 r).toNat := ⟨⟨h134, h143⟩, fun z => h168 ⟨hdec, z⟩⟩
                          refine zx_aloadN dL_isVerdict_174 rfl rfl ?_
                          refine zx_iloadN dL_isVerdict_175 rfl rfl ?_
                          refine zy_cvR [zi op] (fX9_unexplainedClue  hfl hz hB hW hP1 (by first | exact hz _ _ | assumption | exact zr_b _ | exact zcmp_r _ _ | exact hzD _ _ | exact zr3 (tS_b hW _) | exact zr3 (lsc_b hW _ _) | exact zr3 (sc_b hW _ _) | exact rkP_zr hW _ | exact scA_zr hW _ _ | exact zr3 (cW_b hW) | exact zr3 (wS_b hW) | exact unx_zr hW _ | exact dcs_zr hW | (unfold zr at *; omega))) dL_isVerdict_176 (by decide) rfl cw_RL_183 okX9_unexplainedClue rfl (Nat.le_of_ble_eq_true rfl) ⟨Nat.le_of_ble_eq_true rfl, Nat.le_of_ble_eq_true rfl, Nat.le_of_ble_eq_true rfl, Nat.le_of_ble_eq_true rfl⟩ (fun τ176 hr176 => ?_)
                          have hz176 : zOK τ176 := hr176.1
                          refine zy_top (b := D 19 r) (by rw [hop]; exact unx_r (by omega) hopn) ?_
                          refine zx_iload dL_isVerdict_179 rfl ?_
                          refine zx_icmp_eq (tgt := 186) (by first | exact hz176 _ _ | assumption | exact zr_b _ | exact zcmp_r _ _ | exact hzD _ _ | exact zr3 (tS_b hW _) | exact zr3 (lsc_b hW _ _) | exact zr3 (sc_b hW _ _) | exact rkP_zr hW _ | exact scA_zr hW _ _ | exact zr3 (cW_b hW) | exact zr3 (wS_b hW) | exact unx_zr hW _ | exact dcs_zr hW | (unfold zr at *; omega)) (by first | exact hz176 _ _ | assumption | exact zr_b _ | exact zcmp_r _ _ | exact hzD _ _ | exact zr3 (tS_b hW _) | exact zr3 (lsc_b hW _ _) | exact zr3 (sc_b hW _ _) | exact rkP_zr hW _ | exact scA_zr hW _ _ | exact zr3 (cW_b hW) | exact zr3 (wS_b hW) | exact unx_zr hW _ | exact dcs_zr hW | (unfold zr at *; omega)) dL_isVerdict_181 (by decide) (fun h181 => ?_) (fun h181 => ?_)
                          · refine zx_iload dL_isVerdict_186 rfl ?_
                            refine zx_aloadN dL_isVerdict_188 rfl rfl ?_
                            refine zx_iload dL_isVerdict_189 rfl ?_
                            refine zy_cv [zi (D 19 r)] (fX9_weightOf  hfl hz176 hr176.2.2 hW (by first | exact hz176 _ _ | assumption | exact zr_b _ | exact zcmp_r _ _ | exact hzD _ _ | exact zr3 (tS_b hW _) | exact zr3 (lsc_b hW _ _) | exact zr3 (sc_b hW _ _) | exact rkP_zr hW _ | exact scA_zr hW _ _ | exact zr3 (cW_b hW) | exact zr3 (wS_b hW) | exact unx_zr hW _ | exact dcs_zr hW | (unfold zr at *; omega)) (by first | assumption | omega)) dL_isVerdict_191 (by decide) rfl cw_RL_119 okX9_weightOf rfl (Nat.le_of_ble_eq_true rfl) ⟨Nat.le_of_ble_eq_true rfl, Nat.le_of_ble_eq_true rfl, Nat.le_of_ble_eq_true rfl, Nat.le_of_ble_eq_true rfl⟩ ?_
                            refine zx_iadd dL_isVerdict_194 ?_
                            refine zy_istore [zf 9 0, zi ((wP D (Ht D) : Nat) : Int), zi (wY D (Ht D)), zi op, zi (ms + (D 16 (D 19 r).toNat)), zi nx, zi (wt + (D 16 (D 19 r).toNat)), zi ((r : Nat) : Int), zi (D 19 r), zi (D 19 (r - 1))] dL_isVerdict_195 (Nat.le_of_ble_eq_true rfl) (Nat.le_of_ble_eq_true rfl) rfl rfl ?_
                            refine zy_iinc (b := op + 1) [zf 9 0, zi ((wP D (Ht D) : Nat) : Int), zi (wY D (Ht D)), zi (op + 1), zi (ms + (D 16 (D 19 r).toNat)), zi nx, zi (wt + (D 16 (D 19 r).toNat)), zi ((r : Nat) : Int), zi (D 19 r), zi (D 19 (r - 1))] dL_isVerdict_197 rfl (by omega) (Nat.le_of_ble_eq_true rfl) rfl rfl ?_
                            refine zy_iinc (b := ((r + 1 : Nat) : Int)) [zf 9 0, zi ((wP D (Ht D) : Nat) : Int), zi (wY D (Ht D)), zi (op + 1), zi (ms + (D 16 (D 19 r).toNat)), zi nx, zi (wt + (D 16 (D 19 r).toNat)), zi ((r + 1 : Nat) : Int), zi (D 19 r), zi (D 19 (r - 1))] dL_isVerdict_200 rfl (by omega) (Nat.le_of_ble_eq_true rfl) rfl rfl ?_
                            refine zx_goto (tgt := 24) dL_isVerdict_203 (by decide) ?_
                            refine zy_drop 8 [zf 9 0, zi ((wP D (Ht D) : Nat) : Int), zi (wY D (Ht D)), zi (op + 1), zi (ms + (D 16 (D 19 r).toNat)), zi nx, zi (wt + (D 16 (D 19 r).toNat)), zi ((r + 1 : Nat) : Int), zu, zi (D 19 (r - 1))] rfl ?_
                            refine zy_drop 9 [zf 9 0, zi ((wP D (Ht D) : Nat) : Int), zi (wY D (Ht D)), zi (op + 1), zi (ms + (D 16 (D 19 r).toNat)), zi nx, zi (wt + (D 16 (D 19 r).toNat)), zi ((r + 1 : Nat) : Int), zu, zu] rfl ?_
                            exact ih24 τ176 (r + 1) (op + 1) (ms + (D 16 (D 19 r).toNat)) nx (wt + (D 16 (D 19 r).toNat)) hz176 hr176.2.2 (zJ hF hr176.2.1) (by first | assumption | omega) (by subst hop; first | exact zsb_f (P := fun i => opn D (D 19 i).toNat) (fun q => by first | exact q.1.1 h134 | exact h143 q.1.2 | exact q.2 h168.2) | exact zsb_t (P := fun i => opn D (D 19 i).toNat) hopn) (by subst hms; first | exact zsw_f (P := fun i => opn D (D 19 i).toNat) (v := fun i => D 16 (D 19 i).toNat) (fun q => by first | exact q.1.1 h134 | exact h143 q.1.2 | exact q.2 h168.2) | exact zsw_t (P := fun i => opn D (D 19 i).toNat) (v := fun i => D 16 (D 19 i).toNat) hopn) (by first | (rw [hnx]; exact (nxR_k hW (by omega) (by omega)).symm) | (rw [hnx]; exact (nxR_n hW (by omega) (by omega) h116).symm) | exact (nxR_t hW (by omega) (by omega) h116).symm) (by subst hwt; first | exact zsw_f (P := fun i => Ht D (D 19 i).toNat) (v := fun i => D 16 (D 19 i).toNat) (fun q => by first | exact q.1 h134 | exact h143 q.2) | exact zsw_t (P := fun i => Ht D (D 19 i).toNat) (v := fun i => D 16 (D 19 i).toNat) ⟨h134, h143⟩) (by omega)
                          · exact absurd rfl h181
                        · have h168 := zb_n.mp h168
                          refine zx_goto (tgt := 200) dL_isVerdict_171 (by decide) ?_
                          refine zy_iinc (b := ((r + 1 : Nat) : Int)) [zf 9 0, zi ((wP D (Ht D) : Nat) : Int), zi (wY D (Ht D)), zi op, zi ms, zi nx, zi (wt + (D 16 (D 19 r).toNat)), zi ((r + 1 : Nat) : Int), zi (D 19 r), zi (D 19 (r - 1))] dL_isVerdict_200 rfl (by omega) (Nat.le_of_ble_eq_true rfl) rfl rfl ?_
                          refine zx_goto (tgt := 24) dL_isVerdict_203 (by decide) ?_
                          refine zy_drop 8 [zf 9 0, zi ((wP D (Ht D) : Nat) : Int), zi (wY D (Ht D)), zi op, zi ms, zi nx, zi (wt + (D 16 (D 19 r).toNat)), zi ((r + 1 : Nat) : Int), zu, zi (D 19 (r - 1))] rfl ?_
                          refine zy_drop 9 [zf 9 0, zi ((wP D (Ht D) : Nat) : Int), zi (wY D (Ht D)), zi op, zi ms, zi nx, zi (wt + (D 16 (D 19 r).toNat)), zi ((r + 1 : Nat) : Int), zu, zu] rfl ?_
                          exact ih24 τ (r + 1) op ms nx (wt + (D 16 (D 19 r).toNat)) hz hB hF (by first | assumption | omega) (by subst hop; first | exact zsb_f (P := fun i => opn D (D 19 i).toNat) (fun q => by first | exact q.1.1 h134 | exact h143 q.1.2 | exact q.2 h168.2) | exact zsb_t (P := fun i => opn D (D 19 i).toNat) hopn) (by subst hms; first | exact zsw_f (P := fun i => opn D (D 19 i).toNat) (v := fun i => D 16 (D 19 i).toNat) (fun q => by first | exact q.1.1 h134 | exact h143 q.1.2 | exact q.2 h168.2) | exact zsw_t (P := fun i => opn D (D 19 i).toNat) (v := fun i => D 16 (D 19 i).toNat) hopn) (by first | (rw [hnx]; exact (nxR_k hW (by omega) (by omega)).symm) | (rw [hnx]; exact (nxR_n hW (by omega) (by omega) h116).symm) | exact (nxR_t hW (by omega) (by omega) h116).symm) (by subst hwt; first | exact zsw_f (P := fun i => Ht D (D 19 i).toNat) (v := fun i => D 16 (D 19 i).toNat) (fun q => by first | exact q.1 h134 | exact h143 q.2) | exact zsw_t (P := fun i => Ht D (D 19 i).toNat) (v := fun i => D 16 (D 19 i).toNat) ⟨h134, h143⟩) (by omega)
                      · refine zx_goto (tgt := 200) dL_isVerdict_146 (by decide) ?_
                        refine zy_iinc (b := ((r + 1 : Nat) : Int)) [zf 9 0, zi ((wP D (Ht D) : Nat) : Int), zi (wY D (Ht D)), zi op, zi ms, zi nx, zi wt, zi ((r + 1 : Nat) : Int), zi (D 19 r), zi (D 19 (r - 1))] dL_isVerdict_200 rfl (by omega) (Nat.le_of_ble_eq_true rfl) rfl rfl ?_
                        refine zx_goto (tgt := 24) dL_isVerdict_203 (by decide) ?_
                        refine zy_drop 8 [zf 9 0, zi ((wP D (Ht D) : Nat) : Int), zi (wY D (Ht D)), zi op, zi ms, zi nx, zi wt, zi ((r + 1 : Nat) : Int), zu, zi (D 19 (r - 1))] rfl ?_
                        refine zy_drop 9 [zf 9 0, zi ((wP D (Ht D) : Nat) : Int), zi (wY D (Ht D)), zi op, zi ms, zi nx, zi wt, zi ((r + 1 : Nat) : Int), zu, zu] rfl ?_
                        exact ih24 τ (r + 1) op ms nx wt hz hB hF (by first | assumption | omega) (by subst hop; first | exact zsb_f (P := fun i => opn D (D 19 i).toNat) (fun q => by first | exact q.1.1 h134 | exact h143 q.1.2 | exact q.2 h168.2) | exact zsb_t (P := fun i => opn D (D 19 i).toNat) hopn) (by subst hms; first | exact zsw_f (P := fun i => opn D (D 19 i).toNat) (v := fun i => D 16 (D 19 i).toNat) (fun q => by first | exact q.1.1 h134 | exact h143 q.1.2 | exact q.2 h168.2) | exact zsw_t (P := fun i => opn D (D 19 i).toNat) (v := fun i => D 16 (D 19 i).toNat) hopn) (by first | (rw [hnx]; exact (nxR_k hW (by omega) (by omega)).symm) | (rw [hnx]; exact (nxR_n hW (by omega) (by omega) h116).symm) | exact (nxR_t hW (by omega) (by omega) h116).symm) (by subst hwt; first | exact zsw_f (P := fun i => Ht D (D 19 i).toNat) (v := fun i => D 16 (D 19 i).toNat) (fun q => by first | exact q.1 h134 | exact h143 q.2) | exact zsw_t (P := fun i => Ht D (D 19 i).toNat) (v := fun i => D 16 (D 19 i).toNat) ⟨h134, h143⟩) (by omega)
                  · refine zx_iload dL_isVerdict_119 rfl ?_
                    refine zx_goto (tgt := 126) dL_isVerdict_121 (by decide) ?_
                    refine zy_istore [zf 9 0, zi ((wP D (Ht D) : Nat) : Int), zi (wY D (Ht D)), zi op, zi ms, zi (D 19 r), zi wt, zi ((r : Nat) : Int), zi (D 19 r), zi (D 19 (r - 1))] dL_isVerdict_126 (Nat.le_of_ble_eq_true rfl) (Nat.le_of_ble_eq_true rfl) rfl rfl ?_
                    refine zx_aloadN dL_isVerdict_128 rfl rfl ?_
                    refine zx_iload dL_isVerdict_129 rfl ?_
                    refine zy_cv [zi (D 19 r)] (fX9_isRead  hfl hz hB hW (by first | exact hz _ _ | assumption | exact zr_b _ | exact zcmp_r _ _ | exact hzD _ _ | exact zr3 (tS_b hW _) | exact zr3 (lsc_b hW _ _) | exact zr3 (sc_b hW _ _) | exact rkP_zr hW _ | exact scA_zr hW _ _ | exact zr3 (cW_b hW) | exact zr3 (wS_b hW) | exact unx_zr hW _ | exact dcs_zr hW | (unfold zr at *; omega)) (by first | assumption | omega)) dL_isVerdict_131 (by decide) rfl cw_RL_122 okX9_isRead rfl (Nat.le_of_ble_eq_true rfl) ⟨Nat.le_of_ble_eq_true rfl, Nat.le_of_ble_eq_true rfl, Nat.le_of_ble_eq_true rfl, Nat.le_of_ble_eq_true rfl⟩ ?_
                    refine zx_if_eq (tgt := 200) (by first | exact hz _ _ | assumption | exact zr_b _ | exact zcmp_r _ _ | exact hzD _ _ | exact zr3 (tS_b hW _) | exact zr3 (lsc_b hW _ _) | exact zr3 (sc_b hW _ _) | exact rkP_zr hW _ | exact scA_zr hW _ _ | exact zr3 (cW_b hW) | exact zr3 (wS_b hW) | exact unx_zr hW _ | exact dcs_zr hW | (unfold zr at *; omega)) dL_isVerdict_134 (by decide) (fun h134 => ?_) (fun h134 => ?_)
                    · refine zy_iinc (b := ((r + 1 : Nat) : Int)) [zf 9 0, zi ((wP D (Ht D) : Nat) : Int), zi (wY D (Ht D)), zi op, zi ms, zi (D 19 r), zi wt, zi ((r + 1 : Nat) : Int), zi (D 19 r), zi (D 19 (r - 1))] dL_isVerdict_200 rfl (by omega) (Nat.le_of_ble_eq_true rfl) rfl rfl ?_
                      refine zx_goto (tgt := 24) dL_isVerdict_203 (by decide) ?_
                      refine zy_drop 8 [zf 9 0, zi ((wP D (Ht D) : Nat) : Int), zi (wY D (Ht D)), zi op, zi ms, zi (D 19 r), zi wt, zi ((r + 1 : Nat) : Int), zu, zi (D 19 (r - 1))] rfl ?_
                      refine zy_drop 9 [zf 9 0, zi ((wP D (Ht D) : Nat) : Int), zi (wY D (Ht D)), zi op, zi ms, zi (D 19 r), zi wt, zi ((r + 1 : Nat) : Int), zu, zu] rfl ?_
                      exact ih24 τ (r + 1) op ms (D 19 r) wt hz hB hF (by first | assumption | omega) (by subst hop; first | exact zsb_f (P := fun i => opn D (D 19 i).toNat) (fun q => by first | exact q.1.1 h134 | exact h143 q.1.2 | exact q.2 h168.2) | exact zsb_t (P := fun i => opn D (D 19 i).toNat) hopn) (by subst hms; first | exact zsw_f (P := fun i => opn D (D 19 i).toNat) (v := fun i => D 16 (D 19 i).toNat) (fun q => by first | exact q.1.1 h134 | exact h143 q.1.2 | exact q.2 h168.2) | exact zsw_t (P := fun i => opn D (D 19 i).toNat) (v := fun i => D 16 (D 19 i).toNat) hopn) (by first | (rw [hnx]; exact (nxR_k hW (by omega) (by omega)).symm) | (rw [hnx]; exact (nxR_n hW (by omega) (by omega) h116).symm) | exact (nxR_t hW (by omega) (by omega) h116).symm) (by subst hwt; first | exact zsw_f (P := fun i => Ht D (D 19 i).toNat) (v := fun i => D 16 (D 19 i).toNat) (fun q => by first | exact q.1 h134 | exact h143 q.2) | exact zsw_t (P := fun i => Ht D (D 19 i).toNat) (v := fun i => D 16 (D 19 i).toNat) ⟨h134, h143⟩) (by omega)
                    · refine zx_aloadN dL_isVerdict_137 rfl rfl ?_
                      refine zx_iload dL_isVerdict_138 rfl ?_
                      refine zy_cv [zi (D 19 r)] (fX9_isAside  hfl hz hB hW (by first | exact hz _ _ | assumption | exact zr_b _ | exact zcmp_r _ _ | exact hzD _ _ | exact zr3 (tS_b hW _) | exact zr3 (lsc_b hW _ _) | exact zr3 (sc_b hW _ _) | exact rkP_zr hW _ | exact scA_zr hW _ _ | exact zr3 (cW_b hW) | exact zr3 (wS_b hW) | exact unx_zr hW _ | exact dcs_zr hW | (unfold zr at *; omega)) (by first | assumption | omega)) dL_isVerdict_140 (by decide) rfl cw_RL_128 okX9_isAside rfl (Nat.le_of_ble_eq_true rfl) ⟨Nat.le_of_ble_eq_true rfl, Nat.le_of_ble_eq_true rfl, Nat.le_of_ble_eq_true rfl, Nat.le_of_ble_eq_true rfl⟩ ?_
                      refine zx_if_eq (tgt := 149) (by first | exact hz _ _ | assumption | exact zr_b _ | exact zcmp_r _ _ | exact hzD _ _ | exact zr3 (tS_b hW _) | exact zr3 (lsc_b hW _ _) | exact zr3 (sc_b hW _ _) | exact rkP_zr hW _ | exact scA_zr hW _ _ | exact zr3 (cW_b hW) | exact zr3 (wS_b hW) | exact unx_zr hW _ | exact dcs_zr hW | (unfold zr at *; omega)) dL_isVerdict_143 (by decide) (fun h143 => ?_) (fun h143 => ?_)
                      · refine zx_iload dL_isVerdict_149 rfl ?_
                        refine zx_aloadN dL_isVerdict_151 rfl rfl ?_
                        refine zx_iload dL_isVerdict_152 rfl ?_
                        refine zy_cv [zi (D 19 r)] (fX9_weightOf  hfl hz hB hW (by first | exact hz _ _ | assumption | exact zr_b _ | exact zcmp_r _ _ | exact hzD _ _ | exact zr3 (tS_b hW _) | exact zr3 (lsc_b hW _ _) | exact zr3 (sc_b hW _ _) | exact rkP_zr hW _ | exact scA_zr hW _ _ | exact zr3 (cW_b hW) | exact zr3 (wS_b hW) | exact unx_zr hW _ | exact dcs_zr hW | (unfold zr at *; omega)) (by first | assumption | omega)) dL_isVerdict_154 (by decide) rfl cw_RL_119 okX9_weightOf rfl (Nat.le_of_ble_eq_true rfl) ⟨Nat.le_of_ble_eq_true rfl, Nat.le_of_ble_eq_true rfl, Nat.le_of_ble_eq_true rfl, Nat.le_of_ble_eq_true rfl⟩ ?_
                        refine zx_iadd dL_isVerdict_157 ?_
                        refine zy_istore [zf 9 0, zi ((wP D (Ht D) : Nat) : Int), zi (wY D (Ht D)), zi op, zi ms, zi (D 19 r), zi (wt + (D 16 (D 19 r).toNat)), zi ((r : Nat) : Int), zi (D 19 r), zi (D 19 (r - 1))] dL_isVerdict_158 (Nat.le_of_ble_eq_true rfl) (Nat.le_of_ble_eq_true rfl) rfl rfl ?_
                        refine zx_aloadN dL_isVerdict_160 rfl rfl ?_
                        refine zx_iloadN dL_isVerdict_161 rfl rfl ?_
                        refine zx_iloadN dL_isVerdict_162 rfl rfl ?_
                        refine zx_iload dL_isVerdict_163 rfl ?_
                        refine zy_cv [zi ((wP D (Ht D) : Nat) : Int), zi (wY D (Ht D)), zi (D 19 r)] (fX9_explains  hfl hz hB hW (by first | exact hz _ _ | assumption | exact zr_b _ | exact zcmp_r _ _ | exact hzD _ _ | exact zr3 (tS_b hW _) | exact zr3 (lsc_b hW _ _) | exact zr3 (sc_b hW _ _) | exact rkP_zr hW _ | exact scA_zr hW _ _ | exact zr3 (cW_b hW) | exact zr3 (wS_b hW) | exact unx_zr hW _ | exact dcs_zr hW | (unfold zr at *; omega)) (by first | exact hz _ _ | assumption | exact zr_b _ | exact zcmp_r _ _ | exact hzD _ _ | exact zr3 (tS_b hW _) | exact zr3 (lsc_b hW _ _) | exact zr3 (sc_b hW _ _) | exact rkP_zr hW _ | exact scA_zr hW _ _ | exact zr3 (cW_b hW) | exact zr3 (wS_b hW) | exact unx_zr hW _ | exact dcs_zr hW | (unfold zr at *; omega)) (by first | exact hz _ _ | assumption | exact zr_b _ | exact zcmp_r _ _ | exact hzD _ _ | exact zr3 (tS_b hW _) | exact zr3 (lsc_b hW _ _) | exact zr3 (sc_b hW _ _) | exact rkP_zr hW _ | exact scA_zr hW _ _ | exact zr3 (cW_b hW) | exact zr3 (wS_b hW) | exact unx_zr hW _ | exact dcs_zr hW | (unfold zr at *; omega)) (by first | assumption | omega) (by first | assumption | omega) (by first | assumption | omega)) dL_isVerdict_165 (by decide) rfl cw_RL_140 okX9_explains rfl (Nat.le_of_ble_eq_true rfl) ⟨Nat.le_of_ble_eq_true rfl, Nat.le_of_ble_eq_true rfl, Nat.le_of_ble_eq_true rfl, Nat.le_of_ble_eq_true rfl⟩ ?_
                        refine zy_top (b := zb (works D (wP D (Ht D)) (wY D (Ht D)) ∧ cFit D (wP D (Ht D)) (wY D (Ht D)) (D 19 r).toNat)) rfl ?_
                        refine zx_if_eq (tgt := 174) (by first | exact hz _ _ | assumption | exact zr_b _ | exact zcmp_r _ _ | exact hzD _ _ | exact zr3 (tS_b hW _) | exact zr3 (lsc_b hW _ _) | exact zr3 (sc_b hW _ _) | exact rkP_zr hW _ | exact scA_zr hW _ _ | exact zr3 (cW_b hW) | exact zr3 (wS_b hW) | exact unx_zr hW _ | exact dcs_zr hW | (unfold zr at *; omega)) dL_isVerdict_168 (by decide) (fun h168 => ?_) (fun h168 => ?_)
                        · have h168 := zb_0.mp h168
                          have hopn : opn D (D 19 r).toNat := ⟨⟨h134, h143⟩, fun z => h168 ⟨hdec, z⟩⟩
                          refine zx_aloadN dL_isVerdict_174 rfl rfl ?_
                          refine zx_iloadN dL_isVerdict_175 rfl rfl ?_
                          refine zy_cvR [zi op] (fX9_unexplainedClue  hfl hz hB hW hP1 (by first | exact hz _ _ | assumption | exact zr_b _ | exact zcmp_r _ _ | exact hzD _ _ | exact zr3 (tS_b hW _) | exact zr3 (lsc_b hW _ _) | exact zr3 (sc_b hW _ _) | exact rkP_zr hW _ | exact scA_zr hW _ _ | exact zr3 (cW_b hW) | exact zr3 (wS_b hW) | exact unx_zr hW _ | exact dcs_zr hW | (unfold zr at *; omega))) dL_isVerdict_176 (by decide) rfl cw_RL_183 okX9_unexplainedClue rfl (Nat.le_of_ble_eq_true rfl) ⟨Nat.le_of_ble_eq_true rfl, Nat.le_of_ble_eq_true rfl, Nat.le_of_ble_eq_true rfl, Nat.le_of_ble_eq_true rfl⟩ (fun τ176 hr176 => ?_)
                          have hz176 : zOK τ176 := hr176.1
                          refine zy_top (b := D 19 r) (by rw [hop]; exact unx_r (by omega) hopn) ?_
                          refine zx_iload dL_isVerdict_179 rfl ?_
                          refine zx_icmp_eq (tgt := 186) (by first | exact hz176 _ _ | assumption | exact zr_b _ | exact zcmp_r _ _ | exact hzD _ _ | exact zr3 (tS_b hW _) | exact zr3 (lsc_b hW _ _) | exact zr3 (sc_b hW _ _) | exact rkP_zr hW _ | exact scA_zr hW _ _ | exact zr3 (cW_b hW) | exact zr3 (wS_b hW) | exact unx_zr hW _ | exact dcs_zr hW | (unfold zr at *; omega)) (by first | exact hz176 _ _ | assumption | exact zr_b _ | exact zcmp_r _ _ | exact hzD _ _ | exact zr3 (tS_b hW _) | exact zr3 (lsc_b hW _ _) | exact zr3 (sc_b hW _ _) | exact rkP_zr hW _ | exact scA_zr hW _ _ | exact zr3 (cW_b hW) | exact zr3 (wS_b hW) | exact unx_zr hW _ | exact dcs_zr hW | (unfold zr at *; omega)) dL_isVerdict_181 (by decide) (fun h181 => ?_) (fun h181 => ?_)
                          · refine zx_iload dL_isVerdict_186 rfl ?_
                            refine zx_aloadN dL_isVerdict_188 rfl rfl ?_
                            refine zx_iload dL_isVerdict_189 rfl ?_
                            refine zy_cv [zi (D 19 r)] (fX9_weightOf  hfl hz176 hr176.2.2 hW (by first | exact hz176 _ _ | assumption | exact zr_b _ | exact zcmp_r _ _ | exact hzD _ _ | exact zr3 (tS_b hW _) | exact zr3 (lsc_b hW _ _) | exact zr3 (sc_b hW _ _) | exact rkP_zr hW _ | exact scA_zr hW _ _ | exact zr3 (cW_b hW) | exact zr3 (wS_b hW) | exact unx_zr hW _ | exact dcs_zr hW | (unfold zr at *; omega)) (by first | assumption | omega)) dL_isVerdict_191 (by decide) rfl cw_RL_119 okX9_weightOf rfl (Nat.le_of_ble_eq_true rfl) ⟨Nat.le_of_ble_eq_true rfl, Nat.le_of_ble_eq_true rfl, Nat.le_of_ble_eq_true rfl, Nat.le_of_ble_eq_true rfl⟩ ?_
                            refine zx_iadd dL_isVerdict_194 ?_
                            refine zy_istore [zf 9 0, zi ((wP D (Ht D) : Nat) : Int), zi (wY D (Ht D)), zi op, zi (ms + (D 16 (D 19 r).toNat)), zi (D 19 r), zi (wt + (D 16 (D 19 r).toNat)), zi ((r : Nat) : Int), zi (D 19 r), zi (D 19 (r - 1))] dL_isVerdict_195 (Nat.le_of_ble_eq_true rfl) (Nat.le_of_ble_eq_true rfl) rfl rfl ?_
                            refine zy_iinc (b := op + 1) [zf 9 0, zi ((wP D (Ht D) : Nat) : Int), zi (wY D (Ht D)), zi (op + 1), zi (ms + (D 16 (D 19 r).toNat)), zi (D 19 r), zi (wt + (D 16 (D 19 r).toNat)), zi ((r : Nat) : Int), zi (D 19 r), zi (D 19 (r - 1))] dL_isVerdict_197 rfl (by omega) (Nat.le_of_ble_eq_true rfl) rfl rfl ?_
                            refine zy_iinc (b := ((r + 1 : Nat) : Int)) [zf 9 0, zi ((wP D (Ht D) : Nat) : Int), zi (wY D (Ht D)), zi (op + 1), zi (ms + (D 16 (D 19 r).toNat)), zi (D 19 r), zi (wt + (D 16 (D 19 r).toNat)), zi ((r + 1 : Nat) : Int), zi (D 19 r), zi (D 19 (r - 1))] dL_isVerdict_200 rfl (by omega) (Nat.le_of_ble_eq_true rfl) rfl rfl ?_
                            refine zx_goto (tgt := 24) dL_isVerdict_203 (by decide) ?_
                            refine zy_drop 8 [zf 9 0, zi ((wP D (Ht D) : Nat) : Int), zi (wY D (Ht D)), zi (op + 1), zi (ms + (D 16 (D 19 r).toNat)), zi (D 19 r), zi (wt + (D 16 (D 19 r).toNat)), zi ((r + 1 : Nat) : Int), zu, zi (D 19 (r - 1))] rfl ?_
                            refine zy_drop 9 [zf 9 0, zi ((wP D (Ht D) : Nat) : Int), zi (wY D (Ht D)), zi (op + 1), zi (ms + (D 16 (D 19 r).toNat)), zi (D 19 r), zi (wt + (D 16 (D 19 r).toNat)), zi ((r + 1 : Nat) : Int), zu, zu] rfl ?_
                            exact ih24 τ176 (r + 1) (op + 1) (ms + (D 16 (D 19 r).toNat)) (D 19 r) (wt + (D 16 (D 19 r).toNat)) hz176 hr176.2.2 (zJ hF hr176.2.1) (by first | assumption | omega) (by subst hop; first | exact zsb_f (P := fun i => opn D (D 19 i).toNat) (fun q => by first | exact q.1.1 h134 | exact h143 q.1.2 | exact q.2 h168.2) | exact zsb_t (P := fun i => opn D (D 19 i).toNat) hopn) (by subst hms; first | exact zsw_f (P := fun i => opn D (D 19 i).toNat) (v := fun i => D 16 (D 19 i).toNat) (fun q => by first | exact q.1.1 h134 | exact h143 q.1.2 | exact q.2 h168.2) | exact zsw_t (P := fun i => opn D (D 19 i).toNat) (v := fun i => D 16 (D 19 i).toNat) hopn) (by first | (rw [hnx]; exact (nxR_k hW (by omega) (by omega)).symm) | (rw [hnx]; exact (nxR_n hW (by omega) (by omega) h116).symm) | exact (nxR_t hW (by omega) (by omega) h116).symm) (by subst hwt; first | exact zsw_f (P := fun i => Ht D (D 19 i).toNat) (v := fun i => D 16 (D 19 i).toNat) (fun q => by first | exact q.1 h134 | exact h143 q.2) | exact zsw_t (P := fun i => Ht D (D 19 i).toNat) (v := fun i => D 16 (D 19 i).toNat) ⟨h134, h143⟩) (by omega)
                          · exact absurd rfl h181
                        · have h168 := zb_n.mp h168
                          refine zx_goto (tgt := 200) dL_isVerdict_171 (by decide) ?_
                          refine zy_iinc (b := ((r + 1 : Nat) : Int)) [zf 9 0, zi ((wP D (Ht D) : Nat) : Int), zi (wY D (Ht D)), zi op, zi ms, zi (D 19 r), zi (wt + (D 16 (D 19 r).toNat)), zi ((r + 1 : Nat) : Int), zi (D 19 r), zi (D 19 (r - 1))] dL_isVerdict_200 rfl (by omega) (Nat.le_of_ble_eq_true rfl) rfl rfl ?_
                          refine zx_goto (tgt := 24) dL_isVerdict_203 (by decide) ?_
                          refine zy_drop 8 [zf 9 0, zi ((wP D (Ht D) : Nat) : Int), zi (wY D (Ht D)), zi op, zi ms, zi (D 19 r), zi (wt + (D 16 (D 19 r).toNat)), zi ((r + 1 : Nat) : Int), zu, zi (D 19 (r - 1))] rfl ?_
                          refine zy_drop 9 [zf 9 0, zi ((wP D (Ht D) : Nat) : Int), zi (wY D (Ht D)), zi op, zi ms, zi (D 19 r), zi (wt + (D 16 (D 19 r).toNat)), zi ((r + 1 : Nat) : Int), zu, zu] rfl ?_
                          exact ih24 τ (r + 1) op ms (D 19 r) (wt + (D 16 (D 19 r).toNat)) hz hB hF (by first | assumption | omega) (by subst hop; first | exact zsb_f (P := fun i => opn D (D 19 i).toNat) (fun q => by first | exact q.1.1 h134 | exact h143 q.1.2 | exact q.2 h168.2) | exact zsb_t (P := fun i => opn D (D 19 i).toNat) hopn) (by subst hms; first | exact zsw_f (P := fun i => opn D (D 19 i).toNat) (v := fun i => D 16 (D 19 i).toNat) (fun q => by first | exact q.1.1 h134 | exact h143 q.1.2 | exact q.2 h168.2) | exact zsw_t (P := fun i => opn D (D 19 i).toNat) (v := fun i => D 16 (D 19 i).toNat) hopn) (by first | (rw [hnx]; exact (nxR_k hW (by omega) (by omega)).symm) | (rw [hnx]; exact (nxR_n hW (by omega) (by omega) h116).symm) | exact (nxR_t hW (by omega) (by omega) h116).symm) (by subst hwt; first | exact zsw_f (P := fun i => Ht D (D 19 i).toNat) (v := fun i => D 16 (D 19 i).toNat) (fun q => by first | exact q.1 h134 | exact h143 q.2) | exact zsw_t (P := fun i => Ht D (D 19 i).toNat) (v := fun i => D 16 (D 19 i).toNat) ⟨h134, h143⟩) (by omega)
                      · refine zx_goto (tgt := 200) dL_isVerdict_146 (by decide) ?_
                        refine zy_iinc (b := ((r + 1 : Nat) : Int)) [zf 9 0, zi ((wP D (Ht D) : Nat) : Int), zi (wY D (Ht D)), zi op, zi ms, zi (D 19 r), zi wt, zi ((r + 1 : Nat) : Int), zi (D 19 r), zi (D 19 (r - 1))] dL_isVerdict_200 rfl (by omega) (Nat.le_of_ble_eq_true rfl) rfl rfl ?_
                        refine zx_goto (tgt := 24) dL_isVerdict_203 (by decide) ?_
                        refine zy_drop 8 [zf 9 0, zi ((wP D (Ht D) : Nat) : Int), zi (wY D (Ht D)), zi op, zi ms, zi (D 19 r), zi wt, zi ((r + 1 : Nat) : Int), zu, zi (D 19 (r - 1))] rfl ?_
                        refine zy_drop 9 [zf 9 0, zi ((wP D (Ht D) : Nat) : Int), zi (wY D (Ht D)), zi op, zi ms, zi (D 19 r), zi wt, zi ((r + 1 : Nat) : Int), zu, zu] rfl ?_
                        exact ih24 τ (r + 1) op ms (D 19 r) wt hz hB hF (by first | assumption | omega) (by subst hop; first | exact zsb_f (P := fun i => opn D (D 19 i).toNat) (fun q => by first | exact q.1.1 h134 | exact h143 q.1.2 | exact q.2 h168.2) | exact zsb_t (P := fun i => opn D (D 19 i).toNat) hopn) (by subst hms; first | exact zsw_f (P := fun i => opn D (D 19 i).toNat) (v := fun i => D 16 (D 19 i).toNat) (fun q => by first | exact q.1.1 h134 | exact h143 q.1.2 | exact q.2 h168.2) | exact zsw_t (P := fun i => opn D (D 19 i).toNat) (v := fun i => D 16 (D 19 i).toNat) hopn) (by first | (rw [hnx]; exact (nxR_k hW (by omega) (by omega)).symm) | (rw [hnx]; exact (nxR_n hW (by omega) (by omega) h116).symm) | exact (nxR_t hW (by omega) (by omega) h116).symm) (by subst hwt; first | exact zsw_f (P := fun i => Ht D (D 19 i).toNat) (v := fun i => D 16 (D 19 i).toNat) (fun q => by first | exact q.1 h134 | exact h143 q.2) | exact zsw_t (P := fun i => Ht D (D 19 i).toNat) (v := fun i => D 16 (D 19 i).toNat) ⟨h134, h143⟩) (by omega)
              · refine zx_iload dL_isVerdict_96 rfl ?_
                refine zx_iload dL_isVerdict_98 rfl ?_
                refine zx_icmp_lt (tgt := 105) (by first | exact hz _ _ | assumption | exact zr_b _ | exact zcmp_r _ _ | exact hzD _ _ | exact zr3 (tS_b hW _) | exact zr3 (lsc_b hW _ _) | exact zr3 (sc_b hW _ _) | exact rkP_zr hW _ | exact scA_zr hW _ _ | exact zr3 (cW_b hW) | exact zr3 (wS_b hW) | exact unx_zr hW _ | exact dcs_zr hW | (unfold zr at *; omega)) (by first | exact hz _ _ | assumption | exact zr_b _ | exact zcmp_r _ _ | exact hzD _ _ | exact zr3 (tS_b hW _) | exact zr3 (lsc_b hW _ _) | exact zr3 (sc_b hW _ _) | exact rkP_zr hW _ | exact scA_zr hW _ _ | exact zr3 (cW_b hW) | exact zr3 (wS_b hW) | exact unx_zr hW _ | exact dcs_zr hW | (unfold zr at *; omega)) dL_isVerdict_100 (by decide) (fun h100 => ?_) (fun h100 => ?_)
                · refine zx_iload dL_isVerdict_105 rfl ?_
                  refine zx_if_ge (tgt := 124) (by first | exact hz _ _ | assumption | exact zr_b _ | exact zcmp_r _ _ | exact hzD _ _ | exact zr3 (tS_b hW _) | exact zr3 (lsc_b hW _ _) | exact zr3 (sc_b hW _ _) | exact rkP_zr hW _ | exact scA_zr hW _ _ | exact zr3 (cW_b hW) | exact zr3 (wS_b hW) | exact unx_zr hW _ | exact dcs_zr hW | (unfold zr at *; omega)) dL_isVerdict_107 (by decide) (fun h107 => ?_) (fun h107 => ?_)
                  · refine zx_iload dL_isVerdict_124 rfl ?_
                    refine zy_istore [zf 9 0, zi ((wP D (Ht D) : Nat) : Int), zi (wY D (Ht D)), zi op, zi ms, zi nx, zi wt, zi ((r : Nat) : Int), zi (D 19 r), zi (D 19 (r - 1))] dL_isVerdict_126 (Nat.le_of_ble_eq_true rfl) (Nat.le_of_ble_eq_true rfl) rfl rfl ?_
                    refine zx_aloadN dL_isVerdict_128 rfl rfl ?_
                    refine zx_iload dL_isVerdict_129 rfl ?_
                    refine zy_cv [zi (D 19 r)] (fX9_isRead  hfl hz hB hW (by first | exact hz _ _ | assumption | exact zr_b _ | exact zcmp_r _ _ | exact hzD _ _ | exact zr3 (tS_b hW _) | exact zr3 (lsc_b hW _ _) | exact zr3 (sc_b hW _ _) | exact rkP_zr hW _ | exact scA_zr hW _ _ | exact zr3 (cW_b hW) | exact zr3 (wS_b hW) | exact unx_zr hW _ | exact dcs_zr hW | (unfold zr at *; omega)) (by first | assumption | omega)) dL_isVerdict_131 (by decide) rfl cw_RL_122 okX9_isRead rfl (Nat.le_of_ble_eq_true rfl) ⟨Nat.le_of_ble_eq_true rfl, Nat.le_of_ble_eq_true rfl, Nat.le_of_ble_eq_true rfl, Nat.le_of_ble_eq_true rfl⟩ ?_
                    refine zx_if_eq (tgt := 200) (by first | exact hz _ _ | assumption | exact zr_b _ | exact zcmp_r _ _ | exact hzD _ _ | exact zr3 (tS_b hW _) | exact zr3 (lsc_b hW _ _) | exact zr3 (sc_b hW _ _) | exact rkP_zr hW _ | exact scA_zr hW _ _ | exact zr3 (cW_b hW) | exact zr3 (wS_b hW) | exact unx_zr hW _ | exact dcs_zr hW | (unfold zr at *; omega)) dL_isVerdict_134 (by decide) (fun h134 => ?_) (fun h134 => ?_)
                    · refine zy_iinc (b := ((r + 1 : Nat) : Int)) [zf 9 0, zi ((wP D (Ht D) : Nat) : Int), zi (wY D (Ht D)), zi op, zi ms, zi nx, zi wt, zi ((r + 1 : Nat) : Int), zi (D 19 r), zi (D 19 (r - 1))] dL_isVerdict_200 rfl (by omega) (Nat.le_of_ble_eq_true rfl) rfl rfl ?_
                      refine zx_goto (tgt := 24) dL_isVerdict_203 (by decide) ?_
                      refine zy_drop 8 [zf 9 0, zi ((wP D (Ht D) : Nat) : Int), zi (wY D (Ht D)), zi op, zi ms, zi nx, zi wt, zi ((r + 1 : Nat) : Int), zu, zi (D 19 (r - 1))] rfl ?_
                      refine zy_drop 9 [zf 9 0, zi ((wP D (Ht D) : Nat) : Int), zi (wY D (Ht D)), zi op, zi ms, zi nx, zi wt, zi ((r + 1 : Nat) : Int), zu, zu] rfl ?_
                      exact ih24 τ (r + 1) op ms nx wt hz hB hF (by first | assumption | omega) (by subst hop; first | exact zsb_f (P := fun i => opn D (D 19 i).toNat) (fun q => by first | exact q.1.1 h134 | exact h143 q.1.2 | exact q.2 h168.2) | exact zsb_t (P := fun i => opn D (D 19 i).toNat) hopn) (by subst hms; first | exact zsw_f (P := fun i => opn D (D 19 i).toNat) (v := fun i => D 16 (D 19 i).toNat) (fun q => by first | exact q.1.1 h134 | exact h143 q.1.2 | exact q.2 h168.2) | exact zsw_t (P := fun i => opn D (D 19 i).toNat) (v := fun i => D 16 (D 19 i).toNat) hopn) (by first | (rw [hnx]; exact (nxR_k hW (by omega) (by omega)).symm) | (rw [hnx]; exact (nxR_n hW (by omega) (by omega) h116).symm) | exact (nxR_t hW (by omega) (by omega) h116).symm) (by subst hwt; first | exact zsw_f (P := fun i => Ht D (D 19 i).toNat) (v := fun i => D 16 (D 19 i).toNat) (fun q => by first | exact q.1 h134 | exact h143 q.2) | exact zsw_t (P := fun i => Ht D (D 19 i).toNat) (v := fun i => D 16 (D 19 i).toNat) ⟨h134, h143⟩) (by omega)
                    · refine zx_aloadN dL_isVerdict_137 rfl rfl ?_
                      refine zx_iload dL_isVerdict_138 rfl ?_
                      refine zy_cv [zi (D 19 r)] (fX9_isAside  hfl hz hB hW (by first | exact hz _ _ | assumption | exact zr_b _ | exact zcmp_r _ _ | exact hzD _ _ | exact zr3 (tS_b hW _) | exact zr3 (lsc_b hW _ _) | exact zr3 (sc_b hW _ _) | exact rkP_zr hW _ | exact scA_zr hW _ _ | exact zr3 (cW_b hW) | exact zr3 (wS_b hW) | exact unx_zr hW _ | exact dcs_zr hW | (unfold zr at *; omega)) (by first | assumption | omega)) dL_isVerdict_140 (by decide) rfl cw_RL_128 okX9_isAside rfl (Nat.le_of_ble_eq_true rfl) ⟨Nat.le_of_ble_eq_true rfl, Nat.le_of_ble_eq_true rfl, Nat.le_of_ble_eq_true rfl, Nat.le_of_ble_eq_true rfl⟩ ?_
                      refine zx_if_eq (tgt := 149) (by first | exact hz _ _ | assumption | exact zr_b _ | exact zcmp_r _ _ | exact hzD _ _ | exact zr3 (tS_b hW _) | exact zr3 (lsc_b hW _ _) | exact zr3 (sc_b hW _ _) | exact rkP_zr hW _ | exact scA_zr hW _ _ | exact zr3 (cW_b hW) | exact zr3 (wS_b hW) | exact unx_zr hW _ | exact dcs_zr hW | (unfold zr at *; omega)) dL_isVerdict_143 (by decide) (fun h143 => ?_) (fun h143 => ?_)
                      · refine zx_iload dL_isVerdict_149 rfl ?_
                        refine zx_aloadN dL_isVerdict_151 rfl rfl ?_
                        refine zx_iload dL_isVerdict_152 rfl ?_
                        refine zy_cv [zi (D 19 r)] (fX9_weightOf  hfl hz hB hW (by first | exact hz _ _ | assumption | exact zr_b _ | exact zcmp_r _ _ | exact hzD _ _ | exact zr3 (tS_b hW _) | exact zr3 (lsc_b hW _ _) | exact zr3 (sc_b hW _ _) | exact rkP_zr hW _ | exact scA_zr hW _ _ | exact zr3 (cW_b hW) | exact zr3 (wS_b hW) | exact unx_zr hW _ | exact dcs_zr hW | (unfold zr at *; omega)) (by first | assumption | omega)) dL_isVerdict_154 (by decide) rfl cw_RL_119 okX9_weightOf rfl (Nat.le_of_ble_eq_true rfl) ⟨Nat.le_of_ble_eq_true rfl, Nat.le_of_ble_eq_true rfl, Nat.le_of_ble_eq_true rfl, Nat.le_of_ble_eq_true rfl⟩ ?_
                        refine zx_iadd dL_isVerdict_157 ?_
                        refine zy_istore [zf 9 0, zi ((wP D (Ht D) : Nat) : Int), zi (wY D (Ht D)), zi op, zi ms, zi nx, zi (wt + (D 16 (D 19 r).toNat)), zi ((r : Nat) : Int), zi (D 19 r), zi (D 19 (r - 1))] dL_isVerdict_158 (Nat.le_of_ble_eq_true rfl) (Nat.le_of_ble_eq_true rfl) rfl rfl ?_
                        refine zx_aloadN dL_isVerdict_160 rfl rfl ?_
                        refine zx_iloadN dL_isVerdict_161 rfl rfl ?_
                        refine zx_iloadN dL_isVerdict_162 rfl rfl ?_
                        refine zx_iload dL_isVerdict_163 rfl ?_
                        refine zy_cv [zi ((wP D (Ht D) : Nat) : Int), zi (wY D (Ht D)), zi (D 19 r)] (fX9_explains  hfl hz hB hW (by first | exact hz _ _ | assumption | exact zr_b _ | exact zcmp_r _ _ | exact hzD _ _ | exact zr3 (tS_b hW _) | exact zr3 (lsc_b hW _ _) | exact zr3 (sc_b hW _ _) | exact rkP_zr hW _ | exact scA_zr hW _ _ | exact zr3 (cW_b hW) | exact zr3 (wS_b hW) | exact unx_zr hW _ | exact dcs_zr hW | (unfold zr at *; omega)) (by first | exact hz _ _ | assumption | exact zr_b _ | exact zcmp_r _ _ | exact hzD _ _ | exact zr3 (tS_b hW _) | exact zr3 (lsc_b hW _ _) | exact zr3 (sc_b hW _ _) | exact rkP_zr hW _ | exact scA_zr hW _ _ | exact zr3 (cW_b hW) | exact zr3 (wS_b hW) | exact unx_zr hW _ | exact dcs_zr hW | (unfold zr at *; omega)) (by first | exact hz _ _ | assumption | exact zr_b _ | exact zcmp_r _ _ | exact hzD _ _ | exact zr3 (tS_b hW _) | exact zr3 (lsc_b hW _ _) | exact zr3 (sc_b hW _ _) | exact rkP_zr hW _ | exact scA_zr hW _ _ | exact zr3 (cW_b hW) | exact zr3 (wS_b hW) | exact unx_zr hW _ | exact dcs_zr hW | (unfold zr at *; omega)) (by first | assumption | omega) (by first | assumption | omega) (by first | assumption | omega)) dL_isVerdict_165 (by decide) rfl cw_RL_140 okX9_explains rfl (Nat.le_of_ble_eq_true rfl) ⟨Nat.le_of_ble_eq_true rfl, Nat.le_of_ble_eq_true rfl, Nat.le_of_ble_eq_true rfl, Nat.le_of_ble_eq_true rfl⟩ ?_
                        refine zy_top (b := zb (works D (wP D (Ht D)) (wY D (Ht D)) ∧ cFit D (wP D (Ht D)) (wY D (Ht D)) (D 19 r).toNat)) rfl ?_
                        refine zx_if_eq (tgt := 174) (by first | exact hz _ _ | assumption | exact zr_b _ | exact zcmp_r _ _ | exact hzD _ _ | exact zr3 (tS_b hW _) | exact zr3 (lsc_b hW _ _) | exact zr3 (sc_b hW _ _) | exact rkP_zr hW _ | exact scA_zr hW _ _ | exact zr3 (cW_b hW) | exact zr3 (wS_b hW) | exact unx_zr hW _ | exact dcs_zr hW | (unfold zr at *; omega)) dL_isVerdict_168 (by decide) (fun h168 => ?_) (fun h168 => ?_)
                        · have h168 := zb_0.mp h168
                          have hopn : opn D (D 19 r).toNat := ⟨⟨h134, h143⟩, fun z => h168 ⟨hdec, z⟩⟩
                          refine zx_aloadN dL_isVerdict_174 rfl rfl ?_
                          refine zx_iloadN dL_isVerdict_175 rfl rfl ?_
                          refine zy_cvR [zi op] (fX9_unexplainedClue  hfl hz hB hW hP1 (by first | exact hz _ _ | assumption | exact zr_b _ | exact zcmp_r _ _ | exact hzD _ _ | exact zr3 (tS_b hW _) | exact zr3 (lsc_b hW _ _) | exact zr3 (sc_b hW _ _) | exact rkP_zr hW _ | exact scA_zr hW _ _ | exact zr3 (cW_b hW) | exact zr3 (wS_b hW) | exact unx_zr hW _ | exact dcs_zr hW | (unfold zr at *; omega))) dL_isVerdict_176 (by decide) rfl cw_RL_183 okX9_unexplainedClue rfl (Nat.le_of_ble_eq_true rfl) ⟨Nat.le_of_ble_eq_true rfl, Nat.le_of_ble_eq_true rfl, Nat.le_of_ble_eq_true rfl, Nat.le_of_ble_eq_true rfl⟩ (fun τ176 hr176 => ?_)
                          have hz176 : zOK τ176 := hr176.1
                          refine zy_top (b := D 19 r) (by rw [hop]; exact unx_r (by omega) hopn) ?_
                          refine zx_iload dL_isVerdict_179 rfl ?_
                          refine zx_icmp_eq (tgt := 186) (by first | exact hz176 _ _ | assumption | exact zr_b _ | exact zcmp_r _ _ | exact hzD _ _ | exact zr3 (tS_b hW _) | exact zr3 (lsc_b hW _ _) | exact zr3 (sc_b hW _ _) | exact rkP_zr hW _ | exact scA_zr hW _ _ | exact zr3 (cW_b hW) | exact zr3 (wS_b hW) | exact unx_zr hW _ | exact dcs_zr hW | (unfold zr at *; omega)) (by first | exact hz176 _ _ | assumption | exact zr_b _ | exact zcmp_r _ _ | exact hzD _ _ | exact zr3 (tS_b hW _) | exact zr3 (lsc_b hW _ _) | exact zr3 (sc_b hW _ _) | exact rkP_zr hW _ | exact scA_zr hW _ _ | exact zr3 (cW_b hW) | exact zr3 (wS_b hW) | exact unx_zr hW _ | exact dcs_zr hW | (unfold zr at *; omega)) dL_isVerdict_181 (by decide) (fun h181 => ?_) (fun h181 => ?_)
                          · refine zx_iload dL_isVerdict_186 rfl ?_
                            refine zx_aloadN dL_isVerdict_188 rfl rfl ?_
                            refine zx_iload dL_isVerdict_189 rfl ?_
                            refine zy_cv [zi (D 19 r)] (fX9_weightOf  hfl hz176 hr176.2.2 hW (by first | exact hz176 _ _ | assumption | exact zr_b _ | exact zcmp_r _ _ | exact hzD _ _ | exact zr3 (tS_b hW _) | exact zr3 (lsc_b hW _ _) | exact zr3 (sc_b hW _ _) | exact rkP_zr hW _ | exact scA_zr hW _ _ | exact zr3 (cW_b hW) | exact zr3 (wS_b hW) | exact unx_zr hW _ | exact dcs_zr hW | (unfold zr at *; omega)) (by first | assumption | omega)) dL_isVerdict_191 (by decide) rfl cw_RL_119 okX9_weightOf rfl (Nat.le_of_ble_eq_true rfl) ⟨Nat.le_of_ble_eq_true rfl, Nat.le_of_ble_eq_true rfl, Nat.le_of_ble_eq_true rfl, Nat.le_of_ble_eq_true rfl⟩ ?_
                            refine zx_iadd dL_isVerdict_194 ?_
                            refine zy_istore [zf 9 0, zi ((wP D (Ht D) : Nat) : Int), zi (wY D (Ht D)), zi op, zi (ms + (D 16 (D 19 r).toNat)), zi nx, zi (wt + (D 16 (D 19 r).toNat)), zi ((r : Nat) : Int), zi (D 19 r), zi (D 19 (r - 1))] dL_isVerdict_195 (Nat.le_of_ble_eq_true rfl) (Nat.le_of_ble_eq_true rfl) rfl rfl ?_
                            refine zy_iinc (b := op + 1) [zf 9 0, zi ((wP D (Ht D) : Nat) : Int), zi (wY D (Ht D)), zi (op + 1), zi (ms + (D 16 (D 19 r).toNat)), zi nx, zi (wt + (D 16 (D 19 r).toNat)), zi ((r : Nat) : Int), zi (D 19 r), zi (D 19 (r - 1))] dL_isVerdict_197 rfl (by omega) (Nat.le_of_ble_eq_true rfl) rfl rfl ?_
                            refine zy_iinc (b := ((r + 1 : Nat) : Int)) [zf 9 0, zi ((wP D (Ht D) : Nat) : Int), zi (wY D (Ht D)), zi (op + 1), zi (ms + (D 16 (D 19 r).toNat)), zi nx, zi (wt + (D 16 (D 19 r).toNat)), zi ((r + 1 : Nat) : Int), zi (D 19 r), zi (D 19 (r - 1))] dL_isVerdict_200 rfl (by omega) (Nat.le_of_ble_eq_true rfl) rfl rfl ?_
                            refine zx_goto (tgt := 24) dL_isVerdict_203 (by decide) ?_
                            refine zy_drop 8 [zf 9 0, zi ((wP D (Ht D) : Nat) : Int), zi (wY D (Ht D)), zi (op + 1), zi (ms + (D 16 (D 19 r).toNat)), zi nx, zi (wt + (D 16 (D 19 r).toNat)), zi ((r + 1 : Nat) : Int), zu, zi (D 19 (r - 1))] rfl ?_
                            refine zy_drop 9 [zf 9 0, zi ((wP D (Ht D) : Nat) : Int), zi (wY D (Ht D)), zi (op + 1), zi (ms + (D 16 (D 19 r).toNat)), zi nx, zi (wt + (D 16 (D 19 r).toNat)), zi ((r + 1 : Nat) : Int), zu, zu] rfl ?_
                            exact ih24 τ176 (r + 1) (op + 1) (ms + (D 16 (D 19 r).toNat)) nx (wt + (D 16 (D 19 r).toNat)) hz176 hr176.2.2 (zJ hF hr176.2.1) (by first | assumption | omega) (by subst hop; first | exact zsb_f (P := fun i => opn D (D 19 i).toNat) (fun q => by first | exact q.1.1 h134 | exact h143 q.1.2 | exact q.2 h168.2) | exact zsb_t (P := fun i => opn D (D 19 i).toNat) hopn) (by subst hms; first | exact zsw_f (P := fun i => opn D (D 19 i).toNat) (v := fun i => D 16 (D 19 i).toNat) (fun q => by first | exact q.1.1 h134 | exact h143 q.1.2 | exact q.2 h168.2) | exact zsw_t (P := fun i => opn D (D 19 i).toNat) (v := fun i => D 16 (D 19 i).toNat) hopn) (by first | (rw [hnx]; exact (nxR_k hW (by omega) (by omega)).symm) | (rw [hnx]; exact (nxR_n hW (by omega) (by omega) h116).symm) | exact (nxR_t hW (by omega) (by omega) h116).symm) (by subst hwt; first | exact zsw_f (P := fun i => Ht D (D 19 i).toNat) (v := fun i => D 16 (D 19 i).toNat) (fun q => by first | exact q.1 h134 | exact h143 q.2) | exact zsw_t (P := fun i => Ht D (D 19 i).toNat) (v := fun i => D 16 (D 19 i).toNat) ⟨h134, h143⟩) (by omega)
                          · exact absurd rfl h181
                        · have h168 := zb_n.mp h168
                          refine zx_goto (tgt := 200) dL_isVerdict_171 (by decide) ?_
                          refine zy_iinc (b := ((r + 1 : Nat) : Int)) [zf 9 0, zi ((wP D (Ht D) : Nat) : Int), zi (wY D (Ht D)), zi op, zi ms, zi nx, zi (wt + (D 16 (D 19 r).toNat)), zi ((r + 1 : Nat) : Int), zi (D 19 r), zi (D 19 (r - 1))] dL_isVerdict_200 rfl (by omega) (Nat.le_of_ble_eq_true rfl) rfl rfl ?_
                          refine zx_goto (tgt := 24) dL_isVerdict_203 (by decide) ?_
                          refine zy_drop 8 [zf 9 0, zi ((wP D (Ht D) : Nat) : Int), zi (wY D (Ht D)), zi op, zi ms, zi nx, zi (wt + (D 16 (D 19 r).toNat)), zi ((r + 1 : Nat) : Int), zu, zi (D 19 (r - 1))] rfl ?_
                          refine zy_drop 9 [zf 9 0, zi ((wP D (Ht D) : Nat) : Int), zi (wY D (Ht D)), zi op, zi ms, zi nx, zi (wt + (D 16 (D 19 r).toNat)), zi ((r + 1 : Nat) : Int), zu, zu] rfl ?_
                          exact ih24 τ (r + 1) op ms nx (wt + (D 16 (D 19 r).toNat)) hz hB hF (by first | assumption | omega) (by subst hop; first | exact zsb_f (P := fun i => opn D (D 19 i).toNat) (fun q => by first | exact q.1.1 h134 | exact h143 q.1.2 | exact q.2 h168.2) | exact zsb_t (P := fun i => opn D (D 19 i).toNat) hopn) (by subst hms; first | exact zsw_f (P := fun i => opn D (D 19 i).toNat) (v := fun i => D 16 (D 19 i).toNat) (fun q => by first | exact q.1.1 h134 | exact h143 q.1.2 | exact q.2 h168.2) | exact zsw_t (P := fun i => opn D (D 19 i).toNat) (v := fun i => D 16 (D 19 i).toNat) hopn) (by first | (rw [hnx]; exact (nxR_k hW (by omega) (by omega)).symm) | (rw [hnx]; exact (nxR_n hW (by omega) (by omega) h116).symm) | exact (nxR_t hW (by omega) (by omega) h116).symm) (by subst hwt; first | exact zsw_f (P := fun i => Ht D (D 19 i).toNat) (v := fun i => D 16 (D 19 i).toNat) (fun q => by first | exact q.1 h134 | exact h143 q.2) | exact zsw_t (P := fun i => Ht D (D 19 i).toNat) (v := fun i => D 16 (D 19 i).toNat) ⟨h134, h143⟩) (by omega)
                      · refine zx_goto (tgt := 200) dL_isVerdict_146 (by decide) ?_
                        refine zy_iinc (b := ((r + 1 : Nat) : Int)) [zf 9 0, zi ((wP D (Ht D) : Nat) : Int), zi (wY D (Ht D)), zi op, zi ms, zi nx, zi wt, zi ((r + 1 : Nat) : Int), zi (D 19 r), zi (D 19 (r - 1))] dL_isVerdict_200 rfl (by omega) (Nat.le_of_ble_eq_true rfl) rfl rfl ?_
                        refine zx_goto (tgt := 24) dL_isVerdict_203 (by decide) ?_
                        refine zy_drop 8 [zf 9 0, zi ((wP D (Ht D) : Nat) : Int), zi (wY D (Ht D)), zi op, zi ms, zi nx, zi wt, zi ((r + 1 : Nat) : Int), zu, zi (D 19 (r - 1))] rfl ?_
                        refine zy_drop 9 [zf 9 0, zi ((wP D (Ht D) : Nat) : Int), zi (wY D (Ht D)), zi op, zi ms, zi nx, zi wt, zi ((r + 1 : Nat) : Int), zu, zu] rfl ?_
                        exact ih24 τ (r + 1) op ms nx wt hz hB hF (by first | assumption | omega) (by subst hop; first | exact zsb_f (P := fun i => opn D (D 19 i).toNat) (fun q => by first | exact q.1.1 h134 | exact h143 q.1.2 | exact q.2 h168.2) | exact zsb_t (P := fun i => opn D (D 19 i).toNat) hopn) (by subst hms; first | exact zsw_f (P := fun i => opn D (D 19 i).toNat) (v := fun i => D 16 (D 19 i).toNat) (fun q => by first | exact q.1.1 h134 | exact h143 q.1.2 | exact q.2 h168.2) | exact zsw_t (P := fun i => opn D (D 19 i).toNat) (v := fun i => D 16 (D 19 i).toNat) hopn) (by first | (rw [hnx]; exact (nxR_k hW (by omega) (by omega)).symm) | (rw [hnx]; exact (nxR_n hW (by omega) (by omega) h116).symm) | exact (nxR_t hW (by omega) (by omega) h116).symm) (by subst hwt; first | exact zsw_f (P := fun i => Ht D (D 19 i).toNat) (v := fun i => D 16 (D 19 i).toNat) (fun q => by first | exact q.1 h134 | exact h143 q.2) | exact zsw_t (P := fun i => Ht D (D 19 i).toNat) (v := fun i => D 16 (D 19 i).toNat) ⟨h134, h143⟩) (by omega)
                  · refine zx_aloadN dL_isVerdict_110 rfl rfl ?_
                    refine zx_iload dL_isVerdict_111 rfl ?_
                    refine zy_cv [zi (D 19 r)] (fX9_isRead  hfl hz hB hW (by first | exact hz _ _ | assumption | exact zr_b _ | exact zcmp_r _ _ | exact hzD _ _ | exact zr3 (tS_b hW _) | exact zr3 (lsc_b hW _ _) | exact zr3 (sc_b hW _ _) | exact rkP_zr hW _ | exact scA_zr hW _ _ | exact zr3 (cW_b hW) | exact zr3 (wS_b hW) | exact unx_zr hW _ | exact dcs_zr hW | (unfold zr at *; omega)) (by first | assumption | omega)) dL_isVerdict_113 (by decide) rfl cw_RL_122 okX9_isRead rfl (Nat.le_of_ble_eq_true rfl) ⟨Nat.le_of_ble_eq_true rfl, Nat.le_of_ble_eq_true rfl, Nat.le_of_ble_eq_true rfl, Nat.le_of_ble_eq_true rfl⟩ ?_
                    refine zx_if_ne (tgt := 124) (by first | exact hz _ _ | assumption | exact zr_b _ | exact zcmp_r _ _ | exact hzD _ _ | exact zr3 (tS_b hW _) | exact zr3 (lsc_b hW _ _) | exact zr3 (sc_b hW _ _) | exact rkP_zr hW _ | exact scA_zr hW _ _ | exact zr3 (cW_b hW) | exact zr3 (wS_b hW) | exact unx_zr hW _ | exact dcs_zr hW | (unfold zr at *; omega)) dL_isVerdict_116 (by decide) (fun h116 => ?_) (fun h116 => ?_)
                    · refine zx_iload dL_isVerdict_124 rfl ?_
                      refine zy_istore [zf 9 0, zi ((wP D (Ht D) : Nat) : Int), zi (wY D (Ht D)), zi op, zi ms, zi nx, zi wt, zi ((r : Nat) : Int), zi (D 19 r), zi (D 19 (r - 1))] dL_isVerdict_126 (Nat.le_of_ble_eq_true rfl) (Nat.le_of_ble_eq_true rfl) rfl rfl ?_
                      refine zx_aloadN dL_isVerdict_128 rfl rfl ?_
                      refine zx_iload dL_isVerdict_129 rfl ?_
                      refine zy_cv [zi (D 19 r)] (fX9_isRead  hfl hz hB hW (by first | exact hz _ _ | assumption | exact zr_b _ | exact zcmp_r _ _ | exact hzD _ _ | exact zr3 (tS_b hW _) | exact zr3 (lsc_b hW _ _) | exact zr3 (sc_b hW _ _) | exact rkP_zr hW _ | exact scA_zr hW _ _ | exact zr3 (cW_b hW) | exact zr3 (wS_b hW) | exact unx_zr hW _ | exact dcs_zr hW | (unfold zr at *; omega)) (by first | assumption | omega)) dL_isVerdict_131 (by decide) rfl cw_RL_122 okX9_isRead rfl (Nat.le_of_ble_eq_true rfl) ⟨Nat.le_of_ble_eq_true rfl, Nat.le_of_ble_eq_true rfl, Nat.le_of_ble_eq_true rfl, Nat.le_of_ble_eq_true rfl⟩ ?_
                      refine zx_if_eq (tgt := 200) (by first | exact hz _ _ | assumption | exact zr_b _ | exact zcmp_r _ _ | exact hzD _ _ | exact zr3 (tS_b hW _) | exact zr3 (lsc_b hW _ _) | exact zr3 (sc_b hW _ _) | exact rkP_zr hW _ | exact scA_zr hW _ _ | exact zr3 (cW_b hW) | exact zr3 (wS_b hW) | exact unx_zr hW _ | exact dcs_zr hW | (unfold zr at *; omega)) dL_isVerdict_134 (by decide) (fun h134 => ?_) (fun h134 => ?_)
                      · refine zy_iinc (b := ((r + 1 : Nat) : Int)) [zf 9 0, zi ((wP D (Ht D) : Nat) : Int), zi (wY D (Ht D)), zi op, zi ms, zi nx, zi wt, zi ((r + 1 : Nat) : Int), zi (D 19 r), zi (D 19 (r - 1))] dL_isVerdict_200 rfl (by omega) (Nat.le_of_ble_eq_true rfl) rfl rfl ?_
                        refine zx_goto (tgt := 24) dL_isVerdict_203 (by decide) ?_
                        refine zy_drop 8 [zf 9 0, zi ((wP D (Ht D) : Nat) : Int), zi (wY D (Ht D)), zi op, zi ms, zi nx, zi wt, zi ((r + 1 : Nat) : Int), zu, zi (D 19 (r - 1))] rfl ?_
                        refine zy_drop 9 [zf 9 0, zi ((wP D (Ht D) : Nat) : Int), zi (wY D (Ht D)), zi op, zi ms, zi nx, zi wt, zi ((r + 1 : Nat) : Int), zu, zu] rfl ?_
                        exact ih24 τ (r + 1) op ms nx wt hz hB hF (by first | assumption | omega) (by subst hop; first | exact zsb_f (P := fun i => opn D (D 19 i).toNat) (fun q => by first | exact q.1.1 h134 | exact h143 q.1.2 | exact q.2 h168.2) | exact zsb_t (P := fun i => opn D (D 19 i).toNat) hopn) (by subst hms; first | exact zsw_f (P := fun i => opn D (D 19 i).toNat) (v := fun i => D 16 (D 19 i).toNat) (fun q => by first | exact q.1.1 h134 | exact h143 q.1.2 | exact q.2 h168.2) | exact zsw_t (P := fun i => opn D (D 19 i).toNat) (v := fun i => D 16 (D 19 i).toNat) hopn) (by first | (rw [hnx]; exact (nxR_k hW (by omega) (by omega)).symm) | (rw [hnx]; exact (nxR_n hW (by omega) (by omega) h116).symm) | exact (nxR_t hW (by omega) (by omega) h116).symm) (by subst hwt; first | exact zsw_f (P := fun i => Ht D (D 19 i).toNat) (v := fun i => D 16 (D 19 i).toNat) (fun q => by first | exact q.1 h134 | exact h143 q.2) | exact zsw_t (P := fun i => Ht D (D 19 i).toNat) (v := fun i => D 16 (D 19 i).toNat) ⟨h134, h143⟩) (by omega)
                      · refine zx_aloadN dL_isVerdict_137 rfl rfl ?_
                        refine zx_iload dL_isVerdict_138 rfl ?_
                        refine zy_cv [zi (D 19 r)] (fX9_isAside  hfl hz hB hW (by first | exact hz _ _ | assumption | exact zr_b _ | exact zcmp_r _ _ | exact hzD _ _ | exact zr3 (tS_b hW _) | exact zr3 (lsc_b hW _ _) | exact zr3 (sc_b hW _ _) | exact rkP_zr hW _ | exact scA_zr hW _ _ | exact zr3 (cW_b hW) | exact zr3 (wS_b hW) | exact unx_zr hW _ | exact dcs_zr hW | (unfold zr at *; omega)) (by first | assumption | omega)) dL_isVerdict_140 (by decide) rfl cw_RL_128 okX9_isAside rfl (Nat.le_of_ble_eq_true rfl) ⟨Nat.le_of_ble_eq_true rfl, Nat.le_of_ble_eq_true rfl, Nat.le_of_ble_eq_true rfl, Nat.le_of_ble_eq_true rfl⟩ ?_
                        refine zx_if_eq (tgt := 149) (by first | exact hz _ _ | assumption | exact zr_b _ | exact zcmp_r _ _ | exact hzD _ _ | exact zr3 (tS_b hW _) | exact zr3 (lsc_b hW _ _) | exact zr3 (sc_b hW _ _) | exact rkP_zr hW _ | exact scA_zr hW _ _ | exact zr3 (cW_b hW) | exact zr3 (wS_b hW) | exact unx_zr hW _ | exact dcs_zr hW | (unfold zr at *; omega)) dL_isVerdict_143 (by decide) (fun h143 => ?_) (fun h143 => ?_)
                        · refine zx_iload dL_isVerdict_149 rfl ?_
                          refine zx_aloadN dL_isVerdict_151 rfl rfl ?_
                          refine zx_iload dL_isVerdict_152 rfl ?_
                          refine zy_cv [zi (D 19 r)] (fX9_weightOf  hfl hz hB hW (by first | exact hz _ _ | assumption | exact zr_b _ | exact zcmp_r _ _ | exact hzD _ _ | exact zr3 (tS_b hW _) | exact zr3 (lsc_b hW _ _) | exact zr3 (sc_b hW _ _) | exact rkP_zr hW _ | exact scA_zr hW _ _ | exact zr3 (cW_b hW) | exact zr3 (wS_b hW) | exact unx_zr hW _ | exact dcs_zr hW | (unfold zr at *; omega)) (by first | assumption | omega)) dL_isVerdict_154 (by decide) rfl cw_RL_119 okX9_weightOf rfl (Nat.le_of_ble_eq_true rfl) ⟨Nat.le_of_ble_eq_true rfl, Nat.le_of_ble_eq_true rfl, Nat.le_of_ble_eq_true rfl, Nat.le_of_ble_eq_true rfl⟩ ?_
                          refine zx_iadd dL_isVerdict_157 ?_
                          refine zy_istore [zf 9 0, zi ((wP D (Ht D) : Nat) : Int), zi (wY D (Ht D)), zi op, zi ms, zi nx, zi (wt + (D 16 (D 19 r).toNat)), zi ((r : Nat) : Int), zi (D 19 r), zi (D 19 (r - 1))] dL_isVerdict_158 (Nat.le_of_ble_eq_true rfl) (Nat.le_of_ble_eq_true rfl) rfl rfl ?_
                          refine zx_aloadN dL_isVerdict_160 rfl rfl ?_
                          refine zx_iloadN dL_isVerdict_161 rfl rfl ?_
                          refine zx_iloadN dL_isVerdict_162 rfl rfl ?_
                          refine zx_iload dL_isVerdict_163 rfl ?_
                          refine zy_cv [zi ((wP D (Ht D) : Nat) : Int), zi (wY D (Ht D)), zi (D 19 r)] (fX9_explains  hfl hz hB hW (by first | exact hz _ _ | assumption | exact zr_b _ | exact zcmp_r _ _ | exact hzD _ _ | exact zr3 (tS_b hW _) | exact zr3 (lsc_b hW _ _) | exact zr3 (sc_b hW _ _) | exact rkP_zr hW _ | exact scA_zr hW _ _ | exact zr3 (cW_b hW) | exact zr3 (wS_b hW) | exact unx_zr hW _ | exact dcs_zr hW | (unfold zr at *; omega)) (by first | exact hz _ _ | assumption | exact zr_b _ | exact zcmp_r _ _ | exact hzD _ _ | exact zr3 (tS_b hW _) | exact zr3 (lsc_b hW _ _) | exact zr3 (sc_b hW _ _) | exact rkP_zr hW _ | exact scA_zr hW _ _ | exact zr3 (cW_b hW) | exact zr3 (wS_b hW) | exact unx_zr hW _ | exact dcs_zr hW | (unfold zr at *; omega)) (by first | exact hz _ _ | assumption | exact zr_b _ | exact zcmp_r _ _ | exact hzD _ _ | exact zr3 (tS_b hW _) | exact zr3 (lsc_b hW _ _) | exact zr3 (sc_b hW _ _) | exact rkP_zr hW _ | exact scA_zr hW _ _ | exact zr3 (cW_b hW) | exact zr3 (wS_b hW) | exact unx_zr hW _ | exact dcs_zr hW | (unfold zr at *; omega)) (by first | assumption | omega) (by first | assumption | omega) (by first | assumption | omega)) dL_isVerdict_165 (by decide) rfl cw_RL_140 okX9_explains rfl (Nat.le_of_ble_eq_true rfl) ⟨Nat.le_of_ble_eq_true rfl, Nat.le_of_ble_eq_true rfl, Nat.le_of_ble_eq_true rfl, Nat.le_of_ble_eq_true rfl⟩ ?_
                          refine zy_top (b := zb (works D (wP D (Ht D)) (wY D (Ht D)) ∧ cFit D (wP D (Ht D)) (wY D (Ht D)) (D 19 r).toNat)) rfl ?_
                          refine zx_if_eq (tgt := 174) (by first | exact hz _ _ | assumption | exact zr_b _ | exact zcmp_r _ _ | exact hzD _ _ | exact zr3 (tS_b hW _) | exact zr3 (lsc_b hW _ _) | exact zr3 (sc_b hW _ _) | exact rkP_zr hW _ | exact scA_zr hW _ _ | exact zr3 (cW_b hW) | exact zr3 (wS_b hW) | exact unx_zr hW _ | exact dcs_zr hW | (unfold zr at *; omega)) dL_isVerdict_168 (by decide) (fun h168 => ?_) (fun h168 => ?_)
                          · have h168 := zb_0.mp h168
                            have hopn : opn D (D 19 r).toNat := ⟨⟨h134, h143⟩, fun z => h168 ⟨hdec, z⟩⟩
                            refine zx_aloadN dL_isVerdict_174 rfl rfl ?_
                            refine zx_iloadN dL_isVerdict_175 rfl rfl ?_
                            refine zy_cvR [zi op] (fX9_unexplainedClue  hfl hz hB hW hP1 (by first | exact hz _ _ | assumption | exact zr_b _ | exact zcmp_r _ _ | exact hzD _ _ | exact zr3 (tS_b hW _) | exact zr3 (lsc_b hW _ _) | exact zr3 (sc_b hW _ _) | exact rkP_zr hW _ | exact scA_zr hW _ _ | exact zr3 (cW_b hW) | exact zr3 (wS_b hW) | exact unx_zr hW _ | exact dcs_zr hW | (unfold zr at *; omega))) dL_isVerdict_176 (by decide) rfl cw_RL_183 okX9_unexplainedClue rfl (Nat.le_of_ble_eq_true rfl) ⟨Nat.le_of_ble_eq_true rfl, Nat.le_of_ble_eq_true rfl, Nat.le_of_ble_eq_true rfl, Nat.le_of_ble_eq_true rfl⟩ (fun τ176 hr176 => ?_)
                            have hz176 : zOK τ176 := hr176.1
                            refine zy_top (b := D 19 r) (by rw [hop]; exact unx_r (by omega) hopn) ?_
                            refine zx_iload dL_isVerdict_179 rfl ?_
                            refine zx_icmp_eq (tgt := 186) (by first | exact hz176 _ _ | assumption | exact zr_b _ | exact zcmp_r _ _ | exact hzD _ _ | exact zr3 (tS_b hW _) | exact zr3 (lsc_b hW _ _) | exact zr3 (sc_b hW _ _) | exact rkP_zr hW _ | exact scA_zr hW _ _ | exact zr3 (cW_b hW) | exact zr3 (wS_b hW) | exact unx_zr hW _ | exact dcs_zr hW | (unfold zr at *; omega)) (by first | exact hz176 _ _ | assumption | exact zr_b _ | exact zcmp_r _ _ | exact hzD _ _ | exact zr3 (tS_b hW _) | exact zr3 (lsc_b hW _ _) | exact zr3 (sc_b hW _ _) | exact rkP_zr hW _ | exact scA_zr hW _ _ | exact zr3 (cW_b hW) | exact zr3 (wS_b hW) | exact unx_zr hW _ | exact dcs_zr hW | (unfold zr at *; omega)) dL_isVerdict_181 (by decide) (fun h181 => ?_) (fun h181 => ?_)
                            · refine zx_iload dL_isVerdict_186 rfl ?_
                              refine zx_aloadN dL_isVerdict_188 rfl rfl ?_
                              refine zx_iload dL_isVerdict_189 rfl ?_
                              refine zy_cv [zi (D 19 r)] (fX9_weightOf  hfl hz176 hr176.2.2 hW (by first | exact hz176 _ _ | assumption | exact zr_b _ | exact zcmp_r _ _ | exact hzD _ _ | exact zr3 (tS_b hW _) | exact zr3 (lsc_b hW _ _) | exact zr3 (sc_b hW _ _) | exact rkP_zr hW _ | exact scA_zr hW _ _ | exact zr3 (cW_b hW) | exact zr3 (wS_b hW) | exact unx_zr hW _ | exact dcs_zr hW | (unfold zr at *; omega)) (by first | assumption | omega)) dL_isVerdict_191 (by decide) rfl cw_RL_119 okX9_weightOf rfl (Nat.le_of_ble_eq_true rfl) ⟨Nat.le_of_ble_eq_true rfl, Nat.le_of_ble_eq_true rfl, Nat.le_of_ble_eq_true rfl, Nat.le_of_ble_eq_true rfl⟩ ?_
                              refine zx_iadd dL_isVerdict_194 ?_
                              refine zy_istore [zf 9 0, zi ((wP D (Ht D) : Nat) : Int), zi (wY D (Ht D)), zi op, zi (ms + (D 16 (D 19 r).toNat)), zi nx, zi (wt + (D 16 (D 19 r).toNat)), zi ((r : Nat) : Int), zi (D 19 r), zi (D 19 (r - 1))] dL_isVerdict_195 (Nat.le_of_ble_eq_true rfl) (Nat.le_of_ble_eq_true rfl) rfl rfl ?_
                              refine zy_iinc (b := op + 1) [zf 9 0, zi ((wP D (Ht D) : Nat) : Int), zi (wY D (Ht D)), zi (op + 1), zi (ms + (D 16 (D 19 r).toNat)), zi nx, zi (wt + (D 16 (D 19 r).toNat)), zi ((r : Nat) : Int), zi (D 19 r), zi (D 19 (r - 1))] dL_isVerdict_197 rfl (by omega) (Nat.le_of_ble_eq_true rfl) rfl rfl ?_
                              refine zy_iinc (b := ((r + 1 : Nat) : Int)) [zf 9 0, zi ((wP D (Ht D) : Nat) : Int), zi (wY D (Ht D)), zi (op + 1), zi (ms + (D 16 (D 19 r).toNat)), zi nx, zi (wt + (D 16 (D 19 r).toNat)), zi ((r + 1 : Nat) : Int), zi (D 19 r), zi (D 19 (r - 1))] dL_isVerdict_200 rfl (by omega) (Nat.le_of_ble_eq_true rfl) rfl rfl ?_
                              refine zx_goto (tgt := 24) dL_isVerdict_203 (by decide) ?_
                              refine zy_drop 8 [zf 9 0, zi ((wP D (Ht D) : Nat) : Int), zi (wY D (Ht D)), zi (op + 1), zi (ms + (D 16 (D 19 r).toNat)), zi nx, zi (wt + (D 16 (D 19 r).toNat)), zi ((r + 1 : Nat) : Int), zu, zi (D 19 (r - 1))] rfl ?_
                              refine zy_drop 9 [zf 9 0, zi ((wP D (Ht D) : Nat) : Int), zi (wY D (Ht D)), zi (op + 1), zi (ms + (D 16 (D 19 r).toNat)), zi nx, zi (wt + (D 16 (D 19 r).toNat)), zi ((r + 1 : Nat) : Int), zu, zu] rfl ?_
                              exact ih24 τ176 (r + 1) (op + 1) (ms + (D 16 (D 19 r).toNat)) nx (wt + (D 16 (D 19 r).toNat)) hz176 hr176.2.2 (zJ hF hr176.2.1) (by first | assumption | omega) (by subst hop; first | exact zsb_f (P := fun i => opn D (D 19 i).toNat) (fun q => by first | exact q.1.1 h134 | exact h143 q.1.2 | exact q.2 h168.2) | exact zsb_t (P := fun i => opn D (D 19 i).toNat) hopn) (by subst hms; first | exact zsw_f (P := fun i => opn D (D 19 i).toNat) (v := fun i => D 16 (D 19 i).toNat) (fun q => by first | exact q.1.1 h134 | exact h143 q.1.2 | exact q.2 h168.2) | exact zsw_t (P := fun i => opn D (D 19 i).toNat) (v := fun i => D 16 (D 19 i).toNat) hopn) (by first | (rw [hnx]; exact (nxR_k hW (by omega) (by omega)).symm) | (rw [hnx]; exact (nxR_n hW (by omega) (by omega) h116).symm) | exact (nxR_t hW (by omega) (by omega) h116).symm) (by subst hwt; first | exact zsw_f (P := fun i => Ht D (D 19 i).toNat) (v := fun i => D 16 (D 19 i).toNat) (fun q => by first | exact q.1 h134 | exact h143 q.2) | exact zsw_t (P := fun i => Ht D (D 19 i).toNat) (v := fun i => D 16 (D 19 i).toNat) ⟨h134, h143⟩) (by omega)
                            · exact absurd rfl h181
                          · have h168 := zb_n.mp h168
                            refine zx_goto (tgt := 200) dL_isVerdict_171 (by decide) ?_
                            refine zy_iinc (b := ((r + 1 : Nat) : Int)) [zf 9 0, zi ((wP D (Ht D) : Nat) : Int), zi (wY D (Ht D)), zi op, zi ms, zi nx, zi (wt + (D 16 (D 19 r).toNat)), zi ((r + 1 : Nat) : Int), zi (D 19 r), zi (D 19 (r - 1))] dL_isVerdict_200 rfl (by omega) (Nat.le_of_ble_eq_true rfl) rfl rfl ?_
                            refine zx_goto (tgt := 24) dL_isVerdict_203 (by decide) ?_
                            refine zy_drop 8 [zf 9 0, zi ((wP D (Ht D) : Nat) : Int), zi (wY D (Ht D)), zi op, zi ms, zi nx, zi (wt + (D 16 (D 19 r).toNat)), zi ((r + 1 : Nat) : Int), zu, zi (D 19 (r - 1))] rfl ?_
                            refine zy_drop 9 [zf 9 0, zi ((wP D (Ht D) : Nat) : Int), zi (wY D (Ht D)), zi op, zi ms, zi nx, zi (wt + (D 16 (D 19 r).toNat)), zi ((r + 1 : Nat) : Int), zu, zu] rfl ?_
                            exact ih24 τ (r + 1) op ms nx (wt + (D 16 (D 19 r).toNat)) hz hB hF (by first | assumption | omega) (by subst hop; first | exact zsb_f (P := fun i => opn D (D 19 i).toNat) (fun q => by first | exact q.1.1 h134 | exact h143 q.1.2 | exact q.2 h168.2) | exact zsb_t (P := fun i => opn D (D 19 i).toNat) hopn) (by subst hms; first | exact zsw_f (P := fun i => opn D (D 19 i).toNat) (v := fun i => D 16 (D 19 i).toNat) (fun q => by first | exact q.1.1 h134 | exact h143 q.1.2 | exact q.2 h168.2) | exact zsw_t (P := fun i => opn D (D 19 i).toNat) (v := fun i => D 16 (D 19 i).toNat) hopn) (by first | (rw [hnx]; exact (nxR_k hW (by omega) (by omega)).symm) | (rw [hnx]; exact (nxR_n hW (by omega) (by omega) h116).symm) | exact (nxR_t hW (by omega) (by omega) h116).symm) (by subst hwt; first | exact zsw_f (P := fun i => Ht D (D 19 i).toNat) (v := fun i => D 16 (D 19 i).toNat) (fun q => by first | exact q.1 h134 | exact h143 q.2) | exact zsw_t (P := fun i => Ht D (D 19 i).toNat) (v := fun i => D 16 (D 19 i).toNat) ⟨h134, h143⟩) (by omega)
                        · refine zx_goto (tgt := 200) dL_isVerdict_146 (by decide) ?_
                          refine zy_iinc (b := ((r + 1 : Nat) : Int)) [zf 9 0, zi ((wP D (Ht D) : Nat) : Int), zi (wY D (Ht D)), zi op, zi ms, zi nx, zi wt, zi ((r + 1 : Nat) : Int), zi (D 19 r), zi (D 19 (r - 1))] dL_isVerdict_200 rfl (by omega) (Nat.le_of_ble_eq_true rfl) rfl rfl ?_
                          refine zx_goto (tgt := 24) dL_isVerdict_203 (by decide) ?_
                          refine zy_drop 8 [zf 9 0, zi ((wP D (Ht D) : Nat) : Int), zi (wY D (Ht D)), zi op, zi ms, zi nx, zi wt, zi ((r + 1 : Nat) : Int), zu, zi (D 19 (r - 1))] rfl ?_
                          refine zy_drop 9 [zf 9 0, zi ((wP D (Ht D) : Nat) : Int), zi (wY D (Ht D)), zi op, zi ms, zi nx, zi wt, zi ((r + 1 : Nat) : Int), zu, zu] rfl ?_
                          exact ih24 τ (r + 1) op ms nx wt hz hB hF (by first | assumption | omega) (by subst hop; first | exact zsb_f (P := fun i => opn D (D 19 i).toNat) (fun q => by first | exact q.1.1 h134 | exact h143 q.1.2 | exact q.2 h168.2) | exact zsb_t (P := fun i => opn D (D 19 i).toNat) hopn) (by subst hms; first | exact zsw_f (P := fun i => opn D (D 19 i).toNat) (v := fun i => D 16 (D 19 i).toNat) (fun q => by first | exact q.1.1 h134 | exact h143 q.1.2 | exact q.2 h168.2) | exact zsw_t (P := fun i => opn D (D 19 i).toNat) (v := fun i => D 16 (D 19 i).toNat) hopn) (by first | (rw [hnx]; exact (nxR_k hW (by omega) (by omega)).symm) | (rw [hnx]; exact (nxR_n hW (by omega) (by omega) h116).symm) | exact (nxR_t hW (by omega) (by omega) h116).symm) (by subst hwt; first | exact zsw_f (P := fun i => Ht D (D 19 i).toNat) (v := fun i => D 16 (D 19 i).toNat) (fun q => by first | exact q.1 h134 | exact h143 q.2) | exact zsw_t (P := fun i => Ht D (D 19 i).toNat) (v := fun i => D 16 (D 19 i).toNat) ⟨h134, h143⟩) (by omega)
                    · refine zx_iload dL_isVerdict_119 rfl ?_
                      refine zx_goto (tgt := 126) dL_isVerdict_121 (by decide) ?_
                      refine zy_istore [zf 9 0, zi ((wP D (Ht D) : Nat) : Int), zi (wY D (Ht D)), zi op, zi ms, zi (D 19 r), zi wt, zi ((r : Nat) : Int), zi (D 19 r), zi (D 19 (r - 1))] dL_isVerdict_126 (Nat.le_of_ble_eq_true rfl) (Nat.le_of_ble_eq_true rfl) rfl rfl ?_
                      refine zx_aloadN dL_isVerdict_128 rfl rfl ?_
                      refine zx_iload dL_isVerdict_129 rfl ?_
                      refine zy_cv [zi (D 19 r)] (fX9_isRead  hfl hz hB hW (by first | exact hz _ _ | assumption | exact zr_b _ | exact zcmp_r _ _ | exact hzD _ _ | exact zr3 (tS_b hW _) | exact zr3 (lsc_b hW _ _) | exact zr3 (sc_b hW _ _) | exact rkP_zr hW _ | exact scA_zr hW _ _ | exact zr3 (cW_b hW) | exact zr3 (wS_b hW) | exact unx_zr hW _ | exact dcs_zr hW | (unfold zr at *; omega)) (by first | assumption | omega)) dL_isVerdict_131 (by decide) rfl cw_RL_122 okX9_isRead rfl (Nat.le_of_ble_eq_true rfl) ⟨Nat.le_of_ble_eq_true rfl, Nat.le_of_ble_eq_true rfl, Nat.le_of_ble_eq_true rfl, Nat.le_of_ble_eq_true rfl⟩ ?_
                      refine zx_if_eq (tgt := 200) (by first | exact hz _ _ | assumption | exact zr_b _ | exact zcmp_r _ _ | exact hzD _ _ | exact zr3 (tS_b hW _) | exact zr3 (lsc_b hW _ _) | exact zr3 (sc_b hW _ _) | exact rkP_zr hW _ | exact scA_zr hW _ _ | exact zr3 (cW_b hW) | exact zr3 (wS_b hW) | exact unx_zr hW _ | exact dcs_zr hW | (unfold zr at *; omega)) dL_isVerdict_134 (by decide) (fun h134 => ?_) (fun h134 => ?_)
                      · refine zy_iinc (b := ((r + 1 : Nat) : Int)) [zf 9 0, zi ((wP D (Ht D) : Nat) : Int), zi (wY D (Ht D)), zi op, zi ms, zi (D 19 r), zi wt, zi ((r + 1 : Nat) : Int), zi (D 19 r), zi (D 19 (r - 1))] dL_isVerdict_200 rfl (by omega) (Nat.le_of_ble_eq_true rfl) rfl rfl ?_
                        refine zx_goto (tgt := 24) dL_isVerdict_203 (by decide) ?_
                        refine zy_drop 8 [zf 9 0, zi ((wP D (Ht D) : Nat) : Int), zi (wY D (Ht D)), zi op, zi ms, zi (D 19 r), zi wt, zi ((r + 1 : Nat) : Int), zu, zi (D 19 (r - 1))] rfl ?_
                        refine zy_drop 9 [zf 9 0, zi ((wP D (Ht D) : Nat) : Int), zi (wY D (Ht D)), zi op, zi ms, zi (D 19 r), zi wt, zi ((r + 1 : Nat) : Int), zu, zu] rfl ?_
                        exact ih24 τ (r + 1) op ms (D 19 r) wt hz hB hF (by first | assumption | omega) (by subst hop; first | exact zsb_f (P := fun i => opn D (D 19 i).toNat) (fun q => by first | exact q.1.1 h134 | exact h143 q.1.2 | exact q.2 h168.2) | exact zsb_t (P := fun i => opn D (D 19 i).toNat) hopn) (by subst hms; first | exact zsw_f (P := fun i => opn D (D 19 i).toNat) (v := fun i => D 16 (D 19 i).toNat) (fun q => by first | exact q.1.1 h134 | exact h143 q.1.2 | exact q.2 h168.2) | exact zsw_t (P := fun i => opn D (D 19 i).toNat) (v := fun i => D 16 (D 19 i).toNat) hopn) (by first | (rw [hnx]; exact (nxR_k hW (by omega) (by omega)).symm) | (rw [hnx]; exact (nxR_n hW (by omega) (by omega) h116).symm) | exact (nxR_t hW (by omega) (by omega) h116).symm) (by subst hwt; first | exact zsw_f (P := fun i => Ht D (D 19 i).toNat) (v := fun i => D 16 (D 19 i).toNat) (fun q => by first | exact q.1 h134 | exact h143 q.2) | exact zsw_t (P := fun i => Ht D (D 19 i).toNat) (v := fun i => D 16 (D 19 i).toNat) ⟨h134, h143⟩) (by omega)
                      · refine zx_aloadN dL_isVerdict_137 rfl rfl ?_
                        refine zx_iload dL_isVerdict_138 rfl ?_
                        refine zy_cv [zi (D 19 r)] (fX9_isAside  hfl hz hB hW (by first | exact hz _ _ | assumption | exact zr_b _ | exact zcmp_r _ _ | exact hzD _ _ | exact zr3 (tS_b hW _) | exact zr3 (lsc_b hW _ _) | exact zr3 (sc_b hW _ _) | exact rkP_zr hW _ | exact scA_zr hW _ _ | exact zr3 (cW_b hW) | exact zr3 (wS_b hW) | exact unx_zr hW _ | exact dcs_zr hW | (unfold zr at *; omega)) (by first | assumption | omega)) dL_isVerdict_140 (by decide) rfl cw_RL_128 okX9_isAside rfl (Nat.le_of_ble_eq_true rfl) ⟨Nat.le_of_ble_eq_true rfl, Nat.le_of_ble_eq_true rfl, Nat.le_of_ble_eq_true rfl, Nat.le_of_ble_eq_true rfl⟩ ?_
                        refine zx_if_eq (tgt := 149) (by first | exact hz _ _ | assumption | exact zr_b _ | exact zcmp_r _ _ | exact hzD _ _ | exact zr3 (tS_b hW _) | exact zr3 (lsc_b hW _ _) | exact zr3 (sc_b hW _ _) | exact rkP_zr hW _ | exact scA_zr hW _ _ | exact zr3 (cW_b hW) | exact zr3 (wS_b hW) | exact unx_zr hW _ | exact dcs_zr hW | (unfold zr at *; omega)) dL_isVerdict_143 (by decide) (fun h143 => ?_) (fun h143 => ?_)
                        · refine zx_iload dL_isVerdict_149 rfl ?_
                          refine zx_aloadN dL_isVerdict_151 rfl rfl ?_
                          refine zx_iload dL_isVerdict_152 rfl ?_
                          refine zy_cv [zi (D 19 r)] (fX9_weightOf  hfl hz hB hW (by first | exact hz _ _ | assumption | exact zr_b _ | exact zcmp_r _ _ | exact hzD _ _ | exact zr3 (tS_b hW _) | exact zr3 (lsc_b hW _ _) | exact zr3 (sc_b hW _ _) | exact rkP_zr hW _ | exact scA_zr hW _ _ | exact zr3 (cW_b hW) | exact zr3 (wS_b hW) | exact unx_zr hW _ | exact dcs_zr hW | (unfold zr at *; omega)) (by first | assumption | omega)) dL_isVerdict_154 (by decide) rfl cw_RL_119 okX9_weightOf rfl (Nat.le_of_ble_eq_true rfl) ⟨Nat.le_of_ble_eq_true rfl, Nat.le_of_ble_eq_true rfl, Nat.le_of_ble_eq_true rfl, Nat.le_of_ble_eq_true rfl⟩ ?_
                          refine zx_iadd dL_isVerdict_157 ?_
                          refine zy_istore [zf 9 0, zi ((wP D (Ht D) : Nat) : Int), zi (wY D (Ht D)), zi op, zi ms, zi (D 19 r), zi (wt + (D 16 (D 19 r).toNat)), zi ((r : Nat) : Int), zi (D 19 r), zi (D 19 (r - 1))] dL_isVerdict_158 (Nat.le_of_ble_eq_true rfl) (Nat.le_of_ble_eq_true rfl) rfl rfl ?_
                          refine zx_aloadN dL_isVerdict_160 rfl rfl ?_
                          refine zx_iloadN dL_isVerdict_161 rfl rfl ?_
                          refine zx_iloadN dL_isVerdict_162 rfl rfl ?_
                          refine zx_iload dL_isVerdict_163 rfl ?_
                          refine zy_cv [zi ((wP D (Ht D) : Nat) : Int), zi (wY D (Ht D)), zi (D 19 r)] (fX9_explains  hfl hz hB hW (by first | exact hz _ _ | assumption | exact zr_b _ | exact zcmp_r _ _ | exact hzD _ _ | exact zr3 (tS_b hW _) | exact zr3 (lsc_b hW _ _) | exact zr3 (sc_b hW _ _) | exact rkP_zr hW _ | exact scA_zr hW _ _ | exact zr3 (cW_b hW) | exact zr3 (wS_b hW) | exact unx_zr hW _ | exact dcs_zr hW | (unfold zr at *; omega)) (by first | exact hz _ _ | assumption | exact zr_b _ | exact zcmp_r _ _ | exact hzD _ _ | exact zr3 (tS_b hW _) | exact zr3 (lsc_b hW _ _) | exact zr3 (sc_b hW _ _) | exact rkP_zr hW _ | exact scA_zr hW _ _ | exact zr3 (cW_b hW) | exact zr3 (wS_b hW) | exact unx_zr hW _ | exact dcs_zr hW | (unfold zr at *; omega)) (by first | exact hz _ _ | assumption | exact zr_b _ | exact zcmp_r _ _ | exact hzD _ _ | exact zr3 (tS_b hW _) | exact zr3 (lsc_b hW _ _) | exact zr3 (sc_b hW _ _) | exact rkP_zr hW _ | exact scA_zr hW _ _ | exact zr3 (cW_b hW) | exact zr3 (wS_b hW) | exact unx_zr hW _ | exact dcs_zr hW | (unfold zr at *; omega)) (by first | assumption | omega) (by first | assumption | omega) (by first | assumption | omega)) dL_isVerdict_165 (by decide) rfl cw_RL_140 okX9_explains rfl (Nat.le_of_ble_eq_true rfl) ⟨Nat.le_of_ble_eq_true rfl, Nat.le_of_ble_eq_true rfl, Nat.le_of_ble_eq_true rfl, Nat.le_of_ble_eq_true rfl⟩ ?_
                          refine zy_top (b := zb (works D (wP D (Ht D)) (wY D (Ht D)) ∧ cFit D (wP D (Ht D)) (wY D (Ht D)) (D 19 r).toNat)) rfl ?_
                          refine zx_if_eq (tgt := 174) (by first | exact hz _ _ | assumption | exact zr_b _ | exact zcmp_r _ _ | exact hzD _ _ | exact zr3 (tS_b hW _) | exact zr3 (lsc_b hW _ _) | exact zr3 (sc_b hW _ _) | exact rkP_zr hW _ | exact scA_zr hW _ _ | exact zr3 (cW_b hW) | exact zr3 (wS_b hW) | exact unx_zr hW _ | exact dcs_zr hW | (unfold zr at *; omega)) dL_isVerdict_168 (by decide) (fun h168 => ?_) (fun h168 => ?_)
                          · have h168 := zb_0.mp h168
                            have hopn : opn D (D 19 r).toNat := ⟨⟨h134, h143⟩, fun z => h168 ⟨hdec, z⟩⟩
                            refine zx_aloadN dL_isVerdict_174 rfl rfl ?_
                            refine zx_iloadN dL_isVerdict_175 rfl rfl ?_
                            refine zy_cvR [zi op] (fX9_unexplainedClue  hfl hz hB hW hP1 (by first | exact hz _ _ | assumption | exact zr_b _ | exact zcmp_r _ _ | exact hzD _ _ | exact zr3 (tS_b hW _) | exact zr3 (lsc_b hW _ _) | exact zr3 (sc_b hW _ _) | exact rkP_zr hW _ | exact scA_zr hW _ _ | exact zr3 (cW_b hW) | exact zr3 (wS_b hW) | exact unx_zr hW _ | exact dcs_zr hW | (unfold zr at *; omega))) dL_isVerdict_176 (by decide) rfl cw_RL_183 okX9_unexplainedClue rfl (Nat.le_of_ble_eq_true rfl) ⟨Nat.le_of_ble_eq_true rfl, Nat.le_of_ble_eq_true rfl, Nat.le_of_ble_eq_true rfl, Nat.le_of_ble_eq_true rfl⟩ (fun τ176 hr176 => ?_)
                            have hz176 : zOK τ176 := hr176.1
                            refine zy_top (b := D 19 r) (by rw [hop]; exact unx_r (by omega) hopn) ?_
                            refine zx_iload dL_isVerdict_179 rfl ?_
                            refine zx_icmp_eq (tgt := 186) (by first | exact hz176 _ _ | assumption | exact zr_b _ | exact zcmp_r _ _ | exact hzD _ _ | exact zr3 (tS_b hW _) | exact zr3 (lsc_b hW _ _) | exact zr3 (sc_b hW _ _) | exact rkP_zr hW _ | exact scA_zr hW _ _ | exact zr3 (cW_b hW) | exact zr3 (wS_b hW) | exact unx_zr hW _ | exact dcs_zr hW | (unfold zr at *; omega)) (by first | exact hz176 _ _ | assumption | exact zr_b _ | exact zcmp_r _ _ | exact hzD _ _ | exact zr3 (tS_b hW _) | exact zr3 (lsc_b hW _ _) | exact zr3 (sc_b hW _ _) | exact rkP_zr hW _ | exact scA_zr hW _ _ | exact zr3 (cW_b hW) | exact zr3 (wS_b hW) | exact unx_zr hW _ | exact dcs_zr hW | (unfold zr at *; omega)) dL_isVerdict_181 (by decide) (fun h181 => ?_) (fun h181 => ?_)
                            · refine zx_iload dL_isVerdict_186 rfl ?_
                              refine zx_aloadN dL_isVerdict_188 rfl rfl ?_
                              refine zx_iload dL_isVerdict_189 rfl ?_
                              refine zy_cv [zi (D 19 r)] (fX9_weightOf  hfl hz176 hr176.2.2 hW (by first | exact hz176 _ _ | assumption | exact zr_b _ | exact zcmp_r _ _ | exact hzD _ _ | exact zr3 (tS_b hW _) | exact zr3 (lsc_b hW _ _) | exact zr3 (sc_b hW _ _) | exact rkP_zr hW _ | exact scA_zr hW _ _ | exact zr3 (cW_b hW) | exact zr3 (wS_b hW) | exact unx_zr hW _ | exact dcs_zr hW | (unfold zr at *; omega)) (by first | assumption | omega)) dL_isVerdict_191 (by decide) rfl cw_RL_119 okX9_weightOf rfl (Nat.le_of_ble_eq_true rfl) ⟨Nat.le_of_ble_eq_true rfl, Nat.le_of_ble_eq_true rfl, Nat.le_of_ble_eq_true rfl, Nat.le_of_ble_eq_true rfl⟩ ?_
                              refine zx_iadd dL_isVerdict_194 ?_
                              refine zy_istore [zf 9 0, zi ((wP D (Ht D) : Nat) : Int), zi (wY D (Ht D)), zi op, zi (ms + (D 16 (D 19 r).toNat)), zi (D 19 r), zi (wt + (D 16 (D 19 r).toNat)), zi ((r : Nat) : Int), zi (D 19 r), zi (D 19 (r - 1))] dL_isVerdict_195 (Nat.le_of_ble_eq_true rfl) (Nat.le_of_ble_eq_true rfl) rfl rfl ?_
                              refine zy_iinc (b := op + 1) [zf 9 0, zi ((wP D (Ht D) : Nat) : Int), zi (wY D (Ht D)), zi (op + 1), zi (ms + (D 16 (D 19 r).toNat)), zi (D 19 r), zi (wt + (D 16 (D 19 r).toNat)), zi ((r : Nat) : Int), zi (D 19 r), zi (D 19 (r - 1))] dL_isVerdict_197 rfl (by omega) (Nat.le_of_ble_eq_true rfl) rfl rfl ?_
                              refine zy_iinc (b := ((r + 1 : Nat) : Int)) [zf 9 0, zi ((wP D (Ht D) : Nat) : Int), zi (wY D (Ht D)), zi (op + 1), zi (ms + (D 16 (D 19 r).toNat)), zi (D 19 r), zi (wt + (D 16 (D 19 r).toNat)), zi ((r + 1 : Nat) : Int), zi (D 19 r), zi (D 19 (r - 1))] dL_isVerdict_200 rfl (by omega) (Nat.le_of_ble_eq_true rfl) rfl rfl ?_
                              refine zx_goto (tgt := 24) dL_isVerdict_203 (by decide) ?_
                              refine zy_drop 8 [zf 9 0, zi ((wP D (Ht D) : Nat) : Int), zi (wY D (Ht D)), zi (op + 1), zi (ms + (D 16 (D 19 r).toNat)), zi (D 19 r), zi (wt + (D 16 (D 19 r).toNat)), zi ((r + 1 : Nat) : Int), zu, zi (D 19 (r - 1))] rfl ?_
                              refine zy_drop 9 [zf 9 0, zi ((wP D (Ht D) : Nat) : Int), zi (wY D (Ht D)), zi (op + 1), zi (ms + (D 16 (D 19 r).toNat)), zi (D 19 r), zi (wt + (D 16 (D 19 r).toNat)), zi ((r + 1 : Nat) : Int), zu, zu] rfl ?_
                              exact ih24 τ176 (r + 1) (op + 1) (ms + (D 16 (D 19 r).toNat)) (D 19 r) (wt + (D 16 (D 19 r).toNat)) hz176 hr176.2.2 (zJ hF hr176.2.1) (by first | assumption | omega) (by subst hop; first | exact zsb_f (P := fun i => opn D (D 19 i).toNat) (fun q => by first | exact q.1.1 h134 | exact h143 q.1.2 | exact q.2 h168.2) | exact zsb_t (P := fun i => opn D (D 19 i).toNat) hopn) (by subst hms; first | exact zsw_f (P := fun i => opn D (D 19 i).toNat) (v := fun i => D 16 (D 19 i).toNat) (fun q => by first | exact q.1.1 h134 | exact h143 q.1.2 | exact q.2 h168.2) | exact zsw_t (P := fun i => opn D (D 19 i).toNat) (v := fun i => D 16 (D 19 i).toNat) hopn) (by first | (rw [hnx]; exact (nxR_k hW (by omega) (by omega)).symm) | (rw [hnx]; exact (nxR_n hW (by omega) (by omega) h116).symm) | exact (nxR_t hW (by omega) (by omega) h116).symm) (by subst hwt; first | exact zsw_f (P := fun i => Ht D (D 19 i).toNat) (v := fun i => D 16 (D 19 i).toNat) (fun q => by first | exact q.1 h134 | exact h143 q.2) | exact zsw_t (P := fun i => Ht D (D 19 i).toNat) (v := fun i => D 16 (D 19 i).toNat) ⟨h134, h143⟩) (by omega)
                            · exact absurd rfl h181
                          · have h168 := zb_n.mp h168
                            refine zx_goto (tgt := 200) dL_isVerdict_171 (by decide) ?_
                            refine zy_iinc (b := ((r + 1 : Nat) : Int)) [zf 9 0, zi ((wP D (Ht D) : Nat) : Int), zi (wY D (Ht D)), zi op, zi ms, zi (D 19 r), zi (wt + (D 16 (D 19 r).toNat)), zi ((r + 1 : Nat) : Int), zi (D 19 r), zi (D 19 (r - 1))] dL_isVerdict_200 rfl (by omega) (Nat.le_of_ble_eq_true rfl) rfl rfl ?_
                            refine zx_goto (tgt := 24) dL_isVerdict_203 (by decide) ?_
                            refine zy_drop 8 [zf 9 0, zi ((wP D (Ht D) : Nat) : Int), zi (wY D (Ht D)), zi op, zi ms, zi (D 19 r), zi (wt + (D 16 (D 19 r).toNat)), zi ((r + 1 : Nat) : Int), zu, zi (D 19 (r - 1))] rfl ?_
                            refine zy_drop 9 [zf 9 0, zi ((wP D (Ht D) : Nat) : Int), zi (wY D (Ht D)), zi op, zi ms, zi (D 19 r), zi (wt + (D 16 (D 19 r).toNat)), zi ((r + 1 : Nat) : Int), zu, zu] rfl ?_
                            exact ih24 τ (r + 1) op ms (D 19 r) (wt + (D 16 (D 19 r).toNat)) hz hB hF (by first | assumption | omega) (by subst hop; first | exact zsb_f (P := fun i => opn D (D 19 i).toNat) (fun q => by first | exact q.1.1 h134 | exact h143 q.1.2 | exact q.2 h168.2) | exact zsb_t (P := fun i => opn D (D 19 i).toNat) hopn) (by subst hms; first | exact zsw_f (P := fun i => opn D (D 19 i).toNat) (v := fun i => D 16 (D 19 i).toNat) (fun q => by first | exact q.1.1 h134 | exact h143 q.1.2 | exact q.2 h168.2) | exact zsw_t (P := fun i => opn D (D 19 i).toNat) (v := fun i => D 16 (D 19 i).toNat) hopn) (by first | (rw [hnx]; exact (nxR_k hW (by omega) (by omega)).symm) | (rw [hnx]; exact (nxR_n hW (by omega) (by omega) h116).symm) | exact (nxR_t hW (by omega) (by omega) h116).symm) (by subst hwt; first | exact zsw_f (P := fun i => Ht D (D 19 i).toNat) (v := fun i => D 16 (D 19 i).toNat) (fun q => by first | exact q.1 h134 | exact h143 q.2) | exact zsw_t (P := fun i => Ht D (D 19 i).toNat) (v := fun i => D 16 (D 19 i).toNat) ⟨h134, h143⟩) (by omega)
                        · refine zx_goto (tgt := 200) dL_isVerdict_146 (by decide) ?_
                          refine zy_iinc (b := ((r + 1 : Nat) : Int)) [zf 9 0, zi ((wP D (Ht D) : Nat) : Int), zi (wY D (Ht D)), zi op, zi ms, zi (D 19 r), zi wt, zi ((r + 1 : Nat) : Int), zi (D 19 r), zi (D 19 (r - 1))] dL_isVerdict_200 rfl (by omega) (Nat.le_of_ble_eq_true rfl) rfl rfl ?_
                          refine zx_goto (tgt := 24) dL_isVerdict_203 (by decide) ?_
                          refine zy_drop 8 [zf 9 0, zi ((wP D (Ht D) : Nat) : Int), zi (wY D (Ht D)), zi op, zi ms, zi (D 19 r), zi wt, zi ((r + 1 : Nat) : Int), zu, zi (D 19 (r - 1))] rfl ?_
                          refine zy_drop 9 [zf 9 0, zi ((wP D (Ht D) : Nat) : Int), zi (wY D (Ht D)), zi op, zi ms, zi (D 19 r), zi wt, zi ((r + 1 : Nat) : Int), zu, zu] rfl ?_
                          exact ih24 τ (r + 1) op ms (D 19 r) wt hz hB hF (by first | assumption | omega) (by subst hop; first | exact zsb_f (P := fun i => opn D (D 19 i).toNat) (fun q => by first | exact q.1.1 h134 | exact h143 q.1.2 | exact q.2 h168.2) | exact zsb_t (P := fun i => opn D (D 19 i).toNat) hopn) (by subst hms; first | exact zsw_f (P := fun i => opn D (D 19 i).toNat) (v := fun i => D 16 (D 19 i).toNat) (fun q => by first | exact q.1.1 h134 | exact h143 q.1.2 | exact q.2 h168.2) | exact zsw_t (P := fun i => opn D (D 19 i).toNat) (v := fun i => D 16 (D 19 i).toNat) hopn) (by first | (rw [hnx]; exact (nxR_k hW (by omega) (by omega)).symm) | (rw [hnx]; exact (nxR_n hW (by omega) (by omega) h116).symm) | exact (nxR_t hW (by omega) (by omega) h116).symm) (by subst hwt; first | exact zsw_f (P := fun i => Ht D (D 19 i).toNat) (v := fun i => D 16 (D 19 i).toNat) (fun q => by first | exact q.1 h134 | exact h143 q.2) | exact zsw_t (P := fun i => Ht D (D 19 i).toNat) (v := fun i => D 16 (D 19 i).toNat) ⟨h134, h143⟩) (by omega)
                · exfalso; omega
        · refine zx_iload dL_isVerdict_46 rfl ?_
          refine zx_goto (tgt := 59) dL_isVerdict_48 (by decide) ?_
          refine zy_istore [zf 9 0, zi ((wP D (Ht D) : Nat) : Int), zi (wY D (Ht D)), zi op, zi ms, zi nx, zi wt, zi ((r : Nat) : Int), zi (D 19 r), zi (D 19 r)] dL_isVerdict_59 (Nat.le_of_ble_eq_true rfl) (Nat.le_of_ble_eq_true rfl) rfl rfl ?_
          refine zx_aloadN dL_isVerdict_61 rfl rfl ?_
          refine zx_iload dL_isVerdict_62 rfl ?_
          refine zy_cv [zi (D 19 r)] (fX9_pageOf  hfl hz hB hW (by first | exact hz _ _ | assumption | exact zr_b _ | exact zcmp_r _ _ | exact hzD _ _ | exact zr3 (tS_b hW _) | exact zr3 (lsc_b hW _ _) | exact zr3 (sc_b hW _ _) | exact rkP_zr hW _ | exact scA_zr hW _ _ | exact zr3 (cW_b hW) | exact zr3 (wS_b hW) | exact unx_zr hW _ | exact dcs_zr hW | (unfold zr at *; omega)) (by first | assumption | omega)) dL_isVerdict_64 (by decide) rfl cw_RL_104 okX9_pageOf rfl (Nat.le_of_ble_eq_true rfl) ⟨Nat.le_of_ble_eq_true rfl, Nat.le_of_ble_eq_true rfl, Nat.le_of_ble_eq_true rfl, Nat.le_of_ble_eq_true rfl⟩ ?_
          refine zx_aloadN dL_isVerdict_67 rfl rfl ?_
          refine zx_iload dL_isVerdict_68 rfl ?_
          refine zy_cv [zi (D 19 r)] (fX9_pageOf  hfl hz hB hW (by first | exact hz _ _ | assumption | exact zr_b _ | exact zcmp_r _ _ | exact hzD _ _ | exact zr3 (tS_b hW _) | exact zr3 (lsc_b hW _ _) | exact zr3 (sc_b hW _ _) | exact rkP_zr hW _ | exact scA_zr hW _ _ | exact zr3 (cW_b hW) | exact zr3 (wS_b hW) | exact unx_zr hW _ | exact dcs_zr hW | (unfold zr at *; omega)) (by first | assumption | omega)) dL_isVerdict_70 (by decide) rfl cw_RL_104 okX9_pageOf rfl (Nat.le_of_ble_eq_true rfl) ⟨Nat.le_of_ble_eq_true rfl, Nat.le_of_ble_eq_true rfl, Nat.le_of_ble_eq_true rfl, Nat.le_of_ble_eq_true rfl⟩ ?_
          refine zx_icmp_lt (tgt := 103) (by first | exact hz _ _ | assumption | exact zr_b _ | exact zcmp_r _ _ | exact hzD _ _ | exact zr3 (tS_b hW _) | exact zr3 (lsc_b hW _ _) | exact zr3 (sc_b hW _ _) | exact rkP_zr hW _ | exact scA_zr hW _ _ | exact zr3 (cW_b hW) | exact zr3 (wS_b hW) | exact unx_zr hW _ | exact dcs_zr hW | (unfold zr at *; omega)) (by first | exact hz _ _ | assumption | exact zr_b _ | exact zcmp_r _ _ | exact hzD _ _ | exact zr3 (tS_b hW _) | exact zr3 (lsc_b hW _ _) | exact zr3 (sc_b hW _ _) | exact rkP_zr hW _ | exact scA_zr hW _ _ | exact zr3 (cW_b hW) | exact zr3 (wS_b hW) | exact unx_zr hW _ | exact dcs_zr hW | (unfold zr at *; omega)) dL_isVerdict_73 (by decide) (fun h73 => ?_) (fun h73 => ?_)
          · exfalso; omega
          · refine zx_iload dL_isVerdict_76 rfl ?_
            refine zx_if_le (tgt := 105) (by first | exact hz _ _ | assumption | exact zr_b _ | exact zcmp_r _ _ | exact hzD _ _ | exact zr3 (tS_b hW _) | exact zr3 (lsc_b hW _ _) | exact zr3 (sc_b hW _ _) | exact rkP_zr hW _ | exact scA_zr hW _ _ | exact zr3 (cW_b hW) | exact zr3 (wS_b hW) | exact unx_zr hW _ | exact dcs_zr hW | (unfold zr at *; omega)) dL_isVerdict_78 (by decide) (fun h78 => ?_) (fun h78 => ?_)
            · refine zx_iload dL_isVerdict_105 rfl ?_
              refine zx_if_ge (tgt := 124) (by first | exact hz _ _ | assumption | exact zr_b _ | exact zcmp_r _ _ | exact hzD _ _ | exact zr3 (tS_b hW _) | exact zr3 (lsc_b hW _ _) | exact zr3 (sc_b hW _ _) | exact rkP_zr hW _ | exact scA_zr hW _ _ | exact zr3 (cW_b hW) | exact zr3 (wS_b hW) | exact unx_zr hW _ | exact dcs_zr hW | (unfold zr at *; omega)) dL_isVerdict_107 (by decide) (fun h107 => ?_) (fun h107 => ?_)
              · refine zx_iload dL_isVerdict_124 rfl ?_
                refine zy_istore [zf 9 0, zi ((wP D (Ht D) : Nat) : Int), zi (wY D (Ht D)), zi op, zi ms, zi nx, zi wt, zi ((r : Nat) : Int), zi (D 19 r), zi (D 19 r)] dL_isVerdict_126 (Nat.le_of_ble_eq_true rfl) (Nat.le_of_ble_eq_true rfl) rfl rfl ?_
                refine zx_aloadN dL_isVerdict_128 rfl rfl ?_
                refine zx_iload dL_isVerdict_129 rfl ?_
                refine zy_cv [zi (D 19 r)] (fX9_isRead  hfl hz hB hW (by first | exact hz _ _ | assumption | exact zr_b _ | exact zcmp_r _ _ | exact hzD _ _ | exact zr3 (tS_b hW _) | exact zr3 (lsc_b hW _ _) | exact zr3 (sc_b hW _ _) | exact rkP_zr hW _ | exact scA_zr hW _ _ | exact zr3 (cW_b hW) | exact zr3 (wS_b hW) | exact unx_zr hW _ | exact dcs_zr hW | (unfold zr at *; omega)) (by first | assumption | omega)) dL_isVerdict_131 (by decide) rfl cw_RL_122 okX9_isRead rfl (Nat.le_of_ble_eq_true rfl) ⟨Nat.le_of_ble_eq_true rfl, Nat.le_of_ble_eq_true rfl, Nat.le_of_ble_eq_true rfl, Nat.le_of_ble_eq_true rfl⟩ ?_
                refine zx_if_eq (tgt := 200) (by first | exact hz _ _ | assumption | exact zr_b _ | exact zcmp_r _ _ | exact hzD _ _ | exact zr3 (tS_b hW _) | exact zr3 (lsc_b hW _ _) | exact zr3 (sc_b hW _ _) | exact rkP_zr hW _ | exact scA_zr hW _ _ | exact zr3 (cW_b hW) | exact zr3 (wS_b hW) | exact unx_zr hW _ | exact dcs_zr hW | (unfold zr at *; omega)) dL_isVerdict_134 (by decide) (fun h134 => ?_) (fun h134 => ?_)
                · refine zy_iinc (b := ((r + 1 : Nat) : Int)) [zf 9 0, zi ((wP D (Ht D) : Nat) : Int), zi (wY D (Ht D)), zi op, zi ms, zi nx, zi wt, zi ((r + 1 : Nat) : Int), zi (D 19 r), zi (D 19 r)] dL_isVerdict_200 rfl (by omega) (Nat.le_of_ble_eq_true rfl) rfl rfl ?_
                  refine zx_goto (tgt := 24) dL_isVerdict_203 (by decide) ?_
                  refine zy_drop 8 [zf 9 0, zi ((wP D (Ht D) : Nat) : Int), zi (wY D (Ht D)), zi op, zi ms, zi nx, zi wt, zi ((r + 1 : Nat) : Int), zu, zi (D 19 r)] rfl ?_
                  refine zy_drop 9 [zf 9 0, zi ((wP D (Ht D) : Nat) : Int), zi (wY D (Ht D)), zi op, zi ms, zi nx, zi wt, zi ((r + 1 : Nat) : Int), zu, zu] rfl ?_
                  exact ih24 τ (r + 1) op ms nx wt hz hB hF (by first | assumption | omega) (by subst hop; first | exact zsb_f (P := fun i => opn D (D 19 i).toNat) (fun q => by first | exact q.1.1 h134 | exact h143 q.1.2 | exact q.2 h168.2) | exact zsb_t (P := fun i => opn D (D 19 i).toNat) hopn) (by subst hms; first | exact zsw_f (P := fun i => opn D (D 19 i).toNat) (v := fun i => D 16 (D 19 i).toNat) (fun q => by first | exact q.1.1 h134 | exact h143 q.1.2 | exact q.2 h168.2) | exact zsw_t (P := fun i => opn D (D 19 i).toNat) (v := fun i => D 16 (D 19 i).toNat) hopn) (by first | (rw [hnx]; exact (nxR_k hW (by omega) (by omega)).symm) | (rw [hnx]; exact (nxR_n hW (by omega) (by omega) h116).symm) | exact (nxR_t hW (by omega) (by omega) h116).symm) (by subst hwt; first | exact zsw_f (P := fun i => Ht D (D 19 i).toNat) (v := fun i => D 16 (D 19 i).toNat) (fun q => by first | exact q.1 h134 | exact h143 q.2) | exact zsw_t (P := fun i => Ht D (D 19 i).toNat) (v := fun i => D 16 (D 19 i).toNat) ⟨h134, h143⟩) (by omega)
                · refine zx_aloadN dL_isVerdict_137 rfl rfl ?_
                  refine zx_iload dL_isVerdict_138 rfl ?_
                  refine zy_cv [zi (D 19 r)] (fX9_isAside  hfl hz hB hW (by first | exact hz _ _ | assumption | exact zr_b _ | exact zcmp_r _ _ | exact hzD _ _ | exact zr3 (tS_b hW _) | exact zr3 (lsc_b hW _ _) | exact zr3 (sc_b hW _ _) | exact rkP_zr hW _ | exact scA_zr hW _ _ | exact zr3 (cW_b hW) | exact zr3 (wS_b hW) | exact unx_zr hW _ | exact dcs_zr hW | (unfold zr at *; omega)) (by first | assumption | omega)) dL_isVerdict_140 (by decide) rfl cw_RL_128 okX9_isAside rfl (Nat.le_of_ble_eq_true rfl) ⟨Nat.le_of_ble_eq_true rfl, Nat.le_of_ble_eq_true rfl, Nat.le_of_ble_eq_true rfl, Nat.le_of_ble_eq_true rfl⟩ ?_
                  refine zx_if_eq (tgt := 149) (by first | exact hz _ _ | assumption | exact zr_b _ | exact zcmp_r _ _ | exact hzD _ _ | exact zr3 (tS_b hW _) | exact zr3 (lsc_b hW _ _) | exact zr3 (sc_b hW _ _) | exact rkP_zr hW _ | exact scA_zr hW _ _ | exact zr3 (cW_b hW) | exact zr3 (wS_b hW) | exact unx_zr hW _ | exact dcs_zr hW | (unfold zr at *; omega)) dL_isVerdict_143 (by decide) (fun h143 => ?_) (fun h143 => ?_)
                  · refine zx_iload dL_isVerdict_149 rfl ?_
                    refine zx_aloadN dL_isVerdict_151 rfl rfl ?_
                    refine zx_iload dL_isVerdict_152 rfl ?_
                    refine zy_cv [zi (D 19 r)] (fX9_weightOf  hfl hz hB hW (by first | exact hz _ _ | assumption | exact zr_b _ | exact zcmp_r _ _ | exact hzD _ _ | exact zr3 (tS_b hW _) | exact zr3 (lsc_b hW _ _) | exact zr3 (sc_b hW _ _) | exact rkP_zr hW _ | exact scA_zr hW _ _ | exact zr3 (cW_b hW) | exact zr3 (wS_b hW) | exact unx_zr hW _ | exact dcs_zr hW | (unfold zr at *; omega)) (by first | assumption | omega)) dL_isVerdict_154 (by decide) rfl cw_RL_119 okX9_weightOf rfl (Nat.le_of_ble_eq_true rfl) ⟨Nat.le_of_ble_eq_true rfl, Nat.le_of_ble_eq_true rfl, Nat.le_of_ble_eq_true rfl, Nat.le_of_ble_eq_true rfl⟩ ?_
                    refine zx_iadd dL_isVerdict_157 ?_
                    refine zy_istore [zf 9 0, zi ((wP D (Ht D) : Nat) : Int), zi (wY D (Ht D)), zi op, zi ms, zi nx, zi (wt + (D 16 (D 19 r).toNat)), zi ((r : Nat) : Int), zi (D 19 r), zi (D 19 r)] dL_isVerdict_158 (Nat.le_of_ble_eq_true rfl) (Nat.le_of_ble_eq_true rfl) rfl rfl ?_
                    refine zx_aloadN dL_isVerdict_160 rfl rfl ?_
                    refine zx_iloadN dL_isVerdict_161 rfl rfl ?_
                    refine zx_iloadN dL_isVerdict_162 rfl rfl ?_
                    refine zx_iload dL_isVerdict_163 rfl ?_
                    refine zy_cv [zi ((wP D (Ht D) : Nat) : Int), zi (wY D (Ht D)), zi (D 19 r)] (fX9_explains  hfl hz hB hW (by first | exact hz _ _ | assumption | exact zr_b _ | exact zcmp_r _ _ | exact hzD _ _ | exact zr3 (tS_b hW _) | exact zr3 (lsc_b hW _ _) | exact zr3 (sc_b hW _ _) | exact rkP_zr hW _ | exact scA_zr hW _ _ | exact zr3 (cW_b hW) | exact zr3 (wS_b hW) | exact unx_zr hW _ | exact dcs_zr hW | (unfold zr at *; omega)) (by first | exact hz _ _ | assumption | exact zr_b _ | exact zcmp_r _ _ | exact hzD _ _ | exact zr3 (tS_b hW _) | exact zr3 (lsc_b hW _ _) | exact zr3 (sc_b hW _ _) | exact rkP_zr hW _ | exact scA_zr hW _ _ | exact zr3 (cW_b hW) | exact zr3 (wS_b hW) | exact unx_zr hW _ | exact dcs_zr hW | (unfold zr at *; omega)) (by first | exact hz _ _ | assumption | exact zr_b _ | exact zcmp_r _ _ | exact hzD _ _ | exact zr3 (tS_b hW _) | exact zr3 (lsc_b hW _ _) | exact zr3 (sc_b hW _ _) | exact rkP_zr hW _ | exact scA_zr hW _ _ | exact zr3 (cW_b hW) | exact zr3 (wS_b hW) | exact unx_zr hW _ | exact dcs_zr hW | (unfold zr at *; omega)) (by first | assumption | omega) (by first | assumption | omega) (by first | assumption | omega)) dL_isVerdict_165 (by decide) rfl cw_RL_140 okX9_explains rfl (Nat.le_of_ble_eq_true rfl) ⟨Nat.le_of_ble_eq_true rfl, Nat.le_of_ble_eq_true rfl, Nat.le_of_ble_eq_true rfl, Nat.le_of_ble_eq_true rfl⟩ ?_
                    refine zy_top (b := zb (works D (wP D (Ht D)) (wY D (Ht D)) ∧ cFit D (wP D (Ht D)) (wY D (Ht D)) (D 19 r).toNat)) rfl ?_
                    refine zx_if_eq (tgt := 174) (by first | exact hz _ _ | assumption | exact zr_b _ | exact zcmp_r _ _ | exact hzD _ _ | exact zr3 (tS_b hW _) | exact zr3 (lsc_b hW _ _) | exact zr3 (sc_b hW _ _) | exact rkP_zr hW _ | exact scA_zr hW _ _ | exact zr3 (cW_b hW) | exact zr3 (wS_b hW) | exact unx_zr hW _ | exact dcs_zr hW | (unfold zr at *; omega)) dL_isVerdict_168 (by decide) (fun h168 => ?_) (fun h168 => ?_)
                    · have h168 := zb_0.mp h168
                      have hopn : opn D (D 19 r).toNat := ⟨⟨h134, h143⟩, fun z => h168 ⟨hdec, z⟩⟩
                      refine zx_aloadN dL_isVerdict_174 rfl rfl ?_
                      refine zx_iloadN dL_isVerdict_175 rfl rfl ?_
                      refine zy_cvR [zi op] (fX9_unexplainedClue  hfl hz hB hW hP1 (by first | exact hz _ _ | assumption | exact zr_b _ | exact zcmp_r _ _ | exact hzD _ _ | exact zr3 (tS_b hW _) | exact zr3 (lsc_b hW _ _) | exact zr3 (sc_b hW _ _) | exact rkP_zr hW _ | exact scA_zr hW _ _ | exact zr3 (cW_b hW) | exact zr3 (wS_b hW) | exact unx_zr hW _ | exact dcs_zr hW | (unfold zr at *; omega))) dL_isVerdict_176 (by decide) rfl cw_RL_183 okX9_unexplainedClue rfl (Nat.le_of_ble_eq_true rfl) ⟨Nat.le_of_ble_eq_true rfl, Nat.le_of_ble_eq_true rfl, Nat.le_of_ble_eq_true rfl, Nat.le_of_ble_eq_true rfl⟩ (fun τ176 hr176 => ?_)
                      have hz176 : zOK τ176 := hr176.1
                      refine zy_top (b := D 19 r) (by rw [hop]; exact unx_r (by omega) hopn) ?_
                      refine zx_iload dL_isVerdict_179 rfl ?_
                      refine zx_icmp_eq (tgt := 186) (by first | exact hz176 _ _ | assumption | exact zr_b _ | exact zcmp_r _ _ | exact hzD _ _ | exact zr3 (tS_b hW _) | exact zr3 (lsc_b hW _ _) | exact zr3 (sc_b hW _ _) | exact rkP_zr hW _ | exact scA_zr hW _ _ | exact zr3 (cW_b hW) | exact zr3 (wS_b hW) | exact unx_zr hW _ | exact dcs_zr hW | (unfold zr at *; omega)) (by first | exact hz176 _ _ | assumption | exact zr_b _ | exact zcmp_r _ _ | exact hzD _ _ | exact zr3 (tS_b hW _) | exact zr3 (lsc_b hW _ _) | exact zr3 (sc_b hW _ _) | exact rkP_zr hW _ | exact scA_zr hW _ _ | exact zr3 (cW_b hW) | exact zr3 (wS_b hW) | exact unx_zr hW _ | exact dcs_zr hW | (unfold zr at *; omega)) dL_isVerdict_181 (by decide) (fun h181 => ?_) (fun h181 => ?_)
                      · refine zx_iload dL_isVerdict_186 rfl ?_
                        refine zx_aloadN dL_isVerdict_188 rfl rfl ?_
                        refine zx_iload dL_isVerdict_189 rfl ?_
                        refine zy_cv [zi (D 19 r)] (fX9_weightOf  hfl hz176 hr176.2.2 hW (by first | exact hz176 _ _ | assumption | exact zr_b _ | exact zcmp_r _ _ | exact hzD _ _ | exact zr3 (tS_b hW _) | exact zr3 (lsc_b hW _ _) | exact zr3 (sc_b hW _ _) | exact rkP_zr hW _ | exact scA_zr hW _ _ | exact zr3 (cW_b hW) | exact zr3 (wS_b hW) | exact unx_zr hW _ | exact dcs_zr hW | (unfold zr at *; omega)) (by first | assumption | omega)) dL_isVerdict_191 (by decide) rfl cw_RL_119 okX9_weightOf rfl (Nat.le_of_ble_eq_true rfl) ⟨Nat.le_of_ble_eq_true rfl, Nat.le_of_ble_eq_true rfl, Nat.le_of_ble_eq_true rfl, Nat.le_of_ble_eq_true rfl⟩ ?_
                        refine zx_iadd dL_isVerdict_194 ?_
                        refine zy_istore [zf 9 0, zi ((wP D (Ht D) : Nat) : Int), zi (wY D (Ht D)), zi op, zi (ms + (D 16 (D 19 r).toNat)), zi nx, zi (wt + (D 16 (D 19 r).toNat)), zi ((r : Nat) : Int), zi (D 19 r), zi (D 19 r)] dL_isVerdict_195 (Nat.le_of_ble_eq_true rfl) (Nat.le_of_ble_eq_true rfl) rfl rfl ?_
                        refine zy_iinc (b := op + 1) [zf 9 0, zi ((wP D (Ht D) : Nat) : Int), zi (wY D (Ht D)), zi (op + 1), zi (ms + (D 16 (D 19 r).toNat)), zi nx, zi (wt + (D 16 (D 19 r).toNat)), zi ((r : Nat) : Int), zi (D 19 r), zi (D 19 r)] dL_isVerdict_197 rfl (by omega) (Nat.le_of_ble_eq_true rfl) rfl rfl ?_
                        refine zy_iinc (b := ((r + 1 : Nat) : Int)) [zf 9 0, zi ((wP D (Ht D) : Nat) : Int), zi (wY D (Ht D)), zi (op + 1), zi (ms + (D 16 (D 19 r).toNat)), zi nx, zi (wt + (D 16 (D 19 r).toNat)), zi ((r + 1 : Nat) : Int), zi (D 19 r), zi (D 19 r)] dL_isVerdict_200 rfl (by omega) (Nat.le_of_ble_eq_true rfl) rfl rfl ?_
                        refine zx_goto (tgt := 24) dL_isVerdict_203 (by decide) ?_
                        refine zy_drop 8 [zf 9 0, zi ((wP D (Ht D) : Nat) : Int), zi (wY D (Ht D)), zi (op + 1), zi (ms + (D 16 (D 19 r).toNat)), zi nx, zi (wt + (D 16 (D 19 r).toNat)), zi ((r + 1 : Nat) : Int), zu, zi (D 19 r)] rfl ?_
                        refine zy_drop 9 [zf 9 0, zi ((wP D (Ht D) : Nat) : Int), zi (wY D (Ht D)), zi (op + 1), zi (ms + (D 16 (D 19 r).toNat)), zi nx, zi (wt + (D 16 (D 19 r).toNat)), zi ((r + 1 : Nat) : Int), zu, zu] rfl ?_
                        exact ih24 τ176 (r + 1) (op + 1) (ms + (D 16 (D 19 r).toNat)) nx (wt + (D 16 (D 19 r).toNat)) hz176 hr176.2.2 (zJ hF hr176.2.1) (by first | assumption | omega) (by subst hop; first | exact zsb_f (P := fun i => opn D (D 19 i).toNat) (fun q => by first | exact q.1.1 h134 | exact h143 q.1.2 | exact q.2 h168.2) | exact zsb_t (P := fun i => opn D (D 19 i).toNat) hopn) (by subst hms; first | exact zsw_f (P := fun i => opn D (D 19 i).toNat) (v := fun i => D 16 (D 19 i).toNat) (fun q => by first | exact q.1.1 h134 | exact h143 q.1.2 | exact q.2 h168.2) | exact zsw_t (P := fun i => opn D (D 19 i).toNat) (v := fun i => D 16 (D 19 i).toNat) hopn) (by first | (rw [hnx]; exact (nxR_k hW (by omega) (by omega)).symm) | (rw [hnx]; exact (nxR_n hW (by omega) (by omega) h116).symm) | exact (nxR_t hW (by omega) (by omega) h116).symm) (by subst hwt; first | exact zsw_f (P := fun i => Ht D (D 19 i).toNat) (v := fun i => D 16 (D 19 i).toNat) (fun q => by first | exact q.1 h134 | exact h143 q.2) | exact zsw_t (P := fun i => Ht D (D 19 i).toNat) (v := fun i => D 16 (D 19 i).toNat) ⟨h134, h143⟩) (by omega)
                      · exact absurd rfl h181
                    · have h168 := zb_n.mp h168
                      refine zx_goto (tgt := 200) dL_isVerdict_171 (by decide) ?_
                      refine zy_iinc (b := ((r + 1 : Nat) : Int)) [zf 9 0, zi ((wP D (Ht D) : Nat) : Int), zi (wY D (Ht D)), zi op, zi ms, zi nx, zi (wt + (D 16 (D 19 r).toNat)), zi ((r + 1 : Nat) : Int), zi (D 19 r), zi (D 19 r)] dL_isVerdict_200 rfl (by omega) (Nat.le_of_ble_eq_true rfl) rfl rfl ?_
                      refine zx_goto (tgt := 24) dL_isVerdict_203 (by decide) ?_
                      refine zy_drop 8 [zf 9 0, zi ((wP D (Ht D) : Nat) : Int), zi (wY D (Ht D)), zi op, zi ms, zi nx, zi (wt + (D 16 (D 19 r).toNat)), zi ((r + 1 : Nat) : Int), zu, zi (D 19 r)] rfl ?_
                      refine zy_drop 9 [zf 9 0, zi ((wP D (Ht D) : Nat) : Int), zi (wY D (Ht D)), zi op, zi ms, zi nx, zi (wt + (D 16 (D 19 r).toNat)), zi ((r + 1 : Nat) : Int), zu, zu] rfl ?_
                      exact ih24 τ (r + 1) op ms nx (wt + (D 16 (D 19 r).toNat)) hz hB hF (by first | assumption | omega) (by subst hop; first | exact zsb_f (P := fun i => opn D (D 19 i).toNat) (fun q => by first | exact q.1.1 h134 | exact h143 q.1.2 | exact q.2 h168.2) | exact zsb_t (P := fun i => opn D (D 19 i).toNat) hopn) (by subst hms; first | exact zsw_f (P := fun i => opn D (D 19 i).toNat) (v := fun i => D 16 (D 19 i).toNat) (fun q => by first | exact q.1.1 h134 | exact h143 q.1.2 | exact q.2 h168.2) | exact zsw_t (P := fun i => opn D (D 19 i).toNat) (v := fun i => D 16 (D 19 i).toNat) hopn) (by first | (rw [hnx]; exact (nxR_k hW (by omega) (by omega)).symm) | (rw [hnx]; exact (nxR_n hW (by omega) (by omega) h116).symm) | exact (nxR_t hW (by omega) (by omega) h116).symm) (by subst hwt; first | exact zsw_f (P := fun i => Ht D (D 19 i).toNat) (v := fun i => D 16 (D 19 i).toNat) (fun q => by first | exact q.1 h134 | exact h143 q.2) | exact zsw_t (P := fun i => Ht D (D 19 i).toNat) (v := fun i => D 16 (D 19 i).toNat) ⟨h134, h143⟩) (by omega)
                  · refine zx_goto (tgt := 200) dL_isVerdict_146 (by decide) ?_
                    refine zy_iinc (b := ((r + 1 : Nat) : Int)) [zf 9 0, zi ((wP D (Ht D) : Nat) : Int), zi (wY D (Ht D)), zi op, zi ms, zi nx, zi wt, zi ((r + 1 : Nat) : Int), zi (D 19 r), zi (D 19 r)] dL_isVerdict_200 rfl (by omega) (Nat.le_of_ble_eq_true rfl) rfl rfl ?_
                    refine zx_goto (tgt := 24) dL_isVerdict_203 (by decide) ?_
                    refine zy_drop 8 [zf 9 0, zi ((wP D (Ht D) : Nat) : Int), zi (wY D (Ht D)), zi op, zi ms, zi nx, zi wt, zi ((r + 1 : Nat) : Int), zu, zi (D 19 r)] rfl ?_
                    refine zy_drop 9 [zf 9 0, zi ((wP D (Ht D) : Nat) : Int), zi (wY D (Ht D)), zi op, zi ms, zi nx, zi wt, zi ((r + 1 : Nat) : Int), zu, zu] rfl ?_
                    exact ih24 τ (r + 1) op ms nx wt hz hB hF (by first | assumption | omega) (by subst hop; first | exact zsb_f (P := fun i => opn D (D 19 i).toNat) (fun q => by first | exact q.1.1 h134 | exact h143 q.1.2 | exact q.2 h168.2) | exact zsb_t (P := fun i => opn D (D 19 i).toNat) hopn) (by subst hms; first | exact zsw_f (P := fun i => opn D (D 19 i).toNat) (v := fun i => D 16 (D 19 i).toNat) (fun q => by first | exact q.1.1 h134 | exact h143 q.1.2 | exact q.2 h168.2) | exact zsw_t (P := fun i => opn D (D 19 i).toNat) (v := fun i => D 16 (D 19 i).toNat) hopn) (by first | (rw [hnx]; exact (nxR_k hW (by omega) (by omega)).symm) | (rw [hnx]; exact (nxR_n hW (by omega) (by omega) h116).symm) | exact (nxR_t hW (by omega) (by omega) h116).symm) (by subst hwt; first | exact zsw_f (P := fun i => Ht D (D 19 i).toNat) (v := fun i => D 16 (D 19 i).toNat) (fun q => by first | exact q.1 h134 | exact h143 q.2) | exact zsw_t (P := fun i => Ht D (D 19 i).toNat) (v := fun i => D 16 (D 19 i).toNat) ⟨h134, h143⟩) (by omega)
              · refine zx_aloadN dL_isVerdict_110 rfl rfl ?_
                refine zx_iload dL_isVerdict_111 rfl ?_
                refine zy_cv [zi (D 19 r)] (fX9_isRead  hfl hz hB hW (by first | exact hz _ _ | assumption | exact zr_b _ | exact zcmp_r _ _ | exact hzD _ _ | exact zr3 (tS_b hW _) | exact zr3 (lsc_b hW _ _) | exact zr3 (sc_b hW _ _) | exact rkP_zr hW _ | exact scA_zr hW _ _ | exact zr3 (cW_b hW) | exact zr3 (wS_b hW) | exact unx_zr hW _ | exact dcs_zr hW | (unfold zr at *; omega)) (by first | assumption | omega)) dL_isVerdict_113 (by decide) rfl cw_RL_122 okX9_isRead rfl (Nat.le_of_ble_eq_true rfl) ⟨Nat.le_of_ble_eq_true rfl, Nat.le_of_ble_eq_true rfl, Nat.le_of_ble_eq_true rfl, Nat.le_of_ble_eq_true rfl⟩ ?_
                refine zx_if_ne (tgt := 124) (by first | exact hz _ _ | assumption | exact zr_b _ | exact zcmp_r _ _ | exact hzD _ _ | exact zr3 (tS_b hW _) | exact zr3 (lsc_b hW _ _) | exact zr3 (sc_b hW _ _) | exact rkP_zr hW _ | exact scA_zr hW _ _ | exact zr3 (cW_b hW) | exact zr3 (wS_b hW) | exact unx_zr hW _ | exact dcs_zr hW | (unfold zr at *; omega)) dL_isVerdict_116 (by decide) (fun h116 => ?_) (fun h116 => ?_)
                · refine zx_iload dL_isVerdict_124 rfl ?_
                  refine zy_istore [zf 9 0, zi ((wP D (Ht D) : Nat) : Int), zi (wY D (Ht D)), zi op, zi ms, zi nx, zi wt, zi ((r : Nat) : Int), zi (D 19 r), zi (D 19 r)] dL_isVerdict_126 (Nat.le_of_ble_eq_true rfl) (Nat.le_of_ble_eq_true rfl) rfl rfl ?_
                  refine zx_aloadN dL_isVerdict_128 rfl rfl ?_
                  refine zx_iload dL_isVerdict_129 rfl ?_
                  refine zy_cv [zi (D 19 r)] (fX9_isRead  hfl hz hB hW (by first | exact hz _ _ | assumption | exact zr_b _ | exact zcmp_r _ _ | exact hzD _ _ | exact zr3 (tS_b hW _) | exact zr3 (lsc_b hW _ _) | exact zr3 (sc_b hW _ _) | exact rkP_zr hW _ | exact scA_zr hW _ _ | exact zr3 (cW_b hW) | exact zr3 (wS_b hW) | exact unx_zr hW _ | exact dcs_zr hW | (unfold zr at *; omega)) (by first | assumption | omega)) dL_isVerdict_131 (by decide) rfl cw_RL_122 okX9_isRead rfl (Nat.le_of_ble_eq_true rfl) ⟨Nat.le_of_ble_eq_true rfl, Nat.le_of_ble_eq_true rfl, Nat.le_of_ble_eq_true rfl, Nat.le_of_ble_eq_true rfl⟩ ?_
                  refine zx_if_eq (tgt := 200) (by first | exact hz _ _ | assumption | exact zr_b _ | exact zcmp_r _ _ | exact hzD _ _ | exact zr3 (tS_b hW _) | exact zr3 (lsc_b hW _ _) | exact zr3 (sc_b hW _ _) | exact rkP_zr hW _ | exact scA_zr hW _ _ | exact zr3 (cW_b hW) | exact zr3 (wS_b hW) | exact unx_zr hW _ | exact dcs_zr hW | (unfold zr at *; omega)) dL_isVerdict_134 (by decide) (fun h134 => ?_) (fun h134 => ?_)
                  · refine zy_iinc (b := ((r + 1 : Nat) : Int)) [zf 9 0, zi ((wP D (Ht D) : Nat) : Int), zi (wY D (Ht D)), zi op, zi ms, zi nx, zi wt, zi ((r + 1 : Nat) : Int), zi (D 19 r), zi (D 19 r)] dL_isVerdict_200 rfl (by omega) (Nat.le_of_ble_eq_true rfl) rfl rfl ?_
                    refine zx_goto (tgt := 24) dL_isVerdict_203 (by decide) ?_
                    refine zy_drop 8 [zf 9 0, zi ((wP D (Ht D) : Nat) : Int), zi (wY D (Ht D)), zi op, zi ms, zi nx, zi wt, zi ((r + 1 : Nat) : Int), zu, zi (D 19 r)] rfl ?_
                    refine zy_drop 9 [zf 9 0, zi ((wP D (Ht D) : Nat) : Int), zi (wY D (Ht D)), zi op, zi ms, zi nx, zi wt, zi ((r + 1 : Nat) : Int), zu, zu] rfl ?_
                    exact ih24 τ (r + 1) op ms nx wt hz hB hF (by first | assumption | omega) (by subst hop; first | exact zsb_f (P := fun i => opn D (D 19 i).toNat) (fun q => by first | exact q.1.1 h134 | exact h143 q.1.2 | exact q.2 h168.2) | exact zsb_t (P := fun i => opn D (D 19 i).toNat) hopn) (by subst hms; first | exact zsw_f (P := fun i => opn D (D 19 i).toNat) (v := fun i => D 16 (D 19 i).toNat) (fun q => by first | exact q.1.1 h134 | exact h143 q.1.2 | exact q.2 h168.2) | exact zsw_t (P := fun i => opn D (D 19 i).toNat) (v := fun i => D 16 (D 19 i).toNat) hopn) (by first | (rw [hnx]; exact (nxR_k hW (by omega) (by omega)).symm) | (rw [hnx]; exact (nxR_n hW (by omega) (by omega) h116).symm) | exact (nxR_t hW (by omega) (by omega) h116).symm) (by subst hwt; first | exact zsw_f (P := fun i => Ht D (D 19 i).toNat) (v := fun i => D 16 (D 19 i).toNat) (fun q => by first | exact q.1 h134 | exact h143 q.2) | exact zsw_t (P := fun i => Ht D (D 19 i).toNat) (v := fun i => D 16 (D 19 i).toNat) ⟨h134, h143⟩) (by omega)
                  · refine zx_aloadN dL_isVerdict_137 rfl rfl ?_
                    refine zx_iload dL_isVerdict_138 rfl ?_
                    refine zy_cv [zi (D 19 r)] (fX9_isAside  hfl hz hB hW (by first | exact hz _ _ | assumption | exact zr_b _ | exact zcmp_r _ _ | exact hzD _ _ | exact zr3 (tS_b hW _) | exact zr3 (lsc_b hW _ _) | exact zr3 (sc_b hW _ _) | exact rkP_zr hW _ | exact scA_zr hW _ _ | exact zr3 (cW_b hW) | exact zr3 (wS_b hW) | exact unx_zr hW _ | exact dcs_zr hW | (unfold zr at *; omega)) (by first | assumption | omega)) dL_isVerdict_140 (by decide) rfl cw_RL_128 okX9_isAside rfl (Nat.le_of_ble_eq_true rfl) ⟨Nat.le_of_ble_eq_true rfl, Nat.le_of_ble_eq_true rfl, Nat.le_of_ble_eq_true rfl, Nat.le_of_ble_eq_true rfl⟩ ?_
                    refine zx_if_eq (tgt := 149) (by first | exact hz _ _ | assumption | exact zr_b _ | exact zcmp_r _ _ | exact hzD _ _ | exact zr3 (tS_b hW _) | exact zr3 (lsc_b hW _ _) | exact zr3 (sc_b hW _ _) | exact rkP_zr hW _ | exact scA_zr hW _ _ | exact zr3 (cW_b hW) | exact zr3 (wS_b hW) | exact unx_zr hW _ | exact dcs_zr hW | (unfold zr at *; omega)) dL_isVerdict_143 (by decide) (fun h143 => ?_) (fun h143 => ?_)
                    · refine zx_iload dL_isVerdict_149 rfl ?_
                      refine zx_aloadN dL_isVerdict_151 rfl rfl ?_
                      refine zx_iload dL_isVerdict_152 rfl ?_
                      refine zy_cv [zi (D 19 r)] (fX9_weightOf  hfl hz hB hW (by first | exact hz _ _ | assumption | exact zr_b _ | exact zcmp_r _ _ | exact hzD _ _ | exact zr3 (tS_b hW _) | exact zr3 (lsc_b hW _ _) | exact zr3 (sc_b hW _ _) | exact rkP_zr hW _ | exact scA_zr hW _ _ | exact zr3 (cW_b hW) | exact zr3 (wS_b hW) | exact unx_zr hW _ | exact dcs_zr hW | (unfold zr at *; omega)) (by first | assumption | omega)) dL_isVerdict_154 (by decide) rfl cw_RL_119 okX9_weightOf rfl (Nat.le_of_ble_eq_true rfl) ⟨Nat.le_of_ble_eq_true rfl, Nat.le_of_ble_eq_true rfl, Nat.le_of_ble_eq_true rfl, Nat.le_of_ble_eq_true rfl⟩ ?_
                      refine zx_iadd dL_isVerdict_157 ?_
                      refine zy_istore [zf 9 0, zi ((wP D (Ht D) : Nat) : Int), zi (wY D (Ht D)), zi op, zi ms, zi nx, zi (wt + (D 16 (D 19 r).toNat)), zi ((r : Nat) : Int), zi (D 19 r), zi (D 19 r)] dL_isVerdict_158 (Nat.le_of_ble_eq_true rfl) (Nat.le_of_ble_eq_true rfl) rfl rfl ?_
                      refine zx_aloadN dL_isVerdict_160 rfl rfl ?_
                      refine zx_iloadN dL_isVerdict_161 rfl rfl ?_
                      refine zx_iloadN dL_isVerdict_162 rfl rfl ?_
                      refine zx_iload dL_isVerdict_163 rfl ?_
                      refine zy_cv [zi ((wP D (Ht D) : Nat) : Int), zi (wY D (Ht D)), zi (D 19 r)] (fX9_explains  hfl hz hB hW (by first | exact hz _ _ | assumption | exact zr_b _ | exact zcmp_r _ _ | exact hzD _ _ | exact zr3 (tS_b hW _) | exact zr3 (lsc_b hW _ _) | exact zr3 (sc_b hW _ _) | exact rkP_zr hW _ | exact scA_zr hW _ _ | exact zr3 (cW_b hW) | exact zr3 (wS_b hW) | exact unx_zr hW _ | exact dcs_zr hW | (unfold zr at *; omega)) (by first | exact hz _ _ | assumption | exact zr_b _ | exact zcmp_r _ _ | exact hzD _ _ | exact zr3 (tS_b hW _) | exact zr3 (lsc_b hW _ _) | exact zr3 (sc_b hW _ _) | exact rkP_zr hW _ | exact scA_zr hW _ _ | exact zr3 (cW_b hW) | exact zr3 (wS_b hW) | exact unx_zr hW _ | exact dcs_zr hW | (unfold zr at *; omega)) (by first | exact hz _ _ | assumption | exact zr_b _ | exact zcmp_r _ _ | exact hzD _ _ | exact zr3 (tS_b hW _) | exact zr3 (lsc_b hW _ _) | exact zr3 (sc_b hW _ _) | exact rkP_zr hW _ | exact scA_zr hW _ _ | exact zr3 (cW_b hW) | exact zr3 (wS_b hW) | exact unx_zr hW _ | exact dcs_zr hW | (unfold zr at *; omega)) (by first | assumption | omega) (by first | assumption | omega) (by first | assumption | omega)) dL_isVerdict_165 (by decide) rfl cw_RL_140 okX9_explains rfl (Nat.le_of_ble_eq_true rfl) ⟨Nat.le_of_ble_eq_true rfl, Nat.le_of_ble_eq_true rfl, Nat.le_of_ble_eq_true rfl, Nat.le_of_ble_eq_true rfl⟩ ?_
                      refine zy_top (b := zb (works D (wP D (Ht D)) (wY D (Ht D)) ∧ cFit D (wP D (Ht D)) (wY D (Ht D)) (D 19 r).toNat)) rfl ?_
                      refine zx_if_eq (tgt := 174) (by first | exact hz _ _ | assumption | exact zr_b _ | exact zcmp_r _ _ | exact hzD _ _ | exact zr3 (tS_b hW _) | exact zr3 (lsc_b hW _ _) | exact zr3 (sc_b hW _ _) | exact rkP_zr hW _ | exact scA_zr hW _ _ | exact zr3 (cW_b hW) | exact zr3 (wS_b hW) | exact unx_zr hW _ | exact dcs_zr hW | (unfold zr at *; omega)) dL_isVerdict_168 (by decide) (fun h168 => ?_) (fun h168 => ?_)
                      · have h168 := zb_0.mp h168
                        have hopn : opn D (D 19 r).toNat := ⟨⟨h134, h143⟩, fun z => h168 ⟨hdec, z⟩⟩
                        refine zx_aloadN dL_isVerdict_174 rfl rfl ?_
                        refine zx_iloadN dL_isVerdict_175 rfl rfl ?_
                        refine zy_cvR [zi op] (fX9_unexplainedClue  hfl hz hB hW hP1 (by first | exact hz _ _ | assumption | exact zr_b _ | exact zcmp_r _ _ | exact hzD _ _ | exact zr3 (tS_b hW _) | exact zr3 (lsc_b hW _ _) | exact zr3 (sc_b hW _ _) | exact rkP_zr hW _ | exact scA_zr hW _ _ | exact zr3 (cW_b hW) | exact zr3 (wS_b hW) | exact unx_zr hW _ | exact dcs_zr hW | (unfold zr at *; omega))) dL_isVerdict_176 (by decide) rfl cw_RL_183 okX9_unexplainedClue rfl (Nat.le_of_ble_eq_true rfl) ⟨Nat.le_of_ble_eq_true rfl, Nat.le_of_ble_eq_true rfl, Nat.le_of_ble_eq_true rfl, Nat.le_of_ble_eq_true rfl⟩ (fun τ176 hr176 => ?_)
                        have hz176 : zOK τ176 := hr176.1
                        refine zy_top (b := D 19 r) (by rw [hop]; exact unx_r (by omega) hopn) ?_
                        refine zx_iload dL_isVerdict_179 rfl ?_
                        refine zx_icmp_eq (tgt := 186) (by first | exact hz176 _ _ | assumption | exact zr_b _ | exact zcmp_r _ _ | exact hzD _ _ | exact zr3 (tS_b hW _) | exact zr3 (lsc_b hW _ _) | exact zr3 (sc_b hW _ _) | exact rkP_zr hW _ | exact scA_zr hW _ _ | exact zr3 (cW_b hW) | exact zr3 (wS_b hW) | exact unx_zr hW _ | exact dcs_zr hW | (unfold zr at *; omega)) (by first | exact hz176 _ _ | assumption | exact zr_b _ | exact zcmp_r _ _ | exact hzD _ _ | exact zr3 (tS_b hW _) | exact zr3 (lsc_b hW _ _) | exact zr3 (sc_b hW _ _) | exact rkP_zr hW _ | exact scA_zr hW _ _ | exact zr3 (cW_b hW) | exact zr3 (wS_b hW) | exact unx_zr hW _ | exact dcs_zr hW | (unfold zr at *; omega)) dL_isVerdict_181 (by decide) (fun h181 => ?_) (fun h181 => ?_)
                        · refine zx_iload dL_isVerdict_186 rfl ?_
                          refine zx_aloadN dL_isVerdict_188 rfl rfl ?_
                          refine zx_iload dL_isVerdict_189 rfl ?_
                          refine zy_cv [zi (D 19 r)] (fX9_weightOf  hfl hz176 hr176.2.2 hW (by first | exact hz176 _ _ | assumption | exact zr_b _ | exact zcmp_r _ _ | exact hzD _ _ | exact zr3 (tS_b hW _) | exact zr3 (lsc_b hW _ _) | exact zr3 (sc_b hW _ _) | exact rkP_zr hW _ | exact scA_zr hW _ _ | exact zr3 (cW_b hW) | exact zr3 (wS_b hW) | exact unx_zr hW _ | exact dcs_zr hW | (unfold zr at *; omega)) (by first | assumption | omega)) dL_isVerdict_191 (by decide) rfl cw_RL_119 okX9_weightOf rfl (Nat.le_of_ble_eq_true rfl) ⟨Nat.le_of_ble_eq_true rfl, Nat.le_of_ble_eq_true rfl, Nat.le_of_ble_eq_true rfl, Nat.le_of_ble_eq_true rfl⟩ ?_
                          refine zx_iadd dL_isVerdict_194 ?_
                          refine zy_istore [zf 9 0, zi ((wP D (Ht D) : Nat) : Int), zi (wY D (Ht D)), zi op, zi (ms + (D 16 (D 19 r).toNat)), zi nx, zi (wt + (D 16 (D 19 r).toNat)), zi ((r : Nat) : Int), zi (D 19 r), zi (D 19 r)] dL_isVerdict_195 (Nat.le_of_ble_eq_true rfl) (Nat.le_of_ble_eq_true rfl) rfl rfl ?_
                          refine zy_iinc (b := op + 1) [zf 9 0, zi ((wP D (Ht D) : Nat) : Int), zi (wY D (Ht D)), zi (op + 1), zi (ms + (D 16 (D 19 r).toNat)), zi nx, zi (wt + (D 16 (D 19 r).toNat)), zi ((r : Nat) : Int), zi (D 19 r), zi (D 19 r)] dL_isVerdict_197 rfl (by omega) (Nat.le_of_ble_eq_true rfl) rfl rfl ?_
                          refine zy_iinc (b := ((r + 1 : Nat) : Int)) [zf 9 0, zi ((wP D (Ht D) : Nat) : Int), zi (wY D (Ht D)), zi (op + 1), zi (ms + (D 16 (D 19 r).toNat)), zi nx, zi (wt + (D 16 (D 19 r).toNat)), zi ((r + 1 : Nat) : Int), zi (D 19 r), zi (D 19 r)] dL_isVerdict_200 rfl (by omega) (Nat.le_of_ble_eq_true rfl) rfl rfl ?_
                          refine zx_goto (tgt := 24) dL_isVerdict_203 (by decide) ?_
                          refine zy_drop 8 [zf 9 0, zi ((wP D (Ht D) : Nat) : Int), zi (wY D (Ht D)), zi (op + 1), zi (ms + (D 16 (D 19 r).toNat)), zi nx, zi (wt + (D 16 (D 19 r).toNat)), zi ((r + 1 : Nat) : Int), zu, zi (D 19 r)] rfl ?_
                          refine zy_drop 9 [zf 9 0, zi ((wP D (Ht D) : Nat) : Int), zi (wY D (Ht D)), zi (op + 1), zi (ms + (D 16 (D 19 r).toNat)), zi nx, zi (wt + (D 16 (D 19 r).toNat)), zi ((r + 1 : Nat) : Int), zu, zu] rfl ?_
                          exact ih24 τ176 (r + 1) (op + 1) (ms + (D 16 (D 19 r).toNat)) nx (wt + (D 16 (D 19 r).toNat)) hz176 hr176.2.2 (zJ hF hr176.2.1) (by first | assumption | omega) (by subst hop; first | exact zsb_f (P := fun i => opn D (D 19 i).toNat) (fun q => by first | exact q.1.1 h134 | exact h143 q.1.2 | exact q.2 h168.2) | exact zsb_t (P := fun i => opn D (D 19 i).toNat) hopn) (by subst hms; first | exact zsw_f (P := fun i => opn D (D 19 i).toNat) (v := fun i => D 16 (D 19 i).toNat) (fun q => by first | exact q.1.1 h134 | exact h143 q.1.2 | exact q.2 h168.2) | exact zsw_t (P := fun i => opn D (D 19 i).toNat) (v := fun i => D 16 (D 19 i).toNat) hopn) (by first | (rw [hnx]; exact (nxR_k hW (by omega) (by omega)).symm) | (rw [hnx]; exact (nxR_n hW (by omega) (by omega) h116).symm) | exact (nxR_t hW (by omega) (by omega) h116).symm) (by subst hwt; first | exact zsw_f (P := fun i => Ht D (D 19 i).toNat) (v := fun i => D 16 (D 19 i).toNat) (fun q => by first | exact q.1 h134 | exact h143 q.2) | exact zsw_t (P := fun i => Ht D (D 19 i).toNat) (v := fun i => D 16 (D 19 i).toNat) ⟨h134, h143⟩) (by omega)
                        · exact absurd rfl h181
                      · have h168 := zb_n.mp h168
                        refine zx_goto (tgt := 200) dL_isVerdict_171 (by decide) ?_
                        refine zy_iinc (b := ((r + 1 : Nat) : Int)) [zf 9 0, zi ((wP D (Ht D) : Nat) : Int), zi (wY D (Ht D)), zi op, zi ms, zi nx, zi (wt + (D 16 (D 19 r).toNat)), zi ((r + 1 : Nat) : Int), zi (D 19 r), zi (D 19 r)] dL_isVerdict_200 rfl (by omega) (Nat.le_of_ble_eq_true rfl) rfl rfl ?_
                        refine zx_goto (tgt := 24) dL_isVerdict_203 (by decide) ?_
                        refine zy_drop 8 [zf 9 0, zi ((wP D (Ht D) : Nat) : Int), zi (wY D (Ht D)), zi op, zi ms, zi nx, zi (wt + (D 16 (D 19 r).toNat)), zi ((r + 1 : Nat) : Int), zu, zi (D 19 r)] rfl ?_
                        refine zy_drop 9 [zf 9 0, zi ((wP D (Ht D) : Nat) : Int), zi (wY D (Ht D)), zi op, zi ms, zi nx, zi (wt + (D 16 (D 19 r).toNat)), zi ((r + 1 : Nat) : Int), zu, zu] rfl ?_
                        exact ih24 τ (r + 1) op ms nx (wt + (D 16 (D 19 r).toNat)) hz hB hF (by first | assumption | omega) (by subst hop; first | exact zsb_f (P := fun i => opn D (D 19 i).toNat) (fun q => by first | exact q.1.1 h134 | exact h143 q.1.2 | exact q.2 h168.2) | exact zsb_t (P := fun i => opn D (D 19 i).toNat) hopn) (by subst hms; first | exact zsw_f (P := fun i => opn D (D 19 i).toNat) (v := fun i => D 16 (D 19 i).toNat) (fun q => by first | exact q.1.1 h134 | exact h143 q.1.2 | exact q.2 h168.2) | exact zsw_t (P := fun i => opn D (D 19 i).toNat) (v := fun i => D 16 (D 19 i).toNat) hopn) (by first | (rw [hnx]; exact (nxR_k hW (by omega) (by omega)).symm) | (rw [hnx]; exact (nxR_n hW (by omega) (by omega) h116).symm) | exact (nxR_t hW (by omega) (by omega) h116).symm) (by subst hwt; first | exact zsw_f (P := fun i => Ht D (D 19 i).toNat) (v := fun i => D 16 (D 19 i).toNat) (fun q => by first | exact q.1 h134 | exact h143 q.2) | exact zsw_t (P := fun i => Ht D (D 19 i).toNat) (v := fun i => D 16 (D 19 i).toNat) ⟨h134, h143⟩) (by omega)
                    · refine zx_goto (tgt := 200) dL_isVerdict_146 (by decide) ?_
                      refine zy_iinc (b := ((r + 1 : Nat) : Int)) [zf 9 0, zi ((wP D (Ht D) : Nat) : Int), zi (wY D (Ht D)), zi op, zi ms, zi nx, zi wt, zi ((r + 1 : Nat) : Int), zi (D 19 r), zi (D 19 r)] dL_isVerdict_200 rfl (by omega) (Nat.le_of_ble_eq_true rfl) rfl rfl ?_
                      refine zx_goto (tgt := 24) dL_isVerdict_203 (by decide) ?_
                      refine zy_drop 8 [zf 9 0, zi ((wP D (Ht D) : Nat) : Int), zi (wY D (Ht D)), zi op, zi ms, zi nx, zi wt, zi ((r + 1 : Nat) : Int), zu, zi (D 19 r)] rfl ?_
                      refine zy_drop 9 [zf 9 0, zi ((wP D (Ht D) : Nat) : Int), zi (wY D (Ht D)), zi op, zi ms, zi nx, zi wt, zi ((r + 1 : Nat) : Int), zu, zu] rfl ?_
                      exact ih24 τ (r + 1) op ms nx wt hz hB hF (by first | assumption | omega) (by subst hop; first | exact zsb_f (P := fun i => opn D (D 19 i).toNat) (fun q => by first | exact q.1.1 h134 | exact h143 q.1.2 | exact q.2 h168.2) | exact zsb_t (P := fun i => opn D (D 19 i).toNat) hopn) (by subst hms; first | exact zsw_f (P := fun i => opn D (D 19 i).toNat) (v := fun i => D 16 (D 19 i).toNat) (fun q => by first | exact q.1.1 h134 | exact h143 q.1.2 | exact q.2 h168.2) | exact zsw_t (P := fun i => opn D (D 19 i).toNat) (v := fun i => D 16 (D 19 i).toNat) hopn) (by first | (rw [hnx]; exact (nxR_k hW (by omega) (by omega)).symm) | (rw [hnx]; exact (nxR_n hW (by omega) (by omega) h116).symm) | exact (nxR_t hW (by omega) (by omega) h116).symm) (by subst hwt; first | exact zsw_f (P := fun i => Ht D (D 19 i).toNat) (v := fun i => D 16 (D 19 i).toNat) (fun q => by first | exact q.1 h134 | exact h143 q.2) | exact zsw_t (P := fun i => Ht D (D 19 i).toNat) (v := fun i => D 16 (D 19 i).toNat) ⟨h134, h143⟩) (by omega)
                · refine zx_iload dL_isVerdict_119 rfl ?_
                  refine zx_goto (tgt := 126) dL_isVerdict_121 (by decide) ?_
                  refine zy_istore [zf 9 0, zi ((wP D (Ht D) : Nat) : Int), zi (wY D (Ht D)), zi op, zi ms, zi (D 19 r), zi wt, zi ((r : Nat) : Int), zi (D 19 r), zi (D 19 r)] dL_isVerdict_126 (Nat.le_of_ble_eq_true rfl) (Nat.le_of_ble_eq_true rfl) rfl rfl ?_
                  refine zx_aloadN dL_isVerdict_128 rfl rfl ?_
                  refine zx_iload dL_isVerdict_129 rfl ?_
                  refine zy_cv [zi (D 19 r)] (fX9_isRead  hfl hz hB hW (by first | exact hz _ _ | assumption | exact zr_b _ | exact zcmp_r _ _ | exact hzD _ _ | exact zr3 (tS_b hW _) | exact zr3 (lsc_b hW _ _) | exact zr3 (sc_b hW _ _) | exact rkP_zr hW _ | exact scA_zr hW _ _ | exact zr3 (cW_b hW) | exact zr3 (wS_b hW) | exact unx_zr hW _ | exact dcs_zr hW | (unfold zr at *; omega)) (by first | assumption | omega)) dL_isVerdict_131 (by decide) rfl cw_RL_122 okX9_isRead rfl (Nat.le_of_ble_eq_true rfl) ⟨Nat.le_of_ble_eq_true rfl, Nat.le_of_ble_eq_true rfl, Nat.le_of_ble_eq_true rfl, Nat.le_of_ble_eq_true rfl⟩ ?_
                  refine zx_if_eq (tgt := 200) (by first | exact hz _ _ | assumption | exact zr_b _ | exact zcmp_r _ _ | exact hzD _ _ | exact zr3 (tS_b hW _) | exact zr3 (lsc_b hW _ _) | exact zr3 (sc_b hW _ _) | exact rkP_zr hW _ | exact scA_zr hW _ _ | exact zr3 (cW_b hW) | exact zr3 (wS_b hW) | exact unx_zr hW _ | exact dcs_zr hW | (unfold zr at *; omega)) dL_isVerdict_134 (by decide) (fun h134 => ?_) (fun h134 => ?_)
                  · refine zy_iinc (b := ((r + 1 : Nat) : Int)) [zf 9 0, zi ((wP D (Ht D) : Nat) : Int), zi (wY D (Ht D)), zi op, zi ms, zi (D 19 r), zi wt, zi ((r + 1 : Nat) : Int), zi (D 19 r), zi (D 19 r)] dL_isVerdict_200 rfl (by omega) (Nat.le_of_ble_eq_true rfl) rfl rfl ?_
                    refine zx_goto (tgt := 24) dL_isVerdict_203 (by decide) ?_
                    refine zy_drop 8 [zf 9 0, zi ((wP D (Ht D) : Nat) : Int), zi (wY D (Ht D)), zi op, zi ms, zi (D 19 r), zi wt, zi ((r + 1 : Nat) : Int), zu, zi (D 19 r)] rfl ?_
                    refine zy_drop 9 [zf 9 0, zi ((wP D (Ht D) : Nat) : Int), zi (wY D (Ht D)), zi op, zi ms, zi (D 19 r), zi wt, zi ((r + 1 : Nat) : Int), zu, zu] rfl ?_
                    exact ih24 τ (r + 1) op ms (D 19 r) wt hz hB hF (by first | assumption | omega) (by subst hop; first | exact zsb_f (P := fun i => opn D (D 19 i).toNat) (fun q => by first | exact q.1.1 h134 | exact h143 q.1.2 | exact q.2 h168.2) | exact zsb_t (P := fun i => opn D (D 19 i).toNat) hopn) (by subst hms; first | exact zsw_f (P := fun i => opn D (D 19 i).toNat) (v := fun i => D 16 (D 19 i).toNat) (fun q => by first | exact q.1.1 h134 | exact h143 q.1.2 | exact q.2 h168.2) | exact zsw_t (P := fun i => opn D (D 19 i).toNat) (v := fun i => D 16 (D 19 i).toNat) hopn) (by first | (rw [hnx]; exact (nxR_k hW (by omega) (by omega)).symm) | (rw [hnx]; exact (nxR_n hW (by omega) (by omega) h116).symm) | exact (nxR_t hW (by omega) (by omega) h116).symm) (by subst hwt; first | exact zsw_f (P := fun i => Ht D (D 19 i).toNat) (v := fun i => D 16 (D 19 i).toNat) (fun q => by first | exact q.1 h134 | exact h143 q.2) | exact zsw_t (P := fun i => Ht D (D 19 i).toNat) (v := fun i => D 16 (D 19 i).toNat) ⟨h134, h143⟩) (by omega)
                  · refine zx_aloadN dL_isVerdict_137 rfl rfl ?_
                    refine zx_iload dL_isVerdict_138 rfl ?_
                    refine zy_cv [zi (D 19 r)] (fX9_isAside  hfl hz hB hW (by first | exact hz _ _ | assumption | exact zr_b _ | exact zcmp_r _ _ | exact hzD _ _ | exact zr3 (tS_b hW _) | exact zr3 (lsc_b hW _ _) | exact zr3 (sc_b hW _ _) | exact rkP_zr hW _ | exact scA_zr hW _ _ | exact zr3 (cW_b hW) | exact zr3 (wS_b hW) | exact unx_zr hW _ | exact dcs_zr hW | (unfold zr at *; omega)) (by first | assumption | omega)) dL_isVerdict_140 (by decide) rfl cw_RL_128 okX9_isAside rfl (Nat.le_of_ble_eq_true rfl) ⟨Nat.le_of_ble_eq_true rfl, Nat.le_of_ble_eq_true rfl, Nat.le_of_ble_eq_true rfl, Nat.le_of_ble_eq_true rfl⟩ ?_
                    refine zx_if_eq (tgt := 149) (by first | exact hz _ _ | assumption | exact zr_b _ | exact zcmp_r _ _ | exact hzD _ _ | exact zr3 (tS_b hW _) | exact zr3 (lsc_b hW _ _) | exact zr3 (sc_b hW _ _) | exact rkP_zr hW _ | exact scA_zr hW _ _ | exact zr3 (cW_b hW) | exact zr3 (wS_b hW) | exact unx_zr hW _ | exact dcs_zr hW | (unfold zr at *; omega)) dL_isVerdict_143 (by decide) (fun h143 => ?_) (fun h143 => ?_)
                    · refine zx_iload dL_isVerdict_149 rfl ?_
                      refine zx_aloadN dL_isVerdict_151 rfl rfl ?_
                      refine zx_iload dL_isVerdict_152 rfl ?_
                      refine zy_cv [zi (D 19 r)] (fX9_weightOf  hfl hz hB hW (by first | exact hz _ _ | assumption | exact zr_b _ | exact zcmp_r _ _ | exact hzD _ _ | exact zr3 (tS_b hW _) | exact zr3 (lsc_b hW _ _) | exact zr3 (sc_b hW _ _) | exact rkP_zr hW _ | exact scA_zr hW _ _ | exact zr3 (cW_b hW) | exact zr3 (wS_b hW) | exact unx_zr hW _ | exact dcs_zr hW | (unfold zr at *; omega)) (by first | assumption | omega)) dL_isVerdict_154 (by decide) rfl cw_RL_119 okX9_weightOf rfl (Nat.le_of_ble_eq_true rfl) ⟨Nat.le_of_ble_eq_true rfl, Nat.le_of_ble_eq_true rfl, Nat.le_of_ble_eq_true rfl, Nat.le_of_ble_eq_true rfl⟩ ?_
                      refine zx_iadd dL_isVerdict_157 ?_
                      refine zy_istore [zf 9 0, zi ((wP D (Ht D) : Nat) : Int), zi (wY D (Ht D)), zi op, zi ms, zi (D 19 r), zi (wt + (D 16 (D 19 r).toNat)), zi ((r : Nat) : Int), zi (D 19 r), zi (D 19 r)] dL_isVerdict_158 (Nat.le_of_ble_eq_true rfl) (Nat.le_of_ble_eq_true rfl) rfl rfl ?_
                      refine zx_aloadN dL_isVerdict_160 rfl rfl ?_
                      refine zx_iloadN dL_isVerdict_161 rfl rfl ?_
                      refine zx_iloadN dL_isVerdict_162 rfl rfl ?_
                      refine zx_iload dL_isVerdict_163 rfl ?_
                      refine zy_cv [zi ((wP D (Ht D) : Nat) : Int), zi (wY D (Ht D)), zi (D 19 r)] (fX9_explains  hfl hz hB hW (by first | exact hz _ _ | assumption | exact zr_b _ | exact zcmp_r _ _ | exact hzD _ _ | exact zr3 (tS_b hW _) | exact zr3 (lsc_b hW _ _) | exact zr3 (sc_b hW _ _) | exact rkP_zr hW _ | exact scA_zr hW _ _ | exact zr3 (cW_b hW) | exact zr3 (wS_b hW) | exact unx_zr hW _ | exact dcs_zr hW | (unfold zr at *; omega)) (by first | exact hz _ _ | assumption | exact zr_b _ | exact zcmp_r _ _ | exact hzD _ _ | exact zr3 (tS_b hW _) | exact zr3 (lsc_b hW _ _) | exact zr3 (sc_b hW _ _) | exact rkP_zr hW _ | exact scA_zr hW _ _ | exact zr3 (cW_b hW) | exact zr3 (wS_b hW) | exact unx_zr hW _ | exact dcs_zr hW | (unfold zr at *; omega)) (by first | exact hz _ _ | assumption | exact zr_b _ | exact zcmp_r _ _ | exact hzD _ _ | exact zr3 (tS_b hW _) | exact zr3 (lsc_b hW _ _) | exact zr3 (sc_b hW _ _) | exact rkP_zr hW _ | exact scA_zr hW _ _ | exact zr3 (cW_b hW) | exact zr3 (wS_b hW) | exact unx_zr hW _ | exact dcs_zr hW | (unfold zr at *; omega)) (by first | assumption | omega) (by first | assumption | omega) (by first | assumption | omega)) dL_isVerdict_165 (by decide) rfl cw_RL_140 okX9_explains rfl (Nat.le_of_ble_eq_true rfl) ⟨Nat.le_of_ble_eq_true rfl, Nat.le_of_ble_eq_true rfl, Nat.le_of_ble_eq_true rfl, Nat.le_of_ble_eq_true rfl⟩ ?_
                      refine zy_top (b := zb (works D (wP D (Ht D)) (wY D (Ht D)) ∧ cFit D (wP D (Ht D)) (wY D (Ht D)) (D 19 r).toNat)) rfl ?_
                      refine zx_if_eq (tgt := 174) (by first | exact hz _ _ | assumption | exact zr_b _ | exact zcmp_r _ _ | exact hzD _ _ | exact zr3 (tS_b hW _) | exact zr3 (lsc_b hW _ _) | exact zr3 (sc_b hW _ _) | exact rkP_zr hW _ | exact scA_zr hW _ _ | exact zr3 (cW_b hW) | exact zr3 (wS_b hW) | exact unx_zr hW _ | exact dcs_zr hW | (unfold zr at *; omega)) dL_isVerdict_168 (by decide) (fun h168 => ?_) (fun h168 => ?_)
                      · have h168 := zb_0.mp h168
                        have hopn : opn D (D 19 r).toNat := ⟨⟨h134, h143⟩, fun z => h168 ⟨hdec, z⟩⟩
                        refine zx_aloadN dL_isVerdict_174 rfl rfl ?_
                        refine zx_iloadN dL_isVerdict_175 rfl rfl ?_
                        refine zy_cvR [zi op] (fX9_unexplainedClue  hfl hz hB hW hP1 (by first | exact hz _ _ | assumption | exact zr_b _ | exact zcmp_r _ _ | exact hzD _ _ | exact zr3 (tS_b hW _) | exact zr3 (lsc_b hW _ _) | exact zr3 (sc_b hW _ _) | exact rkP_zr hW _ | exact scA_zr hW _ _ | exact zr3 (cW_b hW) | exact zr3 (wS_b hW) | exact unx_zr hW _ | exact dcs_zr hW | (unfold zr at *; omega))) dL_isVerdict_176 (by decide) rfl cw_RL_183 okX9_unexplainedClue rfl (Nat.le_of_ble_eq_true rfl) ⟨Nat.le_of_ble_eq_true rfl, Nat.le_of_ble_eq_true rfl, Nat.le_of_ble_eq_true rfl, Nat.le_of_ble_eq_true rfl⟩ (fun τ176 hr176 => ?_)
                        have hz176 : zOK τ176 := hr176.1
                        refine zy_top (b := D 19 r) (by rw [hop]; exact unx_r (by omega) hopn) ?_
                        refine zx_iload dL_isVerdict_179 rfl ?_
                        refine zx_icmp_eq (tgt := 186) (by first | exact hz176 _ _ | assumption | exact zr_b _ | exact zcmp_r _ _ | exact hzD _ _ | exact zr3 (tS_b hW _) | exact zr3 (lsc_b hW _ _) | exact zr3 (sc_b hW _ _) | exact rkP_zr hW _ | exact scA_zr hW _ _ | exact zr3 (cW_b hW) | exact zr3 (wS_b hW) | exact unx_zr hW _ | exact dcs_zr hW | (unfold zr at *; omega)) (by first | exact hz176 _ _ | assumption | exact zr_b _ | exact zcmp_r _ _ | exact hzD _ _ | exact zr3 (tS_b hW _) | exact zr3 (lsc_b hW _ _) | exact zr3 (sc_b hW _ _) | exact rkP_zr hW _ | exact scA_zr hW _ _ | exact zr3 (cW_b hW) | exact zr3 (wS_b hW) | exact unx_zr hW _ | exact dcs_zr hW | (unfold zr at *; omega)) dL_isVerdict_181 (by decide) (fun h181 => ?_) (fun h181 => ?_)
                        · refine zx_iload dL_isVerdict_186 rfl ?_
                          refine zx_aloadN dL_isVerdict_188 rfl rfl ?_
                          refine zx_iload dL_isVerdict_189 rfl ?_
                          refine zy_cv [zi (D 19 r)] (fX9_weightOf  hfl hz176 hr176.2.2 hW (by first | exact hz176 _ _ | assumption | exact zr_b _ | exact zcmp_r _ _ | exact hzD _ _ | exact zr3 (tS_b hW _) | exact zr3 (lsc_b hW _ _) | exact zr3 (sc_b hW _ _) | exact rkP_zr hW _ | exact scA_zr hW _ _ | exact zr3 (cW_b hW) | exact zr3 (wS_b hW) | exact unx_zr hW _ | exact dcs_zr hW | (unfold zr at *; omega)) (by first | assumption | omega)) dL_isVerdict_191 (by decide) rfl cw_RL_119 okX9_weightOf rfl (Nat.le_of_ble_eq_true rfl) ⟨Nat.le_of_ble_eq_true rfl, Nat.le_of_ble_eq_true rfl, Nat.le_of_ble_eq_true rfl, Nat.le_of_ble_eq_true rfl⟩ ?_
                          refine zx_iadd dL_isVerdict_194 ?_
                          refine zy_istore [zf 9 0, zi ((wP D (Ht D) : Nat) : Int), zi (wY D (Ht D)), zi op, zi (ms + (D 16 (D 19 r).toNat)), zi (D 19 r), zi (wt + (D 16 (D 19 r).toNat)), zi ((r : Nat) : Int), zi (D 19 r), zi (D 19 r)] dL_isVerdict_195 (Nat.le_of_ble_eq_true rfl) (Nat.le_of_ble_eq_true rfl) rfl rfl ?_
                          refine zy_iinc (b := op + 1) [zf 9 0, zi ((wP D (Ht D) : Nat) : Int), zi (wY D (Ht D)), zi (op + 1), zi (ms + (D 16 (D 19 r).toNat)), zi (D 19 r), zi (wt + (D 16 (D 19 r).toNat)), zi ((r : Nat) : Int), zi (D 19 r), zi (D 19 r)] dL_isVerdict_197 rfl (by omega) (Nat.le_of_ble_eq_true rfl) rfl rfl ?_
                          refine zy_iinc (b := ((r + 1 : Nat) : Int)) [zf 9 0, zi ((wP D (Ht D) : Nat) : Int), zi (wY D (Ht D)), zi (op + 1), zi (ms + (D 16 (D 19 r).toNat)), zi (D 19 r), zi (wt + (D 16 (D 19 r).toNat)), zi ((r + 1 : Nat) : Int), zi (D 19 r), zi (D 19 r)] dL_isVerdict_200 rfl (by omega) (Nat.le_of_ble_eq_true rfl) rfl rfl ?_
                          refine zx_goto (tgt := 24) dL_isVerdict_203 (by decide) ?_
                          refine zy_drop 8 [zf 9 0, zi ((wP D (Ht D) : Nat) : Int), zi (wY D (Ht D)), zi (op + 1), zi (ms + (D 16 (D 19 r).toNat)), zi (D 19 r), zi (wt + (D 16 (D 19 r).toNat)), zi ((r + 1 : Nat) : Int), zu, zi (D 19 r)] rfl ?_
                          refine zy_drop 9 [zf 9 0, zi ((wP D (Ht D) : Nat) : Int), zi (wY D (Ht D)), zi (op + 1), zi (ms + (D 16 (D 19 r).toNat)), zi (D 19 r), zi (wt + (D 16 (D 19 r).toNat)), zi ((r + 1 : Nat) : Int), zu, zu] rfl ?_
                          exact ih24 τ176 (r + 1) (op + 1) (ms + (D 16 (D 19 r).toNat)) (D 19 r) (wt + (D 16 (D 19 r).toNat)) hz176 hr176.2.2 (zJ hF hr176.2.1) (by first | assumption | omega) (by subst hop; first | exact zsb_f (P := fun i => opn D (D 19 i).toNat) (fun q => by first | exact q.1.1 h134 | exact h143 q.1.2 | exact q.2 h168.2) | exact zsb_t (P := fun i => opn D (D 19 i).toNat) hopn) (by subst hms; first | exact zsw_f (P := fun i => opn D (D 19 i).toNat) (v := fun i => D 16 (D 19 i).toNat) (fun q => by first | exact q.1.1 h134 | exact h143 q.1.2 | exact q.2 h168.2) | exact zsw_t (P := fun i => opn D (D 19 i).toNat) (v := fun i => D 16 (D 19 i).toNat) hopn) (by first | (rw [hnx]; exact (nxR_k hW (by omega) (by omega)).symm) | (rw [hnx]; exact (nxR_n hW (by omega) (by omega) h116).symm) | exact (nxR_t hW (by omega) (by omega) h116).symm) (by subst hwt; first | exact zsw_f (P := fun i => Ht D (D 19 i).toNat) (v := fun i => D 16 (D 19 i).toNat) (fun q => by first | exact q.1 h134 | exact h143 q.2) | exact zsw_t (P := fun i => Ht D (D 19 i).toNat) (v := fun i => D 16 (D 19 i).toNat) ⟨h134, h143⟩) (by omega)
                        · exact absurd rfl h181
                      · have h168 := zb_n.mp h168
                        refine zx_goto (tgt := 200) dL_isVerdict_171 (by decide) ?_
                        refine zy_iinc (b := ((r + 1 : Nat) : Int)) [zf 9 0, zi ((wP D (Ht D) : Nat) : Int), zi (wY D (Ht D)), zi op, zi ms, zi (D 19 r), zi (wt + (D 16 (D 19 r).toNat)), zi ((r + 1 : Nat) : Int), zi (D 19 r), zi (D 19 r)] dL_isVerdict_200 rfl (by omega) (Nat.le_of_ble_eq_true rfl) rfl rfl ?_
                        refine zx_goto (tgt := 24) dL_isVerdict_203 (by decide) ?_
                        refine zy_drop 8 [zf 9 0, zi ((wP D (Ht D) : Nat) : Int), zi (wY D (Ht D)), zi op, zi ms, zi (D 19 r), zi (wt + (D 16 (D 19 r).toNat)), zi ((r + 1 : Nat) : Int), zu, zi (D 19 r)] rfl ?_
                        refine zy_drop 9 [zf 9 0, zi ((wP D (Ht D) : Nat) : Int), zi (wY D (Ht D)), zi op, zi ms, zi (D 19 r), zi (wt + (D 16 (D 19 r).toNat)), zi ((r + 1 : Nat) : Int), zu, zu] rfl ?_
                        exact ih24 τ (r + 1) op ms (D 19 r) (wt + (D 16 (D 19 r).toNat)) hz hB hF (by first | assumption | omega) (by subst hop; first | exact zsb_f (P := fun i => opn D (D 19 i).toNat) (fun q => by first | exact q.1.1 h134 | exact h143 q.1.2 | exact q.2 h168.2) | exact zsb_t (P := fun i => opn D (D 19 i).toNat) hopn) (by subst hms; first | exact zsw_f (P := fun i => opn D (D 19 i).toNat) (v := fun i => D 16 (D 19 i).toNat) (fun q => by first | exact q.1.1 h134 | exact h143 q.1.2 | exact q.2 h168.2) | exact zsw_t (P := fun i => opn D (D 19 i).toNat) (v := fun i => D 16 (D 19 i).toNat) hopn) (by first | (rw [hnx]; exact (nxR_k hW (by omega) (by omega)).symm) | (rw [hnx]; exact (nxR_n hW (by omega) (by omega) h116).symm) | exact (nxR_t hW (by omega) (by omega) h116).symm) (by subst hwt; first | exact zsw_f (P := fun i => Ht D (D 19 i).toNat) (v := fun i => D 16 (D 19 i).toNat) (fun q => by first | exact q.1 h134 | exact h143 q.2) | exact zsw_t (P := fun i => Ht D (D 19 i).toNat) (v := fun i => D 16 (D 19 i).toNat) ⟨h134, h143⟩) (by omega)
                    · refine zx_goto (tgt := 200) dL_isVerdict_146 (by decide) ?_
                      refine zy_iinc (b := ((r + 1 : Nat) : Int)) [zf 9 0, zi ((wP D (Ht D) : Nat) : Int), zi (wY D (Ht D)), zi op, zi ms, zi (D 19 r), zi wt, zi ((r + 1 : Nat) : Int), zi (D 19 r), zi (D 19 r)] dL_isVerdict_200 rfl (by omega) (Nat.le_of_ble_eq_true rfl) rfl rfl ?_
                      refine zx_goto (tgt := 24) dL_isVerdict_203 (by decide) ?_
                      refine zy_drop 8 [zf 9 0, zi ((wP D (Ht D) : Nat) : Int), zi (wY D (Ht D)), zi op, zi ms, zi (D 19 r), zi wt, zi ((r + 1 : Nat) : Int), zu, zi (D 19 r)] rfl ?_
                      refine zy_drop 9 [zf 9 0, zi ((wP D (Ht D) : Nat) : Int), zi (wY D (Ht D)), zi op, zi ms, zi (D 19 r), zi wt, zi ((r + 1 : Nat) : Int), zu, zu] rfl ?_
                      exact ih24 τ (r + 1) op ms (D 19 r) wt hz hB hF (by first | assumption | omega) (by subst hop; first | exact zsb_f (P := fun i => opn D (D 19 i).toNat) (fun q => by first | exact q.1.1 h134 | exact h143 q.1.2 | exact q.2 h168.2) | exact zsb_t (P := fun i => opn D (D 19 i).toNat) hopn) (by subst hms; first | exact zsw_f (P := fun i => opn D (D 19 i).toNat) (v := fun i => D 16 (D 19 i).toNat) (fun q => by first | exact q.1.1 h134 | exact h143 q.1.2 | exact q.2 h168.2) | exact zsw_t (P := fun i => opn D (D 19 i).toNat) (v := fun i => D 16 (D 19 i).toNat) hopn) (by first | (rw [hnx]; exact (nxR_k hW (by omega) (by omega)).symm) | (rw [hnx]; exact (nxR_n hW (by omega) (by omega) h116).symm) | exact (nxR_t hW (by omega) (by omega) h116).symm) (by subst hwt; first | exact zsw_f (P := fun i => Ht D (D 19 i).toNat) (v := fun i => D 16 (D 19 i).toNat) (fun q => by first | exact q.1 h134 | exact h143 q.2) | exact zsw_t (P := fun i => Ht D (D 19 i).toNat) (v := fun i => D 16 (D 19 i).toNat) ⟨h134, h143⟩) (by omega)
            · refine zx_aloadN dL_isVerdict_81 rfl rfl ?_
              refine zx_iload dL_isVerdict_82 rfl ?_
              refine zy_cv [zi (D 19 r)] (fX9_pageOf  hfl hz hB hW (by first | exact hz _ _ | assumption | exact zr_b _ | exact zcmp_r _ _ | exact hzD _ _ | exact zr3 (tS_b hW _) | exact zr3 (lsc_b hW _ _) | exact zr3 (sc_b hW _ _) | exact rkP_zr hW _ | exact scA_zr hW _ _ | exact zr3 (cW_b hW) | exact zr3 (wS_b hW) | exact unx_zr hW _ | exact dcs_zr hW | (unfold zr at *; omega)) (by first | assumption | omega)) dL_isVerdict_84 (by decide) rfl cw_RL_104 okX9_pageOf rfl (Nat.le_of_ble_eq_true rfl) ⟨Nat.le_of_ble_eq_true rfl, Nat.le_of_ble_eq_true rfl, Nat.le_of_ble_eq_true rfl, Nat.le_of_ble_eq_true rfl⟩ ?_
              refine zx_aloadN dL_isVerdict_87 rfl rfl ?_
              refine zx_iload dL_isVerdict_88 rfl ?_
              refine zy_cv [zi (D 19 r)] (fX9_pageOf  hfl hz hB hW (by first | exact hz _ _ | assumption | exact zr_b _ | exact zcmp_r _ _ | exact hzD _ _ | exact zr3 (tS_b hW _) | exact zr3 (lsc_b hW _ _) | exact zr3 (sc_b hW _ _) | exact rkP_zr hW _ | exact scA_zr hW _ _ | exact zr3 (cW_b hW) | exact zr3 (wS_b hW) | exact unx_zr hW _ | exact dcs_zr hW | (unfold zr at *; omega)) (by first | assumption | omega)) dL_isVerdict_90 (by decide) rfl cw_RL_104 okX9_pageOf rfl (Nat.le_of_ble_eq_true rfl) ⟨Nat.le_of_ble_eq_true rfl, Nat.le_of_ble_eq_true rfl, Nat.le_of_ble_eq_true rfl, Nat.le_of_ble_eq_true rfl⟩ ?_
              refine zx_icmp_ne (tgt := 105) (by first | exact hz _ _ | assumption | exact zr_b _ | exact zcmp_r _ _ | exact hzD _ _ | exact zr3 (tS_b hW _) | exact zr3 (lsc_b hW _ _) | exact zr3 (sc_b hW _ _) | exact rkP_zr hW _ | exact scA_zr hW _ _ | exact zr3 (cW_b hW) | exact zr3 (wS_b hW) | exact unx_zr hW _ | exact dcs_zr hW | (unfold zr at *; omega)) (by first | exact hz _ _ | assumption | exact zr_b _ | exact zcmp_r _ _ | exact hzD _ _ | exact zr3 (tS_b hW _) | exact zr3 (lsc_b hW _ _) | exact zr3 (sc_b hW _ _) | exact rkP_zr hW _ | exact scA_zr hW _ _ | exact zr3 (cW_b hW) | exact zr3 (wS_b hW) | exact unx_zr hW _ | exact dcs_zr hW | (unfold zr at *; omega)) dL_isVerdict_93 (by decide) (fun h93 => ?_) (fun h93 => ?_)
              · refine zx_iload dL_isVerdict_105 rfl ?_
                refine zx_if_ge (tgt := 124) (by first | exact hz _ _ | assumption | exact zr_b _ | exact zcmp_r _ _ | exact hzD _ _ | exact zr3 (tS_b hW _) | exact zr3 (lsc_b hW _ _) | exact zr3 (sc_b hW _ _) | exact rkP_zr hW _ | exact scA_zr hW _ _ | exact zr3 (cW_b hW) | exact zr3 (wS_b hW) | exact unx_zr hW _ | exact dcs_zr hW | (unfold zr at *; omega)) dL_isVerdict_107 (by decide) (fun h107 => ?_) (fun h107 => ?_)
                · refine zx_iload dL_isVerdict_124 rfl ?_
                  refine zy_istore [zf 9 0, zi ((wP D (Ht D) : Nat) : Int), zi (wY D (Ht D)), zi op, zi ms, zi nx, zi wt, zi ((r : Nat) : Int), zi (D 19 r), zi (D 19 r)] dL_isVerdict_126 (Nat.le_of_ble_eq_true rfl) (Nat.le_of_ble_eq_true rfl) rfl rfl ?_
                  refine zx_aloadN dL_isVerdict_128 rfl rfl ?_
                  refine zx_iload dL_isVerdict_129 rfl ?_
                  refine zy_cv [zi (D 19 r)] (fX9_isRead  hfl hz hB hW (by first | exact hz _ _ | assumption | exact zr_b _ | exact zcmp_r _ _ | exact hzD _ _ | exact zr3 (tS_b hW _) | exact zr3 (lsc_b hW _ _) | exact zr3 (sc_b hW _ _) | exact rkP_zr hW _ | exact scA_zr hW _ _ | exact zr3 (cW_b hW) | exact zr3 (wS_b hW) | exact unx_zr hW _ | exact dcs_zr hW | (unfold zr at *; omega)) (by first | assumption | omega)) dL_isVerdict_131 (by decide) rfl cw_RL_122 okX9_isRead rfl (Nat.le_of_ble_eq_true rfl) ⟨Nat.le_of_ble_eq_true rfl, Nat.le_of_ble_eq_true rfl, Nat.le_of_ble_eq_true rfl, Nat.le_of_ble_eq_true rfl⟩ ?_
                  refine zx_if_eq (tgt := 200) (by first | exact hz _ _ | assumption | exact zr_b _ | exact zcmp_r _ _ | exact hzD _ _ | exact zr3 (tS_b hW _) | exact zr3 (lsc_b hW _ _) | exact zr3 (sc_b hW _ _) | exact rkP_zr hW _ | exact scA_zr hW _ _ | exact zr3 (cW_b hW) | exact zr3 (wS_b hW) | exact unx_zr hW _ | exact dcs_zr hW | (unfold zr at *; omega)) dL_isVerdict_134 (by decide) (fun h134 => ?_) (fun h134 => ?_)
                  · refine zy_iinc (b := ((r + 1 : Nat) : Int)) [zf 9 0, zi ((wP D (Ht D) : Nat) : Int), zi (wY D (Ht D)), zi op, zi ms, zi nx, zi wt, zi ((r + 1 : Nat) : Int), zi (D 19 r), zi (D 19 r)] dL_isVerdict_200 rfl (by omega) (Nat.le_of_ble_eq_true rfl) rfl rfl ?_
                    refine zx_goto (tgt := 24) dL_isVerdict_203 (by decide) ?_
                    refine zy_drop 8 [zf 9 0, zi ((wP D (Ht D) : Nat) : Int), zi (wY D (Ht D)), zi op, zi ms, zi nx, zi wt, zi ((r + 1 : Nat) : Int), zu, zi (D 19 r)] rfl ?_
                    refine zy_drop 9 [zf 9 0, zi ((wP D (Ht D) : Nat) : Int), zi (wY D (Ht D)), zi op, zi ms, zi nx, zi wt, zi ((r + 1 : Nat) : Int), zu, zu] rfl ?_
                    exact ih24 τ (r + 1) op ms nx wt hz hB hF (by first | assumption | omega) (by subst hop; first | exact zsb_f (P := fun i => opn D (D 19 i).toNat) (fun q => by first | exact q.1.1 h134 | exact h143 q.1.2 | exact q.2 h168.2) | exact zsb_t (P := fun i => opn D (D 19 i).toNat) hopn) (by subst hms; first | exact zsw_f (P := fun i => opn D (D 19 i).toNat) (v := fun i => D 16 (D 19 i).toNat) (fun q => by first | exact q.1.1 h134 | exact h143 q.1.2 | exact q.2 h168.2) | exact zsw_t (P := fun i => opn D (D 19 i).toNat) (v := fun i => D 16 (D 19 i).toNat) hopn) (by first | (rw [hnx]; exact (nxR_k hW (by omega) (by omega)).symm) | (rw [hnx]; exact (nxR_n hW (by omega) (by omega) h116).symm) | exact (nxR_t hW (by omega) (by omega) h116).symm) (by subst hwt; first | exact zsw_f (P := fun i => Ht D (D 19 i).toNat) (v := fun i => D 16 (D 19 i).toNat) (fun q => by first | exact q.1 h134 | exact h143 q.2) | exact zsw_t (P := fun i => Ht D (D 19 i).toNat) (v := fun i => D 16 (D 19 i).toNat) ⟨h134, h143⟩) (by omega)
                  · refine zx_aloadN dL_isVerdict_137 rfl rfl ?_
                    refine zx_iload dL_isVerdict_138 rfl ?_
                    refine zy_cv [zi (D 19 r)] (fX9_isAside  hfl hz hB hW (by first | exact hz _ _ | assumption | exact zr_b _ | exact zcmp_r _ _ | exact hzD _ _ | exact zr3 (tS_b hW _) | exact zr3 (lsc_b hW _ _) | exact zr3 (sc_b hW _ _) | exact rkP_zr hW _ | exact scA_zr hW _ _ | exact zr3 (cW_b hW) | exact zr3 (wS_b hW) | exact unx_zr hW _ | exact dcs_zr hW | (unfold zr at *; omega)) (by first | assumption | omega)) dL_isVerdict_140 (by decide) rfl cw_RL_128 okX9_isAside rfl (Nat.le_of_ble_eq_true rfl) ⟨Nat.le_of_ble_eq_true rfl, Nat.le_of_ble_eq_true rfl, Nat.le_of_ble_eq_true rfl, Nat.le_of_ble_eq_true rfl⟩ ?_
                    refine zx_if_eq (tgt := 149) (by first | exact hz _ _ | assumption | exact zr_b _ | exact zcmp_r _ _ | exact hzD _ _ | exact zr3 (tS_b hW _) | exact zr3 (lsc_b hW _ _) | exact zr3 (sc_b hW _ _) | exact rkP_zr hW _ | exact scA_zr hW _ _ | exact zr3 (cW_b hW) | exact zr3 (wS_b hW) | exact unx_zr hW _ | exact dcs_zr hW | (unfold zr at *; omega)) dL_isVerdict_143 (by decide) (fun h143 => ?_) (fun h143 => ?_)
                    · refine zx_iload dL_isVerdict_149 rfl ?_
                      refine zx_aloadN dL_isVerdict_151 rfl rfl ?_
                      refine zx_iload dL_isVerdict_152 rfl ?_
                      refine zy_cv [zi (D 19 r)] (fX9_weightOf  hfl hz hB hW (by first | exact hz _ _ | assumption | exact zr_b _ | exact zcmp_r _ _ | exact hzD _ _ | exact zr3 (tS_b hW _) | exact zr3 (lsc_b hW _ _) | exact zr3 (sc_b hW _ _) | exact rkP_zr hW _ | exact scA_zr hW _ _ | exact zr3 (cW_b hW) | exact zr3 (wS_b hW) | exact unx_zr hW _ | exact dcs_zr hW | (unfold zr at *; omega)) (by first | assumption | omega)) dL_isVerdict_154 (by decide) rfl cw_RL_119 okX9_weightOf rfl (Nat.le_of_ble_eq_true rfl) ⟨Nat.le_of_ble_eq_true rfl, Nat.le_of_ble_eq_true rfl, Nat.le_of_ble_eq_true rfl, Nat.le_of_ble_eq_true rfl⟩ ?_
                      refine zx_iadd dL_isVerdict_157 ?_
                      refine zy_istore [zf 9 0, zi ((wP D (Ht D) : Nat) : Int), zi (wY D (Ht D)), zi op, zi ms, zi nx, zi (wt + (D 16 (D 19 r).toNat)), zi ((r : Nat) : Int), zi (D 19 r), zi (D 19 r)] dL_isVerdict_158 (Nat.le_of_ble_eq_true rfl) (Nat.le_of_ble_eq_true rfl) rfl rfl ?_
                      refine zx_aloadN dL_isVerdict_160 rfl rfl ?_
                      refine zx_iloadN dL_isVerdict_161 rfl rfl ?_
                      refine zx_iloadN dL_isVerdict_162 rfl rfl ?_
                      refine zx_iload dL_isVerdict_163 rfl ?_
                      refine zy_cv [zi ((wP D (Ht D) : Nat) : Int), zi (wY D (Ht D)), zi (D 19 r)] (fX9_explains  hfl hz hB hW (by first | exact hz _ _ | assumption | exact zr_b _ | exact zcmp_r _ _ | exact hzD _ _ | exact zr3 (tS_b hW _) | exact zr3 (lsc_b hW _ _) | exact zr3 (sc_b hW _ _) | exact rkP_zr hW _ | exact scA_zr hW _ _ | exact zr3 (cW_b hW) | exact zr3 (wS_b hW) | exact unx_zr hW _ | exact dcs_zr hW | (unfold zr at *; omega)) (by first | exact hz _ _ | assumption | exact zr_b _ | exact zcmp_r _ _ | exact hzD _ _ | exact zr3 (tS_b hW _) | exact zr3 (lsc_b hW _ _) | exact zr3 (sc_b hW _ _) | exact rkP_zr hW _ | exact scA_zr hW _ _ | exact zr3 (cW_b hW) | exact zr3 (wS_b hW) | exact unx_zr hW _ | exact dcs_zr hW | (unfold zr at *; omega)) (by first | exact hz _ _ | assumption | exact zr_b _ | exact zcmp_r _ _ | exact hzD _ _ | exact zr3 (tS_b hW _) | exact zr3 (lsc_b hW _ _) | exact zr3 (sc_b hW _ _) | exact rkP_zr hW _ | exact scA_zr hW _ _ | exact zr3 (cW_b hW) | exact zr3 (wS_b hW) | exact unx_zr hW _ | exact dcs_zr hW | (unfold zr at *; omega)) (by first | assumption | omega) (by first | assumption | omega) (by first | assumption | omega)) dL_isVerdict_165 (by decide) rfl cw_RL_140 okX9_explains rfl (Nat.le_of_ble_eq_true rfl) ⟨Nat.le_of_ble_eq_true rfl, Nat.le_of_ble_eq_true rfl, Nat.le_of_ble_eq_true rfl, Nat.le_of_ble_eq_true rfl⟩ ?_
                      refine zy_top (b := zb (works D (wP D (Ht D)) (wY D (Ht D)) ∧ cFit D (wP D (Ht D)) (wY D (Ht D)) (D 19 r).toNat)) rfl ?_
                      refine zx_if_eq (tgt := 174) (by first | exact hz _ _ | assumption | exact zr_b _ | exact zcmp_r _ _ | exact hzD _ _ | exact zr3 (tS_b hW _) | exact zr3 (lsc_b hW _ _) | exact zr3 (sc_b hW _ _) | exact rkP_zr hW _ | exact scA_zr hW _ _ | exact zr3 (cW_b hW) | exact zr3 (wS_b hW) | exact unx_zr hW _ | exact dcs_zr hW | (unfold zr at *; omega)) dL_isVerdict_168 (by decide) (fun h168 => ?_) (fun h168 => ?_)
                      · have h168 := zb_0.mp h168
                        have hopn : opn D (D 19 r).toNat := ⟨⟨h134, h143⟩, fun z => h168 ⟨hdec, z⟩⟩
                        refine zx_aloadN dL_isVerdict_174 rfl rfl ?_
                        refine zx_iloadN dL_isVerdict_175 rfl rfl ?_
                        refine zy_cvR [zi op] (fX9_unexplainedClue  hfl hz hB hW hP1 (by first | exact hz _ _ | assumption | exact zr_b _ | exact zcmp_r _ _ | exact hzD _ _ | exact zr3 (tS_b hW _) | exact zr3 (lsc_b hW _ _) | exact zr3 (sc_b hW _ _) | exact rkP_zr hW _ | exact scA_zr hW _ _ | exact zr3 (cW_b hW) | exact zr3 (wS_b hW) | exact unx_zr hW _ | exact dcs_zr hW | (unfold zr at *; omega))) dL_isVerdict_176 (by decide) rfl cw_RL_183 okX9_unexplainedClue rfl (Nat.le_of_ble_eq_true rfl) ⟨Nat.le_of_ble_eq_true rfl, Nat.le_of_ble_eq_true rfl, Nat.le_of_ble_eq_true rfl, Nat.le_of_ble_eq_true rfl⟩ (fun τ176 hr176 => ?_)
                        have hz176 : zOK τ176 := hr176.1
                        refine zy_top (b := D 19 r) (by rw [hop]; exact unx_r (by omega) hopn) ?_
                        refine zx_iload dL_isVerdict_179 rfl ?_
                        refine zx_icmp_eq (tgt := 186) (by first | exact hz176 _ _ | assumption | exact zr_b _ | exact zcmp_r _ _ | exact hzD _ _ | exact zr3 (tS_b hW _) | exact zr3 (lsc_b hW _ _) | exact zr3 (sc_b hW _ _) | exact rkP_zr hW _ | exact scA_zr hW _ _ | exact zr3 (cW_b hW) | exact zr3 (wS_b hW) | exact unx_zr hW _ | exact dcs_zr hW | (unfold zr at *; omega)) (by first | exact hz176 _ _ | assumption | exact zr_b _ | exact zcmp_r _ _ | exact hzD _ _ | exact zr3 (tS_b hW _) | exact zr3 (lsc_b hW _ _) | exact zr3 (sc_b hW _ _) | exact rkP_zr hW _ | exact scA_zr hW _ _ | exact zr3 (cW_b hW) | exact zr3 (wS_b hW) | exact unx_zr hW _ | exact dcs_zr hW | (unfold zr at *; omega)) dL_isVerdict_181 (by decide) (fun h181 => ?_) (fun h181 => ?_)
                        · refine zx_iload dL_isVerdict_186 rfl ?_
                          refine zx_aloadN dL_isVerdict_188 rfl rfl ?_
                          refine zx_iload dL_isVerdict_189 rfl ?_
                          refine zy_cv [zi (D 19 r)] (fX9_weightOf  hfl hz176 hr176.2.2 hW (by first | exact hz176 _ _ | assumption | exact zr_b _ | exact zcmp_r _ _ | exact hzD _ _ | exact zr3 (tS_b hW _) | exact zr3 (lsc_b hW _ _) | exact zr3 (sc_b hW _ _) | exact rkP_zr hW _ | exact scA_zr hW _ _ | exact zr3 (cW_b hW) | exact zr3 (wS_b hW) | exact unx_zr hW _ | exact dcs_zr hW | (unfold zr at *; omega)) (by first | assumption | omega)) dL_isVerdict_191 (by decide) rfl cw_RL_119 okX9_weightOf rfl (Nat.le_of_ble_eq_true rfl) ⟨Nat.le_of_ble_eq_true rfl, Nat.le_of_ble_eq_true rfl, Nat.le_of_ble_eq_true rfl, Nat.le_of_ble_eq_true rfl⟩ ?_
                          refine zx_iadd dL_isVerdict_194 ?_
                          refine zy_istore [zf 9 0, zi ((wP D (Ht D) : Nat) : Int), zi (wY D (Ht D)), zi op, zi (ms + (D 16 (D 19 r).toNat)), zi nx, zi (wt + (D 16 (D 19 r).toNat)), zi ((r : Nat) : Int), zi (D 19 r), zi (D 19 r)] dL_isVerdict_195 (Nat.le_of_ble_eq_true rfl) (Nat.le_of_ble_eq_true rfl) rfl rfl ?_
                          refine zy_iinc (b := op + 1) [zf 9 0, zi ((wP D (Ht D) : Nat) : Int), zi (wY D (Ht D)), zi (op + 1), zi (ms + (D 16 (D 19 r).toNat)), zi nx, zi (wt + (D 16 (D 19 r).toNat)), zi ((r : Nat) : Int), zi (D 19 r), zi (D 19 r)] dL_isVerdict_197 rfl (by omega) (Nat.le_of_ble_eq_true rfl) rfl rfl ?_
                          refine zy_iinc (b := ((r + 1 : Nat) : Int)) [zf 9 0, zi ((wP D (Ht D) : Nat) : Int), zi (wY D (Ht D)), zi (op + 1), zi (ms + (D 16 (D 19 r).toNat)), zi nx, zi (wt + (D 16 (D 19 r).toNat)), zi ((r + 1 : Nat) : Int), zi (D 19 r), zi (D 19 r)] dL_isVerdict_200 rfl (by omega) (Nat.le_of_ble_eq_true rfl) rfl rfl ?_
                          refine zx_goto (tgt := 24) dL_isVerdict_203 (by decide) ?_
                          refine zy_drop 8 [zf 9 0, zi ((wP D (Ht D) : Nat) : Int), zi (wY D (Ht D)), zi (op + 1), zi (ms + (D 16 (D 19 r).toNat)), zi nx, zi (wt + (D 16 (D 19 r).toNat)), zi ((r + 1 : Nat) : Int), zu, zi (D 19 r)] rfl ?_
                          refine zy_drop 9 [zf 9 0, zi ((wP D (Ht D) : Nat) : Int), zi (wY D (Ht D)), zi (op + 1), zi (ms + (D 16 (D 19 r).toNat)), zi nx, zi (wt + (D 16 (D 19 r).toNat)), zi ((r + 1 : Nat) : Int), zu, zu] rfl ?_
                          exact ih24 τ176 (r + 1) (op + 1) (ms + (D 16 (D 19 r).toNat)) nx (wt + (D 16 (D 19 r).toNat)) hz176 hr176.2.2 (zJ hF hr176.2.1) (by first | assumption | omega) (by subst hop; first | exact zsb_f (P := fun i => opn D (D 19 i).toNat) (fun q => by first | exact q.1.1 h134 | exact h143 q.1.2 | exact q.2 h168.2) | exact zsb_t (P := fun i => opn D (D 19 i).toNat) hopn) (by subst hms; first | exact zsw_f (P := fun i => opn D (D 19 i).toNat) (v := fun i => D 16 (D 19 i).toNat) (fun q => by first | exact q.1.1 h134 | exact h143 q.1.2 | exact q.2 h168.2) | exact zsw_t (P := fun i => opn D (D 19 i).toNat) (v := fun i => D 16 (D 19 i).toNat) hopn) (by first | (rw [hnx]; exact (nxR_k hW (by omega) (by omega)).symm) | (rw [hnx]; exact (nxR_n hW (by omega) (by omega) h116).symm) | exact (nxR_t hW (by omega) (by omega) h116).symm) (by subst hwt; first | exact zsw_f (P := fun i => Ht D (D 19 i).toNat) (v := fun i => D 16 (D 19 i).toNat) (fun q => by first | exact q.1 h134 | exact h143 q.2) | exact zsw_t (P := fun i => Ht D (D 19 i).toNat) (v := fun i => D 16 (D 19 i).toNat) ⟨h134, h143⟩) (by omega)
                        · exact absurd rfl h181
                      · have h168 := zb_n.mp h168
                        refine zx_goto (tgt := 200) dL_isVerdict_171 (by decide) ?_
                        refine zy_iinc (b := ((r + 1 : Nat) : Int)) [zf 9 0, zi ((wP D (Ht D) : Nat) : Int), zi (wY D (Ht D)), zi op, zi ms, zi nx, zi (wt + (D 16 (D 19 r).toNat)), zi ((r + 1 : Nat) : Int), zi (D 19 r), zi (D 19 r)] dL_isVerdict_200 rfl (by omega) (Nat.le_of_ble_eq_true rfl) rfl rfl ?_
                        refine zx_goto (tgt := 24) dL_isVerdict_203 (by decide) ?_
                        refine zy_drop 8 [zf 9 0, zi ((wP D (Ht D) : Nat) : Int), zi (wY D (Ht D)), zi op, zi ms, zi nx, zi (wt + (D 16 (D 19 r).toNat)), zi ((r + 1 : Nat) : Int), zu, zi (D 19 r)] rfl ?_
                        refine zy_drop 9 [zf 9 0, zi ((wP D (Ht D) : Nat) : Int), zi (wY D (Ht D)), zi op, zi ms, zi nx, zi (wt + (D 16 (D 19 r).toNat)), zi ((r + 1 : Nat) : Int), zu, zu] rfl ?_
                        exact ih24 τ (r + 1) op ms nx (wt + (D 16 (D 19 r).toNat)) hz hB hF (by first | assumption | omega) (by subst hop; first | exact zsb_f (P := fun i => opn D (D 19 i).toNat) (fun q => by first | exact q.1.1 h134 | exact h143 q.1.2 | exact q.2 h168.2) | exact zsb_t (P := fun i => opn D (D 19 i).toNat) hopn) (by subst hms; first | exact zsw_f (P := fun i => opn D (D 19 i).toNat) (v := fun i => D 16 (D 19 i).toNat) (fun q => by first | exact q.1.1 h134 | exact h143 q.1.2 | exact q.2 h168.2) | exact zsw_t (P := fun i => opn D (D 19 i).toNat) (v := fun i => D 16 (D 19 i).toNat) hopn) (by first | (rw [hnx]; exact (nxR_k hW (by omega) (by omega)).symm) | (rw [hnx]; exact (nxR_n hW (by omega) (by omega) h116).symm) | exact (nxR_t hW (by omega) (by omega) h116).symm) (by subst hwt; first | exact zsw_f (P := fun i => Ht D (D 19 i).toNat) (v := fun i => D 16 (D 19 i).toNat) (fun q => by first | exact q.1 h134 | exact h143 q.2) | exact zsw_t (P := fun i => Ht D (D 19 i).toNat) (v := fun i => D 16 (D 19 i).toNat) ⟨h134, h143⟩) (by omega)
                    · refine zx_goto (tgt := 200) dL_isVerdict_146 (by decide) ?_
                      refine zy_iinc (b := ((r + 1 : Nat) : Int)) [zf 9 0, zi ((wP D (Ht D) : Nat) : Int), zi (wY D (Ht D)), zi op, zi ms, zi nx, zi wt, zi ((r + 1 : Nat) : Int), zi (D 19 r), zi (D 19 r)] dL_isVerdict_200 rfl (by omega) (Nat.le_of_ble_eq_true rfl) rfl rfl ?_
                      refine zx_goto (tgt := 24) dL_isVerdict_203 (by decide) ?_
                      refine zy_drop 8 [zf 9 0, zi ((wP D (Ht D) : Nat) : Int), zi (wY D (Ht D)), zi op, zi ms, zi nx, zi wt, zi ((r + 1 : Nat) : Int), zu, zi (D 19 r)] rfl ?_
                      refine zy_drop 9 [zf 9 0, zi ((wP D (Ht D) : Nat) : Int), zi (wY D (Ht D)), zi op, zi ms, zi nx, zi wt, zi ((r + 1 : Nat) : Int), zu, zu] rfl ?_
                      exact ih24 τ (r + 1) op ms nx wt hz hB hF (by first | assumption | omega) (by subst hop; first | exact zsb_f (P := fun i => opn D (D 19 i).toNat) (fun q => by first | exact q.1.1 h134 | exact h143 q.1.2 | exact q.2 h168.2) | exact zsb_t (P := fun i => opn D (D 19 i).toNat) hopn) (by subst hms; first | exact zsw_f (P := fun i => opn D (D 19 i).toNat) (v := fun i => D 16 (D 19 i).toNat) (fun q => by first | exact q.1.1 h134 | exact h143 q.1.2 | exact q.2 h168.2) | exact zsw_t (P := fun i => opn D (D 19 i).toNat) (v := fun i => D 16 (D 19 i).toNat) hopn) (by first | (rw [hnx]; exact (nxR_k hW (by omega) (by omega)).symm) | (rw [hnx]; exact (nxR_n hW (by omega) (by omega) h116).symm) | exact (nxR_t hW (by omega) (by omega) h116).symm) (by subst hwt; first | exact zsw_f (P := fun i => Ht D (D 19 i).toNat) (v := fun i => D 16 (D 19 i).toNat) (fun q => by first | exact q.1 h134 | exact h143 q.2) | exact zsw_t (P := fun i => Ht D (D 19 i).toNat) (v := fun i => D 16 (D 19 i).toNat) ⟨h134, h143⟩) (by omega)
                · refine zx_aloadN dL_isVerdict_110 rfl rfl ?_
                  refine zx_iload dL_isVerdict_111 rfl ?_
                  refine zy_cv [zi (D 19 r)] (fX9_isRead  hfl hz hB hW (by first | exact hz _ _ | assumption | exact zr_b _ | exact zcmp_r _ _ | exact hzD _ _ | exact zr3 (tS_b hW _) | exact zr3 (lsc_b hW _ _) | exact zr3 (sc_b hW _ _) | exact rkP_zr hW _ | exact scA_zr hW _ _ | exact zr3 (cW_b hW) | exact zr3 (wS_b hW) | exact unx_zr hW _ | exact dcs_zr hW | (unfold zr at *; omega)) (by first | assumption | omega)) dL_isVerdict_113 (by decide) rfl cw_RL_122 okX9_isRead rfl (Nat.le_of_ble_eq_true rfl) ⟨Nat.le_of_ble_eq_true rfl, Nat.le_of_ble_eq_true rfl, Nat.le_of_ble_eq_true rfl, Nat.le_of_ble_eq_true rfl⟩ ?_
                  refine zx_if_ne (tgt := 124) (by first | exact hz _ _ | assumption | exact zr_b _ | exact zcmp_r _ _ | exact hzD _ _ | exact zr3 (tS_b hW _) | exact zr3 (lsc_b hW _ _) | exact zr3 (sc_b hW _ _) | exact rkP_zr hW _ | exact scA_zr hW _ _ | exact zr3 (cW_b hW) | exact zr3 (wS_b hW) | exact unx_zr hW _ | exact dcs_zr hW | (unfold zr at *; omega)) dL_isVerdict_116 (by decide) (fun h116 => ?_) (fun h116 => ?_)
                  · refine zx_iload dL_isVerdict_124 rfl ?_
                    refine zy_istore [zf 9 0, zi ((wP D (Ht D) : Nat) : Int), zi (wY D (Ht D)), zi op, zi ms, zi nx, zi wt, zi ((r : Nat) : Int), zi (D 19 r), zi (D 19 r)] dL_isVerdict_126 (Nat.le_of_ble_eq_true rfl) (Nat.le_of_ble_eq_true rfl) rfl rfl ?_
                    refine zx_aloadN dL_isVerdict_128 rfl rfl ?_
                    refine zx_iload dL_isVerdict_129 rfl ?_
                    refine zy_cv [zi (D 19 r)] (fX9_isRead  hfl hz hB hW (by first | exact hz _ _ | assumption | exact zr_b _ | exact zcmp_r _ _ | exact hzD _ _ | exact zr3 (tS_b hW _) | exact zr3 (lsc_b hW _ _) | exact zr3 (sc_b hW _ _) | exact rkP_zr hW _ | exact scA_zr hW _ _ | exact zr3 (cW_b hW) | exact zr3 (wS_b hW) | exact unx_zr hW _ | exact dcs_zr hW | (unfold zr at *; omega)) (by first | assumption | omega)) dL_isVerdict_131 (by decide) rfl cw_RL_122 okX9_isRead rfl (Nat.le_of_ble_eq_true rfl) ⟨Nat.le_of_ble_eq_true rfl, Nat.le_of_ble_eq_true rfl, Nat.le_of_ble_eq_true rfl, Nat.le_of_ble_eq_true rfl⟩ ?_
                    refine zx_if_eq (tgt := 200) (by first | exact hz _ _ | assumption | exact zr_b _ | exact zcmp_r _ _ | exact hzD _ _ | exact zr3 (tS_b hW _) | exact zr3 (lsc_b hW _ _) | exact zr3 (sc_b hW _ _) | exact rkP_zr hW _ | exact scA_zr hW _ _ | exact zr3 (cW_b hW) | exact zr3 (wS_b hW) | exact unx_zr hW _ | exact dcs_zr hW | (unfold zr at *; omega)) dL_isVerdict_134 (by decide) (fun h134 => ?_) (fun h134 => ?_)
                    · refine zy_iinc (b := ((r + 1 : Nat) : Int)) [zf 9 0, zi ((wP D (Ht D) : Nat) : Int), zi (wY D (Ht D)), zi op, zi ms, zi nx, zi wt, zi ((r + 1 : Nat) : Int), zi (D 19 r), zi (D 19 r)] dL_isVerdict_200 rfl (by omega) (Nat.le_of_ble_eq_true rfl) rfl rfl ?_
                      refine zx_goto (tgt := 24) dL_isVerdict_203 (by decide) ?_
                      refine zy_drop 8 [zf 9 0, zi ((wP D (Ht D) : Nat) : Int), zi (wY D (Ht D)), zi op, zi ms, zi nx, zi wt, zi ((r + 1 : Nat) : Int), zu, zi (D 19 r)] rfl ?_
                      refine zy_drop 9 [zf 9 0, zi ((wP D (Ht D) : Nat) : Int), zi (wY D (Ht D)), zi op, zi ms, zi nx, zi wt, zi ((r + 1 : Nat) : Int), zu, zu] rfl ?_
                      exact ih24 τ (r + 1) op ms nx wt hz hB hF (by first | assumption | omega) (by subst hop; first | exact zsb_f (P := fun i => opn D (D 19 i).toNat) (fun q => by first | exact q.1.1 h134 | exact h143 q.1.2 | exact q.2 h168.2) | exact zsb_t (P := fun i => opn D (D 19 i).toNat) hopn) (by subst hms; first | exact zsw_f (P := fun i => opn D (D 19 i).toNat) (v := fun i => D 16 (D 19 i).toNat) (fun q => by first | exact q.1.1 h134 | exact h143 q.1.2 | exact q.2 h168.2) | exact zsw_t (P := fun i => opn D (D 19 i).toNat) (v := fun i => D 16 (D 19 i).toNat) hopn) (by first | (rw [hnx]; exact (nxR_k hW (by omega) (by omega)).symm) | (rw [hnx]; exact (nxR_n hW (by omega) (by omega) h116).symm) | exact (nxR_t hW (by omega) (by omega) h116).symm) (by subst hwt; first | exact zsw_f (P := fun i => Ht D (D 19 i).toNat) (v := fun i => D 16 (D 19 i).toNat) (fun q => by first | exact q.1 h134 | exact h143 q.2) | exact zsw_t (P := fun i => Ht D (D 19 i).toNat) (v := fun i => D 16 (D 19 i).toNat) ⟨h134, h143⟩) (by omega)
                    · refine zx_aloadN dL_isVerdict_137 rfl rfl ?_
                      refine zx_iload dL_isVerdict_138 rfl ?_
                      refine zy_cv [zi (D 19 r)] (fX9_isAside  hfl hz hB hW (by first | exact hz _ _ | assumption | exact zr_b _ | exact zcmp_r _ _ | exact hzD _ _ | exact zr3 (tS_b hW _) | exact zr3 (lsc_b hW _ _) | exact zr3 (sc_b hW _ _) | exact rkP_zr hW _ | exact scA_zr hW _ _ | exact zr3 (cW_b hW) | exact zr3 (wS_b hW) | exact unx_zr hW _ | exact dcs_zr hW | (unfold zr at *; omega)) (by first | assumption | omega)) dL_isVerdict_140 (by decide) rfl cw_RL_128 okX9_isAside rfl (Nat.le_of_ble_eq_true rfl) ⟨Nat.le_of_ble_eq_true rfl, Nat.le_of_ble_eq_true rfl, Nat.le_of_ble_eq_true rfl, Nat.le_of_ble_eq_true rfl⟩ ?_
                      refine zx_if_eq (tgt := 149) (by first | exact hz _ _ | assumption | exact zr_b _ | exact zcmp_r _ _ | exact hzD _ _ | exact zr3 (tS_b hW _) | exact zr3 (lsc_b hW _ _) | exact zr3 (sc_b hW _ _) | exact rkP_zr hW _ | exact scA_zr hW _ _ | exact zr3 (cW_b hW) | exact zr3 (wS_b hW) | exact unx_zr hW _ | exact dcs_zr hW | (unfold zr at *; omega)) dL_isVerdict_143 (by decide) (fun h143 => ?_) (fun h143 => ?_)
                      · refine zx_iload dL_isVerdict_149 rfl ?_
                        refine zx_aloadN dL_isVerdict_151 rfl rfl ?_
                        refine zx_iload dL_isVerdict_152 rfl ?_
                        refine zy_cv [zi (D 19 r)] (fX9_weightOf  hfl hz hB hW (by first | exact hz _ _ | assumption | exact zr_b _ | exact zcmp_r _ _ | exact hzD _ _ | exact zr3 (tS_b hW _) | exact zr3 (lsc_b hW _ _) | exact zr3 (sc_b hW _ _) | exact rkP_zr hW _ | exact scA_zr hW _ _ | exact zr3 (cW_b hW) | exact zr3 (wS_b hW) | exact unx_zr hW _ | exact dcs_zr hW | (unfold zr at *; omega)) (by first | assumption | omega)) dL_isVerdict_154 (by decide) rfl cw_RL_119 okX9_weightOf rfl (Nat.le_of_ble_eq_true rfl) ⟨Nat.le_of_ble_eq_true rfl, Nat.le_of_ble_eq_true rfl, Nat.le_of_ble_eq_true rfl, Nat.le_of_ble_eq_true rfl⟩ ?_
                        refine zx_iadd dL_isVerdict_157 ?_
                        refine zy_istore [zf 9 0, zi ((wP D (Ht D) : Nat) : Int), zi (wY D (Ht D)), zi op, zi ms, zi nx, zi (wt + (D 16 (D 19 r).toNat)), zi ((r : Nat) : Int), zi (D 19 r), zi (D 19 r)] dL_isVerdict_158 (Nat.le_of_ble_eq_true rfl) (Nat.le_of_ble_eq_true rfl) rfl rfl ?_
                        refine zx_aloadN dL_isVerdict_160 rfl rfl ?_
                        refine zx_iloadN dL_isVerdict_161 rfl rfl ?_
                        refine zx_iloadN dL_isVerdict_162 rfl rfl ?_
                        refine zx_iload dL_isVerdict_163 rfl ?_
                        refine zy_cv [zi ((wP D (Ht D) : Nat) : Int), zi (wY D (Ht D)), zi (D 19 r)] (fX9_explains  hfl hz hB hW (by first | exact hz _ _ | assumption | exact zr_b _ | exact zcmp_r _ _ | exact hzD _ _ | exact zr3 (tS_b hW _) | exact zr3 (lsc_b hW _ _) | exact zr3 (sc_b hW _ _) | exact rkP_zr hW _ | exact scA_zr hW _ _ | exact zr3 (cW_b hW) | exact zr3 (wS_b hW) | exact unx_zr hW _ | exact dcs_zr hW | (unfold zr at *; omega)) (by first | exact hz _ _ | assumption | exact zr_b _ | exact zcmp_r _ _ | exact hzD _ _ | exact zr3 (tS_b hW _) | exact zr3 (lsc_b hW _ _) | exact zr3 (sc_b hW _ _) | exact rkP_zr hW _ | exact scA_zr hW _ _ | exact zr3 (cW_b hW) | exact zr3 (wS_b hW) | exact unx_zr hW _ | exact dcs_zr hW | (unfold zr at *; omega)) (by first | exact hz _ _ | assumption | exact zr_b _ | exact zcmp_r _ _ | exact hzD _ _ | exact zr3 (tS_b hW _) | exact zr3 (lsc_b hW _ _) | exact zr3 (sc_b hW _ _) | exact rkP_zr hW _ | exact scA_zr hW _ _ | exact zr3 (cW_b hW) | exact zr3 (wS_b hW) | exact unx_zr hW _ | exact dcs_zr hW | (unfold zr at *; omega)) (by first | assumption | omega) (by first | assumption | omega) (by first | assumption | omega)) dL_isVerdict_165 (by decide) rfl cw_RL_140 okX9_explains rfl (Nat.le_of_ble_eq_true rfl) ⟨Nat.le_of_ble_eq_true rfl, Nat.le_of_ble_eq_true rfl, Nat.le_of_ble_eq_true rfl, Nat.le_of_ble_eq_true rfl⟩ ?_
                        refine zy_top (b := zb (works D (wP D (Ht D)) (wY D (Ht D)) ∧ cFit D (wP D (Ht D)) (wY D (Ht D)) (D 19 r).toNat)) rfl ?_
                        refine zx_if_eq (tgt := 174) (by first | exact hz _ _ | assumption | exact zr_b _ | exact zcmp_r _ _ | exact hzD _ _ | exact zr3 (tS_b hW _) | exact zr3 (lsc_b hW _ _) | exact zr3 (sc_b hW _ _) | exact rkP_zr hW _ | exact scA_zr hW _ _ | exact zr3 (cW_b hW) | exact zr3 (wS_b hW) | exact unx_zr hW _ | exact dcs_zr hW | (unfold zr at *; omega)) dL_isVerdict_168 (by decide) (fun h168 => ?_) (fun h168 => ?_)
                        · have h168 := zb_0.mp h168
                          have hopn : opn D (D 19 r).toNat := ⟨⟨h134, h143⟩, fun z => h168 ⟨hdec, z⟩⟩
                          refine zx_aloadN dL_isVerdict_174 rfl rfl ?_
                          refine zx_iloadN dL_isVerdict_175 rfl rfl ?_
                          refine zy_cvR [zi op] (fX9_unexplainedClue  hfl hz hB hW hP1 (by first | exact hz _ _ | assumption | exact zr_b _ | exact zcmp_r _ _ | exact hzD _ _ | exact zr3 (tS_b hW _) | exact zr3 (lsc_b hW _ _) | exact zr3 (sc_b hW _ _) | exact rkP_zr hW _ | exact scA_zr hW _ _ | exact zr3 (cW_b hW) | exact zr3 (wS_b hW) | exact unx_zr hW _ | exact dcs_zr hW | (unfold zr at *; omega))) dL_isVerdict_176 (by decide) rfl cw_RL_183 okX9_unexplainedClue rfl (Nat.le_of_ble_eq_true rfl) ⟨Nat.le_of_ble_eq_true rfl, Nat.le_of_ble_eq_true rfl, Nat.le_of_ble_eq_true rfl, Nat.le_of_ble_eq_true rfl⟩ (fun τ176 hr176 => ?_)
                          have hz176 : zOK τ176 := hr176.1
                          refine zy_top (b := D 19 r) (by rw [hop]; exact unx_r (by omega) hopn) ?_
                          refine zx_iload dL_isVerdict_179 rfl ?_
                          refine zx_icmp_eq (tgt := 186) (by first | exact hz176 _ _ | assumption | exact zr_b _ | exact zcmp_r _ _ | exact hzD _ _ | exact zr3 (tS_b hW _) | exact zr3 (lsc_b hW _ _) | exact zr3 (sc_b hW _ _) | exact rkP_zr hW _ | exact scA_zr hW _ _ | exact zr3 (cW_b hW) | exact zr3 (wS_b hW) | exact unx_zr hW _ | exact dcs_zr hW | (unfold zr at *; omega)) (by first | exact hz176 _ _ | assumption | exact zr_b _ | exact zcmp_r _ _ | exact hzD _ _ | exact zr3 (tS_b hW _) | exact zr3 (lsc_b hW _ _) | exact zr3 (sc_b hW _ _) | exact rkP_zr hW _ | exact scA_zr hW _ _ | exact zr3 (cW_b hW) | exact zr3 (wS_b hW) | exact unx_zr hW _ | exact dcs_zr hW | (unfold zr at *; omega)) dL_isVerdict_181 (by decide) (fun h181 => ?_) (fun h181 => ?_)
                          · refine zx_iload dL_isVerdict_186 rfl ?_
                            refine zx_aloadN dL_isVerdict_188 rfl rfl ?_
                            refine zx_iload dL_isVerdict_189 rfl ?_
                            refine zy_cv [zi (D 19 r)] (fX9_weightOf  hfl hz176 hr176.2.2 hW (by first | exact hz176 _ _ | assumption | exact zr_b _ | exact zcmp_r _ _ | exact hzD _ _ | exact zr3 (tS_b hW _) | exact zr3 (lsc_b hW _ _) | exact zr3 (sc_b hW _ _) | exact rkP_zr hW _ | exact scA_zr hW _ _ | exact zr3 (cW_b hW) | exact zr3 (wS_b hW) | exact unx_zr hW _ | exact dcs_zr hW | (unfold zr at *; omega)) (by first | assumption | omega)) dL_isVerdict_191 (by decide) rfl cw_RL_119 okX9_weightOf rfl (Nat.le_of_ble_eq_true rfl) ⟨Nat.le_of_ble_eq_true rfl, Nat.le_of_ble_eq_true rfl, Nat.le_of_ble_eq_true rfl, Nat.le_of_ble_eq_true rfl⟩ ?_
                            refine zx_iadd dL_isVerdict_194 ?_
                            refine zy_istore [zf 9 0, zi ((wP D (Ht D) : Nat) : Int), zi (wY D (Ht D)), zi op, zi (ms + (D 16 (D 19 r).toNat)), zi nx, zi (wt + (D 16 (D 19 r).toNat)), zi ((r : Nat) : Int), zi (D 19 r), zi (D 19 r)] dL_isVerdict_195 (Nat.le_of_ble_eq_true rfl) (Nat.le_of_ble_eq_true rfl) rfl rfl ?_
                            refine zy_iinc (b := op + 1) [zf 9 0, zi ((wP D (Ht D) : Nat) : Int), zi (wY D (Ht D)), zi (op + 1), zi (ms + (D 16 (D 19 r).toNat)), zi nx, zi (wt + (D 16 (D 19 r).toNat)), zi ((r : Nat) : Int), zi (D 19 r), zi (D 19 r)] dL_isVerdict_197 rfl (by omega) (Nat.le_of_ble_eq_true rfl) rfl rfl ?_
                            refine zy_iinc (b := ((r + 1 : Nat) : Int)) [zf 9 0, zi ((wP D (Ht D) : Nat) : Int), zi (wY D (Ht D)), zi (op + 1), zi (ms + (D 16 (D 19 r).toNat)), zi nx, zi (wt + (D 16 (D 19 r).toNat)), zi ((r + 1 : Nat) : Int), zi (D 19 r), zi (D 19 r)] dL_isVerdict_200 rfl (by omega) (Nat.le_of_ble_eq_true rfl) rfl rfl ?_
                            refine zx_goto (tgt := 24) dL_isVerdict_203 (by decide) ?_
                            refine zy_drop 8 [zf 9 0, zi ((wP D (Ht D) : Nat) : Int), zi (wY D (Ht D)), zi (op + 1), zi (ms + (D 16 (D 19 r).toNat)), zi nx, zi (wt + (D 16 (D 19 r).toNat)), zi ((r + 1 : Nat) : Int), zu, zi (D 19 r)] rfl ?_
                            refine zy_drop 9 [zf 9 0, zi ((wP D (Ht D) : Nat) : Int), zi (wY D (Ht D)), zi (op + 1), zi (ms + (D 16 (D 19 r).toNat)), zi nx, zi (wt + (D 16 (D 19 r).toNat)), zi ((r + 1 : Nat) : Int), zu, zu] rfl ?_
                            exact ih24 τ176 (r + 1) (op + 1) (ms + (D 16 (D 19 r).toNat)) nx (wt + (D 16 (D 19 r).toNat)) hz176 hr176.2.2 (zJ hF hr176.2.1) (by first | assumption | omega) (by subst hop; first | exact zsb_f (P := fun i => opn D (D 19 i).toNat) (fun q => by first | exact q.1.1 h134 | exact h143 q.1.2 | exact q.2 h168.2) | exact zsb_t (P := fun i => opn D (D 19 i).toNat) hopn) (by subst hms; first | exact zsw_f (P := fun i => opn D (D 19 i).toNat) (v := fun i => D 16 (D 19 i).toNat) (fun q => by first | exact q.1.1 h134 | exact h143 q.1.2 | exact q.2 h168.2) | exact zsw_t (P := fun i => opn D (D 19 i).toNat) (v := fun i => D 16 (D 19 i).toNat) hopn) (by first | (rw [hnx]; exact (nxR_k hW (by omega) (by omega)).symm) | (rw [hnx]; exact (nxR_n hW (by omega) (by omega) h116).symm) | exact (nxR_t hW (by omega) (by omega) h116).symm) (by subst hwt; first | exact zsw_f (P := fun i => Ht D (D 19 i).toNat) (v := fun i => D 16 (D 19 i).toNat) (fun q => by first | exact q.1 h134 | exact h143 q.2) | exact zsw_t (P := fun i => Ht D (D 19 i).toNat) (v := fun i => D 16 (D 19 i).toNat) ⟨h134, h143⟩) (by omega)
                          · exact absurd rfl h181
                        · have h168 := zb_n.mp h168
                          refine zx_goto (tgt := 200) dL_isVerdict_171 (by decide) ?_
                          refine zy_iinc (b := ((r + 1 : Nat) : Int)) [zf 9 0, zi ((wP D (Ht D) : Nat) : Int), zi (wY D (Ht D)), zi op, zi ms, zi nx, zi (wt + (D 16 (D 19 r).toNat)), zi ((r + 1 : Nat) : Int), zi (D 19 r), zi (D 19 r)] dL_isVerdict_200 rfl (by omega) (Nat.le_of_ble_eq_true rfl) rfl rfl ?_
                          refine zx_goto (tgt := 24) dL_isVerdict_203 (by decide) ?_
                          refine zy_drop 8 [zf 9 0, zi ((wP D (Ht D) : Nat) : Int), zi (wY D (Ht D)), zi op, zi ms, zi nx, zi (wt + (D 16 (D 19 r).toNat)), zi ((r + 1 : Nat) : Int), zu, zi (D 19 r)] rfl ?_
                          refine zy_drop 9 [zf 9 0, zi ((wP D (Ht D) : Nat) : Int), zi (wY D (Ht D)), zi op, zi ms, zi nx, zi (wt + (D 16 (D 19 r).toNat)), zi ((r + 1 : Nat) : Int), zu, zu] rfl ?_
                          exact ih24 τ (r + 1) op ms nx (wt + (D 16 (D 19 r).toNat)) hz hB hF (by first | assumption | omega) (by subst hop; first | exact zsb_f (P := fun i => opn D (D 19 i).toNat) (fun q => by first | exact q.1.1 h134 | exact h143 q.1.2 | exact q.2 h168.2) | exact zsb_t (P := fun i => opn D (D 19 i).toNat) hopn) (by subst hms; first | exact zsw_f (P := fun i => opn D (D 19 i).toNat) (v := fun i => D 16 (D 19 i).toNat) (fun q => by first | exact q.1.1 h134 | exact h143 q.1.2 | exact q.2 h168.2) | exact zsw_t (P := fun i => opn D (D 19 i).toNat) (v := fun i => D 16 (D 19 i).toNat) hopn) (by first | (rw [hnx]; exact (nxR_k hW (by omega) (by omega)).symm) | (rw [hnx]; exact (nxR_n hW (by omega) (by omega) h116).symm) | exact (nxR_t hW (by omega) (by omega) h116).symm) (by subst hwt; first | exact zsw_f (P := fun i => Ht D (D 19 i).toNat) (v := fun i => D 16 (D 19 i).toNat) (fun q => by first | exact q.1 h134 | exact h143 q.2) | exact zsw_t (P := fun i => Ht D (D 19 i).toNat) (v := fun i => D 16 (D 19 i).toNat) ⟨h134, h143⟩) (by omega)
                      · refine zx_goto (tgt := 200) dL_isVerdict_146 (by decide) ?_
                        refine zy_iinc (b := ((r + 1 : Nat) : Int)) [zf 9 0, zi ((wP D (Ht D) : Nat) : Int), zi (wY D (Ht D)), zi op, zi ms, zi nx, zi wt, zi ((r + 1 : Nat) : Int), zi (D 19 r), zi (D 19 r)] dL_isVerdict_200 rfl (by omega) (Nat.le_of_ble_eq_true rfl) rfl rfl ?_
                        refine zx_goto (tgt := 24) dL_isVerdict_203 (by decide) ?_
                        refine zy_drop 8 [zf 9 0, zi ((wP D (Ht D) : Nat) : Int), zi (wY D (Ht D)), zi op, zi ms, zi nx, zi wt, zi ((r + 1 : Nat) : Int), zu, zi (D 19 r)] rfl ?_
                        refine zy_drop 9 [zf 9 0, zi ((wP D (Ht D) : Nat) : Int), zi (wY D (Ht D)), zi op, zi ms, zi nx, zi wt, zi ((r + 1 : Nat) : Int), zu, zu] rfl ?_
                        exact ih24 τ (r + 1) op ms nx wt hz hB hF (by first | assumption | omega) (by subst hop; first | exact zsb_f (P := fun i => opn D (D 19 i).toNat) (fun q => by first | exact q.1.1 h134 | exact h143 q.1.2 | exact q.2 h168.2) | exact zsb_t (P := fun i => opn D (D 19 i).toNat) hopn) (by subst hms; first | exact zsw_f (P := fun i => opn D (D 19 i).toNat) (v := fun i => D 16 (D 19 i).toNat) (fun q => by first | exact q.1.1 h134 | exact h143 q.1.2 | exact q.2 h168.2) | exact zsw_t (P := fun i => opn D (D 19 i).toNat) (v := fun i => D 16 (D 19 i).toNat) hopn) (by first | (rw [hnx]; exact (nxR_k hW (by omega) (by omega)).symm) | (rw [hnx]; exact (nxR_n hW (by omega) (by omega) h116).symm) | exact (nxR_t hW (by omega) (by omega) h116).symm) (by subst hwt; first | exact zsw_f (P := fun i => Ht D (D 19 i).toNat) (v := fun i => D 16 (D 19 i).toNat) (fun q => by first | exact q.1 h134 | exact h143 q.2) | exact zsw_t (P := fun i => Ht D (D 19 i).toNat) (v := fun i => D 16 (D 19 i).toNat) ⟨h134, h143⟩) (by omega)
                  · refine zx_iload dL_isVerdict_119 rfl ?_
                    refine zx_goto (tgt := 126) dL_isVerdict_121 (by decide) ?_
                    refine zy_istore [zf 9 0, zi ((wP D (Ht D) : Nat) : Int), zi (wY D (Ht D)), zi op, zi ms, zi (D 19 r), zi wt, zi ((r : Nat) : Int), zi (D 19 r), zi (D 19 r)] dL_isVerdict_126 (Nat.le_of_ble_eq_true rfl) (Nat.le_of_ble_eq_true rfl) rfl rfl ?_
                    refine zx_aloadN dL_isVerdict_128 rfl rfl ?_
                    refine zx_iload dL_isVerdict_129 rfl ?_
                    refine zy_cv [zi (D 19 r)] (fX9_isRead  hfl hz hB hW (by first | exact hz _ _ | assumption | exact zr_b _ | exact zcmp_r _ _ | exact hzD _ _ | exact zr3 (tS_b hW _) | exact zr3 (lsc_b hW _ _) | exact zr3 (sc_b hW _ _) | exact rkP_zr hW _ | exact scA_zr hW _ _ | exact zr3 (cW_b hW) | exact zr3 (wS_b hW) | exact unx_zr hW _ | exact dcs_zr hW | (unfold zr at *; omega)) (by first | assumption | omega)) dL_isVerdict_131 (by decide) rfl cw_RL_122 okX9_isRead rfl (Nat.le_of_ble_eq_true rfl) ⟨Nat.le_of_ble_eq_true rfl, Nat.le_of_ble_eq_true rfl, Nat.le_of_ble_eq_true rfl, Nat.le_of_ble_eq_true rfl⟩ ?_
                    refine zx_if_eq (tgt := 200) (by first | exact hz _ _ | assumption | exact zr_b _ | exact zcmp_r _ _ | exact hzD _ _ | exact zr3 (tS_b hW _) | exact zr3 (lsc_b hW _ _) | exact zr3 (sc_b hW _ _) | exact rkP_zr hW _ | exact scA_zr hW _ _ | exact zr3 (cW_b hW) | exact zr3 (wS_b hW) | exact unx_zr hW _ | exact dcs_zr hW | (unfold zr at *; omega)) dL_isVerdict_134 (by decide) (fun h134 => ?_) (fun h134 => ?_)
                    · refine zy_iinc (b := ((r + 1 : Nat) : Int)) [zf 9 0, zi ((wP D (Ht D) : Nat) : Int), zi (wY D (Ht D)), zi op, zi ms, zi (D 19 r), zi wt, zi ((r + 1 : Nat) : Int), zi (D 19 r), zi (D 19 r)] dL_isVerdict_200 rfl (by omega) (Nat.le_of_ble_eq_true rfl) rfl rfl ?_
                      refine zx_goto (tgt := 24) dL_isVerdict_203 (by decide) ?_
                      refine zy_drop 8 [zf 9 0, zi ((wP D (Ht D) : Nat) : Int), zi (wY D (Ht D)), zi op, zi ms, zi (D 19 r), zi wt, zi ((r + 1 : Nat) : Int), zu, zi (D 19 r)] rfl ?_
                      refine zy_drop 9 [zf 9 0, zi ((wP D (Ht D) : Nat) : Int), zi (wY D (Ht D)), zi op, zi ms, zi (D 19 r), zi wt, zi ((r + 1 : Nat) : Int), zu, zu] rfl ?_
                      exact ih24 τ (r + 1) op ms (D 19 r) wt hz hB hF (by first | assumption | omega) (by subst hop; first | exact zsb_f (P := fun i => opn D (D 19 i).toNat) (fun q => by first | exact q.1.1 h134 | exact h143 q.1.2 | exact q.2 h168.2) | exact zsb_t (P := fun i => opn D (D 19 i).toNat) hopn) (by subst hms; first | exact zsw_f (P := fun i => opn D (D 19 i).toNat) (v := fun i => D 16 (D 19 i).toNat) (fun q => by first | exact q.1.1 h134 | exact h143 q.1.2 | exact q.2 h168.2) | exact zsw_t (P := fun i => opn D (D 19 i).toNat) (v := fun i => D 16 (D 19 i).toNat) hopn) (by first | (rw [hnx]; exact (nxR_k hW (by omega) (by omega)).symm) | (rw [hnx]; exact (nxR_n hW (by omega) (by omega) h116).symm) | exact (nxR_t hW (by omega) (by omega) h116).symm) (by subst hwt; first | exact zsw_f (P := fun i => Ht D (D 19 i).toNat) (v := fun i => D 16 (D 19 i).toNat) (fun q => by first | exact q.1 h134 | exact h143 q.2) | exact zsw_t (P := fun i => Ht D (D 19 i).toNat) (v := fun i => D 16 (D 19 i).toNat) ⟨h134, h143⟩) (by omega)
                    · refine zx_aloadN dL_isVerdict_137 rfl rfl ?_
                      refine zx_iload dL_isVerdict_138 rfl ?_
                      refine zy_cv [zi (D 19 r)] (fX9_isAside  hfl hz hB hW (by first | exact hz _ _ | assumption | exact zr_b _ | exact zcmp_r _ _ | exact hzD _ _ | exact zr3 (tS_b hW _) | exact zr3 (lsc_b hW _ _) | exact zr3 (sc_b hW _ _) | exact rkP_zr hW _ | exact scA_zr hW _ _ | exact zr3 (cW_b hW) | exact zr3 (wS_b hW) | exact unx_zr hW _ | exact dcs_zr hW | (unfold zr at *; omega)) (by first | assumption | omega)) dL_isVerdict_140 (by decide) rfl cw_RL_128 okX9_isAside rfl (Nat.le_of_ble_eq_true rfl) ⟨Nat.le_of_ble_eq_true rfl, Nat.le_of_ble_eq_true rfl, Nat.le_of_ble_eq_true rfl, Nat.le_of_ble_eq_true rfl⟩ ?_
                      refine zx_if_eq (tgt := 149) (by first | exact hz _ _ | assumption | exact zr_b _ | exact zcmp_r _ _ | exact hzD _ _ | exact zr3 (tS_b hW _) | exact zr3 (lsc_b hW _ _) | exact zr3 (sc_b hW _ _) | exact rkP_zr hW _ | exact scA_zr hW _ _ | exact zr3 (cW_b hW) | exact zr3 (wS_b hW) | exact unx_zr hW _ | exact dcs_zr hW | (unfold zr at *; omega)) dL_isVerdict_143 (by decide) (fun h143 => ?_) (fun h143 => ?_)
                      · refine zx_iload dL_isVerdict_149 rfl ?_
                        refine zx_aloadN dL_isVerdict_151 rfl rfl ?_
                        refine zx_iload dL_isVerdict_152 rfl ?_
                        refine zy_cv [zi (D 19 r)] (fX9_weightOf  hfl hz hB hW (by first | exact hz _ _ | assumption | exact zr_b _ | exact zcmp_r _ _ | exact hzD _ _ | exact zr3 (tS_b hW _) | exact zr3 (lsc_b hW _ _) | exact zr3 (sc_b hW _ _) | exact rkP_zr hW _ | exact scA_zr hW _ _ | exact zr3 (cW_b hW) | exact zr3 (wS_b hW) | exact unx_zr hW _ | exact dcs_zr hW | (unfold zr at *; omega)) (by first | assumption | omega)) dL_isVerdict_154 (by decide) rfl cw_RL_119 okX9_weightOf rfl (Nat.le_of_ble_eq_true rfl) ⟨Nat.le_of_ble_eq_true rfl, Nat.le_of_ble_eq_true rfl, Nat.le_of_ble_eq_true rfl, Nat.le_of_ble_eq_true rfl⟩ ?_
                        refine zx_iadd dL_isVerdict_157 ?_
                        refine zy_istore [zf 9 0, zi ((wP D (Ht D) : Nat) : Int), zi (wY D (Ht D)), zi op, zi ms, zi (D 19 r), zi (wt + (D 16 (D 19 r).toNat)), zi ((r : Nat) : Int), zi (D 19 r), zi (D 19 r)] dL_isVerdict_158 (Nat.le_of_ble_eq_true rfl) (Nat.le_of_ble_eq_true rfl) rfl rfl ?_
                        refine zx_aloadN dL_isVerdict_160 rfl rfl ?_
                        refine zx_iloadN dL_isVerdict_161 rfl rfl ?_
                        refine zx_iloadN dL_isVerdict_162 rfl rfl ?_
                        refine zx_iload dL_isVerdict_163 rfl ?_
                        refine zy_cv [zi ((wP D (Ht D) : Nat) : Int), zi (wY D (Ht D)), zi (D 19 r)] (fX9_explains  hfl hz hB hW (by first | exact hz _ _ | assumption | exact zr_b _ | exact zcmp_r _ _ | exact hzD _ _ | exact zr3 (tS_b hW _) | exact zr3 (lsc_b hW _ _) | exact zr3 (sc_b hW _ _) | exact rkP_zr hW _ | exact scA_zr hW _ _ | exact zr3 (cW_b hW) | exact zr3 (wS_b hW) | exact unx_zr hW _ | exact dcs_zr hW | (unfold zr at *; omega)) (by first | exact hz _ _ | assumption | exact zr_b _ | exact zcmp_r _ _ | exact hzD _ _ | exact zr3 (tS_b hW _) | exact zr3 (lsc_b hW _ _) | exact zr3 (sc_b hW _ _) | exact rkP_zr hW _ | exact scA_zr hW _ _ | exact zr3 (cW_b hW) | exact zr3 (wS_b hW) | exact unx_zr hW _ | exact dcs_zr hW | (unfold zr at *; omega)) (by first | exact hz _ _ | assumption | exact zr_b _ | exact zcmp_r _ _ | exact hzD _ _ | exact zr3 (tS_b hW _) | exact zr3 (lsc_b hW _ _) | exact zr3 (sc_b hW _ _) | exact rkP_zr hW _ | exact scA_zr hW _ _ | exact zr3 (cW_b hW) | exact zr3 (wS_b hW) | exact unx_zr hW _ | exact dcs_zr hW | (unfold zr at *; omega)) (by first | assumption | omega) (by first | assumption | omega) (by first | assumption | omega)) dL_isVerdict_165 (by decide) rfl cw_RL_140 okX9_explains rfl (Nat.le_of_ble_eq_true rfl) ⟨Nat.le_of_ble_eq_true rfl, Nat.le_of_ble_eq_true rfl, Nat.le_of_ble_eq_true rfl, Nat.le_of_ble_eq_true rfl⟩ ?_
                        refine zy_top (b := zb (works D (wP D (Ht D)) (wY D (Ht D)) ∧ cFit D (wP D (Ht D)) (wY D (Ht D)) (D 19 r).toNat)) rfl ?_
                        refine zx_if_eq (tgt := 174) (by first | exact hz _ _ | assumption | exact zr_b _ | exact zcmp_r _ _ | exact hzD _ _ | exact zr3 (tS_b hW _) | exact zr3 (lsc_b hW _ _) | exact zr3 (sc_b hW _ _) | exact rkP_zr hW _ | exact scA_zr hW _ _ | exact zr3 (cW_b hW) | exact zr3 (wS_b hW) | exact unx_zr hW _ | exact dcs_zr hW | (unfold zr at *; omega)) dL_isVerdict_168 (by decide) (fun h168 => ?_) (fun h168 => ?_)
                        · have h168 := zb_0.mp h168
                          have hopn : opn D (D 19 r).toNat := ⟨⟨h134, h143⟩, fun z => h168 ⟨hdec, z⟩⟩
                          refine zx_aloadN dL_isVerdict_174 rfl rfl ?_
                          refine zx_iloadN dL_isVerdict_175 rfl rfl ?_
                          refine zy_cvR [zi op] (fX9_unexplainedClue  hfl hz hB hW hP1 (by first | exact hz _ _ | assumption | exact zr_b _ | exact zcmp_r _ _ | exact hzD _ _ | exact zr3 (tS_b hW _) | exact zr3 (lsc_b hW _ _) | exact zr3 (sc_b hW _ _) | exact rkP_zr hW _ | exact scA_zr hW _ _ | exact zr3 (cW_b hW) | exact zr3 (wS_b hW) | exact unx_zr hW _ | exact dcs_zr hW | (unfold zr at *; omega))) dL_isVerdict_176 (by decide) rfl cw_RL_183 okX9_unexplainedClue rfl (Nat.le_of_ble_eq_true rfl) ⟨Nat.le_of_ble_eq_true rfl, Nat.le_of_ble_eq_true rfl, Nat.le_of_ble_eq_true rfl, Nat.le_of_ble_eq_true rfl⟩ (fun τ176 hr176 => ?_)
                          have hz176 : zOK τ176 := hr176.1
                          refine zy_top (b := D 19 r) (by rw [hop]; exact unx_r (by omega) hopn) ?_
                          refine zx_iload dL_isVerdict_179 rfl ?_
                          refine zx_icmp_eq (tgt := 186) (by first | exact hz176 _ _ | assumption | exact zr_b _ | exact zcmp_r _ _ | exact hzD _ _ | exact zr3 (tS_b hW _) | exact zr3 (lsc_b hW _ _) | exact zr3 (sc_b hW _ _) | exact rkP_zr hW _ | exact scA_zr hW _ _ | exact zr3 (cW_b hW) | exact zr3 (wS_b hW) | exact unx_zr hW _ | exact dcs_zr hW | (unfold zr at *; omega)) (by first | exact hz176 _ _ | assumption | exact zr_b _ | exact zcmp_r _ _ | exact hzD _ _ | exact zr3 (tS_b hW _) | exact zr3 (lsc_b hW _ _) | exact zr3 (sc_b hW _ _) | exact rkP_zr hW _ | exact scA_zr hW _ _ | exact zr3 (cW_b hW) | exact zr3 (wS_b hW) | exact unx_zr hW _ | exact dcs_zr hW | (unfold zr at *; omega)) dL_isVerdict_181 (by decide) (fun h181 => ?_) (fun h181 => ?_)
                          · refine zx_iload dL_isVerdict_186 rfl ?_
                            refine zx_aloadN dL_isVerdict_188 rfl rfl ?_
                            refine zx_iload dL_isVerdict_189 rfl ?_
                            refine zy_cv [zi (D 19 r)] (fX9_weightOf  hfl hz176 hr176.2.2 hW (by first | exact hz176 _ _ | assumption | exact zr_b _ | exact zcmp_r _ _ | exact hzD _ _ | exact zr3 (tS_b hW _) | exact zr3 (lsc_b hW _ _) | exact zr3 (sc_b hW _ _) | exact rkP_zr hW _ | exact scA_zr hW _ _ | exact zr3 (cW_b hW) | exact zr3 (wS_b hW) | exact unx_zr hW _ | exact dcs_zr hW | (unfold zr at *; omega)) (by first | assumption | omega)) dL_isVerdict_191 (by decide) rfl cw_RL_119 okX9_weightOf rfl (Nat.le_of_ble_eq_true rfl) ⟨Nat.le_of_ble_eq_true rfl, Nat.le_of_ble_eq_true rfl, Nat.le_of_ble_eq_true rfl, Nat.le_of_ble_eq_true rfl⟩ ?_
                            refine zx_iadd dL_isVerdict_194 ?_
                            refine zy_istore [zf 9 0, zi ((wP D (Ht D) : Nat) : Int), zi (wY D (Ht D)), zi op, zi (ms + (D 16 (D 19 r).toNat)), zi (D 19 r), zi (wt + (D 16 (D 19 r).toNat)), zi ((r : Nat) : Int), zi (D 19 r), zi (D 19 r)] dL_isVerdict_195 (Nat.le_of_ble_eq_true rfl) (Nat.le_of_ble_eq_true rfl) rfl rfl ?_
                            refine zy_iinc (b := op + 1) [zf 9 0, zi ((wP D (Ht D) : Nat) : Int), zi (wY D (Ht D)), zi (op + 1), zi (ms + (D 16 (D 19 r).toNat)), zi (D 19 r), zi (wt + (D 16 (D 19 r).toNat)), zi ((r : Nat) : Int), zi (D 19 r), zi (D 19 r)] dL_isVerdict_197 rfl (by omega) (Nat.le_of_ble_eq_true rfl) rfl rfl ?_
                            refine zy_iinc (b := ((r + 1 : Nat) : Int)) [zf 9 0, zi ((wP D (Ht D) : Nat) : Int), zi (wY D (Ht D)), zi (op + 1), zi (ms + (D 16 (D 19 r).toNat)), zi (D 19 r), zi (wt + (D 16 (D 19 r).toNat)), zi ((r + 1 : Nat) : Int), zi (D 19 r), zi (D 19 r)] dL_isVerdict_200 rfl (by omega) (Nat.le_of_ble_eq_true rfl) rfl rfl ?_
                            refine zx_goto (tgt := 24) dL_isVerdict_203 (by decide) ?_
                            refine zy_drop 8 [zf 9 0, zi ((wP D (Ht D) : Nat) : Int), zi (wY D (Ht D)), zi (op + 1), zi (ms + (D 16 (D 19 r).toNat)), zi (D 19 r), zi (wt + (D 16 (D 19 r).toNat)), zi ((r + 1 : Nat) : Int), zu, zi (D 19 r)] rfl ?_
                            refine zy_drop 9 [zf 9 0, zi ((wP D (Ht D) : Nat) : Int), zi (wY D (Ht D)), zi (op + 1), zi (ms + (D 16 (D 19 r).toNat)), zi (D 19 r), zi (wt + (D 16 (D 19 r).toNat)), zi ((r + 1 : Nat) : Int), zu, zu] rfl ?_
                            exact ih24 τ176 (r + 1) (op + 1) (ms + (D 16 (D 19 r).toNat)) (D 19 r) (wt + (D 16 (D 19 r).toNat)) hz176 hr176.2.2 (zJ hF hr176.2.1) (by first | assumption | omega) (by subst hop; first | exact zsb_f (P := fun i => opn D (D 19 i).toNat) (fun q => by first | exact q.1.1 h134 | exact h143 q.1.2 | exact q.2 h168.2) | exact zsb_t (P := fun i => opn D (D 19 i).toNat) hopn) (by subst hms; first | exact zsw_f (P := fun i => opn D (D 19 i).toNat) (v := fun i => D 16 (D 19 i).toNat) (fun q => by first | exact q.1.1 h134 | exact h143 q.1.2 | exact q.2 h168.2) | exact zsw_t (P := fun i => opn D (D 19 i).toNat) (v := fun i => D 16 (D 19 i).toNat) hopn) (by first | (rw [hnx]; exact (nxR_k hW (by omega) (by omega)).symm) | (rw [hnx]; exact (nxR_n hW (by omega) (by omega) h116).symm) | exact (nxR_t hW (by omega) (by omega) h116).symm) (by subst hwt; first | exact zsw_f (P := fun i => Ht D (D 19 i).toNat) (v := fun i => D 16 (D 19 i).toNat) (fun q => by first | exact q.1 h134 | exact h143 q.2) | exact zsw_t (P := fun i => Ht D (D 19 i).toNat) (v := fun i => D 16 (D 19 i).toNat) ⟨h134, h143⟩) (by omega)
                          · exact absurd rfl h181
                        · have h168 := zb_n.mp h168
                          refine zx_goto (tgt := 200) dL_isVerdict_171 (by decide) ?_
                          refine zy_iinc (b := ((r + 1 : Nat) : Int)) [zf 9 0, zi ((wP D (Ht D) : Nat) : Int), zi (wY D (Ht D)), zi op, zi ms, zi (D 19 r), zi (wt + (D 16 (D 19 r).toNat)), zi ((r + 1 : Nat) : Int), zi (D 19 r), zi (D 19 r)] dL_isVerdict_200 rfl (by omega) (Nat.le_of_ble_eq_true rfl) rfl rfl ?_
                          refine zx_goto (tgt := 24) dL_isVerdict_203 (by decide) ?_
                          refine zy_drop 8 [zf 9 0, zi ((wP D (Ht D) : Nat) : Int), zi (wY D (Ht D)), zi op, zi ms, zi (D 19 r), zi (wt + (D 16 (D 19 r).toNat)), zi ((r + 1 : Nat) : Int), zu, zi (D 19 r)] rfl ?_
                          refine zy_drop 9 [zf 9 0, zi ((wP D (Ht D) : Nat) : Int), zi (wY D (Ht D)), zi op, zi ms, zi (D 19 r), zi (wt + (D 16 (D 19 r).toNat)), zi ((r + 1 : Nat) : Int), zu, zu] rfl ?_
                          exact ih24 τ (r + 1) op ms (D 19 r) (wt + (D 16 (D 19 r).toNat)) hz hB hF (by first | assumption | omega) (by subst hop; first | exact zsb_f (P := fun i => opn D (D 19 i).toNat) (fun q => by first | exact q.1.1 h134 | exact h143 q.1.2 | exact q.2 h168.2) | exact zsb_t (P := fun i => opn D (D 19 i).toNat) hopn) (by subst hms; first | exact zsw_f (P := fun i => opn D (D 19 i).toNat) (v := fun i => D 16 (D 19 i).toNat) (fun q => by first | exact q.1.1 h134 | exact h143 q.1.2 | exact q.2 h168.2) | exact zsw_t (P := fun i => opn D (D 19 i).toNat) (v := fun i => D 16 (D 19 i).toNat) hopn) (by first | (rw [hnx]; exact (nxR_k hW (by omega) (by omega)).symm) | (rw [hnx]; exact (nxR_n hW (by omega) (by omega) h116).symm) | exact (nxR_t hW (by omega) (by omega) h116).symm) (by subst hwt; first | exact zsw_f (P := fun i => Ht D (D 19 i).toNat) (v := fun i => D 16 (D 19 i).toNat) (fun q => by first | exact q.1 h134 | exact h143 q.2) | exact zsw_t (P := fun i => Ht D (D 19 i).toNat) (v := fun i => D 16 (D 19 i).toNat) ⟨h134, h143⟩) (by omega)
                      · refine zx_goto (tgt := 200) dL_isVerdict_146 (by decide) ?_
                        refine zy_iinc (b := ((r + 1 : Nat) : Int)) [zf 9 0, zi ((wP D (Ht D) : Nat) : Int), zi (wY D (Ht D)), zi op, zi ms, zi (D 19 r), zi wt, zi ((r + 1 : Nat) : Int), zi (D 19 r), zi (D 19 r)] dL_isVerdict_200 rfl (by omega) (Nat.le_of_ble_eq_true rfl) rfl rfl ?_
                        refine zx_goto (tgt := 24) dL_isVerdict_203 (by decide) ?_
                        refine zy_drop 8 [zf 9 0, zi ((wP D (Ht D) : Nat) : Int), zi (wY D (Ht D)), zi op, zi ms, zi (D 19 r), zi wt, zi ((r + 1 : Nat) : Int), zu, zi (D 19 r)] rfl ?_
                        refine zy_drop 9 [zf 9 0, zi ((wP D (Ht D) : Nat) : Int), zi (wY D (Ht D)), zi op, zi ms, zi (D 19 r), zi wt, zi ((r + 1 : Nat) : Int), zu, zu] rfl ?_
                        exact ih24 τ (r + 1) op ms (D 19 r) wt hz hB hF (by first | assumption | omega) (by subst hop; first | exact zsb_f (P := fun i => opn D (D 19 i).toNat) (fun q => by first | exact q.1.1 h134 | exact h143 q.1.2 | exact q.2 h168.2) | exact zsb_t (P := fun i => opn D (D 19 i).toNat) hopn) (by subst hms; first | exact zsw_f (P := fun i => opn D (D 19 i).toNat) (v := fun i => D 16 (D 19 i).toNat) (fun q => by first | exact q.1.1 h134 | exact h143 q.1.2 | exact q.2 h168.2) | exact zsw_t (P := fun i => opn D (D 19 i).toNat) (v := fun i => D 16 (D 19 i).toNat) hopn) (by first | (rw [hnx]; exact (nxR_k hW (by omega) (by omega)).symm) | (rw [hnx]; exact (nxR_n hW (by omega) (by omega) h116).symm) | exact (nxR_t hW (by omega) (by omega) h116).symm) (by subst hwt; first | exact zsw_f (P := fun i => Ht D (D 19 i).toNat) (v := fun i => D 16 (D 19 i).toNat) (fun q => by first | exact q.1 h134 | exact h143 q.2) | exact zsw_t (P := fun i => Ht D (D 19 i).toNat) (v := fun i => D 16 (D 19 i).toNat) ⟨h134, h143⟩) (by omega)
              · refine zx_iload dL_isVerdict_96 rfl ?_
                refine zx_iload dL_isVerdict_98 rfl ?_
                refine zx_icmp_lt (tgt := 105) (by first | exact hz _ _ | assumption | exact zr_b _ | exact zcmp_r _ _ | exact hzD _ _ | exact zr3 (tS_b hW _) | exact zr3 (lsc_b hW _ _) | exact zr3 (sc_b hW _ _) | exact rkP_zr hW _ | exact scA_zr hW _ _ | exact zr3 (cW_b hW) | exact zr3 (wS_b hW) | exact unx_zr hW _ | exact dcs_zr hW | (unfold zr at *; omega)) (by first | exact hz _ _ | assumption | exact zr_b _ | exact zcmp_r _ _ | exact hzD _ _ | exact zr3 (tS_b hW _) | exact zr3 (lsc_b hW _ _) | exact zr3 (sc_b hW _ _) | exact rkP_zr hW _ | exact scA_zr hW _ _ | exact zr3 (cW_b hW) | exact zr3 (wS_b hW) | exact unx_zr hW _ | exact dcs_zr hW | (unfold zr at *; omega)) dL_isVerdict_100 (by decide) (fun h100 => ?_) (fun h100 => ?_)
                · refine zx_iload dL_isVerdict_105 rfl ?_
                  refine zx_if_ge (tgt := 124) (by first | exact hz _ _ | assumption | exact zr_b _ | exact zcmp_r _ _ | exact hzD _ _ | exact zr3 (tS_b hW _) | exact zr3 (lsc_b hW _ _) | exact zr3 (sc_b hW _ _) | exact rkP_zr hW _ | exact scA_zr hW _ _ | exact zr3 (cW_b hW) | exact zr3 (wS_b hW) | exact unx_zr hW _ | exact dcs_zr hW | (unfold zr at *; omega)) dL_isVerdict_107 (by decide) (fun h107 => ?_) (fun h107 => ?_)
                  · refine zx_iload dL_isVerdict_124 rfl ?_
                    refine zy_istore [zf 9 0, zi ((wP D (Ht D) : Nat) : Int), zi (wY D (Ht D)), zi op, zi ms, zi nx, zi wt, zi ((r : Nat) : Int), zi (D 19 r), zi (D 19 r)] dL_isVerdict_126 (Nat.le_of_ble_eq_true rfl) (Nat.le_of_ble_eq_true rfl) rfl rfl ?_
                    refine zx_aloadN dL_isVerdict_128 rfl rfl ?_
                    refine zx_iload dL_isVerdict_129 rfl ?_
                    refine zy_cv [zi (D 19 r)] (fX9_isRead  hfl hz hB hW (by first | exact hz _ _ | assumption | exact zr_b _ | exact zcmp_r _ _ | exact hzD _ _ | exact zr3 (tS_b hW _) | exact zr3 (lsc_b hW _ _) | exact zr3 (sc_b hW _ _) | exact rkP_zr hW _ | exact scA_zr hW _ _ | exact zr3 (cW_b hW) | exact zr3 (wS_b hW) | exact unx_zr hW _ | exact dcs_zr hW | (unfold zr at *; omega)) (by first | assumption | omega)) dL_isVerdict_131 (by decide) rfl cw_RL_122 okX9_isRead rfl (Nat.le_of_ble_eq_true rfl) ⟨Nat.le_of_ble_eq_true rfl, Nat.le_of_ble_eq_true rfl, Nat.le_of_ble_eq_true rfl, Nat.le_of_ble_eq_true rfl⟩ ?_
                    refine zx_if_eq (tgt := 200) (by first | exact hz _ _ | assumption | exact zr_b _ | exact zcmp_r _ _ | exact hzD _ _ | exact zr3 (tS_b hW _) | exact zr3 (lsc_b hW _ _) | exact zr3 (sc_b hW _ _) | exact rkP_zr hW _ | exact scA_zr hW _ _ | exact zr3 (cW_b hW) | exact zr3 (wS_b hW) | exact unx_zr hW _ | exact dcs_zr hW | (unfold zr at *; omega)) dL_isVerdict_134 (by decide) (fun h134 => ?_) (fun h134 => ?_)
                    · refine zy_iinc (b := ((r + 1 : Nat) : Int)) [zf 9 0, zi ((wP D (Ht D) : Nat) : Int), zi (wY D (Ht D)), zi op, zi ms, zi nx, zi wt, zi ((r + 1 : Nat) : Int), zi (D 19 r), zi (D 19 r)] dL_isVerdict_200 rfl (by omega) (Nat.le_of_ble_eq_true rfl) rfl rfl ?_
                      refine zx_goto (tgt := 24) dL_isVerdict_203 (by decide) ?_
                      refine zy_drop 8 [zf 9 0, zi ((wP D (Ht D) : Nat) : Int), zi (wY D (Ht D)), zi op, zi ms, zi nx, zi wt, zi ((r + 1 : Nat) : Int), zu, zi (D 19 r)] rfl ?_
                      refine zy_drop 9 [zf 9 0, zi ((wP D (Ht D) : Nat) : Int), zi (wY D (Ht D)), zi op, zi ms, zi nx, zi wt, zi ((r + 1 : Nat) : Int), zu, zu] rfl ?_
                      exact ih24 τ (r + 1) op ms nx wt hz hB hF (by first | assumption | omega) (by subst hop; first | exact zsb_f (P := fun i => opn D (D 19 i).toNat) (fun q => by first | exact q.1.1 h134 | exact h143 q.1.2 | exact q.2 h168.2) | exact zsb_t (P := fun i => opn D (D 19 i).toNat) hopn) (by subst hms; first | exact zsw_f (P := fun i => opn D (D 19 i).toNat) (v := fun i => D 16 (D 19 i).toNat) (fun q => by first | exact q.1.1 h134 | exact h143 q.1.2 | exact q.2 h168.2) | exact zsw_t (P := fun i => opn D (D 19 i).toNat) (v := fun i => D 16 (D 19 i).toNat) hopn) (by first | (rw [hnx]; exact (nxR_k hW (by omega) (by omega)).symm) | (rw [hnx]; exact (nxR_n hW (by omega) (by omega) h116).symm) | exact (nxR_t hW (by omega) (by omega) h116).symm) (by subst hwt; first | exact zsw_f (P := fun i => Ht D (D 19 i).toNat) (v := fun i => D 16 (D 19 i).toNat) (fun q => by first | exact q.1 h134 | exact h143 q.2) | exact zsw_t (P := fun i => Ht D (D 19 i).toNat) (v := fun i => D 16 (D 19 i).toNat) ⟨h134, h143⟩) (by omega)
                    · refine zx_aloadN dL_isVerdict_137 rfl rfl ?_
                      refine zx_iload dL_isVerdict_138 rfl ?_
                      refine zy_cv [zi (D 19 r)] (fX9_isAside  hfl hz hB hW (by first | exact hz _ _ | assumption | exact zr_b _ | exact zcmp_r _ _ | exact hzD _ _ | exact zr3 (tS_b hW _) | exact zr3 (lsc_b hW _ _) | exact zr3 (sc_b hW _ _) | exact rkP_zr hW _ | exact scA_zr hW _ _ | exact zr3 (cW_b hW) | exact zr3 (wS_b hW) | exact unx_zr hW _ | exact dcs_zr hW | (unfold zr at *; omega)) (by first | assumption | omega)) dL_isVerdict_140 (by decide) rfl cw_RL_128 okX9_isAside rfl (Nat.le_of_ble_eq_true rfl) ⟨Nat.le_of_ble_eq_true rfl, Nat.le_of_ble_eq_true rfl, Nat.le_of_ble_eq_true rfl, Nat.le_of_ble_eq_true rfl⟩ ?_
                      refine zx_if_eq (tgt := 149) (by first | exact hz _ _ | assumption | exact zr_b _ | exact zcmp_r _ _ | exact hzD _ _ | exact zr3 (tS_b hW _) | exact zr3 (lsc_b hW _ _) | exact zr3 (sc_b hW _ _) | exact rkP_zr hW _ | exact scA_zr hW _ _ | exact zr3 (cW_b hW) | exact zr3 (wS_b hW) | exact unx_zr hW _ | exact dcs_zr hW | (unfold zr at *; omega)) dL_isVerdict_143 (by decide) (fun h143 => ?_) (fun h143 => ?_)
                      · refine zx_iload dL_isVerdict_149 rfl ?_
                        refine zx_aloadN dL_isVerdict_151 rfl rfl ?_
                        refine zx_iload dL_isVerdict_152 rfl ?_
                        refine zy_cv [zi (D 19 r)] (fX9_weightOf  hfl hz hB hW (by first | exact hz _ _ | assumption | exact zr_b _ | exact zcmp_r _ _ | exact hzD _ _ | exact zr3 (tS_b hW _) | exact zr3 (lsc_b hW _ _) | exact zr3 (sc_b hW _ _) | exact rkP_zr hW _ | exact scA_zr hW _ _ | exact zr3 (cW_b hW) | exact zr3 (wS_b hW) | exact unx_zr hW _ | exact dcs_zr hW | (unfold zr at *; omega)) (by first | assumption | omega)) dL_isVerdict_154 (by decide) rfl cw_RL_119 okX9_weightOf rfl (Nat.le_of_ble_eq_true rfl) ⟨Nat.le_of_ble_eq_true rfl, Nat.le_of_ble_eq_true rfl, Nat.le_of_ble_eq_true rfl, Nat.le_of_ble_eq_true rfl⟩ ?_
                        refine zx_iadd dL_isVerdict_157 ?_
                        refine zy_istore [zf 9 0, zi ((wP D (Ht D) : Nat) : Int), zi (wY D (Ht D)), zi op, zi ms, zi nx, zi (wt + (D 16 (D 19 r).toNat)), zi ((r : Nat) : Int), zi (D 19 r), zi (D 19 r)] dL_isVerdict_158 (Nat.le_of_ble_eq_true rfl) (Nat.le_of_ble_eq_true rfl) rfl rfl ?_
                        refine zx_aloadN dL_isVerdict_160 rfl rfl ?_
                        refine zx_iloadN dL_isVerdict_161 rfl rfl ?_
                        refine zx_iloadN dL_isVerdict_162 rfl rfl ?_
                        refine zx_iload dL_isVerdict_163 rfl ?_
                        refine zy_cv [zi ((wP D (Ht D) : Nat) : Int), zi (wY D (Ht D)), zi (D 19 r)] (fX9_explains  hfl hz hB hW (by first | exact hz _ _ | assumption | exact zr_b _ | exact zcmp_r _ _ | exact hzD _ _ | exact zr3 (tS_b hW _) | exact zr3 (lsc_b hW _ _) | exact zr3 (sc_b hW _ _) | exact rkP_zr hW _ | exact scA_zr hW _ _ | exact zr3 (cW_b hW) | exact zr3 (wS_b hW) | exact unx_zr hW _ | exact dcs_zr hW | (unfold zr at *; omega)) (by first | exact hz _ _ | assumption | exact zr_b _ | exact zcmp_r _ _ | exact hzD _ _ | exact zr3 (tS_b hW _) | exact zr3 (lsc_b hW _ _) | exact zr3 (sc_b hW _ _) | exact rkP_zr hW _ | exact scA_zr hW _ _ | exact zr3 (cW_b hW) | exact zr3 (wS_b hW) | exact unx_zr hW _ | exact dcs_zr hW | (unfold zr at *; omega)) (by first | exact hz _ _ | assumption | exact zr_b _ | exact zcmp_r _ _ | exact hzD _ _ | exact zr3 (tS_b hW _) | exact zr3 (lsc_b hW _ _) | exact zr3 (sc_b hW _ _) | exact rkP_zr hW _ | exact scA_zr hW _ _ | exact zr3 (cW_b hW) | exact zr3 (wS_b hW) | exact unx_zr hW _ | exact dcs_zr hW | (unfold zr at *; omega)) (by first | assumption | omega) (by first | assumption | omega) (by first | assumption | omega)) dL_isVerdict_165 (by decide) rfl cw_RL_140 okX9_explains rfl (Nat.le_of_ble_eq_true rfl) ⟨Nat.le_of_ble_eq_true rfl, Nat.le_of_ble_eq_true rfl, Nat.le_of_ble_eq_true rfl, Nat.le_of_ble_eq_true rfl⟩ ?_
                        refine zy_top (b := zb (works D (wP D (Ht D)) (wY D (Ht D)) ∧ cFit D (wP D (Ht D)) (wY D (Ht D)) (D 19 r).toNat)) rfl ?_
                        refine zx_if_eq (tgt := 174) (by first | exact hz _ _ | assumption | exact zr_b _ | exact zcmp_r _ _ | exact hzD _ _ | exact zr3 (tS_b hW _) | exact zr3 (lsc_b hW _ _) | exact zr3 (sc_b hW _ _) | exact rkP_zr hW _ | exact scA_zr hW _ _ | exact zr3 (cW_b hW) | exact zr3 (wS_b hW) | exact unx_zr hW _ | exact dcs_zr hW | (unfold zr at *; omega)) dL_isVerdict_168 (by decide) (fun h168 => ?_) (fun h168 => ?_)
                        · have h168 := zb_0.mp h168
                          have hopn : opn D (D 19 r).toNat := ⟨⟨h134, h143⟩, fun z => h168 ⟨hdec, z⟩⟩
                          refine zx_aloadN dL_isVerdict_174 rfl rfl ?_
                          refine zx_iloadN dL_isVerdict_175 rfl rfl ?_
                          refine zy_cvR [zi op] (fX9_unexplainedClue  hfl hz hB hW hP1 (by first | exact hz _ _ | assumption | exact zr_b _ | exact zcmp_r _ _ | exact hzD _ _ | exact zr3 (tS_b hW _) | exact zr3 (lsc_b hW _ _) | exact zr3 (sc_b hW _ _) | exact rkP_zr hW _ | exact scA_zr hW _ _ | exact zr3 (cW_b hW) | exact zr3 (wS_b hW) | exact unx_zr hW _ | exact dcs_zr hW | (unfold zr at *; omega))) dL_isVerdict_176 (by decide) rfl cw_RL_183 okX9_unexplainedClue rfl (Nat.le_of_ble_eq_true rfl) ⟨Nat.le_of_ble_eq_true rfl, Nat.le_of_ble_eq_true rfl, Nat.le_of_ble_eq_true rfl, Nat.le_of_ble_eq_true rfl⟩ (fun τ176 hr176 => ?_)
                          have hz176 : zOK τ176 := hr176.1
                          refine zy_top (b := D 19 r) (by rw [hop]; exact unx_r (by omega) hopn) ?_
                          refine zx_iload dL_isVerdict_179 rfl ?_
                          refine zx_icmp_eq (tgt := 186) (by first | exact hz176 _ _ | assumption | exact zr_b _ | exact zcmp_r _ _ | exact hzD _ _ | exact zr3 (tS_b hW _) | exact zr3 (lsc_b hW _ _) | exact zr3 (sc_b hW _ _) | exact rkP_zr hW _ | exact scA_zr hW _ _ | exact zr3 (cW_b hW) | exact zr3 (wS_b hW) | exact unx_zr hW _ | exact dcs_zr hW | (unfold zr at *; omega)) (by first | exact hz176 _ _ | assumption | exact zr_b _ | exact zcmp_r _ _ | exact hzD _ _ | exact zr3 (tS_b hW _) | exact zr3 (lsc_b hW _ _) | exact zr3 (sc_b hW _ _) | exact rkP_zr hW _ | exact scA_zr hW _ _ | exact zr3 (cW_b hW) | exact zr3 (wS_b hW) | exact unx_zr hW _ | exact dcs_zr hW | (unfold zr at *; omega)) dL_isVerdict_181 (by decide) (fun h181 => ?_) (fun h181 => ?_)
                          · refine zx_iload dL_isVerdict_186 rfl ?_
                            refine zx_aloadN dL_isVerdict_188 rfl rfl ?_
                            refine zx_iload dL_isVerdict_189 rfl ?_
                            refine zy_cv [zi (D 19 r)] (fX9_weightOf  hfl hz176 hr176.2.2 hW (by first | exact hz176 _ _ | assumption | exact zr_b _ | exact zcmp_r _ _ | exact hzD _ _ | exact zr3 (tS_b hW _) | exact zr3 (lsc_b hW _ _) | exact zr3 (sc_b hW _ _) | exact rkP_zr hW _ | exact scA_zr hW _ _ | exact zr3 (cW_b hW) | exact zr3 (wS_b hW) | exact unx_zr hW _ | exact dcs_zr hW | (unfold zr at *; omega)) (by first | assumption | omega)) dL_isVerdict_191 (by decide) rfl cw_RL_119 okX9_weightOf rfl (Nat.le_of_ble_eq_true rfl) ⟨Nat.le_of_ble_eq_true rfl, Nat.le_of_ble_eq_true rfl, Nat.le_of_ble_eq_true rfl, Nat.le_of_ble_eq_true rfl⟩ ?_
                            refine zx_iadd dL_isVerdict_194 ?_
                            refine zy_istore [zf 9 0, zi ((wP D (Ht D) : Nat) : Int), zi (wY D (Ht D)), zi op, zi (ms + (D 16 (D 19 r).toNat)), zi nx, zi (wt + (D 16 (D 19 r).toNat)), zi ((r : Nat) : Int), zi (D 19 r), zi (D 19 r)] dL_isVerdict_195 (Nat.le_of_ble_eq_true rfl) (Nat.le_of_ble_eq_true rfl) rfl rfl ?_
                            refine zy_iinc (b := op + 1) [zf 9 0, zi ((wP D (Ht D) : Nat) : Int), zi (wY D (Ht D)), zi (op + 1), zi (ms + (D 16 (D 19 r).toNat)), zi nx, zi (wt + (D 16 (D 19 r).toNat)), zi ((r : Nat) : Int), zi (D 19 r), zi (D 19 r)] dL_isVerdict_197 rfl (by omega) (Nat.le_of_ble_eq_true rfl) rfl rfl ?_
                            refine zy_iinc (b := ((r + 1 : Nat) : Int)) [zf 9 0, zi ((wP D (Ht D) : Nat) : Int), zi (wY D (Ht D)), zi (op + 1), zi (ms + (D 16 (D 19 r).toNat)), zi nx, zi (wt + (D 16 (D 19 r).toNat)), zi ((r + 1 : Nat) : Int), zi (D 19 r), zi (D 19 r)] dL_isVerdict_200 rfl (by omega) (Nat.le_of_ble_eq_true rfl) rfl rfl ?_
                            refine zx_goto (tgt := 24) dL_isVerdict_203 (by decide) ?_
                            refine zy_drop 8 [zf 9 0, zi ((wP D (Ht D) : Nat) : Int), zi (wY D (Ht D)), zi (op + 1), zi (ms + (D 16 (D 19 r).toNat)), zi nx, zi (wt + (D 16 (D 19 r).toNat)), zi ((r + 1 : Nat) : Int), zu, zi (D 19 r)] rfl ?_
                            refine zy_drop 9 [zf 9 0, zi ((wP D (Ht D) : Nat) : Int), zi (wY D (Ht D)), zi (op + 1), zi (ms + (D 16 (D 19 r).toNat)), zi nx, zi (wt + (D 16 (D 19 r).toNat)), zi ((r + 1 : Nat) : Int), zu, zu] rfl ?_
                            exact ih24 τ176 (r + 1) (op + 1) (ms + (D 16 (D 19 r).toNat)) nx (wt + (D 16 (D 19 r).toNat)) hz176 hr176.2.2 (zJ hF hr176.2.1) (by first | assumption | omega) (by subst hop; first | exact zsb_f (P := fun i => opn D (D 19 i).toNat) (fun q => by first | exact q.1.1 h134 | exact h143 q.1.2 | exact q.2 h168.2) | exact zsb_t (P := fun i => opn D (D 19 i).toNat) hopn) (by subst hms; first | exact zsw_f (P := fun i => opn D (D 19 i).toNat) (v := fun i => D 16 (D 19 i).toNat) (fun q => by first | exact q.1.1 h134 | exact h143 q.1.2 | exact q.2 h168.2) | exact zsw_t (P := fun i => opn D (D 19 i).toNat) (v := fun i => D 16 (D 19 i).toNat) hopn) (by first | (rw [hnx]; exact (nxR_k hW (by omega) (by omega)).symm) | (rw [hnx]; exact (nxR_n hW (by omega) (by omega) h116).symm) | exact (nxR_t hW (by omega) (by omega) h116).symm) (by subst hwt; first | exact zsw_f (P := fun i => Ht D (D 19 i).toNat) (v := fun i => D 16 (D 19 i).toNat) (fun q => by first | exact q.1 h134 | exact h143 q.2) | exact zsw_t (P := fun i => Ht D (D 19 i).toNat) (v := fun i => D 16 (D 19 i).toNat) ⟨h134, h143⟩) (by omega)
                          · exact absurd rfl h181
                        · have h168 := zb_n.mp h168
                          refine zx_goto (tgt := 200) dL_isVerdict_171 (by decide) ?_
                          refine zy_iinc (b := ((r + 1 : Nat) : Int)) [zf 9 0, zi ((wP D (Ht D) : Nat) : Int), zi (wY D (Ht D)), zi op, zi ms, zi nx, zi (wt + (D 16 (D 19 r).toNat)), zi ((r + 1 : Nat) : Int), zi (D 19 r), zi (D 19 r)] dL_isVerdict_200 rfl (by omega) (Nat.le_of_ble_eq_true rfl) rfl rfl ?_
                          refine zx_goto (tgt := 24) dL_isVerdict_203 (by decide) ?_
                          refine zy_drop 8 [zf 9 0, zi ((wP D (Ht D) : Nat) : Int), zi (wY D (Ht D)), zi op, zi ms, zi nx, zi (wt + (D 16 (D 19 r).toNat)), zi ((r + 1 : Nat) : Int), zu, zi (D 19 r)] rfl ?_
                          refine zy_drop 9 [zf 9 0, zi ((wP D (Ht D) : Nat) : Int), zi (wY D (Ht D)), zi op, zi ms, zi nx, zi (wt + (D 16 (D 19 r).toNat)), zi ((r + 1 : Nat) : Int), zu, zu] rfl ?_
                          exact ih24 τ (r + 1) op ms nx (wt + (D 16 (D 19 r).toNat)) hz hB hF (by first | assumption | omega) (by subst hop; first | exact zsb_f (P := fun i => opn D (D 19 i).toNat) (fun q => by first | exact q.1.1 h134 | exact h143 q.1.2 | exact q.2 h168.2) | exact zsb_t (P := fun i => opn D (D 19 i).toNat) hopn) (by subst hms; first | exact zsw_f (P := fun i => opn D (D 19 i).toNat) (v := fun i => D 16 (D 19 i).toNat) (fun q => by first | exact q.1.1 h134 | exact h143 q.1.2 | exact q.2 h168.2) | exact zsw_t (P := fun i => opn D (D 19 i).toNat) (v := fun i => D 16 (D 19 i).toNat) hopn) (by first | (rw [hnx]; exact (nxR_k hW (by omega) (by omega)).symm) | (rw [hnx]; exact (nxR_n hW (by omega) (by omega) h116).symm) | exact (nxR_t hW (by omega) (by omega) h116).symm) (by subst hwt; first | exact zsw_f (P := fun i => Ht D (D 19 i).toNat) (v := fun i => D 16 (D 19 i).toNat) (fun q => by first | exact q.1 h134 | exact h143 q.2) | exact zsw_t (P := fun i => Ht D (D 19 i).toNat) (v := fun i => D 16 (D 19 i).toNat) ⟨h134, h143⟩) (by omega)
                      · refine zx_goto (tgt := 200) dL_isVerdict_146 (by decide) ?_
                        refine zy_iinc (b := ((r + 1 : Nat) : Int)) [zf 9 0, zi ((wP D (Ht D) : Nat) : Int), zi (wY D (Ht D)), zi op, zi ms, zi nx, zi wt, zi ((r + 1 : Nat) : Int), zi (D 19 r), zi (D 19 r)] dL_isVerdict_200 rfl (by omega) (Nat.le_of_ble_eq_true rfl) rfl rfl ?_
                        refine zx_goto (tgt := 24) dL_isVerdict_203 (by decide) ?_
                        refine zy_drop 8 [zf 9 0, zi ((wP D (Ht D) : Nat) : Int), zi (wY D (Ht D)), zi op, zi ms, zi nx, zi wt, zi ((r + 1 : Nat) : Int), zu, zi (D 19 r)] rfl ?_
                        refine zy_drop 9 [zf 9 0, zi ((wP D (Ht D) : Nat) : Int), zi (wY D (Ht D)), zi op, zi ms, zi nx, zi wt, zi ((r + 1 : Nat) : Int), zu, zu] rfl ?_
                        exact ih24 τ (r + 1) op ms nx wt hz hB hF (by first | assumption | omega) (by subst hop; first | exact zsb_f (P := fun i => opn D (D 19 i).toNat) (fun q => by first | exact q.1.1 h134 | exact h143 q.1.2 | exact q.2 h168.2) | exact zsb_t (P := fun i => opn D (D 19 i).toNat) hopn) (by subst hms; first | exact zsw_f (P := fun i => opn D (D 19 i).toNat) (v := fun i => D 16 (D 19 i).toNat) (fun q => by first | exact q.1.1 h134 | exact h143 q.1.2 | exact q.2 h168.2) | exact zsw_t (P := fun i => opn D (D 19 i).toNat) (v := fun i => D 16 (D 19 i).toNat) hopn) (by first | (rw [hnx]; exact (nxR_k hW (by omega) (by omega)).symm) | (rw [hnx]; exact (nxR_n hW (by omega) (by omega) h116).symm) | exact (nxR_t hW (by omega) (by omega) h116).symm) (by subst hwt; first | exact zsw_f (P := fun i => Ht D (D 19 i).toNat) (v := fun i => D 16 (D 19 i).toNat) (fun q => by first | exact q.1 h134 | exact h143 q.2) | exact zsw_t (P := fun i => Ht D (D 19 i).toNat) (v := fun i => D 16 (D 19 i).toNat) ⟨h134, h143⟩) (by omega)
                  · refine zx_aloadN dL_isVerdict_110 rfl rfl ?_
                    refine zx_iload dL_isVerdict_111 rfl ?_
                    refine zy_cv [zi (D 19 r)] (fX9_isRead  hfl hz hB hW (by first | exact hz _ _ | assumption | exact zr_b _ | exact zcmp_r _ _ | exact hzD _ _ | exact zr3 (tS_b hW _) | exact zr3 (lsc_b hW _ _) | exact zr3 (sc_b hW _ _) | exact rkP_zr hW _ | exact scA_zr hW _ _ | exact zr3 (cW_b hW) | exact zr3 (wS_b hW) | exact unx_zr hW _ | exact dcs_zr hW | (unfold zr at *; omega)) (by first | assumption | omega)) dL_isVerdict_113 (by decide) rfl cw_RL_122 okX9_isRead rfl (Nat.le_of_ble_eq_true rfl) ⟨Nat.le_of_ble_eq_true rfl, Nat.le_of_ble_eq_true rfl, Nat.le_of_ble_eq_true rfl, Nat.le_of_ble_eq_true rfl⟩ ?_
                    refine zx_if_ne (tgt := 124) (by first | exact hz _ _ | assumption | exact zr_b _ | exact zcmp_r _ _ | exact hzD _ _ | exact zr3 (tS_b hW _) | exact zr3 (lsc_b hW _ _) | exact zr3 (sc_b hW _ _) | exact rkP_zr hW _ | exact scA_zr hW _ _ | exact zr3 (cW_b hW) | exact zr3 (wS_b hW) | exact unx_zr hW _ | exact dcs_zr hW | (unfold zr at *; omega)) dL_isVerdict_116 (by decide) (fun h116 => ?_) (fun h116 => ?_)
                    · refine zx_iload dL_isVerdict_124 rfl ?_
                      refine zy_istore [zf 9 0, zi ((wP D (Ht D) : Nat) : Int), zi (wY D (Ht D)), zi op, zi ms, zi nx, zi wt, zi ((r : Nat) : Int), zi (D 19 r), zi (D 19 r)] dL_isVerdict_126 (Nat.le_of_ble_eq_true rfl) (Nat.le_of_ble_eq_true rfl) rfl rfl ?_
                      refine zx_aloadN dL_isVerdict_128 rfl rfl ?_
                      refine zx_iload dL_isVerdict_129 rfl ?_
                      refine zy_cv [zi (D 19 r)] (fX9_isRead  hfl hz hB hW (by first | exact hz _ _ | assumption | exact zr_b _ | exact zcmp_r _ _ | exact hzD _ _ | exact zr3 (tS_b hW _) | exact zr3 (lsc_b hW _ _) | exact zr3 (sc_b hW _ _) | exact rkP_zr hW _ | exact scA_zr hW _ _ | exact zr3 (cW_b hW) | exact zr3 (wS_b hW) | exact unx_zr hW _ | exact dcs_zr hW | (unfold zr at *; omega)) (by first | assumption | omega)) dL_isVerdict_131 (by decide) rfl cw_RL_122 okX9_isRead rfl (Nat.le_of_ble_eq_true rfl) ⟨Nat.le_of_ble_eq_true rfl, Nat.le_of_ble_eq_true rfl, Nat.le_of_ble_eq_true rfl, Nat.le_of_ble_eq_true rfl⟩ ?_
                      refine zx_if_eq (tgt := 200) (by first | exact hz _ _ | assumption | exact zr_b _ | exact zcmp_r _ _ | exact hzD _ _ | exact zr3 (tS_b hW _) | exact zr3 (lsc_b hW _ _) | exact zr3 (sc_b hW _ _) | exact rkP_zr hW _ | exact scA_zr hW _ _ | exact zr3 (cW_b hW) | exact zr3 (wS_b hW) | exact unx_zr hW _ | exact dcs_zr hW | (unfold zr at *; omega)) dL_isVerdict_134 (by decide) (fun h134 => ?_) (fun h134 => ?_)
                      · refine zy_iinc (b := ((r + 1 : Nat) : Int)) [zf 9 0, zi ((wP D (Ht D) : Nat) : Int), zi (wY D (Ht D)), zi op, zi ms, zi nx, zi wt, zi ((r + 1 : Nat) : Int), zi (D 19 r), zi (D 19 r)] dL_isVerdict_200 rfl (by omega) (Nat.le_of_ble_eq_true rfl) rfl rfl ?_
                        refine zx_goto (tgt := 24) dL_isVerdict_203 (by decide) ?_
                        refine zy_drop 8 [zf 9 0, zi ((wP D (Ht D) : Nat) : Int), zi (wY D (Ht D)), zi op, zi ms, zi nx, zi wt, zi ((r + 1 : Nat) : Int), zu, zi (D 19 r)] rfl ?_
                        refine zy_drop 9 [zf 9 0, zi ((wP D (Ht D) : Nat) : Int), zi (wY D (Ht D)), zi op, zi ms, zi nx, zi wt, zi ((r + 1 : Nat) : Int), zu, zu] rfl ?_
                        exact ih24 τ (r + 1) op ms nx wt hz hB hF (by first | assumption | omega) (by subst hop; first | exact zsb_f (P := fun i => opn D (D 19 i).toNat) (fun q => by first | exact q.1.1 h134 | exact h143 q.1.2 | exact q.2 h168.2) | exact zsb_t (P := fun i => opn D (D 19 i).toNat) hopn) (by subst hms; first | exact zsw_f (P := fun i => opn D (D 19 i).toNat) (v := fun i => D 16 (D 19 i).toNat) (fun q => by first | exact q.1.1 h134 | exact h143 q.1.2 | exact q.2 h168.2) | exact zsw_t (P := fun i => opn D (D 19 i).toNat) (v := fun i => D 16 (D 19 i).toNat) hopn) (by first | (rw [hnx]; exact (nxR_k hW (by omega) (by omega)).symm) | (rw [hnx]; exact (nxR_n hW (by omega) (by omega) h116).symm) | exact (nxR_t hW (by omega) (by omega) h116).symm) (by subst hwt; first | exact zsw_f (P := fun i => Ht D (D 19 i).toNat) (v := fun i => D 16 (D 19 i).toNat) (fun q => by first | exact q.1 h134 | exact h143 q.2) | exact zsw_t (P := fun i => Ht D (D 19 i).toNat) (v := fun i => D 16 (D 19 i).toNat) ⟨h134, h143⟩) (by omega)
                      · refine zx_aloadN dL_isVerdict_137 rfl rfl ?_
                        refine zx_iload dL_isVerdict_138 rfl ?_
                        refine zy_cv [zi (D 19 r)] (fX9_isAside  hfl hz hB hW (by first | exact hz _ _ | assumption | exact zr_b _ | exact zcmp_r _ _ | exact hzD _ _ | exact zr3 (tS_b hW _) | exact zr3 (lsc_b hW _ _) | exact zr3 (sc_b hW _ _) | exact rkP_zr hW _ | exact scA_zr hW _ _ | exact zr3 (cW_b hW) | exact zr3 (wS_b hW) | exact unx_zr hW _ | exact dcs_zr hW | (unfold zr at *; omega)) (by first | assumption | omega)) dL_isVerdict_140 (by decide) rfl cw_RL_128 okX9_isAside rfl (Nat.le_of_ble_eq_true rfl) ⟨Nat.le_of_ble_eq_true rfl, Nat.le_of_ble_eq_true rfl, Nat.le_of_ble_eq_true rfl, Nat.le_of_ble_eq_true rfl⟩ ?_
                        refine zx_if_eq (tgt := 149) (by first | exact hz _ _ | assumption | exact zr_b _ | exact zcmp_r _ _ | exact hzD _ _ | exact zr3 (tS_b hW _) | exact zr3 (lsc_b hW _ _) | exact zr3 (sc_b hW _ _) | exact rkP_zr hW _ | exact scA_zr hW _ _ | exact zr3 (cW_b hW) | exact zr3 (wS_b hW) | exact unx_zr hW _ | exact dcs_zr hW | (unfold zr at *; omega)) dL_isVerdict_143 (by decide) (fun h143 => ?_) (fun h143 => ?_)
                        · refine zx_iload dL_isVerdict_149 rfl ?_
                          refine zx_aloadN dL_isVerdict_151 rfl rfl ?_
                          refine zx_iload dL_isVerdict_152 rfl ?_
                          refine zy_cv [zi (D 19 r)] (fX9_weightOf  hfl hz hB hW (by first | exact hz _ _ | assumption | exact zr_b _ | exact zcmp_r _ _ | exact hzD _ _ | exact zr3 (tS_b hW _) | exact zr3 (lsc_b hW _ _) | exact zr3 (sc_b hW _ _) | exact rkP_zr hW _ | exact scA_zr hW _ _ | exact zr3 (cW_b hW) | exact zr3 (wS_b hW) | exact unx_zr hW _ | exact dcs_zr hW | (unfold zr at *; omega)) (by first | assumption | omega)) dL_isVerdict_154 (by decide) rfl cw_RL_119 okX9_weightOf rfl (Nat.le_of_ble_eq_true rfl) ⟨Nat.le_of_ble_eq_true rfl, Nat.le_of_ble_eq_true rfl, Nat.le_of_ble_eq_true rfl, Nat.le_of_ble_eq_true rfl⟩ ?_
                          refine zx_iadd dL_isVerdict_157 ?_
                          refine zy_istore [zf 9 0, zi ((wP D (Ht D) : Nat) : Int), zi (wY D (Ht D)), zi op, zi ms, zi nx, zi (wt + (D 16 (D 19 r).toNat)), zi ((r : Nat) : Int), zi (D 19 r), zi (D 19 r)] dL_isVerdict_158 (Nat.le_of_ble_eq_true rfl) (Nat.le_of_ble_eq_true rfl) rfl rfl ?_
                          refine zx_aloadN dL_isVerdict_160 rfl rfl ?_
                          refine zx_iloadN dL_isVerdict_161 rfl rfl ?_
                          refine zx_iloadN dL_isVerdict_162 rfl rfl ?_
                          refine zx_iload dL_isVerdict_163 rfl ?_
                          refine zy_cv [zi ((wP D (Ht D) : Nat) : Int), zi (wY D (Ht D)), zi (D 19 r)] (fX9_explains  hfl hz hB hW (by first | exact hz _ _ | assumption | exact zr_b _ | exact zcmp_r _ _ | exact hzD _ _ | exact zr3 (tS_b hW _) | exact zr3 (lsc_b hW _ _) | exact zr3 (sc_b hW _ _) | exact rkP_zr hW _ | exact scA_zr hW _ _ | exact zr3 (cW_b hW) | exact zr3 (wS_b hW) | exact unx_zr hW _ | exact dcs_zr hW | (unfold zr at *; omega)) (by first | exact hz _ _ | assumption | exact zr_b _ | exact zcmp_r _ _ | exact hzD _ _ | exact zr3 (tS_b hW _) | exact zr3 (lsc_b hW _ _) | exact zr3 (sc_b hW _ _) | exact rkP_zr hW _ | exact scA_zr hW _ _ | exact zr3 (cW_b hW) | exact zr3 (wS_b hW) | exact unx_zr hW _ | exact dcs_zr hW | (unfold zr at *; omega)) (by first | exact hz _ _ | assumption | exact zr_b _ | exact zcmp_r _ _ | exact hzD _ _ | exact zr3 (tS_b hW _) | exact zr3 (lsc_b hW _ _) | exact zr3 (sc_b hW _ _) | exact rkP_zr hW _ | exact scA_zr hW _ _ | exact zr3 (cW_b hW) | exact zr3 (wS_b hW) | exact unx_zr hW _ | exact dcs_zr hW | (unfold zr at *; omega)) (by first | assumption | omega) (by first | assumption | omega) (by first | assumption | omega)) dL_isVerdict_165 (by decide) rfl cw_RL_140 okX9_explains rfl (Nat.le_of_ble_eq_true rfl) ⟨Nat.le_of_ble_eq_true rfl, Nat.le_of_ble_eq_true rfl, Nat.le_of_ble_eq_true rfl, Nat.le_of_ble_eq_true rfl⟩ ?_
                          refine zy_top (b := zb (works D (wP D (Ht D)) (wY D (Ht D)) ∧ cFit D (wP D (Ht D)) (wY D (Ht D)) (D 19 r).toNat)) rfl ?_
                          refine zx_if_eq (tgt := 174) (by first | exact hz _ _ | assumption | exact zr_b _ | exact zcmp_r _ _ | exact hzD _ _ | exact zr3 (tS_b hW _) | exact zr3 (lsc_b hW _ _) | exact zr3 (sc_b hW _ _) | exact rkP_zr hW _ | exact scA_zr hW _ _ | exact zr3 (cW_b hW) | exact zr3 (wS_b hW) | exact unx_zr hW _ | exact dcs_zr hW | (unfold zr at *; omega)) dL_isVerdict_168 (by decide) (fun h168 => ?_) (fun h168 => ?_)
                          · have h168 := zb_0.mp h168
                            have hopn : opn D (D 19 r).toNat := ⟨⟨h134, h143⟩, fun z => h168 ⟨hdec, z⟩⟩
                            refine zx_aloadN dL_isVerdict_174 rfl rfl ?_
                            refine zx_iloadN dL_isVerdict_175 rfl rfl ?_
                            refine zy_cvR [zi op] (fX9_unexplainedClue  hfl hz hB hW hP1 (by first | exact hz _ _ | assumption | exact zr_b _ | exact zcmp_r _ _ | exact hzD _ _ | exact zr3 (tS_b hW _) | exact zr3 (lsc_b hW _ _) | exact zr3 (sc_b hW _ _) | exact rkP_zr hW _ | exact scA_zr hW _ _ | exact zr3 (cW_b hW) | exact zr3 (wS_b hW) | exact unx_zr hW _ | exact dcs_zr hW | (unfold zr at *; omega))) dL_isVerdict_176 (by decide) rfl cw_RL_183 okX9_unexplainedClue rfl (Nat.le_of_ble_eq_true rfl) ⟨Nat.le_of_ble_eq_true rfl, Nat.le_of_ble_eq_true rfl, Nat.le_of_ble_eq_true rfl, Nat.le_of_ble_eq_true rfl⟩ (fun τ176 hr176 => ?_)
                            have hz176 : zOK τ176 := hr176.1
                            refine zy_top (b := D 19 r) (by rw [hop]; exact unx_r (by omega) hopn) ?_
                            refine zx_iload dL_isVerdict_179 rfl ?_
                            refine zx_icmp_eq (tgt := 186) (by first | exact hz176 _ _ | assumption | exact zr_b _ | exact zcmp_r _ _ | exact hzD _ _ | exact zr3 (tS_b hW _) | exact zr3 (lsc_b hW _ _) | exact zr3 (sc_b hW _ _) | exact rkP_zr hW _ | exact scA_zr hW _ _ | exact zr3 (cW_b hW) | exact zr3 (wS_b hW) | exact unx_zr hW _ | exact dcs_zr hW | (unfold zr at *; omega)) (by first | exact hz176 _ _ | assumption | exact zr_b _ | exact zcmp_r _ _ | exact hzD _ _ | exact zr3 (tS_b hW _) | exact zr3 (lsc_b hW _ _) | exact zr3 (sc_b hW _ _) | exact rkP_zr hW _ | exact scA_zr hW _ _ | exact zr3 (cW_b hW) | exact zr3 (wS_b hW) | exact unx_zr hW _ | exact dcs_zr hW | (unfold zr at *; omega)) dL_isVerdict_181 (by decide) (fun h181 => ?_) (fun h181 => ?_)
                            · refine zx_iload dL_isVerdict_186 rfl ?_
                              refine zx_aloadN dL_isVerdict_188 rfl rfl ?_
                              refine zx_iload dL_isVerdict_189 rfl ?_
                              refine zy_cv [zi (D 19 r)] (fX9_weightOf  hfl hz176 hr176.2.2 hW (by first | exact hz176 _ _ | assumption | exact zr_b _ | exact zcmp_r _ _ | exact hzD _ _ | exact zr3 (tS_b hW _) | exact zr3 (lsc_b hW _ _) | exact zr3 (sc_b hW _ _) | exact rkP_zr hW _ | exact scA_zr hW _ _ | exact zr3 (cW_b hW) | exact zr3 (wS_b hW) | exact unx_zr hW _ | exact dcs_zr hW | (unfold zr at *; omega)) (by first | assumption | omega)) dL_isVerdict_191 (by decide) rfl cw_RL_119 okX9_weightOf rfl (Nat.le_of_ble_eq_true rfl) ⟨Nat.le_of_ble_eq_true rfl, Nat.le_of_ble_eq_true rfl, Nat.le_of_ble_eq_true rfl, Nat.le_of_ble_eq_true rfl⟩ ?_
                              refine zx_iadd dL_isVerdict_194 ?_
                              refine zy_istore [zf 9 0, zi ((wP D (Ht D) : Nat) : Int), zi (wY D (Ht D)), zi op, zi (ms + (D 16 (D 19 r).toNat)), zi nx, zi (wt + (D 16 (D 19 r).toNat)), zi ((r : Nat) : Int), zi (D 19 r), zi (D 19 r)] dL_isVerdict_195 (Nat.le_of_ble_eq_true rfl) (Nat.le_of_ble_eq_true rfl) rfl rfl ?_
                              refine zy_iinc (b := op + 1) [zf 9 0, zi ((wP D (Ht D) : Nat) : Int), zi (wY D (Ht D)), zi (op + 1), zi (ms + (D 16 (D 19 r).toNat)), zi nx, zi (wt + (D 16 (D 19 r).toNat)), zi ((r : Nat) : Int), zi (D 19 r), zi (D 19 r)] dL_isVerdict_197 rfl (by omega) (Nat.le_of_ble_eq_true rfl) rfl rfl ?_
                              refine zy_iinc (b := ((r + 1 : Nat) : Int)) [zf 9 0, zi ((wP D (Ht D) : Nat) : Int), zi (wY D (Ht D)), zi (op + 1), zi (ms + (D 16 (D 19 r).toNat)), zi nx, zi (wt + (D 16 (D 19 r).toNat)), zi ((r + 1 : Nat) : Int), zi (D 19 r), zi (D 19 r)] dL_isVerdict_200 rfl (by omega) (Nat.le_of_ble_eq_true rfl) rfl rfl ?_
                              refine zx_goto (tgt := 24) dL_isVerdict_203 (by decide) ?_
                              refine zy_drop 8 [zf 9 0, zi ((wP D (Ht D) : Nat) : Int), zi (wY D (Ht D)), zi (op + 1), zi (ms + (D 16 (D 19 r).toNat)), zi nx, zi (wt + (D 16 (D 19 r).toNat)), zi ((r + 1 : Nat) : Int), zu, zi (D 19 r)] rfl ?_
                              refine zy_drop 9 [zf 9 0, zi ((wP D (Ht D) : Nat) : Int), zi (wY D (Ht D)), zi (op + 1), zi (ms + (D 16 (D 19 r).toNat)), zi nx, zi (wt + (D 16 (D 19 r).toNat)), zi ((r + 1 : Nat) : Int), zu, zu] rfl ?_
                              exact ih24 τ176 (r + 1) (op + 1) (ms + (D 16 (D 19 r).toNat)) nx (wt + (D 16 (D 19 r).toNat)) hz176 hr176.2.2 (zJ hF hr176.2.1) (by first | assumption | omega) (by subst hop; first | exact zsb_f (P := fun i => opn D (D 19 i).toNat) (fun q => by first | exact q.1.1 h134 | exact h143 q.1.2 | exact q.2 h168.2) | exact zsb_t (P := fun i => opn D (D 19 i).toNat) hopn) (by subst hms; first | exact zsw_f (P := fun i => opn D (D 19 i).toNat) (v := fun i => D 16 (D 19 i).toNat) (fun q => by first | exact q.1.1 h134 | exact h143 q.1.2 | exact q.2 h168.2) | exact zsw_t (P := fun i => opn D (D 19 i).toNat) (v := fun i => D 16 (D 19 i).toNat) hopn) (by first | (rw [hnx]; exact (nxR_k hW (by omega) (by omega)).symm) | (rw [hnx]; exact (nxR_n hW (by omega) (by omega) h116).symm) | exact (nxR_t hW (by omega) (by omega) h116).symm) (by subst hwt; first | exact zsw_f (P := fun i => Ht D (D 19 i).toNat) (v := fun i => D 16 (D 19 i).toNat) (fun q => by first | exact q.1 h134 | exact h143 q.2) | exact zsw_t (P := fun i => Ht D (D 19 i).toNat) (v := fun i => D 16 (D 19 i).toNat) ⟨h134, h143⟩) (by omega)
                            · exact absurd rfl h181
                          · have h168 := zb_n.mp h168
                            refine zx_goto (tgt := 200) dL_isVerdict_171 (by decide) ?_
                            refine zy_iinc (b := ((r + 1 : Nat) : Int)) [zf 9 0, zi ((wP D (Ht D) : Nat) : Int), zi (wY D (Ht D)), zi op, zi ms, zi nx, zi (wt + (D 16 (D 19 r).toNat)), zi ((r + 1 : Nat) : Int), zi (D 19 r), zi (D 19 r)] dL_isVerdict_200 rfl (by omega) (Nat.le_of_ble_eq_true rfl) rfl rfl ?_
                            refine zx_goto (tgt := 24) dL_isVerdict_203 (by decide) ?_
                            refine zy_drop 8 [zf 9 0, zi ((wP D (Ht D) : Nat) : Int), zi (wY D (Ht D)), zi op, zi ms, zi nx, zi (wt + (D 16 (D 19 r).toNat)), zi ((r + 1 : Nat) : Int), zu, zi (D 19 r)] rfl ?_
                            refine zy_drop 9 [zf 9 0, zi ((wP D (Ht D) : Nat) : Int), zi (wY D (Ht D)), zi op, zi ms, zi nx, zi (wt + (D 16 (D 19 r).toNat)), zi ((r + 1 : Nat) : Int), zu, zu] rfl ?_
                            exact ih24 τ (r + 1) op ms nx (wt + (D 16 (D 19 r).toNat)) hz hB hF (by first | assumption | omega) (by subst hop; first | exact zsb_f (P := fun i => opn D (D 19 i).toNat) (fun q => by first | exact q.1.1 h134 | exact h143 q.1.2 | exact q.2 h168.2) | exact zsb_t (P := fun i => opn D (D 19 i).toNat) hopn) (by subst hms; first | exact zsw_f (P := fun i => opn D (D 19 i).toNat) (v := fun i => D 16 (D 19 i).toNat) (fun q => by first | exact q.1.1 h134 | exact h143 q.1.2 | exact q.2 h168.2) | exact zsw_t (P := fun i => opn D (D 19 i).toNat) (v := fun i => D 16 (D 19 i).toNat) hopn) (by first | (rw [hnx]; exact (nxR_k hW (by omega) (by omega)).symm) | (rw [hnx]; exact (nxR_n hW (by omega) (by omega) h116).symm) | exact (nxR_t hW (by omega) (by omega) h116).symm) (by subst hwt; first | exact zsw_f (P := fun i => Ht D (D 19 i).toNat) (v := fun i => D 16 (D 19 i).toNat) (fun q => by first | exact q.1 h134 | exact h143 q.2) | exact zsw_t (P := fun i => Ht D (D 19 i).toNat) (v := fun i => D 16 (D 19 i).toNat) ⟨h134, h143⟩) (by omega)
                        · refine zx_goto (tgt := 200) dL_isVerdict_146 (by decide) ?_
                          refine zy_iinc (b := ((r + 1 : Nat) : Int)) [zf 9 0, zi ((wP D (Ht D) : Nat) : Int), zi (wY D (Ht D)), zi op, zi ms, zi nx, zi wt, zi ((r + 1 : Nat) : Int), zi (D 19 r), zi (D 19 r)] dL_isVerdict_200 rfl (by omega) (Nat.le_of_ble_eq_true rfl) rfl rfl ?_
                          refine zx_goto (tgt := 24) dL_isVerdict_203 (by decide) ?_
                          refine zy_drop 8 [zf 9 0, zi ((wP D (Ht D) : Nat) : Int), zi (wY D (Ht D)), zi op, zi ms, zi nx, zi wt, zi ((r + 1 : Nat) : Int), zu, zi (D 19 r)] rfl ?_
                          refine zy_drop 9 [zf 9 0, zi ((wP D (Ht D) : Nat) : Int), zi (wY D (Ht D)), zi op, zi ms, zi nx, zi wt, zi ((r + 1 : Nat) : Int), zu, zu] rfl ?_
                          exact ih24 τ (r + 1) op ms nx wt hz hB hF (by first | assumption | omega) (by subst hop; first | exact zsb_f (P := fun i => opn D (D 19 i).toNat) (fun q => by first | exact q.1.1 h134 | exact h143 q.1.2 | exact q.2 h168.2) | exact zsb_t (P := fun i => opn D (D 19 i).toNat) hopn) (by subst hms; first | exact zsw_f (P := fun i => opn D (D 19 i).toNat) (v := fun i => D 16 (D 19 i).toNat) (fun q => by first | exact q.1.1 h134 | exact h143 q.1.2 | exact q.2 h168.2) | exact zsw_t (P := fun i => opn D (D 19 i).toNat) (v := fun i => D 16 (D 19 i).toNat) hopn) (by first | (rw [hnx]; exact (nxR_k hW (by omega) (by omega)).symm) | (rw [hnx]; exact (nxR_n hW (by omega) (by omega) h116).symm) | exact (nxR_t hW (by omega) (by omega) h116).symm) (by subst hwt; first | exact zsw_f (P := fun i => Ht D (D 19 i).toNat) (v := fun i => D 16 (D 19 i).toNat) (fun q => by first | exact q.1 h134 | exact h143 q.2) | exact zsw_t (P := fun i => Ht D (D 19 i).toNat) (v := fun i => D 16 (D 19 i).toNat) ⟨h134, h143⟩) (by omega)
                    · refine zx_iload dL_isVerdict_119 rfl ?_
                      refine zx_goto (tgt := 126) dL_isVerdict_121 (by decide) ?_
                      refine zy_istore [zf 9 0, zi ((wP D (Ht D) : Nat) : Int), zi (wY D (Ht D)), zi op, zi ms, zi (D 19 r), zi wt, zi ((r : Nat) : Int), zi (D 19 r), zi (D 19 r)] dL_isVerdict_126 (Nat.le_of_ble_eq_true rfl) (Nat.le_of_ble_eq_true rfl) rfl rfl ?_
                      refine zx_aloadN dL_isVerdict_128 rfl rfl ?_
                      refine zx_iload dL_isVerdict_129 rfl ?_
                      refine zy_cv [zi (D 19 r)] (fX9_isRead  hfl hz hB hW (by first | exact hz _ _ | assumption | exact zr_b _ | exact zcmp_r _ _ | exact hzD _ _ | exact zr3 (tS_b hW _) | exact zr3 (lsc_b hW _ _) | exact zr3 (sc_b hW _ _) | exact rkP_zr hW _ | exact scA_zr hW _ _ | exact zr3 (cW_b hW) | exact zr3 (wS_b hW) | exact unx_zr hW _ | exact dcs_zr hW | (unfold zr at *; omega)) (by first | assumption | omega)) dL_isVerdict_131 (by decide) rfl cw_RL_122 okX9_isRead rfl (Nat.le_of_ble_eq_true rfl) ⟨Nat.le_of_ble_eq_true rfl, Nat.le_of_ble_eq_true rfl, Nat.le_of_ble_eq_true rfl, Nat.le_of_ble_eq_true rfl⟩ ?_
                      refine zx_if_eq (tgt := 200) (by first | exact hz _ _ | assumption | exact zr_b _ | exact zcmp_r _ _ | exact hzD _ _ | exact zr3 (tS_b hW _) | exact zr3 (lsc_b hW _ _) | exact zr3 (sc_b hW _ _) | exact rkP_zr hW _ | exact scA_zr hW _ _ | exact zr3 (cW_b hW) | exact zr3 (wS_b hW) | exact unx_zr hW _ | exact dcs_zr hW | (unfold zr at *; omega)) dL_isVerdict_134 (by decide) (fun h134 => ?_) (fun h134 => ?_)
                      · refine zy_iinc (b := ((r + 1 : Nat) : Int)) [zf 9 0, zi ((wP D (Ht D) : Nat) : Int), zi (wY D (Ht D)), zi op, zi ms, zi (D 19 r), zi wt, zi ((r + 1 : Nat) : Int), zi (D 19 r), zi (D 19 r)] dL_isVerdict_200 rfl (by omega) (Nat.le_of_ble_eq_true rfl) rfl rfl ?_
                        refine zx_goto (tgt := 24) dL_isVerdict_203 (by decide) ?_
                        refine zy_drop 8 [zf 9 0, zi ((wP D (Ht D) : Nat) : Int), zi (wY D (Ht D)), zi op, zi ms, zi (D 19 r), zi wt, zi ((r + 1 : Nat) : Int), zu, zi (D 19 r)] rfl ?_
                        refine zy_drop 9 [zf 9 0, zi ((wP D (Ht D) : Nat) : Int), zi (wY D (Ht D)), zi op, zi ms, zi (D 19 r), zi wt, zi ((r + 1 : Nat) : Int), zu, zu] rfl ?_
                        exact ih24 τ (r + 1) op ms (D 19 r) wt hz hB hF (by first | assumption | omega) (by subst hop; first | exact zsb_f (P := fun i => opn D (D 19 i).toNat) (fun q => by first | exact q.1.1 h134 | exact h143 q.1.2 | exact q.2 h168.2) | exact zsb_t (P := fun i => opn D (D 19 i).toNat) hopn) (by subst hms; first | exact zsw_f (P := fun i => opn D (D 19 i).toNat) (v := fun i => D 16 (D 19 i).toNat) (fun q => by first | exact q.1.1 h134 | exact h143 q.1.2 | exact q.2 h168.2) | exact zsw_t (P := fun i => opn D (D 19 i).toNat) (v := fun i => D 16 (D 19 i).toNat) hopn) (by first | (rw [hnx]; exact (nxR_k hW (by omega) (by omega)).symm) | (rw [hnx]; exact (nxR_n hW (by omega) (by omega) h116).symm) | exact (nxR_t hW (by omega) (by omega) h116).symm) (by subst hwt; first | exact zsw_f (P := fun i => Ht D (D 19 i).toNat) (v := fun i => D 16 (D 19 i).toNat) (fun q => by first | exact q.1 h134 | exact h143 q.2) | exact zsw_t (P := fun i => Ht D (D 19 i).toNat) (v := fun i => D 16 (D 19 i).toNat) ⟨h134, h143⟩) (by omega)
                      · refine zx_aloadN dL_isVerdict_137 rfl rfl ?_
                        refine zx_iload dL_isVerdict_138 rfl ?_
                        refine zy_cv [zi (D 19 r)] (fX9_isAside  hfl hz hB hW (by first | exact hz _ _ | assumption | exact zr_b _ | exact zcmp_r _ _ | exact hzD _ _ | exact zr3 (tS_b hW _) | exact zr3 (lsc_b hW _ _) | exact zr3 (sc_b hW _ _) | exact rkP_zr hW _ | exact scA_zr hW _ _ | exact zr3 (cW_b hW) | exact zr3 (wS_b hW) | exact unx_zr hW _ | exact dcs_zr hW | (unfold zr at *; omega)) (by first | assumption | omega)) dL_isVerdict_140 (by decide) rfl cw_RL_128 okX9_isAside rfl (Nat.le_of_ble_eq_true rfl) ⟨Nat.le_of_ble_eq_true rfl, Nat.le_of_ble_eq_true rfl, Nat.le_of_ble_eq_true rfl, Nat.le_of_ble_eq_true rfl⟩ ?_
                        refine zx_if_eq (tgt := 149) (by first | exact hz _ _ | assumption | exact zr_b _ | exact zcmp_r _ _ | exact hzD _ _ | exact zr3 (tS_b hW _) | exact zr3 (lsc_b hW _ _) | exact zr3 (sc_b hW _ _) | exact rkP_zr hW _ | exact scA_zr hW _ _ | exact zr3 (cW_b hW) | exact zr3 (wS_b hW) | exact unx_zr hW _ | exact dcs_zr hW | (unfold zr at *; omega)) dL_isVerdict_143 (by decide) (fun h143 => ?_) (fun h143 => ?_)
                        · refine zx_iload dL_isVerdict_149 rfl ?_
                          refine zx_aloadN dL_isVerdict_151 rfl rfl ?_
                          refine zx_iload dL_isVerdict_152 rfl ?_
                          refine zy_cv [zi (D 19 r)] (fX9_weightOf  hfl hz hB hW (by first | exact hz _ _ | assumption | exact zr_b _ | exact zcmp_r _ _ | exact hzD _ _ | exact zr3 (tS_b hW _) | exact zr3 (lsc_b hW _ _) | exact zr3 (sc_b hW _ _) | exact rkP_zr hW _ | exact scA_zr hW _ _ | exact zr3 (cW_b hW) | exact zr3 (wS_b hW) | exact unx_zr hW _ | exact dcs_zr hW | (unfold zr at *; omega)) (by first | assumption | omega)) dL_isVerdict_154 (by decide) rfl cw_RL_119 okX9_weightOf rfl (Nat.le_of_ble_eq_true rfl) ⟨Nat.le_of_ble_eq_true rfl, Nat.le_of_ble_eq_true rfl, Nat.le_of_ble_eq_true rfl, Nat.le_of_ble_eq_true rfl⟩ ?_
                          refine zx_iadd dL_isVerdict_157 ?_
                          refine zy_istore [zf 9 0, zi ((wP D (Ht D) : Nat) : Int), zi (wY D (Ht D)), zi op, zi ms, zi (D 19 r), zi (wt + (D 16 (D 19 r).toNat)), zi ((r : Nat) : Int), zi (D 19 r), zi (D 19 r)] dL_isVerdict_158 (Nat.le_of_ble_eq_true rfl) (Nat.le_of_ble_eq_true rfl) rfl rfl ?_
                          refine zx_aloadN dL_isVerdict_160 rfl rfl ?_
                          refine zx_iloadN dL_isVerdict_161 rfl rfl ?_
                          refine zx_iloadN dL_isVerdict_162 rfl rfl ?_
                          refine zx_iload dL_isVerdict_163 rfl ?_
                          refine zy_cv [zi ((wP D (Ht D) : Nat) : Int), zi (wY D (Ht D)), zi (D 19 r)] (fX9_explains  hfl hz hB hW (by first | exact hz _ _ | assumption | exact zr_b _ | exact zcmp_r _ _ | exact hzD _ _ | exact zr3 (tS_b hW _) | exact zr3 (lsc_b hW _ _) | exact zr3 (sc_b hW _ _) | exact rkP_zr hW _ | exact scA_zr hW _ _ | exact zr3 (cW_b hW) | exact zr3 (wS_b hW) | exact unx_zr hW _ | exact dcs_zr hW | (unfold zr at *; omega)) (by first | exact hz _ _ | assumption | exact zr_b _ | exact zcmp_r _ _ | exact hzD _ _ | exact zr3 (tS_b hW _) | exact zr3 (lsc_b hW _ _) | exact zr3 (sc_b hW _ _) | exact rkP_zr hW _ | exact scA_zr hW _ _ | exact zr3 (cW_b hW) | exact zr3 (wS_b hW) | exact unx_zr hW _ | exact dcs_zr hW | (unfold zr at *; omega)) (by first | exact hz _ _ | assumption | exact zr_b _ | exact zcmp_r _ _ | exact hzD _ _ | exact zr3 (tS_b hW _) | exact zr3 (lsc_b hW _ _) | exact zr3 (sc_b hW _ _) | exact rkP_zr hW _ | exact scA_zr hW _ _ | exact zr3 (cW_b hW) | exact zr3 (wS_b hW) | exact unx_zr hW _ | exact dcs_zr hW | (unfold zr at *; omega)) (by first | assumption | omega) (by first | assumption | omega) (by first | assumption | omega)) dL_isVerdict_165 (by decide) rfl cw_RL_140 okX9_explains rfl (Nat.le_of_ble_eq_true rfl) ⟨Nat.le_of_ble_eq_true rfl, Nat.le_of_ble_eq_true rfl, Nat.le_of_ble_eq_true rfl, Nat.le_of_ble_eq_true rfl⟩ ?_
                          refine zy_top (b := zb (works D (wP D (Ht D)) (wY D (Ht D)) ∧ cFit D (wP D (Ht D)) (wY D (Ht D)) (D 19 r).toNat)) rfl ?_
                          refine zx_if_eq (tgt := 174) (by first | exact hz _ _ | assumption | exact zr_b _ | exact zcmp_r _ _ | exact hzD _ _ | exact zr3 (tS_b hW _) | exact zr3 (lsc_b hW _ _) | exact zr3 (sc_b hW _ _) | exact rkP_zr hW _ | exact scA_zr hW _ _ | exact zr3 (cW_b hW) | exact zr3 (wS_b hW) | exact unx_zr hW _ | exact dcs_zr hW | (unfold zr at *; omega)) dL_isVerdict_168 (by decide) (fun h168 => ?_) (fun h168 => ?_)
                          · have h168 := zb_0.mp h168
                            have hopn : opn D (D 19 r).toNat := ⟨⟨h134, h143⟩, fun z => h168 ⟨hdec, z⟩⟩
                            refine zx_aloadN dL_isVerdict_174 rfl rfl ?_
                            refine zx_iloadN dL_isVerdict_175 rfl rfl ?_
                            refine zy_cvR [zi op] (fX9_unexplainedClue  hfl hz hB hW hP1 (by first | exact hz _ _ | assumption | exact zr_b _ | exact zcmp_r _ _ | exact hzD _ _ | exact zr3 (tS_b hW _) | exact zr3 (lsc_b hW _ _) | exact zr3 (sc_b hW _ _) | exact rkP_zr hW _ | exact scA_zr hW _ _ | exact zr3 (cW_b hW) | exact zr3 (wS_b hW) | exact unx_zr hW _ | exact dcs_zr hW | (unfold zr at *; omega))) dL_isVerdict_176 (by decide) rfl cw_RL_183 okX9_unexplainedClue rfl (Nat.le_of_ble_eq_true rfl) ⟨Nat.le_of_ble_eq_true rfl, Nat.le_of_ble_eq_true rfl, Nat.le_of_ble_eq_true rfl, Nat.le_of_ble_eq_true rfl⟩ (fun τ176 hr176 => ?_)
                            have hz176 : zOK τ176 := hr176.1
                            refine zy_top (b := D 19 r) (by rw [hop]; exact unx_r (by omega) hopn) ?_
                            refine zx_iload dL_isVerdict_179 rfl ?_
                            refine zx_icmp_eq (tgt := 186) (by first | exact hz176 _ _ | assumption | exact zr_b _ | exact zcmp_r _ _ | exact hzD _ _ | exact zr3 (tS_b hW _) | exact zr3 (lsc_b hW _ _) | exact zr3 (sc_b hW _ _) | exact rkP_zr hW _ | exact scA_zr hW _ _ | exact zr3 (cW_b hW) | exact zr3 (wS_b hW) | exact unx_zr hW _ | exact dcs_zr hW | (unfold zr at *; omega)) (by first | exact hz176 _ _ | assumption | exact zr_b _ | exact zcmp_r _ _ | exact hzD _ _ | exact zr3 (tS_b hW _) | exact zr3 (lsc_b hW _ _) | exact zr3 (sc_b hW _ _) | exact rkP_zr hW _ | exact scA_zr hW _ _ | exact zr3 (cW_b hW) | exact zr3 (wS_b hW) | exact unx_zr hW _ | exact dcs_zr hW | (unfold zr at *; omega)) dL_isVerdict_181 (by decide) (fun h181 => ?_) (fun h181 => ?_)
                            · refine zx_iload dL_isVerdict_186 rfl ?_
                              refine zx_aloadN dL_isVerdict_188 rfl rfl ?_
                              refine zx_iload dL_isVerdict_189 rfl ?_
                              refine zy_cv [zi (D 19 r)] (fX9_weightOf  hfl hz176 hr176.2.2 hW (by first | exact hz176 _ _ | assumption | exact zr_b _ | exact zcmp_r _ _ | exact hzD _ _ | exact zr3 (tS_b hW _) | exact zr3 (lsc_b hW _ _) | exact zr3 (sc_b hW _ _) | exact rkP_zr hW _ | exact scA_zr hW _ _ | exact zr3 (cW_b hW) | exact zr3 (wS_b hW) | exact unx_zr hW _ | exact dcs_zr hW | (unfold zr at *; omega)) (by first | assumption | omega)) dL_isVerdict_191 (by decide) rfl cw_RL_119 okX9_weightOf rfl (Nat.le_of_ble_eq_true rfl) ⟨Nat.le_of_ble_eq_true rfl, Nat.le_of_ble_eq_true rfl, Nat.le_of_ble_eq_true rfl, Nat.le_of_ble_eq_true rfl⟩ ?_
                              refine zx_iadd dL_isVerdict_194 ?_
                              refine zy_istore [zf 9 0, zi ((wP D (Ht D) : Nat) : Int), zi (wY D (Ht D)), zi op, zi (ms + (D 16 (D 19 r).toNat)), zi (D 19 r), zi (wt + (D 16 (D 19 r).toNat)), zi ((r : Nat) : Int), zi (D 19 r), zi (D 19 r)] dL_isVerdict_195 (Nat.le_of_ble_eq_true rfl) (Nat.le_of_ble_eq_true rfl) rfl rfl ?_
                              refine zy_iinc (b := op + 1) [zf 9 0, zi ((wP D (Ht D) : Nat) : Int), zi (wY D (Ht D)), zi (op + 1), zi (ms + (D 16 (D 19 r).toNat)), zi (D 19 r), zi (wt + (D 16 (D 19 r).toNat)), zi ((r : Nat) : Int), zi (D 19 r), zi (D 19 r)] dL_isVerdict_197 rfl (by omega) (Nat.le_of_ble_eq_true rfl) rfl rfl ?_
                              refine zy_iinc (b := ((r + 1 : Nat) : Int)) [zf 9 0, zi ((wP D (Ht D) : Nat) : Int), zi (wY D (Ht D)), zi (op + 1), zi (ms + (D 16 (D 19 r).toNat)), zi (D 19 r), zi (wt + (D 16 (D 19 r).toNat)), zi ((r + 1 : Nat) : Int), zi (D 19 r), zi (D 19 r)] dL_isVerdict_200 rfl (by omega) (Nat.le_of_ble_eq_true rfl) rfl rfl ?_
                              refine zx_goto (tgt := 24) dL_isVerdict_203 (by decide) ?_
                              refine zy_drop 8 [zf 9 0, zi ((wP D (Ht D) : Nat) : Int), zi (wY D (Ht D)), zi (op + 1), zi (ms + (D 16 (D 19 r).toNat)), zi (D 19 r), zi (wt + (D 16 (D 19 r).toNat)), zi ((r + 1 : Nat) : Int), zu, zi (D 19 r)] rfl ?_
                              refine zy_drop 9 [zf 9 0, zi ((wP D (Ht D) : Nat) : Int), zi (wY D (Ht D)), zi (op + 1), zi (ms + (D 16 (D 19 r).toNat)), zi (D 19 r), zi (wt + (D 16 (D 19 r).toNat)), zi ((r + 1 : Nat) : Int), zu, zu] rfl ?_
                              exact ih24 τ176 (r + 1) (op + 1) (ms + (D 16 (D 19 r).toNat)) (D 19 r) (wt + (D 16 (D 19 r).toNat)) hz176 hr176.2.2 (zJ hF hr176.2.1) (by first | assumption | omega) (by subst hop; first | exact zsb_f (P := fun i => opn D (D 19 i).toNat) (fun q => by first | exact q.1.1 h134 | exact h143 q.1.2 | exact q.2 h168.2) | exact zsb_t (P := fun i => opn D (D 19 i).toNat) hopn) (by subst hms; first | exact zsw_f (P := fun i => opn D (D 19 i).toNat) (v := fun i => D 16 (D 19 i).toNat) (fun q => by first | exact q.1.1 h134 | exact h143 q.1.2 | exact q.2 h168.2) | exact zsw_t (P := fun i => opn D (D 19 i).toNat) (v := fun i => D 16 (D 19 i).toNat) hopn) (by first | (rw [hnx]; exact (nxR_k hW (by omega) (by omega)).symm) | (rw [hnx]; exact (nxR_n hW (by omega) (by omega) h116).symm) | exact (nxR_t hW (by omega) (by omega) h116).symm) (by subst hwt; first | exact zsw_f (P := fun i => Ht D (D 19 i).toNat) (v := fun i => D 16 (D 19 i).toNat) (fun q => by first | exact q.1 h134 | exact h143 q.2) | exact zsw_t (P := fun i => Ht D (D 19 i).toNat) (v := fun i => D 16 (D 19 i).toNat) ⟨h134, h143⟩) (by omega)
                            · exact absurd rfl h181
                          · have h168 := zb_n.mp h168
                            refine zx_goto (tgt := 200) dL_isVerdict_171 (by decide) ?_
                            refine zy_iinc (b := ((r + 1 : Nat) : Int)) [zf 9 0, zi ((wP D (Ht D) : Nat) : Int), zi (wY D (Ht D)), zi op, zi ms, zi (D 19 r), zi (wt + (D 16 (D 19 r).toNat)), zi ((r + 1 : Nat) : Int), zi (D 19 r), zi (D 19 r)] dL_isVerdict_200 rfl (by omega) (Nat.le_of_ble_eq_true rfl) rfl rfl ?_
                            refine zx_goto (tgt := 24) dL_isVerdict_203 (by decide) ?_
                            refine zy_drop 8 [zf 9 0, zi ((wP D (Ht D) : Nat) : Int), zi (wY D (Ht D)), zi op, zi ms, zi (D 19 r), zi (wt + (D 16 (D 19 r).toNat)), zi ((r + 1 : Nat) : Int), zu, zi (D 19 r)] rfl ?_
                            refine zy_drop 9 [zf 9 0, zi ((wP D (Ht D) : Nat) : Int), zi (wY D (Ht D)), zi op, zi ms, zi (D 19 r), zi (wt + (D 16 (D 19 r).toNat)), zi ((r + 1 : Nat) : Int), zu, zu] rfl ?_
                            exact ih24 τ (r + 1) op ms (D 19 r) (wt + (D 16 (D 19 r).toNat)) hz hB hF (by first | assumption | omega) (by subst hop; first | exact zsb_f (P := fun i => opn D (D 19 i).toNat) (fun q => by first | exact q.1.1 h134 | exact h143 q.1.2 | exact q.2 h168.2) | exact zsb_t (P := fun i => opn D (D 19 i).toNat) hopn) (by subst hms; first | exact zsw_f (P := fun i => opn D (D 19 i).toNat) (v := fun i => D 16 (D 19 i).toNat) (fun q => by first | exact q.1.1 h134 | exact h143 q.1.2 | exact q.2 h168.2) | exact zsw_t (P := fun i => opn D (D 19 i).toNat) (v := fun i => D 16 (D 19 i).toNat) hopn) (by first | (rw [hnx]; exact (nxR_k hW (by omega) (by omega)).symm) | (rw [hnx]; exact (nxR_n hW (by omega) (by omega) h116).symm) | exact (nxR_t hW (by omega) (by omega) h116).symm) (by subst hwt; first | exact zsw_f (P := fun i => Ht D (D 19 i).toNat) (v := fun i => D 16 (D 19 i).toNat) (fun q => by first | exact q.1 h134 | exact h143 q.2) | exact zsw_t (P := fun i => Ht D (D 19 i).toNat) (v := fun i => D 16 (D 19 i).toNat) ⟨h134, h143⟩) (by omega)
                        · refine zx_goto (tgt := 200) dL_isVerdict_146 (by decide) ?_
                          refine zy_iinc (b := ((r + 1 : Nat) : Int)) [zf 9 0, zi ((wP D (Ht D) : Nat) : Int), zi (wY D (Ht D)), zi op, zi ms, zi (D 19 r), zi wt, zi ((r + 1 : Nat) : Int), zi (D 19 r), zi (D 19 r)] dL_isVerdict_200 rfl (by omega) (Nat.le_of_ble_eq_true rfl) rfl rfl ?_
                          refine zx_goto (tgt := 24) dL_isVerdict_203 (by decide) ?_
                          refine zy_drop 8 [zf 9 0, zi ((wP D (Ht D) : Nat) : Int), zi (wY D (Ht D)), zi op, zi ms, zi (D 19 r), zi wt, zi ((r + 1 : Nat) : Int), zu, zi (D 19 r)] rfl ?_
                          refine zy_drop 9 [zf 9 0, zi ((wP D (Ht D) : Nat) : Int), zi (wY D (Ht D)), zi op, zi ms, zi (D 19 r), zi wt, zi ((r + 1 : Nat) : Int), zu, zu] rfl ?_
                          exact ih24 τ (r + 1) op ms (D 19 r) wt hz hB hF (by first | assumption | omega) (by subst hop; first | exact zsb_f (P := fun i => opn D (D 19 i).toNat) (fun q => by first | exact q.1.1 h134 | exact h143 q.1.2 | exact q.2 h168.2) | exact zsb_t (P := fun i => opn D (D 19 i).toNat) hopn) (by subst hms; first | exact zsw_f (P := fun i => opn D (D 19 i).toNat) (v := fun i => D 16 (D 19 i).toNat) (fun q => by first | exact q.1.1 h134 | exact h143 q.1.2 | exact q.2 h168.2) | exact zsw_t (P := fun i => opn D (D 19 i).toNat) (v := fun i => D 16 (D 19 i).toNat) hopn) (by first | (rw [hnx]; exact (nxR_k hW (by omega) (by omega)).symm) | (rw [hnx]; exact (nxR_n hW (by omega) (by omega) h116).symm) | exact (nxR_t hW (by omega) (by omega) h116).symm) (by subst hwt; first | exact zsw_f (P := fun i => Ht D (D 19 i).toNat) (v := fun i => D 16 (D 19 i).toNat) (fun q => by first | exact q.1 h134 | exact h143 q.2) | exact zsw_t (P := fun i => Ht D (D 19 i).toNat) (v := fun i => D 16 (D 19 i).toNat) ⟨h134, h143⟩) (by omega)
                · exfalso; omega
  exact L24 _ τ6 0 0 0 (-1) 0 hz6 hr6.2.2 (zJ (zJ (zSame_rf _ _) hr1.2.1) hr6.2.1) (by first | assumption | omega) rfl rfl (nxR_0 D).symm rfl (Nat.lt_succ_self _)
set_option maxRecDepth 20000 in
set_option maxHeartbeats 2000000 in
theorem sL_stands {l : Launch} {w : zW} (hfl : l.stackTraces = false) {σ : zS} {D : zBk} {z : Int} (hz : zOK σ) (hB : bK σ = D) (hW : WF D) (hP1 : 1 ≤ D 1 0) (hY : ∀ p : Nat, (p : Int) < D 1 0 → 1500 ≤ D 4 p ∧ D 5 p ≤ 1549) (hzz : 0 ≤ z ∧ z ≤ 99999) : Sp l w mL_stands 10 0 [zf 9 0, zi z] σ (zqv (some (zi 1)) (fun τ => zOK τ ∧ zSame (fun q => 252 ≤ q ∧ q ≤ 258) σ τ ∧ bK τ = D)) := by
  obtain ⟨Q, hQ⟩ : ∃ Q : zQ, Q = (zqv (some (zi 1)) (fun τ => zOK τ ∧ zSame (fun q => 252 ≤ q ∧ q ≤ 258) σ τ ∧ bK τ = D)) := ⟨_, rfl⟩
  rw [← hQ]
  refine zx_enter hfl (by decide) rfl 2 rfl ?_
  show zX l w mL_stands (zMQ w 10 0 Q) 0 [zf 9 0, zi z, zu, zu] [] 0 σ
  have hzD := hzDof hB hz
  have hn1 : 0 ≤ D 1 0 ∧ D 1 0 ≤ 8 := hW.1.1
  have hn12 : 0 ≤ D 12 0 ∧ D 12 0 ≤ 40 := hW.1.2.2.2
  refine zx_iconst dL_stands_0 ?_
  refine zy_istoreN [zf 9 0, zi z, zi 0, zu] dL_stands_1 rfl (Nat.le_of_ble_eq_true rfl) (Nat.le_of_ble_eq_true rfl) rfl rfl ?_
  have L2 : ∀ (N : Nat) (τ : zS) (k : Nat), (zOK τ) → (bK τ = D) → (zSame (fun q => 252 ≤ q ∧ q ≤ 258) σ τ) → ((k : Int) ≤ D 1 0) → (9 - k) < N → zX l w mL_stands (zMQ w 10 0 Q) 2 [zf 9 0, zi z, zi ((k : Nat) : Int), zu] [] 0 τ := by
    intro N
    induction N with
    | zero => intro τ k _ _ _ _ _; exact absurd (by assumption) (Nat.not_lt_zero _)
    | succ N ih2 =>
      intro τ k hz hB hF hk_ hN
      refine zx_iloadN dL_stands_2 rfl rfl ?_
      refine zx_aloadN dL_stands_3 rfl rfl ?_
      refine zy_cv [] (fX9_printerCount  hfl hz hB hW) dL_stands_4 (by decide) rfl cw_RL_133 okX9_printerCount rfl (Nat.le_of_ble_eq_true rfl) ⟨Nat.le_of_ble_eq_true rfl, Nat.le_of_ble_eq_true rfl, Nat.le_of_ble_eq_true rfl, Nat.le_of_ble_eq_true rfl⟩ ?_
      refine zx_icmp_ge (tgt := 27) (by first | exact hz _ _ | assumption | exact zr_b _ | exact zcmp_r _ _ | exact hzD _ _ | exact zr3 (tS_b hW _) | exact zr3 (lsc_b hW _ _) | exact zr3 (sc_b hW _ _) | exact rkP_zr hW _ | exact scA_zr hW _ _ | exact zr3 (cW_b hW) | exact zr3 (wS_b hW) | exact unx_zr hW _ | exact dcs_zr hW | (unfold zr at *; omega)) (by first | exact hz _ _ | assumption | exact zr_b _ | exact zcmp_r _ _ | exact hzD _ _ | exact zr3 (tS_b hW _) | exact zr3 (lsc_b hW _ _) | exact zr3 (sc_b hW _ _) | exact rkP_zr hW _ | exact scA_zr hW _ _ | exact zr3 (cW_b hW) | exact zr3 (wS_b hW) | exact unx_zr hW _ | exact dcs_zr hW | (unfold zr at *; omega)) dL_stands_7 (by decide) (fun h7 => ?_) (fun h7 => ?_)
      · refine zx_aloadN dL_stands_27 rfl rfl ?_
        refine zy_cv [] (fX9_clueCount  hfl hz hB hW) dL_stands_28 (by decide) rfl cw_RL_98 okX9_clueCount rfl (Nat.le_of_ble_eq_true rfl) ⟨Nat.le_of_ble_eq_true rfl, Nat.le_of_ble_eq_true rfl, Nat.le_of_ble_eq_true rfl, Nat.le_of_ble_eq_true rfl⟩ ?_
        refine zy_istoreN [zf 9 0, zi z, zi (D 12 0), zu] dL_stands_31 rfl (Nat.le_of_ble_eq_true rfl) (Nat.le_of_ble_eq_true rfl) rfl rfl ?_
        refine zx_iloadN dL_stands_32 rfl rfl ?_
        refine zx_if_le (tgt := 52) (by first | exact hz _ _ | assumption | exact zr_b _ | exact zcmp_r _ _ | exact hzD _ _ | exact zr3 (tS_b hW _) | exact zr3 (lsc_b hW _ _) | exact zr3 (sc_b hW _ _) | exact rkP_zr hW _ | exact scA_zr hW _ _ | exact zr3 (cW_b hW) | exact zr3 (wS_b hW) | exact unx_zr hW _ | exact dcs_zr hW | (unfold zr at *; omega)) dL_stands_33 (by decide) (fun h33 => ?_) (fun h33 => ?_)
        · refine zx_aloadN dL_stands_52 rfl rfl ?_
          refine zy_cvR [] (fX9_decisiveClue  hfl hz hB hW hP1) dL_stands_53 (by decide) rfl cw_RL_221 okX9_decisiveClue rfl (Nat.le_of_ble_eq_true rfl) ⟨Nat.le_of_ble_eq_true rfl, Nat.le_of_ble_eq_true rfl, Nat.le_of_ble_eq_true rfl, Nat.le_of_ble_eq_true rfl⟩ (fun τ53 hr53 => ?_)
          have hz53 : zOK τ53 := hr53.1
          refine zy_istoreN [zf 9 0, zi z, zi (D 12 0), zi (dcs D)] dL_stands_56 rfl (Nat.le_of_ble_eq_true rfl) (Nat.le_of_ble_eq_true rfl) rfl rfl ?_
          refine zx_aloadN dL_stands_57 rfl rfl ?_
          refine zy_csR [zf 9 0] (sL_isVerdict  hfl hz53 hr53.2.2 hW hP1) dL_stands_58 cw_RL_224 okL_isVerdict rfl (Nat.le_of_ble_eq_true rfl) ⟨Nat.le_of_ble_eq_true rfl, Nat.le_of_ble_eq_true rfl, Nat.le_of_ble_eq_true rfl, Nat.le_of_ble_eq_true rfl⟩ (fun τ58 hr58 => ?_)
          have hz58 : zOK τ58 := hr58.1
          refine zx_if_eq (tgt := 88) (by unfold zr; omega) dL_stands_61 (by decide) (fun h61 => ?_) (fun h61 => ?_)
          · exact absurd h61 (by decide)
          · refine zx_iloadN dL_stands_64 rfl rfl ?_
            refine zx_if_lt (tgt := 84) (by first | exact hz58 _ _ | assumption | exact zr_b _ | exact zcmp_r _ _ | exact hzD _ _ | exact zr3 (tS_b hW _) | exact zr3 (lsc_b hW _ _) | exact zr3 (sc_b hW _ _) | exact rkP_zr hW _ | exact scA_zr hW _ _ | exact zr3 (cW_b hW) | exact zr3 (wS_b hW) | exact unx_zr hW _ | exact dcs_zr hW | (unfold zr at *; omega)) dL_stands_65 (by decide) (fun h65 => ?_) (fun h65 => ?_)
            · refine zx_iconst dL_stands_84 ?_
              refine zx_goto (tgt := 89) dL_stands_85 (by decide) ?_
              refine zx_iret rfl rfl dL_stands_89 ?_
              rw [hQ]
              refine ⟨congrArg (fun z : Int => (Sum.inl (some (zi z)) : Option zV ⊕ String)) ?_, ?_⟩
              · first | rfl | assumption | omega
              exact ⟨hz58, (zJ (zJ hF hr53.2.1) hr58.2.1), hr58.2.2⟩
            · have hdi := dcs_in h65
              refine zx_aloadN dL_stands_68 rfl rfl ?_
              refine zx_iloadN dL_stands_69 rfl rfl ?_
              refine zy_cv [zi (dcs D)] (fX9_isRead  hfl hz58 hr58.2.2 hW (by first | exact hz58 _ _ | assumption | exact zr_b _ | exact zcmp_r _ _ | exact hzD _ _ | exact zr3 (tS_b hW _) | exact zr3 (lsc_b hW _ _) | exact zr3 (sc_b hW _ _) | exact rkP_zr hW _ | exact scA_zr hW _ _ | exact zr3 (cW_b hW) | exact zr3 (wS_b hW) | exact unx_zr hW _ | exact dcs_zr hW | (unfold zr at *; omega)) (by first | assumption | omega)) dL_stands_70 (by decide) rfl cw_RL_122 okX9_isRead rfl (Nat.le_of_ble_eq_true rfl) ⟨Nat.le_of_ble_eq_true rfl, Nat.le_of_ble_eq_true rfl, Nat.le_of_ble_eq_true rfl, Nat.le_of_ble_eq_true rfl⟩ ?_
              refine zx_if_eq (tgt := 88) (by first | exact hz58 _ _ | assumption | exact zr_b _ | exact zcmp_r _ _ | exact hzD _ _ | exact zr3 (tS_b hW _) | exact zr3 (lsc_b hW _ _) | exact zr3 (sc_b hW _ _) | exact rkP_zr hW _ | exact scA_zr hW _ _ | exact zr3 (cW_b hW) | exact zr3 (wS_b hW) | exact unx_zr hW _ | exact dcs_zr hW | (unfold zr at *; omega)) dL_stands_73 (by decide) (fun h73 => ?_) (fun h73 => ?_)
              · exfalso; first | exact hdi.2.1.1 h73 | exact h81 hdi.2.1.2
              · refine zx_aloadN dL_stands_76 rfl rfl ?_
                refine zx_iloadN dL_stands_77 rfl rfl ?_
                refine zy_cv [zi (dcs D)] (fX9_isAside  hfl hz58 hr58.2.2 hW (by first | exact hz58 _ _ | assumption | exact zr_b _ | exact zcmp_r _ _ | exact hzD _ _ | exact zr3 (tS_b hW _) | exact zr3 (lsc_b hW _ _) | exact zr3 (sc_b hW _ _) | exact rkP_zr hW _ | exact scA_zr hW _ _ | exact zr3 (cW_b hW) | exact zr3 (wS_b hW) | exact unx_zr hW _ | exact dcs_zr hW | (unfold zr at *; omega)) (by first | assumption | omega)) dL_stands_78 (by decide) rfl cw_RL_128 okX9_isAside rfl (Nat.le_of_ble_eq_true rfl) ⟨Nat.le_of_ble_eq_true rfl, Nat.le_of_ble_eq_true rfl, Nat.le_of_ble_eq_true rfl, Nat.le_of_ble_eq_true rfl⟩ ?_
                refine zx_if_ne (tgt := 88) (by first | exact hz58 _ _ | assumption | exact zr_b _ | exact zcmp_r _ _ | exact hzD _ _ | exact zr3 (tS_b hW _) | exact zr3 (lsc_b hW _ _) | exact zr3 (sc_b hW _ _) | exact rkP_zr hW _ | exact scA_zr hW _ _ | exact zr3 (cW_b hW) | exact zr3 (wS_b hW) | exact unx_zr hW _ | exact dcs_zr hW | (unfold zr at *; omega)) dL_stands_81 (by decide) (fun h81 => ?_) (fun h81 => ?_)
                · exfalso; first | exact hdi.2.1.1 h73 | exact h81 hdi.2.1.2
                · refine zx_iconst dL_stands_84 ?_
                  refine zx_goto (tgt := 89) dL_stands_85 (by decide) ?_
                  refine zx_iret rfl rfl dL_stands_89 ?_
                  rw [hQ]
                  refine ⟨congrArg (fun z : Int => (Sum.inl (some (zi z)) : Option zV ⊕ String)) ?_, ?_⟩
                  · first | rfl | assumption | omega
                  exact ⟨hz58, (zJ (zJ hF hr53.2.1) hr58.2.1), hr58.2.2⟩
        · have hm1 : 0 ≤ z % D 12 0 := Int.emod_nonneg _ (by omega)
          have hm2 : z % D 12 0 < D 12 0 := Int.emod_lt_of_pos _ (by omega)
          refine zx_aloadN dL_stands_36 rfl rfl ?_
          refine zx_iloadN dL_stands_37 rfl rfl ?_
          refine zx_iloadN dL_stands_38 rfl rfl ?_
          refine zx_irem (by omega) (by omega) (by omega) (by omega) dL_stands_39 ?_
          refine zy_top (b := (((z % D 12 0).toNat : Nat) : Int)) (by omega) ?_
          refine zx_iloadN dL_stands_40 rfl rfl ?_
          refine zx_bipush dL_stands_41 rfl ?_
          refine zx_idiv (by omega) (by omega) (by omega) (by omega) dL_stands_43 ?_
          refine zy_cs [zf 9 0, zi (((z % D 12 0).toNat : Nat) : Int), zi (z / 7)] (sL_isClue  hfl hz hB hW hP1 hY (by first | assumption | omega) (by first | assumption | omega)) dL_stands_44 cw_RL_218 okL_isClue rfl (Nat.le_of_ble_eq_true rfl) ⟨Nat.le_of_ble_eq_true rfl, Nat.le_of_ble_eq_true rfl, Nat.le_of_ble_eq_true rfl, Nat.le_of_ble_eq_true rfl⟩ ?_
          refine zx_if_ne (tgt := 52) (by unfold zr; omega) dL_stands_47 (by decide) (fun h47 => ?_) (fun h47 => ?_)
          · refine zx_aloadN dL_stands_52 rfl rfl ?_
            refine zy_cvR [] (fX9_decisiveClue  hfl hz hB hW hP1) dL_stands_53 (by decide) rfl cw_RL_221 okX9_decisiveClue rfl (Nat.le_of_ble_eq_true rfl) ⟨Nat.le_of_ble_eq_true rfl, Nat.le_of_ble_eq_true rfl, Nat.le_of_ble_eq_true rfl, Nat.le_of_ble_eq_true rfl⟩ (fun τ53 hr53 => ?_)
            have hz53 : zOK τ53 := hr53.1
            refine zy_istoreN [zf 9 0, zi z, zi (D 12 0), zi (dcs D)] dL_stands_56 rfl (Nat.le_of_ble_eq_true rfl) (Nat.le_of_ble_eq_true rfl) rfl rfl ?_
            refine zx_aloadN dL_stands_57 rfl rfl ?_
            refine zy_csR [zf 9 0] (sL_isVerdict  hfl hz53 hr53.2.2 hW hP1) dL_stands_58 cw_RL_224 okL_isVerdict rfl (Nat.le_of_ble_eq_true rfl) ⟨Nat.le_of_ble_eq_true rfl, Nat.le_of_ble_eq_true rfl, Nat.le_of_ble_eq_true rfl, Nat.le_of_ble_eq_true rfl⟩ (fun τ58 hr58 => ?_)
            have hz58 : zOK τ58 := hr58.1
            refine zx_if_eq (tgt := 88) (by unfold zr; omega) dL_stands_61 (by decide) (fun h61 => ?_) (fun h61 => ?_)
            · exact absurd h61 (by decide)
            · refine zx_iloadN dL_stands_64 rfl rfl ?_
              refine zx_if_lt (tgt := 84) (by first | exact hz58 _ _ | assumption | exact zr_b _ | exact zcmp_r _ _ | exact hzD _ _ | exact zr3 (tS_b hW _) | exact zr3 (lsc_b hW _ _) | exact zr3 (sc_b hW _ _) | exact rkP_zr hW _ | exact scA_zr hW _ _ | exact zr3 (cW_b hW) | exact zr3 (wS_b hW) | exact unx_zr hW _ | exact dcs_zr hW | (unfold zr at *; omega)) dL_stands_65 (by decide) (fun h65 => ?_) (fun h65 => ?_)
              · refine zx_iconst dL_stands_84 ?_
                refine zx_goto (tgt := 89) dL_stands_85 (by decide) ?_
                refine zx_iret rfl rfl dL_stands_89 ?_
                rw [hQ]
                refine ⟨congrArg (fun z : Int => (Sum.inl (some (zi z)) : Option zV ⊕ String)) ?_, ?_⟩
                · first | rfl | assumption | omega
                exact ⟨hz58, (zJ (zJ hF hr53.2.1) hr58.2.1), hr58.2.2⟩
              · have hdi := dcs_in h65
                refine zx_aloadN dL_stands_68 rfl rfl ?_
                refine zx_iloadN dL_stands_69 rfl rfl ?_
                refine zy_cv [zi (dcs D)] (fX9_isRead  hfl hz58 hr58.2.2 hW (by first | exact hz58 _ _ | assumption | exact zr_b _ | exact zcmp_r _ _ | exact hzD _ _ | exact zr3 (tS_b hW _) | exact zr3 (lsc_b hW _ _) | exact zr3 (sc_b hW _ _) | exact rkP_zr hW _ | exact scA_zr hW _ _ | exact zr3 (cW_b hW) | exact zr3 (wS_b hW) | exact unx_zr hW _ | exact dcs_zr hW | (unfold zr at *; omega)) (by first | assumption | omega)) dL_stands_70 (by decide) rfl cw_RL_122 okX9_isRead rfl (Nat.le_of_ble_eq_true rfl) ⟨Nat.le_of_ble_eq_true rfl, Nat.le_of_ble_eq_true rfl, Nat.le_of_ble_eq_true rfl, Nat.le_of_ble_eq_true rfl⟩ ?_
                refine zx_if_eq (tgt := 88) (by first | exact hz58 _ _ | assumption | exact zr_b _ | exact zcmp_r _ _ | exact hzD _ _ | exact zr3 (tS_b hW _) | exact zr3 (lsc_b hW _ _) | exact zr3 (sc_b hW _ _) | exact rkP_zr hW _ | exact scA_zr hW _ _ | exact zr3 (cW_b hW) | exact zr3 (wS_b hW) | exact unx_zr hW _ | exact dcs_zr hW | (unfold zr at *; omega)) dL_stands_73 (by decide) (fun h73 => ?_) (fun h73 => ?_)
                · exfalso; first | exact hdi.2.1.1 h73 | exact h81 hdi.2.1.2
                · refine zx_aloadN dL_stands_76 rfl rfl ?_
                  refine zx_iloadN dL_stands_77 rfl rfl ?_
                  refine zy_cv [zi (dcs D)] (fX9_isAside  hfl hz58 hr58.2.2 hW (by first | exact hz58 _ _ | assumption | exact zr_b _ | exact zcmp_r _ _ | exact hzD _ _ | exact zr3 (tS_b hW _) | exact zr3 (lsc_b hW _ _) | exact zr3 (sc_b hW _ _) | exact rkP_zr hW _ | exact scA_zr hW _ _ | exact zr3 (cW_b hW) | exact zr3 (wS_b hW) | exact unx_zr hW _ | exact dcs_zr hW | (unfold zr at *; omega)) (by first | assumption | omega)) dL_stands_78 (by decide) rfl cw_RL_128 okX9_isAside rfl (Nat.le_of_ble_eq_true rfl) ⟨Nat.le_of_ble_eq_true rfl, Nat.le_of_ble_eq_true rfl, Nat.le_of_ble_eq_true rfl, Nat.le_of_ble_eq_true rfl⟩ ?_
                  refine zx_if_ne (tgt := 88) (by first | exact hz58 _ _ | assumption | exact zr_b _ | exact zcmp_r _ _ | exact hzD _ _ | exact zr3 (tS_b hW _) | exact zr3 (lsc_b hW _ _) | exact zr3 (sc_b hW _ _) | exact rkP_zr hW _ | exact scA_zr hW _ _ | exact zr3 (cW_b hW) | exact zr3 (wS_b hW) | exact unx_zr hW _ | exact dcs_zr hW | (unfold zr at *; omega)) dL_stands_81 (by decide) (fun h81 => ?_) (fun h81 => ?_)
                  · exfalso; first | exact hdi.2.1.1 h73 | exact h81 hdi.2.1.2
                  · refine zx_iconst dL_stands_84 ?_
                    refine zx_goto (tgt := 89) dL_stands_85 (by decide) ?_
                    refine zx_iret rfl rfl dL_stands_89 ?_
                    rw [hQ]
                    refine ⟨congrArg (fun z : Int => (Sum.inl (some (zi z)) : Option zV ⊕ String)) ?_, ?_⟩
                    · first | rfl | assumption | omega
                    exact ⟨hz58, (zJ (zJ hF hr53.2.1) hr58.2.1), hr58.2.2⟩
          · exact absurd h47 (by decide)
      · refine zx_aloadN dL_stands_10 rfl rfl ?_
        refine zx_iloadN dL_stands_11 rfl rfl ?_
        refine zx_iloadN dL_stands_12 rfl rfl ?_
        refine zy_csR [zf 9 0, zi ((k : Nat) : Int), zi z] (sL_isPrinter  hfl hz hB hW hP1 hY (by first | assumption | omega) (by first | assumption | omega)) dL_stands_13 cw_RL_214 okL_isPrinter rfl (Nat.le_of_ble_eq_true rfl) ⟨Nat.le_of_ble_eq_true rfl, Nat.le_of_ble_eq_true rfl, Nat.le_of_ble_eq_true rfl, Nat.le_of_ble_eq_true rfl⟩ (fun τ13 hr13 => ?_)
        have hz13 : zOK τ13 := hr13.1
        refine zx_if_ne (tgt := 21) (by unfold zr; omega) dL_stands_16 (by decide) (fun h16 => ?_) (fun h16 => ?_)
        · refine zy_iinc (b := ((k + 1 : Nat) : Int)) [zf 9 0, zi z, zi ((k + 1 : Nat) : Int), zu] dL_stands_21 rfl (by omega) (Nat.le_of_ble_eq_true rfl) rfl rfl ?_
          refine zx_goto (tgt := 2) dL_stands_24 (by decide) ?_
          exact ih2 τ13 (k + 1) hz13 hr13.2.2 (zJ hF hr13.2.1) (by first | assumption | omega) (by omega)
        · exact absurd h16 (by decide)
  exact L2 _ σ 0 hz hB (zSame_rf _ _) (by first | assumption | omega) (Nat.lt_succ_self _)

