theorem dX10_address_175 : decode cX10_address 175 = .ok (.iadd, 1) := by decide +kernel
theorem dX10_address_176 : decode cX10_address 176 = .ok (.iaload, 1) := by decide +kernel
theorem dX10_address_177 : decode cX10_address 177 = .ok (.iload 5, 2) := by decide +kernel
theorem dX10_address_179 : decode cX10_address 179 = .ok (.iadd, 1) := by decide +kernel
theorem dX10_address_180 : decode cX10_address 180 = .ok (.putfield 136, 3) := by decide +kernel
theorem dX10_address_183 : decode cX10_address 183 = .ok (.aload_n 0, 1) := by decide +kernel
theorem dX10_address_184 : decode cX10_address 184 = .ok (.aload_n 0, 1) := by decide +kernel
theorem dX10_address_185 : decode cX10_address 185 = .ok (.getfield 56, 3) := by decide +kernel
theorem dX10_address_188 : decode cX10_address 188 = .ok (.iload 9, 2) := by decide +kernel
theorem dX10_address_190 : decode cX10_address 190 = .ok (.iaload, 1) := by decide +kernel
theorem dX10_address_191 : decode cX10_address 191 = .ok (.aload_n 0, 1) := by decide +kernel
theorem dX10_address_192 : decode cX10_address 192 = .ok (.getfield 139, 3) := by decide +kernel
theorem dX10_address_195 : decode cX10_address 195 = .ok (.if_icmp .le 13, 3) := by decide +kernel
theorem dX10_address_198 : decode cX10_address 198 = .ok (.aload_n 0, 1) := by decide +kernel
theorem dX10_address_199 : decode cX10_address 199 = .ok (.getfield 56, 3) := by decide +kernel
theorem dX10_address_202 : decode cX10_address 202 = .ok (.iload 9, 2) := by decide +kernel
theorem dX10_address_204 : decode cX10_address 204 = .ok (.iaload, 1) := by decide +kernel
theorem dX10_address_205 : decode cX10_address 205 = .ok (.goto 7, 3) := by decide +kernel
theorem dX10_address_208 : decode cX10_address 208 = .ok (.aload_n 0, 1) := by decide +kernel
theorem dX10_address_209 : decode cX10_address 209 = .ok (.getfield 139, 3) := by decide +kernel
theorem dX10_address_212 : decode cX10_address 212 = .ok (.putfield 139, 3) := by decide +kernel
theorem dX10_address_215 : decode cX10_address 215 = .ok (.goto 15, 3) := by decide +kernel
theorem dX10_address_218 : decode cX10_address 218 = .ok (.aload_n 0, 1) := by decide +kernel
theorem dX10_address_219 : decode cX10_address 219 = .ok (.iload_n 1, 1) := by decide +kernel
theorem dX10_address_220 : decode cX10_address 220 = .ok (.iload 5, 2) := by decide +kernel
theorem dX10_address_222 : decode cX10_address 222 = .ok (.invokevirtual 145, 3) := by decide +kernel
theorem dX10_address_225 : decode cX10_address 225 = .ok (.ifCond .ne 5, 3) := by decide +kernel
theorem dX10_address_228 : decode cX10_address 228 = .ok (.iconst 0, 1) := by decide +kernel
theorem dX10_address_229 : decode cX10_address 229 = .ok (.ireturn, 1) := by decide +kernel
theorem dX10_address_230 : decode cX10_address 230 = .ok (.aload_n 0, 1) := by decide +kernel
theorem dX10_address_231 : decode cX10_address 231 = .ok (.dup, 1) := by decide +kernel
theorem dX10_address_232 : decode cX10_address 232 = .ok (.getfield 136, 3) := by decide +kernel
theorem dX10_address_235 : decode cX10_address 235 = .ok (.iload 6, 2) := by decide +kernel
theorem dX10_address_237 : decode cX10_address 237 = .ok (.ifCond .ne 7, 3) := by decide +kernel
theorem dX10_address_240 : decode cX10_address 240 = .ok (.iconst 0, 1) := by decide +kernel
theorem dX10_address_241 : decode cX10_address 241 = .ok (.goto 14, 3) := by decide +kernel
theorem dX10_address_244 : decode cX10_address 244 = .ok (.aload_n 0, 1) := by decide +kernel
theorem dX10_address_245 : decode cX10_address 245 = .ok (.getfield 53, 3) := by decide +kernel
theorem dX10_address_248 : decode cX10_address 248 = .ok (.iload_n 3, 1) := by decide +kernel
theorem dX10_address_249 : decode cX10_address 249 = .ok (.iconst 4, 1) := by decide +kernel
theorem dX10_address_250 : decode cX10_address 250 = .ok (.iadd, 1) := by decide +kernel
theorem dX10_address_251 : decode cX10_address 251 = .ok (.iload 6, 2) := by decide +kernel
theorem dX10_address_253 : decode cX10_address 253 = .ok (.iadd, 1) := by decide +kernel
theorem dX10_address_254 : decode cX10_address 254 = .ok (.iaload, 1) := by decide +kernel
theorem dX10_address_255 : decode cX10_address 255 = .ok (.iadd, 1) := by decide +kernel
theorem dX10_address_256 : decode cX10_address 256 = .ok (.putfield 136, 3) := by decide +kernel
theorem dX10_address_259 : decode cX10_address 259 = .ok (.iconst 0, 1) := by decide +kernel
theorem dX10_address_260 : decode cX10_address 260 = .ok (.istore 9, 2) := by decide +kernel
theorem dX10_address_262 : decode cX10_address 262 = .ok (.iload 8, 2) := by decide +kernel
theorem dX10_address_264 : decode cX10_address 264 = .ok (.ifCond .eq 173, 3) := by decide +kernel
theorem dX10_address_267 : decode cX10_address 267 = .ok (.iload 9, 2) := by decide +kernel
theorem dX10_address_269 : decode cX10_address 269 = .ok (.bipush 8, 2) := by decide +kernel
theorem dX10_address_271 : decode cX10_address 271 = .ok (.if_icmp .ne 22, 3) := by decide +kernel
theorem dX10_address_274 : decode cX10_address 274 = .ok (.aload_n 0, 1) := by decide +kernel
theorem dX10_address_275 : decode cX10_address 275 = .ok (.bipush 11, 2) := by decide +kernel
theorem dX10_address_277 : decode cX10_address 277 = .ok (.aload_n 0, 1) := by decide +kernel
theorem dX10_address_278 : decode cX10_address 278 = .ok (.getfield 139, 3) := by decide +kernel
theorem dX10_address_281 : decode cX10_address 281 = .ok (.aload_n 0, 1) := by decide +kernel
theorem dX10_address_282 : decode cX10_address 282 = .ok (.getfield 133, 3) := by decide +kernel
theorem dX10_address_285 : decode cX10_address 285 = .ok (.aload_n 0, 1) := by decide +kernel
theorem dX10_address_286 : decode cX10_address 286 = .ok (.getfield 136, 3) := by decide +kernel
theorem dX10_address_289 : decode cX10_address 289 = .ok (.invokevirtual 119, 3) := by decide +kernel
theorem dX10_address_292 : decode cX10_address 292 = .ok (.ireturn, 1) := by decide +kernel
theorem dX10_address_293 : decode cX10_address 293 = .ok (.aload_n 0, 1) := by decide +kernel
theorem dX10_address_294 : decode cX10_address 294 = .ok (.iload_n 1, 1) := by decide +kernel
theorem dX10_address_295 : decode cX10_address 295 = .ok (.aload_n 0, 1) := by decide +kernel
theorem dX10_address_296 : decode cX10_address 296 = .ok (.getfield 139, 3) := by decide +kernel
theorem dX10_address_299 : decode cX10_address 299 = .ok (.aload_n 0, 1) := by decide +kernel
theorem dX10_address_300 : decode cX10_address 300 = .ok (.getfield 133, 3) := by decide +kernel
theorem dX10_address_303 : decode cX10_address 303 = .ok (.aload_n 0, 1) := by decide +kernel
theorem dX10_address_304 : decode cX10_address 304 = .ok (.getfield 136, 3) := by decide +kernel
theorem dX10_address_307 : decode cX10_address 307 = .ok (.iconst 0, 1) := by decide +kernel
theorem dX10_address_308 : decode cX10_address 308 = .ok (.invokevirtual 148, 3) := by decide +kernel
theorem dX10_address_311 : decode cX10_address 311 = .ok (.ifCond .ne 5, 3) := by decide +kernel
theorem dX10_address_314 : decode cX10_address 314 = .ok (.iconst 0, 1) := by decide +kernel
theorem dX10_address_315 : decode cX10_address 315 = .ok (.ireturn, 1) := by decide +kernel
theorem dX10_address_316 : decode cX10_address 316 = .ok (.aload_n 0, 1) := by decide +kernel
theorem dX10_address_317 : decode cX10_address 317 = .ok (.iload_n 1, 1) := by decide +kernel
theorem dX10_address_318 : decode cX10_address 318 = .ok (.aload_n 0, 1) := by decide +kernel
theorem dX10_address_319 : decode cX10_address 319 = .ok (.getfield 133, 3) := by decide +kernel
theorem dX10_address_322 : decode cX10_address 322 = .ok (.aload_n 0, 1) := by decide +kernel
theorem dX10_address_323 : decode cX10_address 323 = .ok (.getfield 136, 3) := by decide +kernel
theorem dX10_address_326 : decode cX10_address 326 = .ok (.invokevirtual 152, 3) := by decide +kernel
theorem dX10_address_329 : decode cX10_address 329 = .ok (.istore 10, 2) := by decide +kernel
theorem dX10_address_331 : decode cX10_address 331 = .ok (.aload_n 0, 1) := by decide +kernel
theorem dX10_address_332 : decode cX10_address 332 = .ok (.iload_n 1, 1) := by decide +kernel
theorem dX10_address_333 : decode cX10_address 333 = .ok (.aload_n 0, 1) := by decide +kernel
theorem dX10_address_334 : decode cX10_address 334 = .ok (.getfield 133, 3) := by decide +kernel
theorem dX10_address_337 : decode cX10_address 337 = .ok (.iconst 1, 1) := by decide +kernel
theorem dX10_address_338 : decode cX10_address 338 = .ok (.invokevirtual 103, 3) := by decide +kernel
theorem dX10_address_341 : decode cX10_address 341 = .ok (.istore 11, 2) := by decide +kernel
theorem dX10_address_343 : decode cX10_address 343 = .ok (.iload 10, 2) := by decide +kernel
theorem dX10_address_345 : decode cX10_address 345 = .ok (.bipush 28, 2) := by decide +kernel
theorem dX10_address_347 : decode cX10_address 347 = .ok (.ishr, 1) := by decide +kernel
theorem dX10_address_348 : decode cX10_address 348 = .ok (.bipush 7, 2) := by decide +kernel
theorem dX10_address_350 : decode cX10_address 350 = .ok (.iand, 1) := by decide +kernel
theorem dX10_address_351 : decode cX10_address 351 = .ok (.istore 12, 2) := by decide +kernel
theorem dX10_address_353 : decode cX10_address 353 = .ok (.aload_n 0, 1) := by decide +kernel
theorem dX10_address_354 : decode cX10_address 354 = .ok (.iload 11, 2) := by decide +kernel
theorem dX10_address_356 : decode cX10_address 356 = .ok (.aload_n 0, 1) := by decide +kernel
theorem dX10_address_357 : decode cX10_address 357 = .ok (.getfield 139, 3) := by decide +kernel
theorem dX10_address_360 : decode cX10_address 360 = .ok (.if_icmp .le 8, 3) := by decide +kernel
theorem dX10_address_363 : decode cX10_address 363 = .ok (.iload 11, 2) := by decide +kernel
theorem dX10_address_365 : decode cX10_address 365 = .ok (.goto 7, 3) := by decide +kernel
theorem dX10_address_368 : decode cX10_address 368 = .ok (.aload_n 0, 1) := by decide +kernel
theorem dX10_address_369 : decode cX10_address 369 = .ok (.getfield 139, 3) := by decide +kernel
theorem dX10_address_372 : decode cX10_address 372 = .ok (.putfield 139, 3) := by decide +kernel
theorem dX10_address_375 : decode cX10_address 375 = .ok (.aload_n 0, 1) := by decide +kernel
theorem dX10_address_376 : decode cX10_address 376 = .ok (.iload 12, 2) := by decide +kernel
theorem dX10_address_378 : decode cX10_address 378 = .ok (.aload_n 0, 1) := by decide +kernel
theorem dX10_address_379 : decode cX10_address 379 = .ok (.getfield 139, 3) := by decide +kernel
theorem dX10_address_382 : decode cX10_address 382 = .ok (.if_icmp .le 8, 3) := by decide +kernel
theorem dX10_address_385 : decode cX10_address 385 = .ok (.iload 12, 2) := by decide +kernel
theorem dX10_address_387 : decode cX10_address 387 = .ok (.goto 7, 3) := by decide +kernel
theorem dX10_address_390 : decode cX10_address 390 = .ok (.aload_n 0, 1) := by decide +kernel
theorem dX10_address_391 : decode cX10_address 391 = .ok (.getfield 139, 3) := by decide +kernel
theorem dX10_address_394 : decode cX10_address 394 = .ok (.putfield 139, 3) := by decide +kernel
theorem dX10_address_397 : decode cX10_address 397 = .ok (.aload_n 0, 1) := by decide +kernel
theorem dX10_address_398 : decode cX10_address 398 = .ok (.iload 10, 2) := by decide +kernel
theorem dX10_address_400 : decode cX10_address 400 = .ok (.bipush 16, 2) := by decide +kernel
theorem dX10_address_402 : decode cX10_address 402 = .ok (.ishr, 1) := by decide +kernel
theorem dX10_address_403 : decode cX10_address 403 = .ok (.sipush 4095, 3) := by decide +kernel
theorem dX10_address_406 : decode cX10_address 406 = .ok (.iand, 1) := by decide +kernel
theorem dX10_address_407 : decode cX10_address 407 = .ok (.putfield 133, 3) := by decide +kernel
theorem dX10_address_410 : decode cX10_address 410 = .ok (.aload_n 0, 1) := by decide +kernel
theorem dX10_address_411 : decode cX10_address 411 = .ok (.iload 10, 2) := by decide +kernel
theorem dX10_address_413 : decode cX10_address 413 = .ok (.ldc 93, 2) := by decide +kernel
theorem dX10_address_415 : decode cX10_address 415 = .ok (.iand, 1) := by decide +kernel
theorem dX10_address_416 : decode cX10_address 416 = .ok (.putfield 136, 3) := by decide +kernel
theorem dX10_address_419 : decode cX10_address 419 = .ok (.iload 10, 2) := by decide +kernel
theorem dX10_address_421 : decode cX10_address 421 = .ok (.ifCond .ge 7, 3) := by decide +kernel
theorem dX10_address_424 : decode cX10_address 424 = .ok (.iconst 1, 1) := by decide +kernel
theorem dX10_address_425 : decode cX10_address 425 = .ok (.goto 4, 3) := by decide +kernel
theorem dX10_address_428 : decode cX10_address 428 = .ok (.iconst 0, 1) := by decide +kernel
theorem dX10_address_429 : decode cX10_address 429 = .ok (.istore 8, 2) := by decide +kernel
theorem dX10_address_431 : decode cX10_address 431 = .ok (.iinc 9 1, 3) := by decide +kernel
theorem dX10_address_434 : decode cX10_address 434 = .ok (.goto (-172), 3) := by decide +kernel
theorem dX10_address_437 : decode cX10_address 437 = .ok (.iconst 1, 1) := by decide +kernel
theorem dX10_address_438 : decode cX10_address 438 = .ok (.ireturn, 1) := by decide +kernel
theorem dX10_hasAddress_0 : decode cX10_hasAddress 0 = .ok (.iload_n 0, 1) := by decide +kernel
theorem dX10_hasAddress_1 : decode cX10_hasAddress 1 = .ok (.ifCond .eq 13, 3) := by decide +kernel
theorem dX10_hasAddress_4 : decode cX10_hasAddress 4 = .ok (.iload_n 0, 1) := by decide +kernel
theorem dX10_hasAddress_5 : decode cX10_hasAddress 5 = .ok (.bipush 24, 2) := by decide +kernel
theorem dX10_hasAddress_7 : decode cX10_hasAddress 7 = .ok (.if_icmp .ge 7, 3) := by decide +kernel
theorem dX10_hasAddress_10 : decode cX10_hasAddress 10 = .ok (.iconst 1, 1) := by decide +kernel
theorem dX10_hasAddress_11 : decode cX10_hasAddress 11 = .ok (.goto 4, 3) := by decide +kernel
theorem dX10_hasAddress_14 : decode cX10_hasAddress 14 = .ok (.iconst 0, 1) := by decide +kernel
theorem dX10_hasAddress_15 : decode cX10_hasAddress 15 = .ok (.ireturn, 1) := by decide +kernel
theorem dX10_isNone_0 : decode cX10_isNone 0 = .ok (.iload_n 0, 1) := by decide +kernel
theorem dX10_isNone_1 : decode cX10_isNone 1 = .ok (.bipush 27, 2) := by decide +kernel
theorem dX10_isNone_3 : decode cX10_isNone 3 = .ok (.iushr, 1) := by decide +kernel
theorem dX10_isNone_4 : decode cX10_isNone 4 = .ok (.istore_n 1, 1) := by decide +kernel
theorem dX10_isNone_5 : decode cX10_isNone 5 = .ok (.iload_n 0, 1) := by decide +kernel
theorem dX10_isNone_6 : decode cX10_isNone 6 = .ok (.bipush 16, 2) := by decide +kernel
theorem dX10_isNone_8 : decode cX10_isNone 8 = .ok (.ishr, 1) := by decide +kernel
theorem dX10_isNone_9 : decode cX10_isNone 9 = .ok (.bipush 7, 2) := by decide +kernel
theorem dX10_isNone_11 : decode cX10_isNone 11 = .ok (.iand, 1) := by decide +kernel
theorem dX10_isNone_12 : decode cX10_isNone 12 = .ok (.istore_n 2, 1) := by decide +kernel
theorem dX10_isNone_13 : decode cX10_isNone 13 = .ok (.iload_n 1, 1) := by decide +kernel
theorem dX10_isNone_14 : decode cX10_isNone 14 = .ok (.bipush 25, 2) := by decide +kernel
theorem dX10_isNone_16 : decode cX10_isNone 16 = .ok (.if_icmp .le 5, 3) := by decide +kernel
theorem dX10_isNone_19 : decode cX10_isNone 19 = .ok (.iconst 1, 1) := by decide +kernel
theorem dX10_isNone_20 : decode cX10_isNone 20 = .ok (.ireturn, 1) := by decide +kernel
theorem dX10_isNone_21 : decode cX10_isNone 21 = .ok (.iload_n 0, 1) := by decide +kernel
theorem dX10_isNone_22 : decode cX10_isNone 22 = .ok (.bipush 24, 2) := by decide +kernel
theorem dX10_isNone_24 : decode cX10_isNone 24 = .ok (.ishr, 1) := by decide +kernel
theorem dX10_isNone_25 : decode cX10_isNone 25 = .ok (.iconst 3, 1) := by decide +kernel
theorem dX10_isNone_26 : decode cX10_isNone 26 = .ok (.iand, 1) := by decide +kernel
theorem dX10_isNone_27 : decode cX10_isNone 27 = .ok (.iconst 3, 1) := by decide +kernel
theorem dX10_isNone_28 : decode cX10_isNone 28 = .ok (.if_icmp .ne 38, 3) := by decide +kernel
theorem dX10_isNone_31 : decode cX10_isNone 31 = .ok (.iload_n 1, 1) := by decide +kernel
theorem dX10_isNone_32 : decode cX10_isNone 32 = .ok (.iconst 2, 1) := by decide +kernel
theorem dX10_isNone_33 : decode cX10_isNone 33 = .ok (.if_icmp .eq 31, 3) := by decide +kernel
theorem dX10_isNone_36 : decode cX10_isNone 36 = .ok (.iload_n 1, 1) := by decide +kernel
theorem dX10_isNone_37 : decode cX10_isNone 37 = .ok (.bipush 10, 2) := by decide +kernel
theorem dX10_isNone_39 : decode cX10_isNone 39 = .ok (.bipush 14, 2) := by decide +kernel
theorem dX10_isNone_41 : decode cX10_isNone 41 = .ok (.invokestatic 81, 3) := by decide +kernel
theorem dX10_isNone_44 : decode cX10_isNone 44 = .ok (.ifCond .ne 20, 3) := by decide +kernel
theorem dX10_isNone_47 : decode cX10_isNone 47 = .ok (.iload_n 1, 1) := by decide +kernel
theorem dX10_isNone_48 : decode cX10_isNone 48 = .ok (.bipush 16, 2) := by decide +kernel
theorem dX10_isNone_50 : decode cX10_isNone 50 = .ok (.if_icmp .eq 14, 3) := by decide +kernel
theorem dX10_isNone_53 : decode cX10_isNone 53 = .ok (.iload_n 1, 1) := by decide +kernel
theorem dX10_isNone_54 : decode cX10_isNone 54 = .ok (.bipush 18, 2) := by decide +kernel
theorem dX10_isNone_56 : decode cX10_isNone 56 = .ok (.bipush 23, 2) := by decide +kernel
theorem dX10_isNone_58 : decode cX10_isNone 58 = .ok (.invokestatic 81, 3) := by decide +kernel
theorem dX10_isNone_61 : decode cX10_isNone 61 = .ok (.ifCond .eq 5, 3) := by decide +kernel
theorem dX10_isNone_64 : decode cX10_isNone 64 = .ok (.iconst 1, 1) := by decide +kernel
theorem dX10_isNone_65 : decode cX10_isNone 65 = .ok (.ireturn, 1) := by decide +kernel
theorem dX10_isNone_66 : decode cX10_isNone 66 = .ok (.iload_n 1, 1) := by decide +kernel
theorem dX10_isNone_67 : decode cX10_isNone 67 = .ok (.bipush 15, 2) := by decide +kernel
theorem dX10_isNone_69 : decode cX10_isNone 69 = .ok (.bipush 17, 2) := by decide +kernel
theorem dX10_isNone_71 : decode cX10_isNone 71 = .ok (.invokestatic 81, 3) := by decide +kernel
theorem dX10_isNone_74 : decode cX10_isNone 74 = .ok (.ifCond .eq 16, 3) := by decide +kernel
theorem dX10_isNone_77 : decode cX10_isNone 77 = .ok (.iload_n 2, 1) := by decide +kernel
theorem dX10_isNone_78 : decode cX10_isNone 78 = .ok (.iconst 1, 1) := by decide +kernel
theorem dX10_isNone_79 : decode cX10_isNone 79 = .ok (.iconst 3, 1) := by decide +kernel
theorem dX10_isNone_80 : decode cX10_isNone 80 = .ok (.invokestatic 81, 3) := by decide +kernel
theorem dX10_isNone_83 : decode cX10_isNone 83 = .ok (.ifCond .ne 7, 3) := by decide +kernel
theorem dX10_isNone_86 : decode cX10_isNone 86 = .ok (.iconst 1, 1) := by decide +kernel
theorem dX10_isNone_87 : decode cX10_isNone 87 = .ok (.goto 4, 3) := by decide +kernel
theorem dX10_isNone_90 : decode cX10_isNone 90 = .ok (.iconst 0, 1) := by decide +kernel
theorem dX10_isNone_91 : decode cX10_isNone 91 = .ok (.ireturn, 1) := by decide +kernel
theorem dX10_goes_0 : decode cX10_goes 0 = .ok (.aload_n 0, 1) := by decide +kernel
theorem dX10_goes_1 : decode cX10_goes 1 = .ok (.getfield 53, 3) := by decide +kernel
theorem dX10_goes_4 : decode cX10_goes 4 = .ok (.bipush 30, 2) := by decide +kernel
theorem dX10_goes_6 : decode cX10_goes 6 = .ok (.iload_n 1, 1) := by decide +kernel
theorem dX10_goes_7 : decode cX10_goes 7 = .ok (.imul, 1) := by decide +kernel
theorem dX10_goes_8 : decode cX10_goes 8 = .ok (.iconst 1, 1) := by decide +kernel
theorem dX10_goes_9 : decode cX10_goes 9 = .ok (.iadd, 1) := by decide +kernel
theorem dX10_goes_10 : decode cX10_goes 10 = .ok (.iload_n 2, 1) := by decide +kernel
theorem dX10_goes_11 : decode cX10_goes 11 = .ok (.iastore, 1) := by decide +kernel
theorem dX10_goes_12 : decode cX10_goes 12 = .ok (.aload_n 0, 1) := by decide +kernel
theorem dX10_goes_13 : decode cX10_goes 13 = .ok (.getfield 53, 3) := by decide +kernel
theorem dX10_goes_16 : decode cX10_goes 16 = .ok (.bipush 30, 2) := by decide +kernel
theorem dX10_goes_18 : decode cX10_goes 18 = .ok (.iload_n 1, 1) := by decide +kernel
theorem dX10_goes_19 : decode cX10_goes 19 = .ok (.imul, 1) := by decide +kernel
theorem dX10_goes_20 : decode cX10_goes 20 = .ok (.iconst 2, 1) := by decide +kernel
theorem dX10_goes_21 : decode cX10_goes 21 = .ok (.iadd, 1) := by decide +kernel
theorem dX10_goes_22 : decode cX10_goes 22 = .ok (.iload_n 3, 1) := by decide +kernel
theorem dX10_goes_23 : decode cX10_goes 23 = .ok (.iastore, 1) := by decide +kernel
theorem dX10_goes_24 : decode cX10_goes 24 = .ok (.aload_n 0, 1) := by decide +kernel
theorem dX10_goes_25 : decode cX10_goes 25 = .ok (.getfield 53, 3) := by decide +kernel
theorem dX10_goes_28 : decode cX10_goes 28 = .ok (.bipush 30, 2) := by decide +kernel
theorem dX10_goes_30 : decode cX10_goes 30 = .ok (.iload_n 1, 1) := by decide +kernel
theorem dX10_goes_31 : decode cX10_goes 31 = .ok (.imul, 1) := by decide +kernel
theorem dX10_goes_32 : decode cX10_goes 32 = .ok (.iconst 3, 1) := by decide +kernel
theorem dX10_goes_33 : decode cX10_goes 33 = .ok (.iadd, 1) := by decide +kernel
theorem dX10_goes_34 : decode cX10_goes 34 = .ok (.iload 4, 2) := by decide +kernel
theorem dX10_goes_36 : decode cX10_goes 36 = .ok (.iastore, 1) := by decide +kernel
theorem dX10_goes_37 : decode cX10_goes 37 = .ok (.return_, 1) := by decide +kernel
theorem dX10_does_0 : decode cX10_does 0 = .ok (.bipush 30, 2) := by decide +kernel
theorem dX10_does_2 : decode cX10_does 2 = .ok (.iload_n 1, 1) := by decide +kernel
theorem dX10_does_3 : decode cX10_does 3 = .ok (.imul, 1) := by decide +kernel
theorem dX10_does_4 : decode cX10_does 4 = .ok (.istore_n 2, 1) := by decide +kernel
theorem dX10_does_5 : decode cX10_does 5 = .ok (.aload_n 0, 1) := by decide +kernel
theorem dX10_does_6 : decode cX10_does 6 = .ok (.getfield 53, 3) := by decide +kernel
theorem dX10_does_9 : decode cX10_does 9 = .ok (.iload_n 2, 1) := by decide +kernel
theorem dX10_does_10 : decode cX10_does 10 = .ok (.iconst 1, 1) := by decide +kernel
theorem dX10_does_11 : decode cX10_does 11 = .ok (.iadd, 1) := by decide +kernel
theorem dX10_does_12 : decode cX10_does 12 = .ok (.iaload, 1) := by decide +kernel
theorem dX10_does_13 : decode cX10_does 13 = .ok (.istore_n 3, 1) := by decide +kernel
theorem dX10_does_14 : decode cX10_does 14 = .ok (.aload_n 0, 1) := by decide +kernel
theorem dX10_does_15 : decode cX10_does 15 = .ok (.getfield 53, 3) := by decide +kernel
theorem dX10_does_18 : decode cX10_does 18 = .ok (.iload_n 2, 1) := by decide +kernel
theorem dX10_does_19 : decode cX10_does 19 = .ok (.iconst 2, 1) := by decide +kernel
theorem dX10_does_20 : decode cX10_does 20 = .ok (.iadd, 1) := by decide +kernel
theorem dX10_does_21 : decode cX10_does 21 = .ok (.iaload, 1) := by decide +kernel
theorem dX10_does_22 : decode cX10_does 22 = .ok (.istore 4, 2) := by decide +kernel
theorem dX10_does_24 : decode cX10_does 24 = .ok (.aload_n 0, 1) := by decide +kernel
theorem dX10_does_25 : decode cX10_does 25 = .ok (.getfield 53, 3) := by decide +kernel
theorem dX10_does_28 : decode cX10_does 28 = .ok (.iload_n 2, 1) := by decide +kernel
theorem dX10_does_29 : decode cX10_does 29 = .ok (.iconst 3, 1) := by decide +kernel
theorem dX10_does_30 : decode cX10_does 30 = .ok (.iadd, 1) := by decide +kernel
theorem dX10_does_31 : decode cX10_does 31 = .ok (.iaload, 1) := by decide +kernel
theorem dX10_does_32 : decode cX10_does 32 = .ok (.istore 5, 2) := by decide +kernel
theorem dX10_does_34 : decode cX10_does 34 = .ok (.aload_n 0, 1) := by decide +kernel
theorem dX10_does_35 : decode cX10_does 35 = .ok (.iload_n 1, 1) := by decide +kernel
theorem dX10_does_36 : decode cX10_does 36 = .ok (.iload_n 3, 1) := by decide +kernel
theorem dX10_does_37 : decode cX10_does 37 = .ok (.iload 4, 2) := by decide +kernel
theorem dX10_does_39 : decode cX10_does 39 = .ok (.iload 5, 2) := by decide +kernel
theorem dX10_does_41 : decode cX10_does 41 = .ok (.iconst 2, 1) := by decide +kernel
theorem dX10_does_42 : decode cX10_does 42 = .ok (.invokevirtual 148, 3) := by decide +kernel
theorem dX10_does_45 : decode cX10_does 45 = .ok (.ifCond .ne 5, 3) := by decide +kernel
theorem dX10_does_48 : decode cX10_does 48 = .ok (.iconst 0, 1) := by decide +kernel
theorem dX10_does_49 : decode cX10_does 49 = .ok (.ireturn, 1) := by decide +kernel
theorem dX10_does_50 : decode cX10_does 50 = .ok (.aload_n 0, 1) := by decide +kernel
theorem dX10_does_51 : decode cX10_does 51 = .ok (.iload_n 1, 1) := by decide +kernel
theorem dX10_does_52 : decode cX10_does 52 = .ok (.iload 4, 2) := by decide +kernel
theorem dX10_does_54 : decode cX10_does 54 = .ok (.iload 5, 2) := by decide +kernel
theorem dX10_does_56 : decode cX10_does 56 = .ok (.invokevirtual 152, 3) := by decide +kernel
theorem dX10_does_59 : decode cX10_does 59 = .ok (.istore 6, 2) := by decide +kernel
theorem dX10_does_61 : decode cX10_does 61 = .ok (.iload 6, 2) := by decide +kernel
theorem dX10_does_63 : decode cX10_does 63 = .ok (.invokestatic 155, 3) := by decide +kernel
theorem dX10_does_66 : decode cX10_does 66 = .ok (.ifCond .eq 11, 3) := by decide +kernel
theorem dX10_does_69 : decode cX10_does 69 = .ok (.aload_n 0, 1) := by decide +kernel
theorem dX10_does_70 : decode cX10_does 70 = .ok (.iload_n 1, 1) := by decide +kernel
theorem dX10_does_71 : decode cX10_does 71 = .ok (.bipush 13, 2) := by decide +kernel
theorem dX10_does_73 : decode cX10_does 73 = .ok (.invokevirtual 142, 3) := by decide +kernel
theorem dX10_does_76 : decode cX10_does 76 = .ok (.ireturn, 1) := by decide +kernel
theorem dX10_does_77 : decode cX10_does 77 = .ok (.iload 6, 2) := by decide +kernel
theorem dX10_does_79 : decode cX10_does 79 = .ok (.bipush 27, 2) := by decide +kernel
theorem dX10_does_81 : decode cX10_does 81 = .ok (.iushr, 1) := by decide +kernel
theorem dX10_does_82 : decode cX10_does 82 = .ok (.istore 7, 2) := by decide +kernel
theorem dX10_does_84 : decode cX10_does 84 = .ok (.iload 6, 2) := by decide +kernel
theorem dX10_does_86 : decode cX10_does 86 = .ok (.bipush 16, 2) := by decide +kernel
theorem dX10_does_88 : decode cX10_does 88 = .ok (.ishr, 1) := by decide +kernel
theorem dX10_does_89 : decode cX10_does 89 = .ok (.bipush 7, 2) := by decide +kernel
theorem dX10_does_91 : decode cX10_does 91 = .ok (.iand, 1) := by decide +kernel
theorem dX10_does_92 : decode cX10_does 92 = .ok (.istore 8, 2) := by decide +kernel
theorem dX10_does_94 : decode cX10_does 94 = .ok (.iload 7, 2) := by decide +kernel
theorem dX10_does_96 : decode cX10_does 96 = .ok (.invokestatic 158, 3) := by decide +kernel
theorem dX10_does_99 : decode cX10_does 99 = .ok (.ifCond .eq 15, 3) := by decide +kernel
theorem dX10_does_102 : decode cX10_does 102 = .ok (.aload_n 0, 1) := by decide +kernel
theorem dX10_does_103 : decode cX10_does 103 = .ok (.iload_n 1, 1) := by decide +kernel
theorem dX10_does_104 : decode cX10_does 104 = .ok (.iload 6, 2) := by decide +kernel
theorem dX10_does_106 : decode cX10_does 106 = .ok (.invokevirtual 161, 3) := by decide +kernel
theorem dX10_does_109 : decode cX10_does 109 = .ok (.ifCond .ne 5, 3) := by decide +kernel
theorem dX10_does_112 : decode cX10_does 112 = .ok (.iconst 0, 1) := by decide +kernel
theorem dX10_does_113 : decode cX10_does 113 = .ok (.ireturn, 1) := by decide +kernel
theorem dX10_does_114 : decode cX10_does 114 = .ok (.iload 6, 2) := by decide +kernel
theorem dX10_does_116 : decode cX10_does 116 = .ok (.bipush 24, 2) := by decide +kernel
theorem dX10_does_118 : decode cX10_does 118 = .ok (.ishr, 1) := by decide +kernel
theorem dX10_does_119 : decode cX10_does 119 = .ok (.iconst 3, 1) := by decide +kernel
theorem dX10_does_120 : decode cX10_does 120 = .ok (.iand, 1) := by decide +kernel
theorem dX10_does_121 : decode cX10_does 121 = .ok (.iconst 3, 1) := by decide +kernel
theorem dX10_does_122 : decode cX10_does 122 = .ok (.if_icmp .ne 7, 3) := by decide +kernel
theorem dX10_does_125 : decode cX10_does 125 = .ok (.iconst 1, 1) := by decide +kernel
theorem dX10_does_126 : decode cX10_does 126 = .ok (.goto 4, 3) := by decide +kernel
theorem dX10_does_129 : decode cX10_does 129 = .ok (.iconst 0, 1) := by decide +kernel
theorem dX10_does_130 : decode cX10_does 130 = .ok (.istore 9, 2) := by decide +kernel
theorem dX10_does_132 : decode cX10_does 132 = .ok (.iload 7, 2) := by decide +kernel
theorem dX10_does_134 : decode cX10_does 134 = .ok (.iconst 1, 1) := by decide +kernel
theorem dX10_does_135 : decode cX10_does 135 = .ok (.if_icmp .eq 21, 3) := by decide +kernel
theorem dX10_does_138 : decode cX10_does 138 = .ok (.iload 7, 2) := by decide +kernel
theorem dX10_does_140 : decode cX10_does 140 = .ok (.iconst 3, 1) := by decide +kernel
theorem dX10_does_141 : decode cX10_does 141 = .ok (.bipush 9, 2) := by decide +kernel
theorem dX10_does_143 : decode cX10_does 143 = .ok (.invokestatic 81, 3) := by decide +kernel
theorem dX10_does_146 : decode cX10_does 146 = .ok (.ifCond .ne 10, 3) := by decide +kernel
theorem dX10_does_149 : decode cX10_does 149 = .ok (.iload 7, 2) := by decide +kernel
theorem dX10_does_151 : decode cX10_does 151 = .ok (.bipush 15, 2) := by decide +kernel
theorem dX10_does_153 : decode cX10_does 153 = .ok (.if_icmp .ne 104, 3) := by decide +kernel
theorem dX10_does_156 : decode cX10_does 156 = .ok (.iload 9, 2) := by decide +kernel
theorem dX10_does_158 : decode cX10_does 158 = .ok (.ifCond .ne 26, 3) := by decide +kernel
theorem dX10_does_161 : decode cX10_does 161 = .ok (.aload_n 0, 1) := by decide +kernel
theorem dX10_does_162 : decode cX10_does 162 = .ok (.iload_n 1, 1) := by decide +kernel
theorem dX10_does_163 : decode cX10_does 163 = .ok (.aload_n 0, 1) := by decide +kernel
theorem dX10_does_164 : decode cX10_does 164 = .ok (.getfield 139, 3) := by decide +kernel
theorem dX10_does_167 : decode cX10_does 167 = .ok (.aload_n 0, 1) := by decide +kernel
theorem dX10_does_168 : decode cX10_does 168 = .ok (.getfield 133, 3) := by decide +kernel
theorem dX10_does_171 : decode cX10_does 171 = .ok (.aload_n 0, 1) := by decide +kernel
theorem dX10_does_172 : decode cX10_does 172 = .ok (.getfield 136, 3) := by decide +kernel
theorem dX10_does_175 : decode cX10_does 175 = .ok (.iconst 0, 1) := by decide +kernel
theorem dX10_does_176 : decode cX10_does 176 = .ok (.invokevirtual 148, 3) := by decide +kernel
theorem dX10_does_179 : decode cX10_does 179 = .ok (.ifCond .ne 5, 3) := by decide +kernel
theorem dX10_does_182 : decode cX10_does 182 = .ok (.iconst 0, 1) := by decide +kernel
theorem dX10_does_183 : decode cX10_does 183 = .ok (.ireturn, 1) := by decide +kernel
theorem dX10_does_184 : decode cX10_does 184 = .ok (.iload 9, 2) := by decide +kernel
theorem dX10_does_186 : decode cX10_does 186 = .ok (.ifCond .eq 10, 3) := by decide +kernel
theorem dX10_does_189 : decode cX10_does 189 = .ok (.aload_n 0, 1) := by decide +kernel
theorem dX10_does_190 : decode cX10_does 190 = .ok (.getfield 136, 3) := by decide +kernel
theorem dX10_does_193 : decode cX10_does 193 = .ok (.goto 16, 3) := by decide +kernel
theorem dX10_does_196 : decode cX10_does 196 = .ok (.aload_n 0, 1) := by decide +kernel
theorem dX10_does_197 : decode cX10_does 197 = .ok (.iload_n 1, 1) := by decide +kernel
theorem dX10_does_198 : decode cX10_does 198 = .ok (.aload_n 0, 1) := by decide +kernel
theorem dX10_does_199 : decode cX10_does 199 = .ok (.getfield 133, 3) := by decide +kernel
theorem dX10_does_202 : decode cX10_does 202 = .ok (.aload_n 0, 1) := by decide +kernel
theorem dX10_does_203 : decode cX10_does 203 = .ok (.getfield 136, 3) := by decide +kernel
theorem dX10_does_206 : decode cX10_does 206 = .ok (.invokevirtual 152, 3) := by decide +kernel
theorem dX10_does_209 : decode cX10_does 209 = .ok (.istore 10, 2) := by decide +kernel
theorem dX10_does_211 : decode cX10_does 211 = .ok (.iload 7, 2) := by decide +kernel
theorem dX10_does_213 : decode cX10_does 213 = .ok (.bipush 15, 2) := by decide +kernel
theorem dX10_does_215 : decode cX10_does 215 = .ok (.if_icmp .ne 19, 3) := by decide +kernel
theorem dX10_does_218 : decode cX10_does 218 = .ok (.aload_n 0, 1) := by decide +kernel
theorem dX10_does_219 : decode cX10_does 219 = .ok (.getfield 53, 3) := by decide +kernel
theorem dX10_does_222 : decode cX10_does 222 = .ok (.iload_n 2, 1) := by decide +kernel
theorem dX10_does_223 : decode cX10_does 223 = .ok (.iconst 4, 1) := by decide +kernel
theorem dX10_does_224 : decode cX10_does 224 = .ok (.iadd, 1) := by decide +kernel
theorem dX10_does_225 : decode cX10_does 225 = .ok (.iload 8, 2) := by decide +kernel
theorem dX10_does_227 : decode cX10_does 227 = .ok (.iadd, 1) := by decide +kernel
theorem dX10_does_228 : decode cX10_does 228 = .ok (.iload 10, 2) := by decide +kernel
theorem dX10_does_230 : decode cX10_does 230 = .ok (.iastore, 1) := by decide +kernel
theorem dX10_does_231 : decode cX10_does 231 = .ok (.goto 12, 3) := by decide +kernel
theorem dX10_does_234 : decode cX10_does 234 = .ok (.aload_n 0, 1) := by decide +kernel
theorem dX10_does_235 : decode cX10_does 235 = .ok (.iload_n 2, 1) := by decide +kernel
theorem dX10_does_236 : decode cX10_does 236 = .ok (.iload 7, 2) := by decide +kernel
theorem dX10_does_238 : decode cX10_does 238 = .ok (.iload 10, 2) := by decide +kernel
theorem dX10_does_240 : decode cX10_does 240 = .ok (.invokevirtual 164, 3) := by decide +kernel
theorem dX10_does_243 : decode cX10_does 243 = .ok (.aload_n 0, 1) := by decide +kernel
theorem dX10_does_244 : decode cX10_does 244 = .ok (.getfield 53, 3) := by decide +kernel
theorem dX10_does_247 : decode cX10_does 247 = .ok (.iload_n 2, 1) := by decide +kernel
theorem dX10_does_248 : decode cX10_does 248 = .ok (.iconst 3, 1) := by decide +kernel
theorem dX10_does_249 : decode cX10_does 249 = .ok (.iadd, 1) := by decide +kernel
theorem dX10_does_250 : decode cX10_does 250 = .ok (.iload 5, 2) := by decide +kernel
theorem dX10_does_252 : decode cX10_does 252 = .ok (.iconst 1, 1) := by decide +kernel
theorem dX10_does_253 : decode cX10_does 253 = .ok (.iadd, 1) := by decide +kernel
theorem dX10_does_254 : decode cX10_does 254 = .ok (.iastore, 1) := by decide +kernel
theorem dX10_does_255 : decode cX10_does 255 = .ok (.iconst 1, 1) := by decide +kernel
theorem dX10_does_256 : decode cX10_does 256 = .ok (.ireturn, 1) := by decide +kernel
theorem dX10_does_257 : decode cX10_does 257 = .ok (.iload 7, 2) := by decide +kernel
theorem dX10_does_259 : decode cX10_does 259 = .ok (.iconst 2, 1) := by decide +kernel
theorem dX10_does_260 : decode cX10_does 260 = .ok (.if_icmp .eq 17, 3) := by decide +kernel
theorem dX10_does_263 : decode cX10_does 263 = .ok (.iload 7, 2) := by decide +kernel
theorem dX10_does_265 : decode cX10_does 265 = .ok (.bipush 16, 2) := by decide +kernel
theorem dX10_does_267 : decode cX10_does 267 = .ok (.if_icmp .eq 10, 3) := by decide +kernel
theorem dX10_does_270 : decode cX10_does 270 = .ok (.iload 7, 2) := by decide +kernel
theorem dX10_does_272 : decode cX10_does 272 = .ok (.bipush 19, 2) := by decide +kernel
theorem dX10_does_274 : decode cX10_does 274 = .ok (.if_icmp .ne 135, 3) := by decide +kernel
theorem dX10_does_277 : decode cX10_does 277 = .ok (.aload_n 0, 1) := by decide +kernel
theorem dX10_does_278 : decode cX10_does 278 = .ok (.iload_n 1, 1) := by decide +kernel
theorem dX10_does_279 : decode cX10_does 279 = .ok (.aload_n 0, 1) := by decide +kernel
theorem dX10_does_280 : decode cX10_does 280 = .ok (.getfield 139, 3) := by decide +kernel
theorem dX10_does_283 : decode cX10_does 283 = .ok (.aload_n 0, 1) := by decide +kernel
theorem dX10_does_284 : decode cX10_does 284 = .ok (.getfield 133, 3) := by decide +kernel
theorem dX10_does_287 : decode cX10_does 287 = .ok (.aload_n 0, 1) := by decide +kernel
theorem dX10_does_288 : decode cX10_does 288 = .ok (.getfield 136, 3) := by decide +kernel
theorem dX10_does_291 : decode cX10_does 291 = .ok (.iconst 1, 1) := by decide +kernel
theorem dX10_does_292 : decode cX10_does 292 = .ok (.invokevirtual 148, 3) := by decide +kernel
theorem dX10_does_295 : decode cX10_does 295 = .ok (.ifCond .ne 5, 3) := by decide +kernel
theorem dX10_does_298 : decode cX10_does 298 = .ok (.iconst 0, 1) := by decide +kernel
theorem dX10_does_299 : decode cX10_does 299 = .ok (.ireturn, 1) := by decide +kernel
theorem dX10_does_300 : decode cX10_does 300 = .ok (.bipush 24, 2) := by decide +kernel
theorem dX10_does_302 : decode cX10_does 302 = .ok (.iload_n 1, 1) := by decide +kernel
theorem dX10_does_303 : decode cX10_does 303 = .ok (.imul, 1) := by decide +kernel
theorem dX10_does_304 : decode cX10_does 304 = .ok (.iconst 3, 1) := by decide +kernel
theorem dX10_does_305 : decode cX10_does 305 = .ok (.iload 8, 2) := by decide +kernel
theorem dX10_does_307 : decode cX10_does 307 = .ok (.imul, 1) := by decide +kernel
theorem dX10_does_308 : decode cX10_does 308 = .ok (.iadd, 1) := by decide +kernel
theorem dX10_does_309 : decode cX10_does 309 = .ok (.istore 10, 2) := by decide +kernel
theorem dX10_does_311 : decode cX10_does 311 = .ok (.aload_n 0, 1) := by decide +kernel
theorem dX10_does_312 : decode cX10_does 312 = .ok (.iload_n 1, 1) := by decide +kernel
theorem dX10_does_313 : decode cX10_does 313 = .ok (.aload_n 0, 1) := by decide +kernel
theorem dX10_does_314 : decode cX10_does 314 = .ok (.getfield 133, 3) := by decide +kernel
theorem dX10_does_317 : decode cX10_does 317 = .ok (.aload_n 0, 1) := by decide +kernel
theorem dX10_does_318 : decode cX10_does 318 = .ok (.getfield 136, 3) := by decide +kernel
theorem dX10_does_321 : decode cX10_does 321 = .ok (.iload 7, 2) := by decide +kernel
theorem dX10_does_323 : decode cX10_does 323 = .ok (.iconst 2, 1) := by decide +kernel
theorem dX10_does_324 : decode cX10_does 324 = .ok (.if_icmp .ne 14, 3) := by decide +kernel
theorem dX10_does_327 : decode cX10_does 327 = .ok (.aload_n 0, 1) := by decide +kernel
theorem dX10_does_328 : decode cX10_does 328 = .ok (.getfield 53, 3) := by decide +kernel
theorem dX10_does_331 : decode cX10_does 331 = .ok (.iload_n 2, 1) := by decide +kernel
theorem dX10_does_332 : decode cX10_does 332 = .ok (.iconst 4, 1) := by decide +kernel
theorem dX10_does_333 : decode cX10_does 333 = .ok (.iadd, 1) := by decide +kernel
theorem dX10_does_334 : decode cX10_does 334 = .ok (.iaload, 1) := by decide +kernel
theorem dX10_does_335 : decode cX10_does 335 = .ok (.goto 57, 3) := by decide +kernel
theorem dX10_does_338 : decode cX10_does 338 = .ok (.iload 7, 2) := by decide +kernel
theorem dX10_does_340 : decode cX10_does 340 = .ok (.bipush 16, 2) := by decide +kernel
theorem dX10_does_342 : decode cX10_does 342 = .ok (.if_icmp .ne 17, 3) := by decide +kernel
theorem dX10_does_345 : decode cX10_does 345 = .ok (.aload_n 0, 1) := by decide +kernel
theorem dX10_does_346 : decode cX10_does 346 = .ok (.getfield 53, 3) := by decide +kernel
theorem dX10_does_349 : decode cX10_does 349 = .ok (.iload_n 2, 1) := by decide +kernel
theorem dX10_does_350 : decode cX10_does 350 = .ok (.iconst 4, 1) := by decide +kernel
theorem dX10_does_351 : decode cX10_does 351 = .ok (.iadd, 1) := by decide +kernel
theorem dX10_does_352 : decode cX10_does 352 = .ok (.iload 8, 2) := by decide +kernel
theorem dX10_does_354 : decode cX10_does 354 = .ok (.iadd, 1) := by decide +kernel
theorem dX10_does_355 : decode cX10_does 355 = .ok (.iaload, 1) := by decide +kernel
theorem dX10_does_356 : decode cX10_does 356 = .ok (.goto 36, 3) := by decide +kernel
theorem dX10_does_359 : decode cX10_does 359 = .ok (.aload_n 0, 1) := by decide +kernel
theorem dX10_does_360 : decode cX10_does 360 = .ok (.getfield 56, 3) := by decide +kernel
theorem dX10_does_363 : decode cX10_does 363 = .ok (.iload 10, 2) := by decide +kernel
theorem dX10_does_365 : decode cX10_does 365 = .ok (.iaload, 1) := by decide +kernel
theorem dX10_does_366 : decode cX10_does 366 = .ok (.bipush 28, 2) := by decide +kernel
theorem dX10_does_368 : decode cX10_does 368 = .ok (.ishl, 1) := by decide +kernel
theorem dX10_does_369 : decode cX10_does 369 = .ok (.aload_n 0, 1) := by decide +kernel
theorem dX10_does_370 : decode cX10_does 370 = .ok (.getfield 56, 3) := by decide +kernel
theorem dX10_does_373 : decode cX10_does 373 = .ok (.iload 10, 2) := by decide +kernel
theorem dX10_does_375 : decode cX10_does 375 = .ok (.iconst 1, 1) := by decide +kernel
theorem dX10_does_376 : decode cX10_does 376 = .ok (.iadd, 1) := by decide +kernel
theorem dX10_does_377 : decode cX10_does 377 = .ok (.iaload, 1) := by decide +kernel
theorem dX10_does_378 : decode cX10_does 378 = .ok (.bipush 16, 2) := by decide +kernel
theorem dX10_does_380 : decode cX10_does 380 = .ok (.ishl, 1) := by decide +kernel
theorem dX10_does_381 : decode cX10_does 381 = .ok (.ior, 1) := by decide +kernel
theorem dX10_does_382 : decode cX10_does 382 = .ok (.aload_n 0, 1) := by decide +kernel
theorem dX10_does_383 : decode cX10_does 383 = .ok (.getfield 56, 3) := by decide +kernel
theorem dX10_does_386 : decode cX10_does 386 = .ok (.iload 10, 2) := by decide +kernel
theorem dX10_does_388 : decode cX10_does 388 = .ok (.iconst 2, 1) := by decide +kernel
theorem dX10_does_389 : decode cX10_does 389 = .ok (.iadd, 1) := by decide +kernel
theorem dX10_does_390 : decode cX10_does 390 = .ok (.iaload, 1) := by decide +kernel
theorem dX10_does_391 : decode cX10_does 391 = .ok (.ior, 1) := by decide +kernel
theorem dX10_does_392 : decode cX10_does 392 = .ok (.invokevirtual 168, 3) := by decide +kernel
theorem dX10_does_395 : decode cX10_does 395 = .ok (.aload_n 0, 1) := by decide +kernel
theorem dX10_does_396 : decode cX10_does 396 = .ok (.getfield 53, 3) := by decide +kernel
theorem dX10_does_399 : decode cX10_does 399 = .ok (.iload_n 2, 1) := by decide +kernel
theorem dX10_does_400 : decode cX10_does 400 = .ok (.iconst 3, 1) := by decide +kernel
theorem dX10_does_401 : decode cX10_does 401 = .ok (.iadd, 1) := by decide +kernel
theorem dX10_does_402 : decode cX10_does 402 = .ok (.iload 5, 2) := by decide +kernel
theorem dX10_does_404 : decode cX10_does 404 = .ok (.iconst 1, 1) := by decide +kernel
theorem dX10_does_405 : decode cX10_does 405 = .ok (.iadd, 1) := by decide +kernel
theorem dX10_does_406 : decode cX10_does 406 = .ok (.iastore, 1) := by decide +kernel
theorem dX10_does_407 : decode cX10_does 407 = .ok (.iconst 1, 1) := by decide +kernel
theorem dX10_does_408 : decode cX10_does 408 = .ok (.ireturn, 1) := by decide +kernel
theorem dX10_does_409 : decode cX10_does 409 = .ok (.iload 7, 2) := by decide +kernel
theorem dX10_does_411 : decode cX10_does 411 = .ok (.bipush 10, 2) := by decide +kernel
theorem dX10_does_413 : decode cX10_does 413 = .ok (.bipush 14, 2) := by decide +kernel
theorem dX10_does_415 : decode cX10_does 415 = .ok (.invokestatic 81, 3) := by decide +kernel
theorem dX10_does_418 : decode cX10_does 418 = .ok (.ifCond .eq 14, 3) := by decide +kernel
theorem dX10_does_421 : decode cX10_does 421 = .ok (.aload_n 0, 1) := by decide +kernel
theorem dX10_does_422 : decode cX10_does 422 = .ok (.iload_n 1, 1) := by decide +kernel
theorem dX10_does_423 : decode cX10_does 423 = .ok (.iload 7, 2) := by decide +kernel
theorem dX10_does_425 : decode cX10_does 425 = .ok (.iload_n 3, 1) := by decide +kernel
theorem dX10_does_426 : decode cX10_does 426 = .ok (.iload 5, 2) := by decide +kernel
theorem dX10_does_428 : decode cX10_does 428 = .ok (.invokevirtual 172, 3) := by decide +kernel
theorem dX10_does_431 : decode cX10_does 431 = .ok (.ireturn, 1) := by decide +kernel
theorem dX10_does_432 : decode cX10_does 432 = .ok (.iload 7, 2) := by decide +kernel
theorem dX10_does_434 : decode cX10_does 434 = .ok (.tableswitch 311 0 24 #[114, 311, 311, 311, 311, 311, 311, 311, 311, 311, 311, 311, 311, 311, 311, 311, 311, 123, 141, 311, 194, 205, 212, 212, 259], 114) := by decide +kernel
theorem dX10_does_548 : decode cX10_does 548 = .ok (.aload_n 0, 1) := by decide +kernel
theorem dX10_does_549 : decode cX10_does 549 = .ok (.getfield 53, 3) := by decide +kernel
theorem dX10_does_552 : decode cX10_does 552 = .ok (.iload_n 2, 1) := by decide +kernel
theorem dX10_does_553 : decode cX10_does 553 = .ok (.iconst 2, 1) := by decide +kernel
theorem dX10_does_554 : decode cX10_does 554 = .ok (.iastore, 1) := by decide +kernel
theorem dX10_does_555 : decode cX10_does 555 = .ok (.iconst 1, 1) := by decide +kernel
theorem dX10_does_556 : decode cX10_does 556 = .ok (.ireturn, 1) := by decide +kernel
theorem dX10_does_557 : decode cX10_does 557 = .ok (.aload_n 0, 1) := by decide +kernel
theorem dX10_does_558 : decode cX10_does 558 = .ok (.getfield 53, 3) := by decide +kernel
theorem dX10_does_561 : decode cX10_does 561 = .ok (.iload_n 2, 1) := by decide +kernel
theorem dX10_does_562 : decode cX10_does 562 = .ok (.iconst 4, 1) := by decide +kernel
theorem dX10_does_563 : decode cX10_does 563 = .ok (.iadd, 1) := by decide +kernel
theorem dX10_does_564 : decode cX10_does 564 = .ok (.iload 8, 2) := by decide +kernel
theorem dX10_does_566 : decode cX10_does 566 = .ok (.iadd, 1) := by decide +kernel
theorem dX10_does_567 : decode cX10_does 567 = .ok (.aload_n 0, 1) := by decide +kernel
theorem dX10_does_568 : decode cX10_does 568 = .ok (.getfield 136, 3) := by decide +kernel
theorem dX10_does_571 : decode cX10_does 571 = .ok (.iastore, 1) := by decide +kernel
theorem dX10_does_572 : decode cX10_does 572 = .ok (.goto 180, 3) := by decide +kernel
theorem dX10_does_575 : decode cX10_does 575 = .ok (.aload_n 0, 1) := by decide +kernel
theorem dX10_does_576 : decode cX10_does 576 = .ok (.getfield 136, 3) := by decide +kernel
theorem dX10_does_579 : decode cX10_does 579 = .ok (.iconst 0, 1) := by decide +kernel
theorem dX10_does_580 : decode cX10_does 580 = .ok (.ldc 93, 2) := by decide +kernel
theorem dX10_does_582 : decode cX10_does 582 = .ok (.invokestatic 81, 3) := by decide +kernel
theorem dX10_does_585 : decode cX10_does 585 = .ok (.ifCond .ne 21, 3) := by decide +kernel
theorem dX10_does_588 : decode cX10_does 588 = .ok (.aload_n 0, 1) := by decide +kernel
theorem dX10_does_589 : decode cX10_does 589 = .ok (.iconst 2, 1) := by decide +kernel
theorem dX10_does_590 : decode cX10_does 590 = .ok (.aload_n 0, 1) := by decide +kernel
theorem dX10_does_591 : decode cX10_does 591 = .ok (.getfield 139, 3) := by decide +kernel
theorem dX10_does_594 : decode cX10_does 594 = .ok (.aload_n 0, 1) := by decide +kernel
theorem dX10_does_595 : decode cX10_does 595 = .ok (.getfield 133, 3) := by decide +kernel
theorem dX10_does_598 : decode cX10_does 598 = .ok (.aload_n 0, 1) := by decide +kernel
theorem dX10_does_599 : decode cX10_does 599 = .ok (.getfield 136, 3) := by decide +kernel
theorem dX10_does_602 : decode cX10_does 602 = .ok (.invokevirtual 119, 3) := by decide +kernel
theorem dX10_does_605 : decode cX10_does 605 = .ok (.ireturn, 1) := by decide +kernel
theorem dX10_does_606 : decode cX10_does 606 = .ok (.aload_n 0, 1) := by decide +kernel
theorem dX10_does_607 : decode cX10_does 607 = .ok (.iload_n 1, 1) := by decide +kernel
theorem dX10_does_608 : decode cX10_does 608 = .ok (.iload 8, 2) := by decide +kernel
theorem dX10_does_610 : decode cX10_does 610 = .ok (.aload_n 0, 1) := by decide +kernel
theorem dX10_does_611 : decode cX10_does 611 = .ok (.getfield 139, 3) := by decide +kernel
theorem dX10_does_614 : decode cX10_does 614 = .ok (.aload_n 0, 1) := by decide +kernel
theorem dX10_does_615 : decode cX10_does 615 = .ok (.getfield 133, 3) := by decide +kernel
theorem dX10_does_618 : decode cX10_does 618 = .ok (.aload_n 0, 1) := by decide +kernel
theorem dX10_does_619 : decode cX10_does 619 = .ok (.getfield 136, 3) := by decide +kernel
theorem dX10_does_622 : decode cX10_does 622 = .ok (.invokevirtual 175, 3) := by decide +kernel
theorem dX10_does_625 : decode cX10_does 625 = .ok (.goto 127, 3) := by decide +kernel
theorem dX10_does_628 : decode cX10_does 628 = .ok (.aload_n 0, 1) := by decide +kernel
theorem dX10_does_629 : decode cX10_does 629 = .ok (.iload_n 1, 1) := by decide +kernel
theorem dX10_does_630 : decode cX10_does 630 = .ok (.iload_n 3, 1) := by decide +kernel
theorem dX10_does_631 : decode cX10_does 631 = .ok (.iload 4, 2) := by decide +kernel
theorem dX10_does_633 : decode cX10_does 633 = .ok (.iload 5, 2) := by decide +kernel
theorem dX10_does_635 : decode cX10_does 635 = .ok (.invokevirtual 179, 3) := by decide +kernel
theorem dX10_does_638 : decode cX10_does 638 = .ok (.ireturn, 1) := by decide +kernel
theorem dX10_does_639 : decode cX10_does 639 = .ok (.aload_n 0, 1) := by decide +kernel
theorem dX10_does_640 : decode cX10_does 640 = .ok (.iload_n 1, 1) := by decide +kernel
theorem dX10_does_641 : decode cX10_does 641 = .ok (.iload_n 3, 1) := by decide +kernel
theorem dX10_does_642 : decode cX10_does 642 = .ok (.invokevirtual 182, 3) := by decide +kernel
theorem dX10_does_645 : decode cX10_does 645 = .ok (.ireturn, 1) := by decide +kernel
theorem dX10_does_646 : decode cX10_does 646 = .ok (.aload_n 0, 1) := by decide +kernel
theorem dX10_does_647 : decode cX10_does 647 = .ok (.getfield 53, 3) := by decide +kernel
theorem dX10_does_650 : decode cX10_does 650 = .ok (.iload_n 2, 1) := by decide +kernel
theorem dX10_does_651 : decode cX10_does 651 = .ok (.bipush 8, 2) := by decide +kernel
theorem dX10_does_653 : decode cX10_does 653 = .ok (.iadd, 1) := by decide +kernel
theorem dX10_does_654 : decode cX10_does 654 = .ok (.aload_n 0, 1) := by decide +kernel
theorem dX10_does_655 : decode cX10_does 655 = .ok (.iload_n 1, 1) := by decide +kernel
theorem dX10_does_656 : decode cX10_does 656 = .ok (.aload_n 0, 1) := by decide +kernel
theorem dX10_does_657 : decode cX10_does 657 = .ok (.getfield 139, 3) := by decide +kernel
theorem dX10_does_660 : decode cX10_does 660 = .ok (.aload_n 0, 1) := by decide +kernel
theorem dX10_does_661 : decode cX10_does 661 = .ok (.getfield 133, 3) := by decide +kernel
theorem dX10_does_664 : decode cX10_does 664 = .ok (.aload_n 0, 1) := by decide +kernel
theorem dX10_does_665 : decode cX10_does 665 = .ok (.getfield 136, 3) := by decide +kernel
theorem dX10_does_668 : decode cX10_does 668 = .ok (.iload 7, 2) := by decide +kernel
theorem dX10_does_670 : decode cX10_does 670 = .ok (.bipush 22, 2) := by decide +kernel
theorem dX10_does_672 : decode cX10_does 672 = .ok (.isub, 1) := by decide +kernel
theorem dX10_does_673 : decode cX10_does 673 = .ok (.invokevirtual 148, 3) := by decide +kernel
theorem dX10_does_676 : decode cX10_does 676 = .ok (.ifCond .eq 7, 3) := by decide +kernel
theorem dX10_does_679 : decode cX10_does 679 = .ok (.iconst 0, 1) := by decide +kernel
theorem dX10_does_680 : decode cX10_does 680 = .ok (.goto 4, 3) := by decide +kernel
theorem dX10_does_683 : decode cX10_does 683 = .ok (.iconst 1, 1) := by decide +kernel
theorem dX10_does_684 : decode cX10_does 684 = .ok (.iastore, 1) := by decide +kernel
theorem dX10_does_685 : decode cX10_does 685 = .ok (.aload_n 0, 1) := by decide +kernel
theorem dX10_does_686 : decode cX10_does 686 = .ok (.iconst 0, 1) := by decide +kernel
theorem dX10_does_687 : decode cX10_does 687 = .ok (.putfield 107, 3) := by decide +kernel
theorem dX10_does_690 : decode cX10_does 690 = .ok (.goto 62, 3) := by decide +kernel
theorem dX10_does_693 : decode cX10_does 693 = .ok (.iload_n 3, 1) := by decide +kernel
theorem dX10_does_694 : decode cX10_does 694 = .ok (.ifCond .eq 11, 3) := by decide +kernel
theorem dX10_does_697 : decode cX10_does 697 = .ok (.aload_n 0, 1) := by decide +kernel
theorem dX10_does_698 : decode cX10_does 698 = .ok (.iload_n 1, 1) := by decide +kernel
theorem dX10_does_699 : decode cX10_does 699 = .ok (.bipush 14, 2) := by decide +kernel
theorem dX10_does_701 : decode cX10_does 701 = .ok (.invokevirtual 142, 3) := by decide +kernel
theorem dX10_does_704 : decode cX10_does 704 = .ok (.ireturn, 1) := by decide +kernel
theorem dX10_does_705 : decode cX10_does 705 = .ok (.aload_n 0, 1) := by decide +kernel
theorem dX10_does_706 : decode cX10_does 706 = .ok (.getfield 185, 3) := by decide +kernel
theorem dX10_does_709 : decode cX10_does 709 = .ok (.sipush 200, 3) := by decide +kernel
theorem dX10_does_712 : decode cX10_does 712 = .ok (.if_icmp .ge 20, 3) := by decide +kernel
theorem dX10_does_715 : decode cX10_does 715 = .ok (.aload_n 0, 1) := by decide +kernel
theorem dX10_does_716 : decode cX10_does 716 = .ok (.getfield 74, 3) := by decide +kernel
theorem dX10_does_719 : decode cX10_does 719 = .ok (.aload_n 0, 1) := by decide +kernel
theorem dX10_does_720 : decode cX10_does 720 = .ok (.getfield 185, 3) := by decide +kernel
theorem dX10_does_723 : decode cX10_does 723 = .ok (.aload_n 0, 1) := by decide +kernel
theorem dX10_does_724 : decode cX10_does 724 = .ok (.getfield 53, 3) := by decide +kernel
theorem dX10_does_727 : decode cX10_does 727 = .ok (.iload_n 2, 1) := by decide +kernel
theorem dX10_does_728 : decode cX10_does 728 = .ok (.iconst 4, 1) := by decide +kernel
theorem dX10_does_729 : decode cX10_does 729 = .ok (.iadd, 1) := by decide +kernel
theorem dX10_does_730 : decode cX10_does 730 = .ok (.iaload, 1) := by decide +kernel
theorem dX10_does_731 : decode cX10_does 731 = .ok (.iastore, 1) := by decide +kernel
theorem dX10_does_732 : decode cX10_does 732 = .ok (.aload_n 0, 1) := by decide +kernel
theorem dX10_does_733 : decode cX10_does 733 = .ok (.dup, 1) := by decide +kernel
theorem dX10_does_734 : decode cX10_does 734 = .ok (.getfield 185, 3) := by decide +kernel
theorem dX10_does_737 : decode cX10_does 737 = .ok (.iconst 1, 1) := by decide +kernel
theorem dX10_does_738 : decode cX10_does 738 = .ok (.iadd, 1) := by decide +kernel
theorem dX10_does_739 : decode cX10_does 739 = .ok (.putfield 185, 3) := by decide +kernel
theorem dX10_does_742 : decode cX10_does 742 = .ok (.goto 10, 3) := by decide +kernel
theorem dX10_does_745 : decode cX10_does 745 = .ok (.aload_n 0, 1) := by decide +kernel
theorem dX10_does_746 : decode cX10_does 746 = .ok (.iload_n 1, 1) := by decide +kernel
theorem dX10_does_747 : decode cX10_does 747 = .ok (.iload_n 3, 1) := by decide +kernel
theorem dX10_does_748 : decode cX10_does 748 = .ok (.invokevirtual 188, 3) := by decide +kernel
theorem dX10_does_751 : decode cX10_does 751 = .ok (.ireturn, 1) := by decide +kernel
theorem dX10_does_752 : decode cX10_does 752 = .ok (.aload_n 0, 1) := by decide +kernel
theorem dX10_does_753 : decode cX10_does 753 = .ok (.getfield 53, 3) := by decide +kernel
theorem dX10_does_756 : decode cX10_does 756 = .ok (.iload_n 2, 1) := by decide +kernel
theorem dX10_does_757 : decode cX10_does 757 = .ok (.iconst 3, 1) := by decide +kernel
theorem dX10_does_758 : decode cX10_does 758 = .ok (.iadd, 1) := by decide +kernel
theorem dX10_does_759 : decode cX10_does 759 = .ok (.iload 5, 2) := by decide +kernel
theorem dX10_does_761 : decode cX10_does 761 = .ok (.iconst 1, 1) := by decide +kernel
theorem dX10_does_762 : decode cX10_does 762 = .ok (.iadd, 1) := by decide +kernel
theorem dX10_does_763 : decode cX10_does 763 = .ok (.iastore, 1) := by decide +kernel
theorem dX10_does_764 : decode cX10_does 764 = .ok (.iconst 1, 1) := by decide +kernel
theorem dX10_does_765 : decode cX10_does 765 = .ok (.ireturn, 1) := by decide +kernel
theorem dX10_works_0 : decode cX10_works 0 = .ok (.aload_n 0, 1) := by decide +kernel
theorem dX10_works_1 : decode cX10_works 1 = .ok (.getfield 53, 3) := by decide +kernel
theorem dX10_works_4 : decode cX10_works 4 = .ok (.iload_n 1, 1) := by decide +kernel
theorem dX10_works_5 : decode cX10_works 5 = .ok (.iconst 4, 1) := by decide +kernel
theorem dX10_works_6 : decode cX10_works 6 = .ok (.iadd, 1) := by decide +kernel
theorem dX10_works_7 : decode cX10_works 7 = .ok (.iaload, 1) := by decide +kernel
theorem dX10_works_8 : decode cX10_works 8 = .ok (.istore 4, 2) := by decide +kernel
theorem dX10_works_10 : decode cX10_works 10 = .ok (.iload_n 2, 1) := by decide +kernel
theorem dX10_works_11 : decode cX10_works 11 = .ok (.tableswitch 147 1 8 #[45, 147, 57, 72, 87, 102, 117, 132], 45) := by decide +kernel
theorem dX10_works_56 : decode cX10_works 56 = .ok (.aload_n 0, 1) := by decide +kernel
theorem dX10_works_57 : decode cX10_works 57 = .ok (.getfield 53, 3) := by decide +kernel
theorem dX10_works_60 : decode cX10_works 60 = .ok (.iload_n 1, 1) := by decide +kernel
theorem dX10_works_61 : decode cX10_works 61 = .ok (.iconst 4, 1) := by decide +kernel
theorem dX10_works_62 : decode cX10_works 62 = .ok (.iadd, 1) := by decide +kernel
theorem dX10_works_63 : decode cX10_works 63 = .ok (.iload_n 3, 1) := by decide +kernel
theorem dX10_works_64 : decode cX10_works 64 = .ok (.iastore, 1) := by decide +kernel
theorem dX10_works_65 : decode cX10_works 65 = .ok (.goto 123, 3) := by decide +kernel
theorem dX10_works_68 : decode cX10_works 68 = .ok (.aload_n 0, 1) := by decide +kernel
theorem dX10_works_69 : decode cX10_works 69 = .ok (.getfield 53, 3) := by decide +kernel
theorem dX10_works_72 : decode cX10_works 72 = .ok (.iload_n 1, 1) := by decide +kernel
theorem dX10_works_73 : decode cX10_works 73 = .ok (.iconst 4, 1) := by decide +kernel
theorem dX10_works_74 : decode cX10_works 74 = .ok (.iadd, 1) := by decide +kernel
theorem dX10_works_75 : decode cX10_works 75 = .ok (.iload 4, 2) := by decide +kernel
theorem dX10_works_77 : decode cX10_works 77 = .ok (.iload_n 3, 1) := by decide +kernel
theorem dX10_works_78 : decode cX10_works 78 = .ok (.iadd, 1) := by decide +kernel
theorem dX10_works_79 : decode cX10_works 79 = .ok (.iastore, 1) := by decide +kernel
theorem dX10_works_80 : decode cX10_works 80 = .ok (.goto 108, 3) := by decide +kernel
theorem dX10_works_83 : decode cX10_works 83 = .ok (.aload_n 0, 1) := by decide +kernel
theorem dX10_works_84 : decode cX10_works 84 = .ok (.getfield 53, 3) := by decide +kernel
theorem dX10_works_87 : decode cX10_works 87 = .ok (.iload_n 1, 1) := by decide +kernel
theorem dX10_works_88 : decode cX10_works 88 = .ok (.iconst 4, 1) := by decide +kernel
theorem dX10_works_89 : decode cX10_works 89 = .ok (.iadd, 1) := by decide +kernel
theorem dX10_works_90 : decode cX10_works 90 = .ok (.iload 4, 2) := by decide +kernel
theorem dX10_works_92 : decode cX10_works 92 = .ok (.iload_n 3, 1) := by decide +kernel
theorem dX10_works_93 : decode cX10_works 93 = .ok (.isub, 1) := by decide +kernel
theorem dX10_works_94 : decode cX10_works 94 = .ok (.iastore, 1) := by decide +kernel
theorem dX10_works_95 : decode cX10_works 95 = .ok (.goto 93, 3) := by decide +kernel
theorem dX10_works_98 : decode cX10_works 98 = .ok (.aload_n 0, 1) := by decide +kernel
theorem dX10_works_99 : decode cX10_works 99 = .ok (.getfield 53, 3) := by decide +kernel
theorem dX10_works_102 : decode cX10_works 102 = .ok (.iload_n 1, 1) := by decide +kernel
theorem dX10_works_103 : decode cX10_works 103 = .ok (.iconst 4, 1) := by decide +kernel
theorem dX10_works_104 : decode cX10_works 104 = .ok (.iadd, 1) := by decide +kernel
theorem dX10_works_105 : decode cX10_works 105 = .ok (.iload 4, 2) := by decide +kernel
theorem dX10_works_107 : decode cX10_works 107 = .ok (.iload_n 3, 1) := by decide +kernel
theorem dX10_works_108 : decode cX10_works 108 = .ok (.imul, 1) := by decide +kernel
theorem dX10_works_109 : decode cX10_works 109 = .ok (.iastore, 1) := by decide +kernel
theorem dX10_works_110 : decode cX10_works 110 = .ok (.goto 78, 3) := by decide +kernel
theorem dX10_works_113 : decode cX10_works 113 = .ok (.aload_n 0, 1) := by decide +kernel
theorem dX10_works_114 : decode cX10_works 114 = .ok (.getfield 53, 3) := by decide +kernel
theorem dX10_works_117 : decode cX10_works 117 = .ok (.iload_n 1, 1) := by decide +kernel
theorem dX10_works_118 : decode cX10_works 118 = .ok (.iconst 4, 1) := by decide +kernel
theorem dX10_works_119 : decode cX10_works 119 = .ok (.iadd, 1) := by decide +kernel
theorem dX10_works_120 : decode cX10_works 120 = .ok (.iload 4, 2) := by decide +kernel
theorem dX10_works_122 : decode cX10_works 122 = .ok (.iload_n 3, 1) := by decide +kernel
theorem dX10_works_123 : decode cX10_works 123 = .ok (.iand, 1) := by decide +kernel
theorem dX10_works_124 : decode cX10_works 124 = .ok (.iastore, 1) := by decide +kernel
theorem dX10_works_125 : decode cX10_works 125 = .ok (.goto 63, 3) := by decide +kernel
theorem dX10_works_128 : decode cX10_works 128 = .ok (.aload_n 0, 1) := by decide +kernel
theorem dX10_works_129 : decode cX10_works 129 = .ok (.getfield 53, 3) := by decide +kernel
theorem dX10_works_132 : decode cX10_works 132 = .ok (.iload_n 1, 1) := by decide +kernel
theorem dX10_works_133 : decode cX10_works 133 = .ok (.iconst 4, 1) := by decide +kernel
theorem dX10_works_134 : decode cX10_works 134 = .ok (.iadd, 1) := by decide +kernel
theorem dX10_works_135 : decode cX10_works 135 = .ok (.iload 4, 2) := by decide +kernel
theorem dX10_works_137 : decode cX10_works 137 = .ok (.iload_n 3, 1) := by decide +kernel
theorem dX10_works_138 : decode cX10_works 138 = .ok (.ior, 1) := by decide +kernel
theorem dX10_works_139 : decode cX10_works 139 = .ok (.iastore, 1) := by decide +kernel
theorem dX10_works_140 : decode cX10_works 140 = .ok (.goto 48, 3) := by decide +kernel
theorem dX10_works_143 : decode cX10_works 143 = .ok (.aload_n 0, 1) := by decide +kernel
theorem dX10_works_144 : decode cX10_works 144 = .ok (.getfield 53, 3) := by decide +kernel
theorem dX10_works_147 : decode cX10_works 147 = .ok (.iload_n 1, 1) := by decide +kernel
theorem dX10_works_148 : decode cX10_works 148 = .ok (.iconst 4, 1) := by decide +kernel
theorem dX10_works_149 : decode cX10_works 149 = .ok (.iadd, 1) := by decide +kernel
theorem dX10_works_150 : decode cX10_works 150 = .ok (.iload 4, 2) := by decide +kernel
theorem dX10_works_152 : decode cX10_works 152 = .ok (.iload_n 3, 1) := by decide +kernel
theorem dX10_works_153 : decode cX10_works 153 = .ok (.ixor, 1) := by decide +kernel
theorem dX10_works_154 : decode cX10_works 154 = .ok (.iastore, 1) := by decide +kernel
theorem dX10_works_155 : decode cX10_works 155 = .ok (.goto 33, 3) := by decide +kernel
theorem dX10_works_158 : decode cX10_works 158 = .ok (.aload_n 0, 1) := by decide +kernel
theorem dX10_works_159 : decode cX10_works 159 = .ok (.getfield 53, 3) := by decide +kernel
theorem dX10_works_162 : decode cX10_works 162 = .ok (.iload_n 1, 1) := by decide +kernel
theorem dX10_works_163 : decode cX10_works 163 = .ok (.bipush 8, 2) := by decide +kernel
theorem dX10_works_165 : decode cX10_works 165 = .ok (.iadd, 1) := by decide +kernel
theorem dX10_works_166 : decode cX10_works 166 = .ok (.iload 4, 2) := by decide +kernel
theorem dX10_works_168 : decode cX10_works 168 = .ok (.iload_n 3, 1) := by decide +kernel
theorem dX10_works_169 : decode cX10_works 169 = .ok (.if_icmp .ge 7, 3) := by decide +kernel
theorem dX10_works_172 : decode cX10_works 172 = .ok (.iconst (-1), 1) := by decide +kernel
theorem dX10_works_173 : decode cX10_works 173 = .ok (.goto 14, 3) := by decide +kernel
theorem dX10_works_176 : decode cX10_works 176 = .ok (.iload 4, 2) := by decide +kernel
theorem dX10_works_178 : decode cX10_works 178 = .ok (.iload_n 3, 1) := by decide +kernel
theorem dX10_works_179 : decode cX10_works 179 = .ok (.if_icmp .ne 7, 3) := by decide +kernel
theorem dX10_works_182 : decode cX10_works 182 = .ok (.iconst 0, 1) := by decide +kernel
theorem dX10_works_183 : decode cX10_works 183 = .ok (.goto 4, 3) := by decide +kernel
theorem dX10_works_186 : decode cX10_works 186 = .ok (.iconst 1, 1) := by decide +kernel
theorem dX10_works_187 : decode cX10_works 187 = .ok (.iastore, 1) := by decide +kernel
theorem dX10_works_188 : decode cX10_works 188 = .ok (.return_, 1) := by decide +kernel
theorem dX10_points_0 : decode cX10_points 0 = .ok (.aload_n 0, 1) := by decide +kernel
theorem dX10_points_1 : decode cX10_points 1 = .ok (.getfield 56, 3) := by decide +kernel
theorem dX10_points_4 : decode cX10_points 4 = .ok (.bipush 24, 2) := by decide +kernel
theorem dX10_points_6 : decode cX10_points 6 = .ok (.iload_n 1, 1) := by decide +kernel
theorem dX10_points_7 : decode cX10_points 7 = .ok (.imul, 1) := by decide +kernel
theorem dX10_points_8 : decode cX10_points 8 = .ok (.iconst 3, 1) := by decide +kernel
theorem dX10_points_9 : decode cX10_points 9 = .ok (.iload_n 2, 1) := by decide +kernel
theorem dX10_points_10 : decode cX10_points 10 = .ok (.imul, 1) := by decide +kernel
theorem dX10_points_11 : decode cX10_points 11 = .ok (.iadd, 1) := by decide +kernel
theorem dX10_points_12 : decode cX10_points 12 = .ok (.iload_n 3, 1) := by decide +kernel
theorem dX10_points_13 : decode cX10_points 13 = .ok (.iastore, 1) := by decide +kernel
theorem dX10_points_14 : decode cX10_points 14 = .ok (.aload_n 0, 1) := by decide +kernel
theorem dX10_points_15 : decode cX10_points 15 = .ok (.getfield 56, 3) := by decide +kernel
theorem dX10_points_18 : decode cX10_points 18 = .ok (.bipush 24, 2) := by decide +kernel
theorem dX10_points_20 : decode cX10_points 20 = .ok (.iload_n 1, 1) := by decide +kernel
theorem dX10_points_21 : decode cX10_points 21 = .ok (.imul, 1) := by decide +kernel
theorem dX10_points_22 : decode cX10_points 22 = .ok (.iconst 3, 1) := by decide +kernel
theorem dX10_points_23 : decode cX10_points 23 = .ok (.iload_n 2, 1) := by decide +kernel
theorem dX10_points_24 : decode cX10_points 24 = .ok (.imul, 1) := by decide +kernel
theorem dX10_points_25 : decode cX10_points 25 = .ok (.iadd, 1) := by decide +kernel
theorem dX10_points_26 : decode cX10_points 26 = .ok (.iconst 1, 1) := by decide +kernel
theorem dX10_points_27 : decode cX10_points 27 = .ok (.iadd, 1) := by decide +kernel
theorem dX10_points_28 : decode cX10_points 28 = .ok (.iload 4, 2) := by decide +kernel
theorem dX10_points_30 : decode cX10_points 30 = .ok (.iastore, 1) := by decide +kernel
theorem dX10_points_31 : decode cX10_points 31 = .ok (.aload_n 0, 1) := by decide +kernel
theorem dX10_points_32 : decode cX10_points 32 = .ok (.getfield 56, 3) := by decide +kernel
theorem dX10_points_35 : decode cX10_points 35 = .ok (.bipush 24, 2) := by decide +kernel
theorem dX10_points_37 : decode cX10_points 37 = .ok (.iload_n 1, 1) := by decide +kernel
theorem dX10_points_38 : decode cX10_points 38 = .ok (.imul, 1) := by decide +kernel
theorem dX10_points_39 : decode cX10_points 39 = .ok (.iconst 3, 1) := by decide +kernel
theorem dX10_points_40 : decode cX10_points 40 = .ok (.iload_n 2, 1) := by decide +kernel
theorem dX10_points_41 : decode cX10_points 41 = .ok (.imul, 1) := by decide +kernel
theorem dX10_points_42 : decode cX10_points 42 = .ok (.iadd, 1) := by decide +kernel
theorem dX10_points_43 : decode cX10_points 43 = .ok (.iconst 2, 1) := by decide +kernel
theorem dX10_points_44 : decode cX10_points 44 = .ok (.iadd, 1) := by decide +kernel
theorem dX10_points_45 : decode cX10_points 45 = .ok (.iload 5, 2) := by decide +kernel
theorem dX10_points_47 : decode cX10_points 47 = .ok (.iastore, 1) := by decide +kernel
theorem dX10_points_48 : decode cX10_points 48 = .ok (.return_, 1) := by decide +kernel
theorem dX10_jumps_0 : decode cX10_jumps 0 = .ok (.aload_n 0, 1) := by decide +kernel
theorem dX10_jumps_1 : decode cX10_jumps 1 = .ok (.getfield 53, 3) := by decide +kernel
theorem dX10_jumps_4 : decode cX10_jumps 4 = .ok (.bipush 30, 2) := by decide +kernel
theorem dX10_jumps_6 : decode cX10_jumps 6 = .ok (.iload_n 1, 1) := by decide +kernel
theorem dX10_jumps_7 : decode cX10_jumps 7 = .ok (.imul, 1) := by decide +kernel
theorem dX10_jumps_8 : decode cX10_jumps 8 = .ok (.bipush 8, 2) := by decide +kernel
theorem dX10_jumps_10 : decode cX10_jumps 10 = .ok (.iadd, 1) := by decide +kernel
theorem dX10_jumps_11 : decode cX10_jumps 11 = .ok (.iaload, 1) := by decide +kernel
theorem dX10_jumps_12 : decode cX10_jumps 12 = .ok (.istore 5, 2) := by decide +kernel
theorem dX10_jumps_14 : decode cX10_jumps 14 = .ok (.iload_n 2, 1) := by decide +kernel
theorem dX10_jumps_15 : decode cX10_jumps 15 = .ok (.bipush 10, 2) := by decide +kernel
theorem dX10_jumps_17 : decode cX10_jumps 17 = .ok (.if_icmp .eq 49, 3) := by decide +kernel
theorem dX10_jumps_20 : decode cX10_jumps 20 = .ok (.iload_n 2, 1) := by decide +kernel
theorem dX10_jumps_21 : decode cX10_jumps 21 = .ok (.bipush 11, 2) := by decide +kernel
theorem dX10_jumps_23 : decode cX10_jumps 23 = .ok (.if_icmp .ne 8, 3) := by decide +kernel
theorem dX10_jumps_26 : decode cX10_jumps 26 = .ok (.iload 5, 2) := by decide +kernel
theorem dX10_jumps_28 : decode cX10_jumps 28 = .ok (.ifCond .eq 38, 3) := by decide +kernel
theorem dX10_jumps_31 : decode cX10_jumps 31 = .ok (.iload_n 2, 1) := by decide +kernel
theorem dX10_jumps_32 : decode cX10_jumps 32 = .ok (.bipush 12, 2) := by decide +kernel
theorem dX10_jumps_34 : decode cX10_jumps 34 = .ok (.if_icmp .ne 8, 3) := by decide +kernel
theorem dX10_jumps_37 : decode cX10_jumps 37 = .ok (.iload 5, 2) := by decide +kernel
theorem dX10_jumps_39 : decode cX10_jumps 39 = .ok (.ifCond .ne 27, 3) := by decide +kernel
theorem dX10_jumps_42 : decode cX10_jumps 42 = .ok (.iload_n 2, 1) := by decide +kernel
theorem dX10_jumps_43 : decode cX10_jumps 43 = .ok (.bipush 13, 2) := by decide +kernel
theorem dX10_jumps_45 : decode cX10_jumps 45 = .ok (.if_icmp .ne 9, 3) := by decide +kernel
theorem dX10_jumps_48 : decode cX10_jumps 48 = .ok (.iload 5, 2) := by decide +kernel
theorem dX10_jumps_50 : decode cX10_jumps 50 = .ok (.iconst (-1), 1) := by decide +kernel
theorem dX10_jumps_51 : decode cX10_jumps 51 = .ok (.if_icmp .eq 15, 3) := by decide +kernel
theorem dX10_jumps_54 : decode cX10_jumps 54 = .ok (.iload_n 2, 1) := by decide +kernel
theorem dX10_jumps_55 : decode cX10_jumps 55 = .ok (.bipush 14, 2) := by decide +kernel
theorem dX10_jumps_57 : decode cX10_jumps 57 = .ok (.if_icmp .ne 13, 3) := by decide +kernel
theorem dX10_jumps_60 : decode cX10_jumps 60 = .ok (.iload 5, 2) := by decide +kernel
theorem dX10_jumps_62 : decode cX10_jumps 62 = .ok (.iconst (-1), 1) := by decide +kernel
theorem dX10_jumps_63 : decode cX10_jumps 63 = .ok (.if_icmp .eq 7, 3) := by decide +kernel
theorem dX10_jumps_66 : decode cX10_jumps 66 = .ok (.iconst 1, 1) := by decide +kernel
theorem dX10_jumps_67 : decode cX10_jumps 67 = .ok (.goto 4, 3) := by decide +kernel
theorem dX10_jumps_70 : decode cX10_jumps 70 = .ok (.iconst 0, 1) := by decide +kernel
theorem dX10_jumps_71 : decode cX10_jumps 71 = .ok (.istore 6, 2) := by decide +kernel
theorem dX10_jumps_73 : decode cX10_jumps 73 = .ok (.iload 6, 2) := by decide +kernel
theorem dX10_jumps_75 : decode cX10_jumps 75 = .ok (.ifCond .ne 20, 3) := by decide +kernel
theorem dX10_jumps_78 : decode cX10_jumps 78 = .ok (.aload_n 0, 1) := by decide +kernel
theorem dX10_jumps_79 : decode cX10_jumps 79 = .ok (.getfield 53, 3) := by decide +kernel
theorem dX10_jumps_82 : decode cX10_jumps 82 = .ok (.bipush 30, 2) := by decide +kernel
theorem dX10_jumps_84 : decode cX10_jumps 84 = .ok (.iload_n 1, 1) := by decide +kernel
theorem dX10_jumps_85 : decode cX10_jumps 85 = .ok (.imul, 1) := by decide +kernel
theorem dX10_jumps_86 : decode cX10_jumps 86 = .ok (.iconst 3, 1) := by decide +kernel
theorem dX10_jumps_87 : decode cX10_jumps 87 = .ok (.iadd, 1) := by decide +kernel
theorem dX10_jumps_88 : decode cX10_jumps 88 = .ok (.iload 4, 2) := by decide +kernel
theorem dX10_jumps_90 : decode cX10_jumps 90 = .ok (.iconst 1, 1) := by decide +kernel
theorem dX10_jumps_91 : decode cX10_jumps 91 = .ok (.iadd, 1) := by decide +kernel
theorem dX10_jumps_92 : decode cX10_jumps 92 = .ok (.iastore, 1) := by decide +kernel
theorem dX10_jumps_93 : decode cX10_jumps 93 = .ok (.iconst 1, 1) := by decide +kernel
theorem dX10_jumps_94 : decode cX10_jumps 94 = .ok (.ireturn, 1) := by decide +kernel
theorem dX10_jumps_95 : decode cX10_jumps 95 = .ok (.aload_n 0, 1) := by decide +kernel
theorem dX10_jumps_96 : decode cX10_jumps 96 = .ok (.iload_n 1, 1) := by decide +kernel
theorem dX10_jumps_97 : decode cX10_jumps 97 = .ok (.aload_n 0, 1) := by decide +kernel
theorem dX10_jumps_98 : decode cX10_jumps 98 = .ok (.getfield 139, 3) := by decide +kernel
theorem dX10_jumps_101 : decode cX10_jumps 101 = .ok (.aload_n 0, 1) := by decide +kernel
theorem dX10_jumps_102 : decode cX10_jumps 102 = .ok (.getfield 133, 3) := by decide +kernel
theorem dX10_jumps_105 : decode cX10_jumps 105 = .ok (.aload_n 0, 1) := by decide +kernel
theorem dX10_jumps_106 : decode cX10_jumps 106 = .ok (.getfield 136, 3) := by decide +kernel
theorem dX10_jumps_109 : decode cX10_jumps 109 = .ok (.iconst 2, 1) := by decide +kernel
theorem dX10_jumps_110 : decode cX10_jumps 110 = .ok (.invokevirtual 148, 3) := by decide +kernel
theorem dX10_jumps_113 : decode cX10_jumps 113 = .ok (.ifCond .ne 5, 3) := by decide +kernel
theorem dX10_jumps_116 : decode cX10_jumps 116 = .ok (.iconst 0, 1) := by decide +kernel
theorem dX10_jumps_117 : decode cX10_jumps 117 = .ok (.ireturn, 1) := by decide +kernel
theorem dX10_jumps_118 : decode cX10_jumps 118 = .ok (.aload_n 0, 1) := by decide +kernel
theorem dX10_jumps_119 : decode cX10_jumps 119 = .ok (.getfield 139, 3) := by decide +kernel
theorem dX10_jumps_122 : decode cX10_jumps 122 = .ok (.iload_n 3, 1) := by decide +kernel
theorem dX10_jumps_123 : decode cX10_jumps 123 = .ok (.if_icmp .eq 22, 3) := by decide +kernel
theorem dX10_jumps_126 : decode cX10_jumps 126 = .ok (.aload_n 0, 1) := by decide +kernel
theorem dX10_jumps_127 : decode cX10_jumps 127 = .ok (.bipush 9, 2) := by decide +kernel
theorem dX10_jumps_129 : decode cX10_jumps 129 = .ok (.aload_n 0, 1) := by decide +kernel
theorem dX10_jumps_130 : decode cX10_jumps 130 = .ok (.getfield 139, 3) := by decide +kernel
theorem dX10_jumps_133 : decode cX10_jumps 133 = .ok (.aload_n 0, 1) := by decide +kernel
theorem dX10_jumps_134 : decode cX10_jumps 134 = .ok (.getfield 133, 3) := by decide +kernel
theorem dX10_jumps_137 : decode cX10_jumps 137 = .ok (.aload_n 0, 1) := by decide +kernel
theorem dX10_jumps_138 : decode cX10_jumps 138 = .ok (.getfield 136, 3) := by decide +kernel
theorem dX10_jumps_141 : decode cX10_jumps 141 = .ok (.invokevirtual 119, 3) := by decide +kernel
theorem dX10_jumps_144 : decode cX10_jumps 144 = .ok (.ireturn, 1) := by decide +kernel
theorem dX10_jumps_145 : decode cX10_jumps 145 = .ok (.aload_n 0, 1) := by decide +kernel
theorem dX10_jumps_146 : decode cX10_jumps 146 = .ok (.iload_n 1, 1) := by decide +kernel
theorem dX10_jumps_147 : decode cX10_jumps 147 = .ok (.iload_n 3, 1) := by decide +kernel
theorem dX10_jumps_148 : decode cX10_jumps 148 = .ok (.aload_n 0, 1) := by decide +kernel
theorem dX10_jumps_149 : decode cX10_jumps 149 = .ok (.getfield 133, 3) := by decide +kernel
theorem dX10_jumps_152 : decode cX10_jumps 152 = .ok (.aload_n 0, 1) := by decide +kernel
theorem dX10_jumps_153 : decode cX10_jumps 153 = .ok (.getfield 136, 3) := by decide +kernel
theorem dX10_jumps_156 : decode cX10_jumps 156 = .ok (.invokevirtual 191, 3) := by decide +kernel
theorem dX10_jumps_159 : decode cX10_jumps 159 = .ok (.iconst 1, 1) := by decide +kernel
theorem dX10_jumps_160 : decode cX10_jumps 160 = .ok (.ireturn, 1) := by decide +kernel
theorem dX10_calls_0 : decode cX10_calls 0 = .ok (.aload_n 0, 1) := by decide +kernel
theorem dX10_calls_1 : decode cX10_calls 1 = .ok (.iload_n 1, 1) := by decide +kernel
theorem dX10_calls_2 : decode cX10_calls 2 = .ok (.aload_n 0, 1) := by decide +kernel
theorem dX10_calls_3 : decode cX10_calls 3 = .ok (.getfield 133, 3) := by decide +kernel
theorem dX10_calls_6 : decode cX10_calls 6 = .ok (.invokevirtual 123, 3) := by decide +kernel
theorem dX10_calls_9 : decode cX10_calls 9 = .ok (.ifCond .ne 21, 3) := by decide +kernel
theorem dX10_calls_12 : decode cX10_calls 12 = .ok (.aload_n 0, 1) := by decide +kernel
theorem dX10_calls_13 : decode cX10_calls 13 = .ok (.iconst 1, 1) := by decide +kernel
theorem dX10_calls_14 : decode cX10_calls 14 = .ok (.aload_n 0, 1) := by decide +kernel
theorem dX10_calls_15 : decode cX10_calls 15 = .ok (.getfield 139, 3) := by decide +kernel
theorem dX10_calls_18 : decode cX10_calls 18 = .ok (.aload_n 0, 1) := by decide +kernel
theorem dX10_calls_19 : decode cX10_calls 19 = .ok (.getfield 133, 3) := by decide +kernel
theorem dX10_calls_22 : decode cX10_calls 22 = .ok (.aload_n 0, 1) := by decide +kernel
theorem dX10_calls_23 : decode cX10_calls 23 = .ok (.getfield 136, 3) := by decide +kernel
theorem dX10_calls_26 : decode cX10_calls 26 = .ok (.invokevirtual 119, 3) := by decide +kernel
theorem dX10_calls_29 : decode cX10_calls 29 = .ok (.ireturn, 1) := by decide +kernel
theorem dX10_calls_30 : decode cX10_calls 30 = .ok (.aload_n 0, 1) := by decide +kernel
theorem dX10_calls_31 : decode cX10_calls 31 = .ok (.getfield 136, 3) := by decide +kernel
theorem dX10_calls_34 : decode cX10_calls 34 = .ok (.iconst 0, 1) := by decide +kernel
theorem dX10_calls_35 : decode cX10_calls 35 = .ok (.aload_n 0, 1) := by decide +kernel
theorem dX10_calls_36 : decode cX10_calls 36 = .ok (.iload_n 1, 1) := by decide +kernel
theorem dX10_calls_37 : decode cX10_calls 37 = .ok (.aload_n 0, 1) := by decide +kernel
theorem dX10_calls_38 : decode cX10_calls 38 = .ok (.getfield 133, 3) := by decide +kernel
theorem dX10_calls_41 : decode cX10_calls 41 = .ok (.invokevirtual 127, 3) := by decide +kernel
theorem dX10_calls_44 : decode cX10_calls 44 = .ok (.iconst 1, 1) := by decide +kernel
theorem dX10_calls_45 : decode cX10_calls 45 = .ok (.isub, 1) := by decide +kernel
theorem dX10_calls_46 : decode cX10_calls 46 = .ok (.invokestatic 81, 3) := by decide +kernel
theorem dX10_calls_49 : decode cX10_calls 49 = .ok (.ifCond .ne 21, 3) := by decide +kernel
theorem dX10_calls_52 : decode cX10_calls 52 = .ok (.aload_n 0, 1) := by decide +kernel
theorem dX10_calls_53 : decode cX10_calls 53 = .ok (.iconst 2, 1) := by decide +kernel
theorem dX10_calls_54 : decode cX10_calls 54 = .ok (.aload_n 0, 1) := by decide +kernel
theorem dX10_calls_55 : decode cX10_calls 55 = .ok (.getfield 139, 3) := by decide +kernel
theorem dX10_calls_58 : decode cX10_calls 58 = .ok (.aload_n 0, 1) := by decide +kernel
theorem dX10_calls_59 : decode cX10_calls 59 = .ok (.getfield 133, 3) := by decide +kernel
theorem dX10_calls_62 : decode cX10_calls 62 = .ok (.aload_n 0, 1) := by decide +kernel
theorem dX10_calls_63 : decode cX10_calls 63 = .ok (.getfield 136, 3) := by decide +kernel
theorem dX10_calls_66 : decode cX10_calls 66 = .ok (.invokevirtual 119, 3) := by decide +kernel
theorem dX10_calls_69 : decode cX10_calls 69 = .ok (.ireturn, 1) := by decide +kernel
theorem dX10_calls_70 : decode cX10_calls 70 = .ok (.aload_n 0, 1) := by decide +kernel
theorem dX10_calls_71 : decode cX10_calls 71 = .ok (.iload_n 1, 1) := by decide +kernel
theorem dX10_calls_72 : decode cX10_calls 72 = .ok (.aload_n 0, 1) := by decide +kernel
theorem dX10_calls_73 : decode cX10_calls 73 = .ok (.getfield 133, 3) := by decide +kernel
theorem dX10_calls_76 : decode cX10_calls 76 = .ok (.invokevirtual 100, 3) := by decide +kernel
theorem dX10_calls_79 : decode cX10_calls 79 = .ok (.iconst 4, 1) := by decide +kernel
theorem dX10_calls_80 : decode cX10_calls 80 = .ok (.iand, 1) := by decide +kernel
theorem dX10_calls_81 : decode cX10_calls 81 = .ok (.ifCond .ne 21, 3) := by decide +kernel
theorem dX10_calls_84 : decode cX10_calls 84 = .ok (.aload_n 0, 1) := by decide +kernel
theorem dX10_calls_85 : decode cX10_calls 85 = .ok (.iconst 5, 1) := by decide +kernel
theorem dX10_calls_86 : decode cX10_calls 86 = .ok (.aload_n 0, 1) := by decide +kernel
theorem dX10_calls_87 : decode cX10_calls 87 = .ok (.getfield 139, 3) := by decide +kernel
theorem dX10_calls_90 : decode cX10_calls 90 = .ok (.aload_n 0, 1) := by decide +kernel
theorem dX10_calls_91 : decode cX10_calls 91 = .ok (.getfield 133, 3) := by decide +kernel
theorem dX10_calls_94 : decode cX10_calls 94 = .ok (.aload_n 0, 1) := by decide +kernel
theorem dX10_calls_95 : decode cX10_calls 95 = .ok (.getfield 136, 3) := by decide +kernel
theorem dX10_calls_98 : decode cX10_calls 98 = .ok (.invokevirtual 119, 3) := by decide +kernel
theorem dX10_calls_101 : decode cX10_calls 101 = .ok (.ireturn, 1) := by decide +kernel
theorem dX10_calls_102 : decode cX10_calls 102 = .ok (.aload_n 0, 1) := by decide +kernel
theorem dX10_calls_103 : decode cX10_calls 103 = .ok (.getfield 62, 3) := by decide +kernel
theorem dX10_calls_106 : decode cX10_calls 106 = .ok (.bipush 40, 2) := by decide +kernel
theorem dX10_calls_108 : decode cX10_calls 108 = .ok (.iload_n 1, 1) := by decide +kernel
theorem dX10_calls_109 : decode cX10_calls 109 = .ok (.imul, 1) := by decide +kernel
theorem dX10_calls_110 : decode cX10_calls 110 = .ok (.aload_n 0, 1) := by decide +kernel
theorem dX10_calls_111 : decode cX10_calls 111 = .ok (.getfield 133, 3) := by decide +kernel
theorem dX10_calls_114 : decode cX10_calls 114 = .ok (.iadd, 1) := by decide +kernel
theorem dX10_calls_115 : decode cX10_calls 115 = .ok (.iaload, 1) := by decide +kernel
theorem dX10_calls_116 : decode cX10_calls 116 = .ok (.istore 5, 2) := by decide +kernel
theorem dX10_calls_118 : decode cX10_calls 118 = .ok (.aload_n 0, 1) := by decide +kernel
theorem dX10_calls_119 : decode cX10_calls 119 = .ok (.getfield 133, 3) := by decide +kernel
theorem dX10_calls_122 : decode cX10_calls 122 = .ok (.iload_n 3, 1) := by decide +kernel
theorem dX10_calls_123 : decode cX10_calls 123 = .ok (.if_icmp .eq 36, 3) := by decide +kernel
theorem dX10_calls_126 : decode cX10_calls 126 = .ok (.aload_n 0, 1) := by decide +kernel
theorem dX10_calls_127 : decode cX10_calls 127 = .ok (.getfield 136, 3) := by decide +kernel
theorem dX10_calls_130 : decode cX10_calls 130 = .ok (.aload_n 0, 1) := by decide +kernel
theorem dX10_calls_131 : decode cX10_calls 131 = .ok (.getfield 25, 3) := by decide +kernel
theorem dX10_calls_134 : decode cX10_calls 134 = .ok (.iload 5, 2) := by decide +kernel
theorem dX10_calls_136 : decode cX10_calls 136 = .ok (.iaload, 1) := by decide +kernel
theorem dX10_calls_137 : decode cX10_calls 137 = .ok (.if_icmp .lt 22, 3) := by decide +kernel
theorem dX10_calls_140 : decode cX10_calls 140 = .ok (.aload_n 0, 1) := by decide +kernel
theorem dX10_calls_141 : decode cX10_calls 141 = .ok (.bipush 6, 2) := by decide +kernel
theorem dX10_calls_143 : decode cX10_calls 143 = .ok (.aload_n 0, 1) := by decide +kernel
theorem dX10_calls_144 : decode cX10_calls 144 = .ok (.getfield 139, 3) := by decide +kernel
theorem dX10_calls_147 : decode cX10_calls 147 = .ok (.aload_n 0, 1) := by decide +kernel
theorem dX10_calls_148 : decode cX10_calls 148 = .ok (.getfield 133, 3) := by decide +kernel
theorem dX10_calls_151 : decode cX10_calls 151 = .ok (.aload_n 0, 1) := by decide +kernel
theorem dX10_calls_152 : decode cX10_calls 152 = .ok (.getfield 136, 3) := by decide +kernel
theorem dX10_calls_155 : decode cX10_calls 155 = .ok (.invokevirtual 119, 3) := by decide +kernel
theorem dX10_calls_158 : decode cX10_calls 158 = .ok (.ireturn, 1) := by decide +kernel
theorem dX10_calls_159 : decode cX10_calls 159 = .ok (.aload_n 0, 1) := by decide +kernel
theorem dX10_calls_160 : decode cX10_calls 160 = .ok (.getfield 139, 3) := by decide +kernel
theorem dX10_calls_163 : decode cX10_calls 163 = .ok (.aload_n 0, 1) := by decide +kernel
theorem dX10_calls_164 : decode cX10_calls 164 = .ok (.getfield 16, 3) := by decide +kernel
theorem dX10_calls_167 : decode cX10_calls 167 = .ok (.iload 5, 2) := by decide +kernel
theorem dX10_calls_169 : decode cX10_calls 169 = .ok (.iaload, 1) := by decide +kernel
theorem dX10_calls_170 : decode cX10_calls 170 = .ok (.if_icmp .ge 22, 3) := by decide +kernel
theorem dX10_calls_173 : decode cX10_calls 173 = .ok (.aload_n 0, 1) := by decide +kernel
theorem dX10_calls_174 : decode cX10_calls 174 = .ok (.bipush 7, 2) := by decide +kernel
theorem dX10_calls_176 : decode cX10_calls 176 = .ok (.aload_n 0, 1) := by decide +kernel
theorem dX10_calls_177 : decode cX10_calls 177 = .ok (.getfield 139, 3) := by decide +kernel
theorem dX10_calls_180 : decode cX10_calls 180 = .ok (.aload_n 0, 1) := by decide +kernel
theorem dX10_calls_181 : decode cX10_calls 181 = .ok (.getfield 133, 3) := by decide +kernel
theorem dX10_calls_184 : decode cX10_calls 184 = .ok (.aload_n 0, 1) := by decide +kernel
theorem dX10_calls_185 : decode cX10_calls 185 = .ok (.getfield 136, 3) := by decide +kernel
theorem dX10_calls_188 : decode cX10_calls 188 = .ok (.invokevirtual 119, 3) := by decide +kernel
theorem dX10_calls_191 : decode cX10_calls 191 = .ok (.ireturn, 1) := by decide +kernel
theorem dX10_calls_192 : decode cX10_calls 192 = .ok (.aload_n 0, 1) := by decide +kernel
theorem dX10_calls_193 : decode cX10_calls 193 = .ok (.getfield 139, 3) := by decide +kernel
theorem dX10_calls_196 : decode cX10_calls 196 = .ok (.aload_n 0, 1) := by decide +kernel
theorem dX10_calls_197 : decode cX10_calls 197 = .ok (.getfield 22, 3) := by decide +kernel
theorem dX10_calls_200 : decode cX10_calls 200 = .ok (.iload 5, 2) := by decide +kernel
theorem dX10_calls_202 : decode cX10_calls 202 = .ok (.iaload, 1) := by decide +kernel
theorem dX10_calls_203 : decode cX10_calls 203 = .ok (.if_icmp .le 22, 3) := by decide +kernel
theorem dX10_calls_206 : decode cX10_calls 206 = .ok (.aload_n 0, 1) := by decide +kernel
theorem dX10_calls_207 : decode cX10_calls 207 = .ok (.bipush 8, 2) := by decide +kernel
theorem dX10_calls_209 : decode cX10_calls 209 = .ok (.aload_n 0, 1) := by decide +kernel
theorem dX10_calls_210 : decode cX10_calls 210 = .ok (.getfield 139, 3) := by decide +kernel
theorem dX10_calls_213 : decode cX10_calls 213 = .ok (.aload_n 0, 1) := by decide +kernel
theorem dX10_calls_214 : decode cX10_calls 214 = .ok (.getfield 133, 3) := by decide +kernel
theorem dX10_calls_217 : decode cX10_calls 217 = .ok (.aload_n 0, 1) := by decide +kernel
theorem dX10_calls_218 : decode cX10_calls 218 = .ok (.getfield 136, 3) := by decide +kernel
theorem dX10_calls_221 : decode cX10_calls 221 = .ok (.invokevirtual 119, 3) := by decide +kernel
theorem dX10_calls_224 : decode cX10_calls 224 = .ok (.ireturn, 1) := by decide +kernel
theorem dX10_calls_225 : decode cX10_calls 225 = .ok (.aload_n 0, 1) := by decide +kernel
theorem dX10_calls_226 : decode cX10_calls 226 = .ok (.getfield 139, 3) := by decide +kernel
theorem dX10_calls_229 : decode cX10_calls 229 = .ok (.aload_n 0, 1) := by decide +kernel
theorem dX10_calls_230 : decode cX10_calls 230 = .ok (.getfield 19, 3) := by decide +kernel
theorem dX10_calls_233 : decode cX10_calls 233 = .ok (.iload 5, 2) := by decide +kernel
theorem dX10_calls_235 : decode cX10_calls 235 = .ok (.iaload, 1) := by decide +kernel
theorem dX10_calls_236 : decode cX10_calls 236 = .ok (.if_icmp .gt 10, 3) := by decide +kernel
theorem dX10_calls_239 : decode cX10_calls 239 = .ok (.aload_n 0, 1) := by decide +kernel
theorem dX10_calls_240 : decode cX10_calls 240 = .ok (.getfield 139, 3) := by decide +kernel
theorem dX10_calls_243 : decode cX10_calls 243 = .ok (.goto 10, 3) := by decide +kernel
theorem dX10_calls_246 : decode cX10_calls 246 = .ok (.aload_n 0, 1) := by decide +kernel
theorem dX10_calls_247 : decode cX10_calls 247 = .ok (.getfield 19, 3) := by decide +kernel
theorem dX10_calls_250 : decode cX10_calls 250 = .ok (.iload 5, 2) := by decide +kernel
theorem dX10_calls_252 : decode cX10_calls 252 = .ok (.iaload, 1) := by decide +kernel
theorem dX10_calls_253 : decode cX10_calls 253 = .ok (.istore 6, 2) := by decide +kernel
theorem dX10_calls_255 : decode cX10_calls 255 = .ok (.iload 6, 2) := by decide +kernel
theorem dX10_calls_257 : decode cX10_calls 257 = .ok (.iload_n 2, 1) := by decide +kernel
theorem dX10_calls_258 : decode cX10_calls 258 = .ok (.if_icmp .le 22, 3) := by decide +kernel
theorem dX10_calls_261 : decode cX10_calls 261 = .ok (.aload_n 0, 1) := by decide +kernel
theorem dX10_calls_262 : decode cX10_calls 262 = .ok (.bipush 9, 2) := by decide +kernel
theorem dX10_calls_264 : decode cX10_calls 264 = .ok (.aload_n 0, 1) := by decide +kernel
theorem dX10_calls_265 : decode cX10_calls 265 = .ok (.getfield 139, 3) := by decide +kernel
theorem dX10_calls_268 : decode cX10_calls 268 = .ok (.aload_n 0, 1) := by decide +kernel
theorem dX10_calls_269 : decode cX10_calls 269 = .ok (.getfield 133, 3) := by decide +kernel
theorem dX10_calls_272 : decode cX10_calls 272 = .ok (.aload_n 0, 1) := by decide +kernel
theorem dX10_calls_273 : decode cX10_calls 273 = .ok (.getfield 136, 3) := by decide +kernel
theorem dX10_calls_276 : decode cX10_calls 276 = .ok (.invokevirtual 119, 3) := by decide +kernel
theorem dX10_calls_279 : decode cX10_calls 279 = .ok (.ireturn, 1) := by decide +kernel
theorem dX10_calls_280 : decode cX10_calls 280 = .ok (.aload_n 0, 1) := by decide +kernel
theorem dX10_calls_281 : decode cX10_calls 281 = .ok (.iload_n 1, 1) := by decide +kernel
theorem dX10_calls_282 : decode cX10_calls 282 = .ok (.bipush 7, 2) := by decide +kernel
theorem dX10_calls_284 : decode cX10_calls 284 = .ok (.iload_n 2, 1) := by decide +kernel
theorem dX10_calls_285 : decode cX10_calls 285 = .ok (.iload_n 3, 1) := by decide +kernel
theorem dX10_calls_286 : decode cX10_calls 286 = .ok (.iload 4, 2) := by decide +kernel
theorem dX10_calls_288 : decode cX10_calls 288 = .ok (.iconst 1, 1) := by decide +kernel
theorem dX10_calls_289 : decode cX10_calls 289 = .ok (.iadd, 1) := by decide +kernel
theorem dX10_calls_290 : decode cX10_calls 290 = .ok (.invokevirtual 175, 3) := by decide +kernel
theorem dX10_calls_293 : decode cX10_calls 293 = .ok (.aload_n 0, 1) := by decide +kernel
theorem dX10_calls_294 : decode cX10_calls 294 = .ok (.iload_n 1, 1) := by decide +kernel
theorem dX10_calls_295 : decode cX10_calls 295 = .ok (.iconst 0, 1) := by decide +kernel
theorem dX10_calls_296 : decode cX10_calls 296 = .ok (.iload 6, 2) := by decide +kernel
theorem dX10_calls_298 : decode cX10_calls 298 = .ok (.iload 6, 2) := by decide +kernel
theorem dX10_calls_300 : decode cX10_calls 300 = .ok (.iconst 0, 1) := by decide +kernel
theorem dX10_calls_301 : decode cX10_calls 301 = .ok (.invokevirtual 175, 3) := by decide +kernel
theorem dX10_calls_304 : decode cX10_calls 304 = .ok (.aload_n 0, 1) := by decide +kernel
theorem dX10_calls_305 : decode cX10_calls 305 = .ok (.iload_n 1, 1) := by decide +kernel
theorem dX10_calls_306 : decode cX10_calls 306 = .ok (.iload 6, 2) := by decide +kernel
theorem dX10_calls_308 : decode cX10_calls 308 = .ok (.aload_n 0, 1) := by decide +kernel
theorem dX10_calls_309 : decode cX10_calls 309 = .ok (.getfield 133, 3) := by decide +kernel
theorem dX10_calls_312 : decode cX10_calls 312 = .ok (.aload_n 0, 1) := by decide +kernel
theorem dX10_calls_313 : decode cX10_calls 313 = .ok (.getfield 136, 3) := by decide +kernel
theorem dX10_calls_316 : decode cX10_calls 316 = .ok (.invokevirtual 191, 3) := by decide +kernel
theorem dX10_calls_319 : decode cX10_calls 319 = .ok (.aload_n 0, 1) := by decide +kernel
theorem dX10_calls_320 : decode cX10_calls 320 = .ok (.getfield 53, 3) := by decide +kernel
theorem dX10_calls_323 : decode cX10_calls 323 = .ok (.bipush 30, 2) := by decide +kernel
theorem dX10_calls_325 : decode cX10_calls 325 = .ok (.iload_n 1, 1) := by decide +kernel
theorem dX10_calls_326 : decode cX10_calls 326 = .ok (.imul, 1) := by decide +kernel
theorem dX10_calls_327 : decode cX10_calls 327 = .ok (.bipush 17, 2) := by decide +kernel
theorem dX10_calls_329 : decode cX10_calls 329 = .ok (.iadd, 1) := by decide +kernel
theorem dX10_calls_330 : decode cX10_calls 330 = .ok (.dup2, 1) := by decide +kernel
theorem dX10_calls_331 : decode cX10_calls 331 = .ok (.iaload, 1) := by decide +kernel
theorem dX10_calls_332 : decode cX10_calls 332 = .ok (.iconst 1, 1) := by decide +kernel
theorem dX10_calls_333 : decode cX10_calls 333 = .ok (.iadd, 1) := by decide +kernel
theorem dX10_calls_334 : decode cX10_calls 334 = .ok (.iastore, 1) := by decide +kernel
theorem dX10_calls_335 : decode cX10_calls 335 = .ok (.iconst 1, 1) := by decide +kernel
theorem dX10_calls_336 : decode cX10_calls 336 = .ok (.ireturn, 1) := by decide +kernel
theorem dX10_returns_0 : decode cX10_returns 0 = .ok (.aload_n 0, 1) := by decide +kernel
theorem dX10_returns_1 : decode cX10_returns 1 = .ok (.iload_n 1, 1) := by decide +kernel
theorem dX10_returns_2 : decode cX10_returns 2 = .ok (.aload_n 0, 1) := by decide +kernel
theorem dX10_returns_3 : decode cX10_returns 3 = .ok (.getfield 139, 3) := by decide +kernel
theorem dX10_returns_6 : decode cX10_returns 6 = .ok (.aload_n 0, 1) := by decide +kernel
theorem dX10_returns_7 : decode cX10_returns 7 = .ok (.getfield 133, 3) := by decide +kernel
theorem dX10_returns_10 : decode cX10_returns 10 = .ok (.aload_n 0, 1) := by decide +kernel
theorem dX10_returns_11 : decode cX10_returns 11 = .ok (.getfield 136, 3) := by decide +kernel
theorem dX10_returns_14 : decode cX10_returns 14 = .ok (.iconst 0, 1) := by decide +kernel
theorem dX10_returns_15 : decode cX10_returns 15 = .ok (.invokevirtual 148, 3) := by decide +kernel
theorem dX10_returns_18 : decode cX10_returns 18 = .ok (.ifCond .ne 5, 3) := by decide +kernel
theorem dX10_returns_21 : decode cX10_returns 21 = .ok (.iconst 0, 1) := by decide +kernel
theorem dX10_returns_22 : decode cX10_returns 22 = .ok (.ireturn, 1) := by decide +kernel
theorem dX10_returns_23 : decode cX10_returns 23 = .ok (.aload_n 0, 1) := by decide +kernel
theorem dX10_returns_24 : decode cX10_returns 24 = .ok (.iload_n 1, 1) := by decide +kernel
theorem dX10_returns_25 : decode cX10_returns 25 = .ok (.aload_n 0, 1) := by decide +kernel
theorem dX10_returns_26 : decode cX10_returns 26 = .ok (.getfield 133, 3) := by decide +kernel
theorem dX10_returns_29 : decode cX10_returns 29 = .ok (.aload_n 0, 1) := by decide +kernel
theorem dX10_returns_30 : decode cX10_returns 30 = .ok (.getfield 136, 3) := by decide +kernel
theorem dX10_returns_33 : decode cX10_returns 33 = .ok (.invokevirtual 152, 3) := by decide +kernel
theorem dX10_returns_36 : decode cX10_returns 36 = .ok (.istore_n 3, 1) := by decide +kernel
theorem dX10_returns_37 : decode cX10_returns 37 = .ok (.iload_n 3, 1) := by decide +kernel
theorem dX10_returns_38 : decode cX10_returns 38 = .ok (.bipush 28, 2) := by decide +kernel
theorem dX10_returns_40 : decode cX10_returns 40 = .ok (.ishr, 1) := by decide +kernel
theorem dX10_returns_41 : decode cX10_returns 41 = .ok (.bipush 7, 2) := by decide +kernel
theorem dX10_returns_43 : decode cX10_returns 43 = .ok (.iand, 1) := by decide +kernel
theorem dX10_returns_44 : decode cX10_returns 44 = .ok (.istore 4, 2) := by decide +kernel
theorem dX10_returns_46 : decode cX10_returns 46 = .ok (.iload 4, 2) := by decide +kernel
theorem dX10_returns_48 : decode cX10_returns 48 = .ok (.iload_n 2, 1) := by decide +kernel
theorem dX10_returns_49 : decode cX10_returns 49 = .ok (.if_icmp .ge 22, 3) := by decide +kernel
theorem dX10_returns_52 : decode cX10_returns 52 = .ok (.aload_n 0, 1) := by decide +kernel
theorem dX10_returns_53 : decode cX10_returns 53 = .ok (.bipush 10, 2) := by decide +kernel
theorem dX10_returns_55 : decode cX10_returns 55 = .ok (.aload_n 0, 1) := by decide +kernel
theorem dX10_returns_56 : decode cX10_returns 56 = .ok (.getfield 139, 3) := by decide +kernel
theorem dX10_returns_59 : decode cX10_returns 59 = .ok (.aload_n 0, 1) := by decide +kernel
theorem dX10_returns_60 : decode cX10_returns 60 = .ok (.getfield 133, 3) := by decide +kernel
theorem dX10_returns_63 : decode cX10_returns 63 = .ok (.aload_n 0, 1) := by decide +kernel
theorem dX10_returns_64 : decode cX10_returns 64 = .ok (.getfield 136, 3) := by decide +kernel
theorem dX10_returns_67 : decode cX10_returns 67 = .ok (.invokevirtual 119, 3) := by decide +kernel
theorem dX10_returns_70 : decode cX10_returns 70 = .ok (.ireturn, 1) := by decide +kernel
theorem dX10_returns_71 : decode cX10_returns 71 = .ok (.iload_n 3, 1) := by decide +kernel
theorem dX10_returns_72 : decode cX10_returns 72 = .ok (.bipush 16, 2) := by decide +kernel
theorem dX10_returns_74 : decode cX10_returns 74 = .ok (.ishr, 1) := by decide +kernel
theorem dX10_returns_75 : decode cX10_returns 75 = .ok (.sipush 4095, 3) := by decide +kernel
theorem dX10_returns_78 : decode cX10_returns 78 = .ok (.iand, 1) := by decide +kernel
theorem dX10_returns_79 : decode cX10_returns 79 = .ok (.istore 5, 2) := by decide +kernel
theorem dX10_returns_81 : decode cX10_returns 81 = .ok (.iload_n 3, 1) := by decide +kernel
theorem dX10_returns_82 : decode cX10_returns 82 = .ok (.ldc 93, 2) := by decide +kernel
theorem dX10_returns_84 : decode cX10_returns 84 = .ok (.iand, 1) := by decide +kernel
theorem dX10_returns_85 : decode cX10_returns 85 = .ok (.istore 6, 2) := by decide +kernel
theorem dX10_returns_87 : decode cX10_returns 87 = .ok (.aload_n 0, 1) := by decide +kernel
theorem dX10_returns_88 : decode cX10_returns 88 = .ok (.iload_n 1, 1) := by decide +kernel
theorem dX10_returns_89 : decode cX10_returns 89 = .ok (.iload 4, 2) := by decide +kernel
theorem dX10_returns_91 : decode cX10_returns 91 = .ok (.iload 5, 2) := by decide +kernel
theorem dX10_returns_93 : decode cX10_returns 93 = .ok (.iload 6, 2) := by decide +kernel
theorem dX10_returns_95 : decode cX10_returns 95 = .ok (.iconst 2, 1) := by decide +kernel
theorem dX10_returns_96 : decode cX10_returns 96 = .ok (.invokevirtual 148, 3) := by decide +kernel
theorem dX10_returns_99 : decode cX10_returns 99 = .ok (.ifCond .ne 5, 3) := by decide +kernel
theorem dX10_returns_102 : decode cX10_returns 102 = .ok (.iconst 0, 1) := by decide +kernel
theorem dX10_returns_103 : decode cX10_returns 103 = .ok (.ireturn, 1) := by decide +kernel
theorem dX10_returns_104 : decode cX10_returns 104 = .ok (.aload_n 0, 1) := by decide +kernel
theorem dX10_returns_105 : decode cX10_returns 105 = .ok (.iload_n 1, 1) := by decide +kernel
theorem dX10_returns_106 : decode cX10_returns 106 = .ok (.iload 4, 2) := by decide +kernel
theorem dX10_returns_108 : decode cX10_returns 108 = .ok (.iload 5, 2) := by decide +kernel
theorem dX10_returns_110 : decode cX10_returns 110 = .ok (.iload 6, 2) := by decide +kernel
theorem dX10_returns_112 : decode cX10_returns 112 = .ok (.invokevirtual 191, 3) := by decide +kernel
theorem dX10_returns_115 : decode cX10_returns 115 = .ok (.iconst 0, 1) := by decide +kernel
theorem dX10_returns_116 : decode cX10_returns 116 = .ok (.istore 7, 2) := by decide +kernel
theorem dX10_returns_118 : decode cX10_returns 118 = .ok (.iload 7, 2) := by decide +kernel
theorem dX10_returns_120 : decode cX10_returns 120 = .ok (.bipush 8, 2) := by decide +kernel
theorem dX10_returns_122 : decode cX10_returns 122 = .ok (.if_icmp .ge 44, 3) := by decide +kernel
theorem dX10_returns_125 : decode cX10_returns 125 = .ok (.aload_n 0, 1) := by decide +kernel
theorem dX10_returns_126 : decode cX10_returns 126 = .ok (.getfield 56, 3) := by decide +kernel
theorem dX10_returns_129 : decode cX10_returns 129 = .ok (.bipush 24, 2) := by decide +kernel
theorem dX10_returns_131 : decode cX10_returns 131 = .ok (.iload_n 1, 1) := by decide +kernel
theorem dX10_returns_132 : decode cX10_returns 132 = .ok (.imul, 1) := by decide +kernel
theorem dX10_returns_133 : decode cX10_returns 133 = .ok (.iconst 3, 1) := by decide +kernel
theorem dX10_returns_134 : decode cX10_returns 134 = .ok (.iload 7, 2) := by decide +kernel
theorem dX10_returns_136 : decode cX10_returns 136 = .ok (.imul, 1) := by decide +kernel
theorem dX10_returns_137 : decode cX10_returns 137 = .ok (.iadd, 1) := by decide +kernel
theorem dX10_returns_138 : decode cX10_returns 138 = .ok (.iaload, 1) := by decide +kernel
theorem dX10_returns_139 : decode cX10_returns 139 = .ok (.iload 4, 2) := by decide +kernel
theorem dX10_returns_141 : decode cX10_returns 141 = .ok (.if_icmp .ge 19, 3) := by decide +kernel
theorem dX10_returns_144 : decode cX10_returns 144 = .ok (.aload_n 0, 1) := by decide +kernel
theorem dX10_returns_145 : decode cX10_returns 145 = .ok (.getfield 56, 3) := by decide +kernel
theorem dX10_returns_148 : decode cX10_returns 148 = .ok (.bipush 24, 2) := by decide +kernel
theorem dX10_returns_150 : decode cX10_returns 150 = .ok (.iload_n 1, 1) := by decide +kernel
theorem dX10_returns_151 : decode cX10_returns 151 = .ok (.imul, 1) := by decide +kernel
theorem dX10_returns_152 : decode cX10_returns 152 = .ok (.iconst 3, 1) := by decide +kernel
theorem dX10_returns_153 : decode cX10_returns 153 = .ok (.iload 7, 2) := by decide +kernel
theorem dX10_returns_155 : decode cX10_returns 155 = .ok (.imul, 1) := by decide +kernel
theorem dX10_returns_156 : decode cX10_returns 156 = .ok (.iadd, 1) := by decide +kernel
theorem dX10_returns_157 : decode cX10_returns 157 = .ok (.iload 4, 2) := by decide +kernel
theorem dX10_returns_159 : decode cX10_returns 159 = .ok (.iastore, 1) := by decide +kernel
theorem dX10_returns_160 : decode cX10_returns 160 = .ok (.iinc 7 1, 3) := by decide +kernel
theorem dX10_returns_163 : decode cX10_returns 163 = .ok (.goto (-45), 3) := by decide +kernel
theorem dX10_returns_166 : decode cX10_returns 166 = .ok (.aload_n 0, 1) := by decide +kernel
theorem dX10_returns_167 : decode cX10_returns 167 = .ok (.getfield 53, 3) := by decide +kernel
theorem dX10_returns_170 : decode cX10_returns 170 = .ok (.bipush 30, 2) := by decide +kernel
theorem dX10_returns_172 : decode cX10_returns 172 = .ok (.iload_n 1, 1) := by decide +kernel
theorem dX10_returns_173 : decode cX10_returns 173 = .ok (.imul, 1) := by decide +kernel
theorem dX10_returns_174 : decode cX10_returns 174 = .ok (.bipush 18, 2) := by decide +kernel
theorem dX10_returns_176 : decode cX10_returns 176 = .ok (.iadd, 1) := by decide +kernel
theorem dX10_returns_177 : decode cX10_returns 177 = .ok (.dup2, 1) := by decide +kernel
theorem dX10_returns_178 : decode cX10_returns 178 = .ok (.iaload, 1) := by decide +kernel
theorem dX10_returns_179 : decode cX10_returns 179 = .ok (.iconst 1, 1) := by decide +kernel
theorem dX10_returns_180 : decode cX10_returns 180 = .ok (.iadd, 1) := by decide +kernel
theorem dX10_returns_181 : decode cX10_returns 181 = .ok (.iastore, 1) := by decide +kernel
theorem dX10_returns_182 : decode cX10_returns 182 = .ok (.iconst 1, 1) := by decide +kernel
theorem dX10_returns_183 : decode cX10_returns 183 = .ok (.ireturn, 1) := by decide +kernel
theorem dX10_resumes_0 : decode cX10_resumes 0 = .ok (.bipush 30, 2) := by decide +kernel
theorem dX10_resumes_2 : decode cX10_resumes 2 = .ok (.iload_n 1, 1) := by decide +kernel
theorem dX10_resumes_3 : decode cX10_resumes 3 = .ok (.imul, 1) := by decide +kernel
theorem dX10_resumes_4 : decode cX10_resumes 4 = .ok (.istore_n 3, 1) := by decide +kernel
theorem dX10_resumes_5 : decode cX10_resumes 5 = .ok (.iload_n 2, 1) := by decide +kernel
theorem dX10_resumes_6 : decode cX10_resumes 6 = .ok (.ifCond .eq 11, 3) := by decide +kernel
theorem dX10_resumes_9 : decode cX10_resumes 9 = .ok (.aload_n 0, 1) := by decide +kernel
theorem dX10_resumes_10 : decode cX10_resumes 10 = .ok (.iload_n 1, 1) := by decide +kernel
theorem dX10_resumes_11 : decode cX10_resumes 11 = .ok (.bipush 14, 2) := by decide +kernel
theorem dX10_resumes_13 : decode cX10_resumes 13 = .ok (.invokevirtual 142, 3) := by decide +kernel
theorem dX10_resumes_16 : decode cX10_resumes 16 = .ok (.ireturn, 1) := by decide +kernel
theorem dX10_resumes_17 : decode cX10_resumes 17 = .ok (.aload_n 0, 1) := by decide +kernel
theorem dX10_resumes_18 : decode cX10_resumes 18 = .ok (.getfield 53, 3) := by decide +kernel
theorem dX10_resumes_21 : decode cX10_resumes 21 = .ok (.iload_n 3, 1) := by decide +kernel
theorem dX10_resumes_22 : decode cX10_resumes 22 = .ok (.bipush 15, 2) := by decide +kernel
theorem dX10_resumes_24 : decode cX10_resumes 24 = .ok (.iadd, 1) := by decide +kernel
theorem dX10_resumes_25 : decode cX10_resumes 25 = .ok (.iaload, 1) := by decide +kernel
theorem dX10_resumes_26 : decode cX10_resumes 26 = .ok (.ifCond .ne 11, 3) := by decide +kernel
theorem dX10_resumes_29 : decode cX10_resumes 29 = .ok (.aload_n 0, 1) := by decide +kernel
theorem dX10_resumes_30 : decode cX10_resumes 30 = .ok (.iload_n 1, 1) := by decide +kernel
theorem dX10_resumes_31 : decode cX10_resumes 31 = .ok (.bipush 13, 2) := by decide +kernel
theorem dX10_resumes_33 : decode cX10_resumes 33 = .ok (.invokevirtual 142, 3) := by decide +kernel
theorem dX10_resumes_36 : decode cX10_resumes 36 = .ok (.ireturn, 1) := by decide +kernel
theorem dX10_resumes_37 : decode cX10_resumes 37 = .ok (.aload_n 0, 1) := by decide +kernel
theorem dX10_resumes_38 : decode cX10_resumes 38 = .ok (.getfield 53, 3) := by decide +kernel
theorem dX10_resumes_41 : decode cX10_resumes 41 = .ok (.iload_n 3, 1) := by decide +kernel
theorem dX10_resumes_42 : decode cX10_resumes 42 = .ok (.iconst 5, 1) := by decide +kernel
theorem dX10_resumes_43 : decode cX10_resumes 43 = .ok (.iadd, 1) := by decide +kernel
theorem dX10_resumes_44 : decode cX10_resumes 44 = .ok (.iaload, 1) := by decide +kernel
theorem dX10_resumes_45 : decode cX10_resumes 45 = .ok (.ifCond .eq 7, 3) := by decide +kernel
theorem dX10_resumes_48 : decode cX10_resumes 48 = .ok (.iconst 1, 1) := by decide +kernel
theorem dX10_resumes_49 : decode cX10_resumes 49 = .ok (.goto 4, 3) := by decide +kernel
theorem dX10_resumes_52 : decode cX10_resumes 52 = .ok (.iconst 0, 1) := by decide +kernel
theorem dX10_resumes_53 : decode cX10_resumes 53 = .ok (.istore 4, 2) := by decide +kernel
theorem dX10_resumes_55 : decode cX10_resumes 55 = .ok (.iconst 0, 1) := by decide +kernel
theorem dX10_resumes_56 : decode cX10_resumes 56 = .ok (.istore 5, 2) := by decide +kernel
theorem dX10_resumes_58 : decode cX10_resumes 58 = .ok (.iload 5, 2) := by decide +kernel
theorem dX10_resumes_60 : decode cX10_resumes 60 = .ok (.bipush 8, 2) := by decide +kernel
theorem dX10_resumes_62 : decode cX10_resumes 62 = .ok (.if_icmp .ge 32, 3) := by decide +kernel
theorem dX10_resumes_65 : decode cX10_resumes 65 = .ok (.aload_n 0, 1) := by decide +kernel
theorem dX10_resumes_66 : decode cX10_resumes 66 = .ok (.getfield 53, 3) := by decide +kernel
theorem dX10_resumes_69 : decode cX10_resumes 69 = .ok (.iload_n 3, 1) := by decide +kernel
theorem dX10_resumes_70 : decode cX10_resumes 70 = .ok (.iconst 1, 1) := by decide +kernel
theorem dX10_resumes_71 : decode cX10_resumes 71 = .ok (.iadd, 1) := by decide +kernel
theorem dX10_resumes_72 : decode cX10_resumes 72 = .ok (.iload 5, 2) := by decide +kernel
theorem dX10_resumes_74 : decode cX10_resumes 74 = .ok (.iadd, 1) := by decide +kernel
theorem dX10_resumes_75 : decode cX10_resumes 75 = .ok (.aload_n 0, 1) := by decide +kernel
theorem dX10_resumes_76 : decode cX10_resumes 76 = .ok (.getfield 71, 3) := by decide +kernel
theorem dX10_resumes_79 : decode cX10_resumes 79 = .ok (.bipush 32, 2) := by decide +kernel
theorem dX10_resumes_81 : decode cX10_resumes 81 = .ok (.iload_n 1, 1) := by decide +kernel
theorem dX10_resumes_82 : decode cX10_resumes 82 = .ok (.imul, 1) := by decide +kernel
theorem dX10_resumes_83 : decode cX10_resumes 83 = .ok (.iload 5, 2) := by decide +kernel
theorem dX10_resumes_85 : decode cX10_resumes 85 = .ok (.iadd, 1) := by decide +kernel
theorem dX10_resumes_86 : decode cX10_resumes 86 = .ok (.iaload, 1) := by decide +kernel
theorem dX10_resumes_87 : decode cX10_resumes 87 = .ok (.iastore, 1) := by decide +kernel
theorem dX10_resumes_88 : decode cX10_resumes 88 = .ok (.iinc 5 1, 3) := by decide +kernel
theorem dX10_resumes_91 : decode cX10_resumes 91 = .ok (.goto (-33), 3) := by decide +kernel
theorem dX10_resumes_94 : decode cX10_resumes 94 = .ok (.iconst 0, 1) := by decide +kernel
theorem dX10_resumes_95 : decode cX10_resumes 95 = .ok (.istore 5, 2) := by decide +kernel
theorem dX10_resumes_97 : decode cX10_resumes 97 = .ok (.iload 5, 2) := by decide +kernel
theorem dX10_resumes_99 : decode cX10_resumes 99 = .ok (.bipush 24, 2) := by decide +kernel
theorem dX10_resumes_101 : decode cX10_resumes 101 = .ok (.if_icmp .ge 36, 3) := by decide +kernel
theorem dX10_resumes_104 : decode cX10_resumes 104 = .ok (.aload_n 0, 1) := by decide +kernel
theorem dX10_resumes_105 : decode cX10_resumes 105 = .ok (.getfield 56, 3) := by decide +kernel
theorem dX10_resumes_108 : decode cX10_resumes 108 = .ok (.bipush 24, 2) := by decide +kernel
theorem dX10_resumes_110 : decode cX10_resumes 110 = .ok (.iload_n 1, 1) := by decide +kernel
theorem dX10_resumes_111 : decode cX10_resumes 111 = .ok (.imul, 1) := by decide +kernel
theorem dX10_resumes_112 : decode cX10_resumes 112 = .ok (.iload 5, 2) := by decide +kernel
