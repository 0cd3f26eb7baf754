theorem dX10_layPayment_264 : decode cX10_layPayment 264 = .ok (.goto (-31), 3) := by decide +kernel
theorem dX10_layPayment_267 : decode cX10_layPayment 267 = .ok (.iinc 7 (-1), 3) := by decide +kernel
theorem dX10_layPayment_270 : decode cX10_layPayment 270 = .ok (.goto (-45), 3) := by decide +kernel
theorem dX10_layPayment_273 : decode cX10_layPayment 273 = .ok (.aload_n 0, 1) := by decide +kernel
theorem dX10_layPayment_274 : decode cX10_layPayment 274 = .ok (.getfield 49, 3) := by decide +kernel
theorem dX10_layPayment_277 : decode cX10_layPayment 277 = .ok (.iload 4, 2) := by decide +kernel
theorem dX10_layPayment_279 : decode cX10_layPayment 279 = .ok (.iaload, 1) := by decide +kernel
theorem dX10_layPayment_280 : decode cX10_layPayment 280 = .ok (.ldc_w 314, 3) := by decide +kernel
theorem dX10_layPayment_283 : decode cX10_layPayment 283 = .ok (.if_icmp .lt 5, 3) := by decide +kernel
theorem dX10_layPayment_286 : decode cX10_layPayment 286 = .ok (.iconst (-1), 1) := by decide +kernel
theorem dX10_layPayment_287 : decode cX10_layPayment 287 = .ok (.ireturn, 1) := by decide +kernel
theorem dX10_layPayment_288 : decode cX10_layPayment 288 = .ok (.iload 4, 2) := by decide +kernel
theorem dX10_layPayment_290 : decode cX10_layPayment 290 = .ok (.istore 7, 2) := by decide +kernel
theorem dX10_layPayment_292 : decode cX10_layPayment 292 = .ok (.iconst 0, 1) := by decide +kernel
theorem dX10_layPayment_293 : decode cX10_layPayment 293 = .ok (.istore 8, 2) := by decide +kernel
theorem dX10_layPayment_295 : decode cX10_layPayment 295 = .ok (.iload 8, 2) := by decide +kernel
theorem dX10_layPayment_297 : decode cX10_layPayment 297 = .ok (.aload_n 0, 1) := by decide +kernel
theorem dX10_layPayment_298 : decode cX10_layPayment 298 = .ok (.getfield 307, 3) := by decide +kernel
theorem dX10_layPayment_301 : decode cX10_layPayment 301 = .ok (.if_icmp .ge 98, 3) := by decide +kernel
theorem dX10_layPayment_304 : decode cX10_layPayment 304 = .ok (.iconst 0, 1) := by decide +kernel
theorem dX10_layPayment_305 : decode cX10_layPayment 305 = .ok (.istore 9, 2) := by decide +kernel
theorem dX10_layPayment_307 : decode cX10_layPayment 307 = .ok (.aload_n 0, 1) := by decide +kernel
theorem dX10_layPayment_308 : decode cX10_layPayment 308 = .ok (.iload 8, 2) := by decide +kernel
theorem dX10_layPayment_310 : decode cX10_layPayment 310 = .ok (.iload 7, 2) := by decide +kernel
theorem dX10_layPayment_312 : decode cX10_layPayment 312 = .ok (.iload 9, 2) := by decide +kernel
theorem dX10_layPayment_314 : decode cX10_layPayment 314 = .ok (.invokevirtual 318, 3) := by decide +kernel
theorem dX10_layPayment_317 : decode cX10_layPayment 317 = .ok (.aload_n 0, 1) := by decide +kernel
theorem dX10_layPayment_318 : decode cX10_layPayment 318 = .ok (.getfield 49, 3) := by decide +kernel
theorem dX10_layPayment_321 : decode cX10_layPayment 321 = .ok (.iload 6, 2) := by decide +kernel
theorem dX10_layPayment_323 : decode cX10_layPayment 323 = .ok (.iload 8, 2) := by decide +kernel
theorem dX10_layPayment_325 : decode cX10_layPayment 325 = .ok (.imul, 1) := by decide +kernel
theorem dX10_layPayment_326 : decode cX10_layPayment 326 = .ok (.iload 7, 2) := by decide +kernel
theorem dX10_layPayment_328 : decode cX10_layPayment 328 = .ok (.iadd, 1) := by decide +kernel
theorem dX10_layPayment_329 : decode cX10_layPayment 329 = .ok (.iaload, 1) := by decide +kernel
theorem dX10_layPayment_330 : decode cX10_layPayment 330 = .ok (.if_icmp .eq 9, 3) := by decide +kernel
theorem dX10_layPayment_333 : decode cX10_layPayment 333 = .ok (.iinc 9 1, 3) := by decide +kernel
theorem dX10_layPayment_336 : decode cX10_layPayment 336 = .ok (.goto (-29), 3) := by decide +kernel
theorem dX10_layPayment_339 : decode cX10_layPayment 339 = .ok (.aload_n 0, 1) := by decide +kernel
theorem dX10_layPayment_340 : decode cX10_layPayment 340 = .ok (.getfield 55, 3) := by decide +kernel
theorem dX10_layPayment_343 : decode cX10_layPayment 343 = .ok (.iload 8, 2) := by decide +kernel
theorem dX10_layPayment_345 : decode cX10_layPayment 345 = .ok (.iload 9, 2) := by decide +kernel
theorem dX10_layPayment_347 : decode cX10_layPayment 347 = .ok (.iastore, 1) := by decide +kernel
theorem dX10_layPayment_348 : decode cX10_layPayment 348 = .ok (.iload 9, 2) := by decide +kernel
theorem dX10_layPayment_350 : decode cX10_layPayment 350 = .ok (.ifCond .le 43, 3) := by decide +kernel
theorem dX10_layPayment_353 : decode cX10_layPayment 353 = .ok (.iload 7, 2) := by decide +kernel
theorem dX10_layPayment_355 : decode cX10_layPayment 355 = .ok (.aload_n 0, 1) := by decide +kernel
theorem dX10_layPayment_356 : decode cX10_layPayment 356 = .ok (.getfield 46, 3) := by decide +kernel
theorem dX10_layPayment_359 : decode cX10_layPayment 359 = .ok (.bipush 6, 2) := by decide +kernel
theorem dX10_layPayment_361 : decode cX10_layPayment 361 = .ok (.iload 8, 2) := by decide +kernel
theorem dX10_layPayment_363 : decode cX10_layPayment 363 = .ok (.imul, 1) := by decide +kernel
theorem dX10_layPayment_364 : decode cX10_layPayment 364 = .ok (.iload 9, 2) := by decide +kernel
theorem dX10_layPayment_366 : decode cX10_layPayment 366 = .ok (.iadd, 1) := by decide +kernel
theorem dX10_layPayment_367 : decode cX10_layPayment 367 = .ok (.iaload, 1) := by decide +kernel
theorem dX10_layPayment_368 : decode cX10_layPayment 368 = .ok (.if_icmp .le 22, 3) := by decide +kernel
theorem dX10_layPayment_371 : decode cX10_layPayment 371 = .ok (.iload 7, 2) := by decide +kernel
theorem dX10_layPayment_373 : decode cX10_layPayment 373 = .ok (.aload_n 0, 1) := by decide +kernel
theorem dX10_layPayment_374 : decode cX10_layPayment 374 = .ok (.getfield 46, 3) := by decide +kernel
theorem dX10_layPayment_377 : decode cX10_layPayment 377 = .ok (.bipush 6, 2) := by decide +kernel
theorem dX10_layPayment_379 : decode cX10_layPayment 379 = .ok (.iload 8, 2) := by decide +kernel
theorem dX10_layPayment_381 : decode cX10_layPayment 381 = .ok (.imul, 1) := by decide +kernel
theorem dX10_layPayment_382 : decode cX10_layPayment 382 = .ok (.iload 9, 2) := by decide +kernel
theorem dX10_layPayment_384 : decode cX10_layPayment 384 = .ok (.iadd, 1) := by decide +kernel
theorem dX10_layPayment_385 : decode cX10_layPayment 385 = .ok (.iaload, 1) := by decide +kernel
theorem dX10_layPayment_386 : decode cX10_layPayment 386 = .ok (.isub, 1) := by decide +kernel
theorem dX10_layPayment_387 : decode cX10_layPayment 387 = .ok (.goto 4, 3) := by decide +kernel
theorem dX10_layPayment_390 : decode cX10_layPayment 390 = .ok (.iconst 0, 1) := by decide +kernel
theorem dX10_layPayment_391 : decode cX10_layPayment 391 = .ok (.istore 7, 2) := by decide +kernel
theorem dX10_layPayment_393 : decode cX10_layPayment 393 = .ok (.iinc 8 1, 3) := by decide +kernel
theorem dX10_layPayment_396 : decode cX10_layPayment 396 = .ok (.goto (-101), 3) := by decide +kernel
theorem dX10_layPayment_399 : decode cX10_layPayment 399 = .ok (.aload_n 0, 1) := by decide +kernel
theorem dX10_layPayment_400 : decode cX10_layPayment 400 = .ok (.getfield 49, 3) := by decide +kernel
theorem dX10_layPayment_403 : decode cX10_layPayment 403 = .ok (.iload 4, 2) := by decide +kernel
theorem dX10_layPayment_405 : decode cX10_layPayment 405 = .ok (.iaload, 1) := by decide +kernel
theorem dX10_layPayment_406 : decode cX10_layPayment 406 = .ok (.bipush 16, 2) := by decide +kernel
theorem dX10_layPayment_408 : decode cX10_layPayment 408 = .ok (.idiv, 1) := by decide +kernel
theorem dX10_layPayment_409 : decode cX10_layPayment 409 = .ok (.ireturn, 1) := by decide +kernel
theorem dX10_costOf_0 : decode cX10_costOf 0 = .ok (.sipush 2001, 3) := by decide +kernel
theorem dX10_costOf_3 : decode cX10_costOf 3 = .ok (.istore 4, 2) := by decide +kernel
theorem dX10_costOf_5 : decode cX10_costOf 5 = .ok (.iload_n 3, 1) := by decide +kernel
theorem dX10_costOf_6 : decode cX10_costOf 6 = .ok (.ifCond .ne 17, 3) := by decide +kernel
theorem dX10_costOf_9 : decode cX10_costOf 9 = .ok (.aload_n 0, 1) := by decide +kernel
theorem dX10_costOf_10 : decode cX10_costOf 10 = .ok (.getfield 49, 3) := by decide +kernel
theorem dX10_costOf_13 : decode cX10_costOf 13 = .ok (.iload 4, 2) := by decide +kernel
theorem dX10_costOf_15 : decode cX10_costOf 15 = .ok (.iload_n 1, 1) := by decide +kernel
theorem dX10_costOf_16 : decode cX10_costOf 16 = .ok (.iconst 1, 1) := by decide +kernel
theorem dX10_costOf_17 : decode cX10_costOf 17 = .ok (.iadd, 1) := by decide +kernel
theorem dX10_costOf_18 : decode cX10_costOf 18 = .ok (.imul, 1) := by decide +kernel
theorem dX10_costOf_19 : decode cX10_costOf 19 = .ok (.iload_n 2, 1) := by decide +kernel
theorem dX10_costOf_20 : decode cX10_costOf 20 = .ok (.iadd, 1) := by decide +kernel
theorem dX10_costOf_21 : decode cX10_costOf 21 = .ok (.iaload, 1) := by decide +kernel
theorem dX10_costOf_22 : decode cX10_costOf 22 = .ok (.ireturn, 1) := by decide +kernel
theorem dX10_costOf_23 : decode cX10_costOf 23 = .ok (.aload_n 0, 1) := by decide +kernel
theorem dX10_costOf_24 : decode cX10_costOf 24 = .ok (.getfield 46, 3) := by decide +kernel
theorem dX10_costOf_27 : decode cX10_costOf 27 = .ok (.bipush 6, 2) := by decide +kernel
theorem dX10_costOf_29 : decode cX10_costOf 29 = .ok (.iload_n 1, 1) := by decide +kernel
theorem dX10_costOf_30 : decode cX10_costOf 30 = .ok (.imul, 1) := by decide +kernel
theorem dX10_costOf_31 : decode cX10_costOf 31 = .ok (.iload_n 3, 1) := by decide +kernel
theorem dX10_costOf_32 : decode cX10_costOf 32 = .ok (.iadd, 1) := by decide +kernel
theorem dX10_costOf_33 : decode cX10_costOf 33 = .ok (.iaload, 1) := by decide +kernel
theorem dX10_costOf_34 : decode cX10_costOf 34 = .ok (.istore 5, 2) := by decide +kernel
theorem dX10_costOf_36 : decode cX10_costOf 36 = .ok (.iload 5, 2) := by decide +kernel
theorem dX10_costOf_38 : decode cX10_costOf 38 = .ok (.ifCond .ne 7, 3) := by decide +kernel
theorem dX10_costOf_41 : decode cX10_costOf 41 = .ok (.ldc_w 314, 3) := by decide +kernel
theorem dX10_costOf_44 : decode cX10_costOf 44 = .ok (.ireturn, 1) := by decide +kernel
theorem dX10_costOf_45 : decode cX10_costOf 45 = .ok (.aload_n 0, 1) := by decide +kernel
theorem dX10_costOf_46 : decode cX10_costOf 46 = .ok (.getfield 49, 3) := by decide +kernel
theorem dX10_costOf_49 : decode cX10_costOf 49 = .ok (.iload 4, 2) := by decide +kernel
theorem dX10_costOf_51 : decode cX10_costOf 51 = .ok (.iload_n 1, 1) := by decide +kernel
theorem dX10_costOf_52 : decode cX10_costOf 52 = .ok (.iconst 1, 1) := by decide +kernel
theorem dX10_costOf_53 : decode cX10_costOf 53 = .ok (.iadd, 1) := by decide +kernel
theorem dX10_costOf_54 : decode cX10_costOf 54 = .ok (.imul, 1) := by decide +kernel
theorem dX10_costOf_55 : decode cX10_costOf 55 = .ok (.iload_n 2, 1) := by decide +kernel
theorem dX10_costOf_56 : decode cX10_costOf 56 = .ok (.iload 5, 2) := by decide +kernel
theorem dX10_costOf_58 : decode cX10_costOf 58 = .ok (.if_icmp .le 10, 3) := by decide +kernel
theorem dX10_costOf_61 : decode cX10_costOf 61 = .ok (.iload_n 2, 1) := by decide +kernel
theorem dX10_costOf_62 : decode cX10_costOf 62 = .ok (.iload 5, 2) := by decide +kernel
theorem dX10_costOf_64 : decode cX10_costOf 64 = .ok (.isub, 1) := by decide +kernel
theorem dX10_costOf_65 : decode cX10_costOf 65 = .ok (.goto 4, 3) := by decide +kernel
theorem dX10_costOf_68 : decode cX10_costOf 68 = .ok (.iconst 0, 1) := by decide +kernel
theorem dX10_costOf_69 : decode cX10_costOf 69 = .ok (.iadd, 1) := by decide +kernel
theorem dX10_costOf_70 : decode cX10_costOf 70 = .ok (.iaload, 1) := by decide +kernel
theorem dX10_costOf_71 : decode cX10_costOf 71 = .ok (.istore 6, 2) := by decide +kernel
theorem dX10_costOf_73 : decode cX10_costOf 73 = .ok (.iload 6, 2) := by decide +kernel
theorem dX10_costOf_75 : decode cX10_costOf 75 = .ok (.ldc_w 314, 3) := by decide +kernel
theorem dX10_costOf_78 : decode cX10_costOf 78 = .ok (.if_icmp .lt 9, 3) := by decide +kernel
theorem dX10_costOf_81 : decode cX10_costOf 81 = .ok (.ldc_w 314, 3) := by decide +kernel
theorem dX10_costOf_84 : decode cX10_costOf 84 = .ok (.goto 22, 3) := by decide +kernel
theorem dX10_costOf_87 : decode cX10_costOf 87 = .ok (.iload 6, 2) := by decide +kernel
theorem dX10_costOf_89 : decode cX10_costOf 89 = .ok (.bipush 16, 2) := by decide +kernel
theorem dX10_costOf_91 : decode cX10_costOf 91 = .ok (.aload_n 0, 1) := by decide +kernel
theorem dX10_costOf_92 : decode cX10_costOf 92 = .ok (.aload_n 0, 1) := by decide +kernel
theorem dX10_costOf_93 : decode cX10_costOf 93 = .ok (.getfield 43, 3) := by decide +kernel
theorem dX10_costOf_96 : decode cX10_costOf 96 = .ok (.iload_n 1, 1) := by decide +kernel
theorem dX10_costOf_97 : decode cX10_costOf 97 = .ok (.iaload, 1) := by decide +kernel
theorem dX10_costOf_98 : decode cX10_costOf 98 = .ok (.iconst 0, 1) := by decide +kernel
theorem dX10_costOf_99 : decode cX10_costOf 99 = .ok (.invokevirtual 256, 3) := by decide +kernel
theorem dX10_costOf_102 : decode cX10_costOf 102 = .ok (.imul, 1) := by decide +kernel
theorem dX10_costOf_103 : decode cX10_costOf 103 = .ok (.iadd, 1) := by decide +kernel
theorem dX10_costOf_104 : decode cX10_costOf 104 = .ok (.iconst 1, 1) := by decide +kernel
theorem dX10_costOf_105 : decode cX10_costOf 105 = .ok (.iadd, 1) := by decide +kernel
theorem dX10_costOf_106 : decode cX10_costOf 106 = .ok (.ireturn, 1) := by decide +kernel
theorem dX10_bestOf_0 : decode cX10_bestOf 0 = .ok (.ldc_w 314, 3) := by decide +kernel
theorem dX10_bestOf_3 : decode cX10_bestOf 3 = .ok (.istore_n 3, 1) := by decide +kernel
theorem dX10_bestOf_4 : decode cX10_bestOf 4 = .ok (.iconst 0, 1) := by decide +kernel
theorem dX10_bestOf_5 : decode cX10_bestOf 5 = .ok (.istore 4, 2) := by decide +kernel
theorem dX10_bestOf_7 : decode cX10_bestOf 7 = .ok (.iload 4, 2) := by decide +kernel
theorem dX10_bestOf_9 : decode cX10_bestOf 9 = .ok (.iconst 2, 1) := by decide +kernel
theorem dX10_bestOf_10 : decode cX10_bestOf 10 = .ok (.aload_n 0, 1) := by decide +kernel
theorem dX10_bestOf_11 : decode cX10_bestOf 11 = .ok (.invokevirtual 185, 3) := by decide +kernel
theorem dX10_bestOf_14 : decode cX10_bestOf 14 = .ok (.iadd, 1) := by decide +kernel
theorem dX10_bestOf_15 : decode cX10_bestOf 15 = .ok (.if_icmp .ge 28, 3) := by decide +kernel
theorem dX10_bestOf_18 : decode cX10_bestOf 18 = .ok (.aload_n 0, 1) := by decide +kernel
theorem dX10_bestOf_19 : decode cX10_bestOf 19 = .ok (.iload_n 1, 1) := by decide +kernel
theorem dX10_bestOf_20 : decode cX10_bestOf 20 = .ok (.iload_n 2, 1) := by decide +kernel
theorem dX10_bestOf_21 : decode cX10_bestOf 21 = .ok (.iload 4, 2) := by decide +kernel
theorem dX10_bestOf_23 : decode cX10_bestOf 23 = .ok (.invokevirtual 318, 3) := by decide +kernel
theorem dX10_bestOf_26 : decode cX10_bestOf 26 = .ok (.istore 5, 2) := by decide +kernel
theorem dX10_bestOf_28 : decode cX10_bestOf 28 = .ok (.iload 5, 2) := by decide +kernel
theorem dX10_bestOf_30 : decode cX10_bestOf 30 = .ok (.iload_n 3, 1) := by decide +kernel
theorem dX10_bestOf_31 : decode cX10_bestOf 31 = .ok (.if_icmp .ge 6, 3) := by decide +kernel
theorem dX10_bestOf_34 : decode cX10_bestOf 34 = .ok (.iload 5, 2) := by decide +kernel
theorem dX10_bestOf_36 : decode cX10_bestOf 36 = .ok (.istore_n 3, 1) := by decide +kernel
theorem dX10_bestOf_37 : decode cX10_bestOf 37 = .ok (.iinc 4 1, 3) := by decide +kernel
theorem dX10_bestOf_40 : decode cX10_bestOf 40 = .ok (.goto (-33), 3) := by decide +kernel
theorem dX10_bestOf_43 : decode cX10_bestOf 43 = .ok (.iload_n 3, 1) := by decide +kernel
theorem dX10_bestOf_44 : decode cX10_bestOf 44 = .ok (.ireturn, 1) := by decide +kernel
theorem dX10_tellPaid_0 : decode cX10_tellPaid 0 = .ok (.aload_n 0, 1) := by decide +kernel
theorem dX10_tellPaid_1 : decode cX10_tellPaid 1 = .ok (.aload_n 0, 1) := by decide +kernel
theorem dX10_tellPaid_2 : decode cX10_tellPaid 2 = .ok (.getfield 307, 3) := by decide +kernel
theorem dX10_tellPaid_5 : decode cX10_tellPaid 5 = .ok (.putfield 58, 3) := by decide +kernel
theorem dX10_tellPaid_8 : decode cX10_tellPaid 8 = .ok (.iconst 0, 1) := by decide +kernel
theorem dX10_tellPaid_9 : decode cX10_tellPaid 9 = .ok (.istore_n 1, 1) := by decide +kernel
theorem dX10_tellPaid_10 : decode cX10_tellPaid 10 = .ok (.iload_n 1, 1) := by decide +kernel
theorem dX10_tellPaid_11 : decode cX10_tellPaid 11 = .ok (.bipush 40, 2) := by decide +kernel
theorem dX10_tellPaid_13 : decode cX10_tellPaid 13 = .ok (.if_icmp .ge 16, 3) := by decide +kernel
theorem dX10_tellPaid_16 : decode cX10_tellPaid 16 = .ok (.aload_n 0, 1) := by decide +kernel
theorem dX10_tellPaid_17 : decode cX10_tellPaid 17 = .ok (.getfield 52, 3) := by decide +kernel
theorem dX10_tellPaid_20 : decode cX10_tellPaid 20 = .ok (.iload_n 1, 1) := by decide +kernel
theorem dX10_tellPaid_21 : decode cX10_tellPaid 21 = .ok (.iconst (-1), 1) := by decide +kernel
theorem dX10_tellPaid_22 : decode cX10_tellPaid 22 = .ok (.iastore, 1) := by decide +kernel
theorem dX10_tellPaid_23 : decode cX10_tellPaid 23 = .ok (.iinc 1 1, 3) := by decide +kernel
theorem dX10_tellPaid_26 : decode cX10_tellPaid 26 = .ok (.goto (-16), 3) := by decide +kernel
theorem dX10_tellPaid_29 : decode cX10_tellPaid 29 = .ok (.iconst 0, 1) := by decide +kernel
theorem dX10_tellPaid_30 : decode cX10_tellPaid 30 = .ok (.istore_n 1, 1) := by decide +kernel
theorem dX10_tellPaid_31 : decode cX10_tellPaid 31 = .ok (.iload_n 1, 1) := by decide +kernel
theorem dX10_tellPaid_32 : decode cX10_tellPaid 32 = .ok (.aload_n 0, 1) := by decide +kernel
theorem dX10_tellPaid_33 : decode cX10_tellPaid 33 = .ok (.getfield 307, 3) := by decide +kernel
theorem dX10_tellPaid_36 : decode cX10_tellPaid 36 = .ok (.if_icmp .ge 26, 3) := by decide +kernel
theorem dX10_tellPaid_39 : decode cX10_tellPaid 39 = .ok (.aload_n 0, 1) := by decide +kernel
theorem dX10_tellPaid_40 : decode cX10_tellPaid 40 = .ok (.getfield 52, 3) := by decide +kernel
theorem dX10_tellPaid_43 : decode cX10_tellPaid 43 = .ok (.aload_n 0, 1) := by decide +kernel
theorem dX10_tellPaid_44 : decode cX10_tellPaid 44 = .ok (.getfield 43, 3) := by decide +kernel
theorem dX10_tellPaid_47 : decode cX10_tellPaid 47 = .ok (.iload_n 1, 1) := by decide +kernel
theorem dX10_tellPaid_48 : decode cX10_tellPaid 48 = .ok (.iaload, 1) := by decide +kernel
theorem dX10_tellPaid_49 : decode cX10_tellPaid 49 = .ok (.aload_n 0, 1) := by decide +kernel
theorem dX10_tellPaid_50 : decode cX10_tellPaid 50 = .ok (.getfield 55, 3) := by decide +kernel
theorem dX10_tellPaid_53 : decode cX10_tellPaid 53 = .ok (.iload_n 1, 1) := by decide +kernel
theorem dX10_tellPaid_54 : decode cX10_tellPaid 54 = .ok (.iaload, 1) := by decide +kernel
theorem dX10_tellPaid_55 : decode cX10_tellPaid 55 = .ok (.iastore, 1) := by decide +kernel
theorem dX10_tellPaid_56 : decode cX10_tellPaid 56 = .ok (.iinc 1 1, 3) := by decide +kernel
theorem dX10_tellPaid_59 : decode cX10_tellPaid 59 = .ok (.goto (-28), 3) := by decide +kernel
theorem dX10_tellPaid_62 : decode cX10_tellPaid 62 = .ok (.return_, 1) := by decide +kernel
theorem dX10_payment_0 : decode cX10_payment 0 = .ok (.aload_n 0, 1) := by decide +kernel
theorem dX10_payment_1 : decode cX10_payment 1 = .ok (.iconst 0, 1) := by decide +kernel
theorem dX10_payment_2 : decode cX10_payment 2 = .ok (.putfield 83, 3) := by decide +kernel
theorem dX10_payment_5 : decode cX10_payment 5 = .ok (.aload_n 0, 1) := by decide +kernel
theorem dX10_payment_6 : decode cX10_payment 6 = .ok (.invokevirtual 167, 3) := by decide +kernel
theorem dX10_payment_9 : decode cX10_payment 9 = .ok (.aload_n 0, 1) := by decide +kernel
theorem dX10_payment_10 : decode cX10_payment 10 = .ok (.iload_n 1, 1) := by decide +kernel
theorem dX10_payment_11 : decode cX10_payment 11 = .ok (.iload_n 2, 1) := by decide +kernel
theorem dX10_payment_12 : decode cX10_payment 12 = .ok (.iload_n 3, 1) := by decide +kernel
theorem dX10_payment_13 : decode cX10_payment 13 = .ok (.iload 4, 2) := by decide +kernel
theorem dX10_payment_15 : decode cX10_payment 15 = .ok (.invokevirtual 321, 3) := by decide +kernel
theorem dX10_payment_18 : decode cX10_payment 18 = .ok (.istore 5, 2) := by decide +kernel
theorem dX10_payment_20 : decode cX10_payment 20 = .ok (.iload 5, 2) := by decide +kernel
theorem dX10_payment_22 : decode cX10_payment 22 = .ok (.ifCond .lt 7, 3) := by decide +kernel
theorem dX10_payment_25 : decode cX10_payment 25 = .ok (.aload_n 0, 1) := by decide +kernel
theorem dX10_payment_26 : decode cX10_payment 26 = .ok (.invokevirtual 325, 3) := by decide +kernel
theorem dX10_payment_29 : decode cX10_payment 29 = .ok (.iload 5, 2) := by decide +kernel
theorem dX10_payment_31 : decode cX10_payment 31 = .ok (.ireturn, 1) := by decide +kernel
theorem dX10_paid_0 : decode cX10_paid 0 = .ok (.aload_n 0, 1) := by decide +kernel
theorem dX10_paid_1 : decode cX10_paid 1 = .ok (.iconst 0, 1) := by decide +kernel
theorem dX10_paid_2 : decode cX10_paid 2 = .ok (.putfield 83, 3) := by decide +kernel
theorem dX10_paid_5 : decode cX10_paid 5 = .ok (.aload_n 0, 1) := by decide +kernel
theorem dX10_paid_6 : decode cX10_paid 6 = .ok (.getfield 58, 3) := by decide +kernel
theorem dX10_paid_9 : decode cX10_paid 9 = .ok (.iconst (-1), 1) := by decide +kernel
theorem dX10_paid_10 : decode cX10_paid 10 = .ok (.if_icmp .eq 13, 3) := by decide +kernel
theorem dX10_paid_13 : decode cX10_paid 13 = .ok (.iload_n 1, 1) := by decide +kernel
theorem dX10_paid_14 : decode cX10_paid 14 = .ok (.iconst 0, 1) := by decide +kernel
theorem dX10_paid_15 : decode cX10_paid 15 = .ok (.bipush 39, 2) := by decide +kernel
theorem dX10_paid_17 : decode cX10_paid 17 = .ok (.invokestatic 154, 3) := by decide +kernel
theorem dX10_paid_20 : decode cX10_paid 20 = .ok (.ifCond .ne 7, 3) := by decide +kernel
theorem dX10_paid_23 : decode cX10_paid 23 = .ok (.iconst (-1), 1) := by decide +kernel
theorem dX10_paid_24 : decode cX10_paid 24 = .ok (.goto 9, 3) := by decide +kernel
theorem dX10_paid_27 : decode cX10_paid 27 = .ok (.aload_n 0, 1) := by decide +kernel
theorem dX10_paid_28 : decode cX10_paid 28 = .ok (.getfield 52, 3) := by decide +kernel
theorem dX10_paid_31 : decode cX10_paid 31 = .ok (.iload_n 1, 1) := by decide +kernel
theorem dX10_paid_32 : decode cX10_paid 32 = .ok (.iaload, 1) := by decide +kernel
theorem dX10_paid_33 : decode cX10_paid 33 = .ok (.ireturn, 1) := by decide +kernel
theorem dX10_strokesToPay_0 : decode cX10_strokesToPay 0 = .ok (.iconst 0, 1) := by decide +kernel
theorem dX10_strokesToPay_1 : decode cX10_strokesToPay 1 = .ok (.istore_n 1, 1) := by decide +kernel
theorem dX10_strokesToPay_2 : decode cX10_strokesToPay 2 = .ok (.iconst 0, 1) := by decide +kernel
theorem dX10_strokesToPay_3 : decode cX10_strokesToPay 3 = .ok (.istore_n 2, 1) := by decide +kernel
theorem dX10_strokesToPay_4 : decode cX10_strokesToPay 4 = .ok (.iload_n 2, 1) := by decide +kernel
theorem dX10_strokesToPay_5 : decode cX10_strokesToPay 5 = .ok (.aload_n 0, 1) := by decide +kernel
theorem dX10_strokesToPay_6 : decode cX10_strokesToPay 6 = .ok (.getfield 307, 3) := by decide +kernel
theorem dX10_strokesToPay_9 : decode cX10_strokesToPay 9 = .ok (.if_icmp .ge 32, 3) := by decide +kernel
theorem dX10_strokesToPay_12 : decode cX10_strokesToPay 12 = .ok (.iload_n 1, 1) := by decide +kernel
theorem dX10_strokesToPay_13 : decode cX10_strokesToPay 13 = .ok (.aload_n 0, 1) := by decide +kernel
theorem dX10_strokesToPay_14 : decode cX10_strokesToPay 14 = .ok (.getfield 55, 3) := by decide +kernel
theorem dX10_strokesToPay_17 : decode cX10_strokesToPay 17 = .ok (.iload_n 2, 1) := by decide +kernel
theorem dX10_strokesToPay_18 : decode cX10_strokesToPay 18 = .ok (.iaload, 1) := by decide +kernel
theorem dX10_strokesToPay_19 : decode cX10_strokesToPay 19 = .ok (.iconst 1, 1) := by decide +kernel
theorem dX10_strokesToPay_20 : decode cX10_strokesToPay 20 = .ok (.if_icmp .le 7, 3) := by decide +kernel
theorem dX10_strokesToPay_23 : decode cX10_strokesToPay 23 = .ok (.iconst 2, 1) := by decide +kernel
theorem dX10_strokesToPay_24 : decode cX10_strokesToPay 24 = .ok (.goto 9, 3) := by decide +kernel
theorem dX10_strokesToPay_27 : decode cX10_strokesToPay 27 = .ok (.aload_n 0, 1) := by decide +kernel
theorem dX10_strokesToPay_28 : decode cX10_strokesToPay 28 = .ok (.getfield 55, 3) := by decide +kernel
theorem dX10_strokesToPay_31 : decode cX10_strokesToPay 31 = .ok (.iload_n 2, 1) := by decide +kernel
theorem dX10_strokesToPay_32 : decode cX10_strokesToPay 32 = .ok (.iaload, 1) := by decide +kernel
theorem dX10_strokesToPay_33 : decode cX10_strokesToPay 33 = .ok (.iadd, 1) := by decide +kernel
theorem dX10_strokesToPay_34 : decode cX10_strokesToPay 34 = .ok (.istore_n 1, 1) := by decide +kernel
theorem dX10_strokesToPay_35 : decode cX10_strokesToPay 35 = .ok (.iinc 2 1, 3) := by decide +kernel
theorem dX10_strokesToPay_38 : decode cX10_strokesToPay 38 = .ok (.goto (-34), 3) := by decide +kernel
theorem dX10_strokesToPay_41 : decode cX10_strokesToPay 41 = .ok (.iload_n 1, 1) := by decide +kernel
theorem dX10_strokesToPay_42 : decode cX10_strokesToPay 42 = .ok (.ireturn, 1) := by decide +kernel
theorem dX10_pay_0 : decode cX10_pay 0 = .ok (.iconst 0, 1) := by decide +kernel
theorem dX10_pay_1 : decode cX10_pay 1 = .ok (.istore 5, 2) := by decide +kernel
theorem dX10_pay_3 : decode cX10_pay 3 = .ok (.iconst 0, 1) := by decide +kernel
theorem dX10_pay_4 : decode cX10_pay 4 = .ok (.istore 6, 2) := by decide +kernel
theorem dX10_pay_6 : decode cX10_pay 6 = .ok (.iconst 0, 1) := by decide +kernel
theorem dX10_pay_7 : decode cX10_pay 7 = .ok (.istore 7, 2) := by decide +kernel
theorem dX10_pay_9 : decode cX10_pay 9 = .ok (.iload 7, 2) := by decide +kernel
theorem dX10_pay_11 : decode cX10_pay 11 = .ok (.aload_n 0, 1) := by decide +kernel
theorem dX10_pay_12 : decode cX10_pay 12 = .ok (.getfield 307, 3) := by decide +kernel
theorem dX10_pay_15 : decode cX10_pay 15 = .ok (.if_icmp .ge 82, 3) := by decide +kernel
theorem dX10_pay_18 : decode cX10_pay 18 = .ok (.aload_n 0, 1) := by decide +kernel
theorem dX10_pay_19 : decode cX10_pay 19 = .ok (.getfield 55, 3) := by decide +kernel
theorem dX10_pay_22 : decode cX10_pay 22 = .ok (.iload 7, 2) := by decide +kernel
theorem dX10_pay_24 : decode cX10_pay 24 = .ok (.iaload, 1) := by decide +kernel
theorem dX10_pay_25 : decode cX10_pay 25 = .ok (.ifCond .ne 6, 3) := by decide +kernel
theorem dX10_pay_28 : decode cX10_pay 28 = .ok (.goto 63, 3) := by decide +kernel
theorem dX10_pay_31 : decode cX10_pay 31 = .ok (.iinc 5 1, 3) := by decide +kernel
theorem dX10_pay_34 : decode cX10_pay 34 = .ok (.iload 6, 2) := by decide +kernel
theorem dX10_pay_36 : decode cX10_pay 36 = .ok (.aload_n 0, 1) := by decide +kernel
theorem dX10_pay_37 : decode cX10_pay 37 = .ok (.getfield 46, 3) := by decide +kernel
theorem dX10_pay_40 : decode cX10_pay 40 = .ok (.bipush 6, 2) := by decide +kernel
theorem dX10_pay_42 : decode cX10_pay 42 = .ok (.iload 7, 2) := by decide +kernel
theorem dX10_pay_44 : decode cX10_pay 44 = .ok (.imul, 1) := by decide +kernel
theorem dX10_pay_45 : decode cX10_pay 45 = .ok (.aload_n 0, 1) := by decide +kernel
theorem dX10_pay_46 : decode cX10_pay 46 = .ok (.getfield 55, 3) := by decide +kernel
theorem dX10_pay_49 : decode cX10_pay 49 = .ok (.iload 7, 2) := by decide +kernel
theorem dX10_pay_51 : decode cX10_pay 51 = .ok (.iaload, 1) := by decide +kernel
theorem dX10_pay_52 : decode cX10_pay 52 = .ok (.iadd, 1) := by decide +kernel
theorem dX10_pay_53 : decode cX10_pay 53 = .ok (.iaload, 1) := by decide +kernel
theorem dX10_pay_54 : decode cX10_pay 54 = .ok (.iadd, 1) := by decide +kernel
theorem dX10_pay_55 : decode cX10_pay 55 = .ok (.istore 6, 2) := by decide +kernel
theorem dX10_pay_57 : decode cX10_pay 57 = .ok (.aload_n 0, 1) := by decide +kernel
theorem dX10_pay_58 : decode cX10_pay 58 = .ok (.getfield 55, 3) := by decide +kernel
theorem dX10_pay_61 : decode cX10_pay 61 = .ok (.iload 7, 2) := by decide +kernel
theorem dX10_pay_63 : decode cX10_pay 63 = .ok (.iaload, 1) := by decide +kernel
theorem dX10_pay_64 : decode cX10_pay 64 = .ok (.iconst 1, 1) := by decide +kernel
theorem dX10_pay_65 : decode cX10_pay 65 = .ok (.if_icmp .le 26, 3) := by decide +kernel
theorem dX10_pay_68 : decode cX10_pay 68 = .ok (.aload_n 0, 1) := by decide +kernel
theorem dX10_pay_69 : decode cX10_pay 69 = .ok (.aload_n 0, 1) := by decide +kernel
theorem dX10_pay_70 : decode cX10_pay 70 = .ok (.getfield 43, 3) := by decide +kernel
theorem dX10_pay_73 : decode cX10_pay 73 = .ok (.iload 7, 2) := by decide +kernel
theorem dX10_pay_75 : decode cX10_pay 75 = .ok (.iaload, 1) := by decide +kernel
theorem dX10_pay_76 : decode cX10_pay 76 = .ok (.iload_n 1, 1) := by decide +kernel
theorem dX10_pay_77 : decode cX10_pay 77 = .ok (.aload_n 0, 1) := by decide +kernel
theorem dX10_pay_78 : decode cX10_pay 78 = .ok (.getfield 55, 3) := by decide +kernel
theorem dX10_pay_81 : decode cX10_pay 81 = .ok (.iload 7, 2) := by decide +kernel
theorem dX10_pay_83 : decode cX10_pay 83 = .ok (.iaload, 1) := by decide +kernel
theorem dX10_pay_84 : decode cX10_pay 84 = .ok (.iconst 2, 1) := by decide +kernel
theorem dX10_pay_85 : decode cX10_pay 85 = .ok (.isub, 1) := by decide +kernel
theorem dX10_pay_86 : decode cX10_pay 86 = .ok (.iconst (-1), 1) := by decide +kernel
theorem dX10_pay_87 : decode cX10_pay 87 = .ok (.iconst 0, 1) := by decide +kernel
theorem dX10_pay_88 : decode cX10_pay 88 = .ok (.invokevirtual 275, 3) := by decide +kernel
theorem dX10_pay_91 : decode cX10_pay 91 = .ok (.iinc 7 1, 3) := by decide +kernel
theorem dX10_pay_94 : decode cX10_pay 94 = .ok (.goto (-85), 3) := by decide +kernel
theorem dX10_pay_97 : decode cX10_pay 97 = .ok (.iconst 0, 1) := by decide +kernel
theorem dX10_pay_98 : decode cX10_pay 98 = .ok (.istore 7, 2) := by decide +kernel
theorem dX10_pay_100 : decode cX10_pay 100 = .ok (.iload 7, 2) := by decide +kernel
theorem dX10_pay_102 : decode cX10_pay 102 = .ok (.aload_n 0, 1) := by decide +kernel
theorem dX10_pay_103 : decode cX10_pay 103 = .ok (.getfield 307, 3) := by decide +kernel
theorem dX10_pay_106 : decode cX10_pay 106 = .ok (.if_icmp .ge 64, 3) := by decide +kernel
theorem dX10_pay_109 : decode cX10_pay 109 = .ok (.aload_n 0, 1) := by decide +kernel
theorem dX10_pay_110 : decode cX10_pay 110 = .ok (.getfield 55, 3) := by decide +kernel
theorem dX10_pay_113 : decode cX10_pay 113 = .ok (.iload 7, 2) := by decide +kernel
theorem dX10_pay_115 : decode cX10_pay 115 = .ok (.iaload, 1) := by decide +kernel
theorem dX10_pay_116 : decode cX10_pay 116 = .ok (.ifCond .ne 6, 3) := by decide +kernel
theorem dX10_pay_119 : decode cX10_pay 119 = .ok (.goto 45, 3) := by decide +kernel
theorem dX10_pay_122 : decode cX10_pay 122 = .ok (.aload_n 0, 1) := by decide +kernel
theorem dX10_pay_123 : decode cX10_pay 123 = .ok (.aload_n 0, 1) := by decide +kernel
theorem dX10_pay_124 : decode cX10_pay 124 = .ok (.getfield 43, 3) := by decide +kernel
theorem dX10_pay_127 : decode cX10_pay 127 = .ok (.iload 7, 2) := by decide +kernel
theorem dX10_pay_129 : decode cX10_pay 129 = .ok (.iaload, 1) := by decide +kernel
theorem dX10_pay_130 : decode cX10_pay 130 = .ok (.iload_n 2, 1) := by decide +kernel
theorem dX10_pay_131 : decode cX10_pay 131 = .ok (.iload_n 3, 1) := by decide +kernel
theorem dX10_pay_132 : decode cX10_pay 132 = .ok (.aload_n 0, 1) := by decide +kernel
theorem dX10_pay_133 : decode cX10_pay 133 = .ok (.getfield 13, 3) := by decide +kernel
theorem dX10_pay_136 : decode cX10_pay 136 = .ok (.bipush 113, 2) := by decide +kernel
theorem dX10_pay_138 : decode cX10_pay 138 = .ok (.iaload, 1) := by decide +kernel
theorem dX10_pay_139 : decode cX10_pay 139 = .ok (.iconst 0, 1) := by decide +kernel
theorem dX10_pay_140 : decode cX10_pay 140 = .ok (.invokevirtual 275, 3) := by decide +kernel
theorem dX10_pay_143 : decode cX10_pay 143 = .ok (.aload_n 0, 1) := by decide +kernel
theorem dX10_pay_144 : decode cX10_pay 144 = .ok (.getfield 13, 3) := by decide +kernel
theorem dX10_pay_147 : decode cX10_pay 147 = .ok (.bipush 120, 2) := by decide +kernel
theorem dX10_pay_149 : decode cX10_pay 149 = .ok (.bipush 32, 2) := by decide +kernel
theorem dX10_pay_151 : decode cX10_pay 151 = .ok (.aload_n 0, 1) := by decide +kernel
theorem dX10_pay_152 : decode cX10_pay 152 = .ok (.getfield 43, 3) := by decide +kernel
theorem dX10_pay_155 : decode cX10_pay 155 = .ok (.iload 7, 2) := by decide +kernel
theorem dX10_pay_157 : decode cX10_pay 157 = .ok (.iaload, 1) := by decide +kernel
theorem dX10_pay_158 : decode cX10_pay 158 = .ok (.imul, 1) := by decide +kernel
theorem dX10_pay_159 : decode cX10_pay 159 = .ok (.iadd, 1) := by decide +kernel
theorem dX10_pay_160 : decode cX10_pay 160 = .ok (.iconst 1, 1) := by decide +kernel
theorem dX10_pay_161 : decode cX10_pay 161 = .ok (.iadd, 1) := by decide +kernel
theorem dX10_pay_162 : decode cX10_pay 162 = .ok (.iload_n 2, 1) := by decide +kernel
theorem dX10_pay_163 : decode cX10_pay 163 = .ok (.iastore, 1) := by decide +kernel
theorem dX10_pay_164 : decode cX10_pay 164 = .ok (.iinc 7 1, 3) := by decide +kernel
theorem dX10_pay_167 : decode cX10_pay 167 = .ok (.goto (-67), 3) := by decide +kernel
theorem dX10_pay_170 : decode cX10_pay 170 = .ok (.aload_n 0, 1) := by decide +kernel
theorem dX10_pay_171 : decode cX10_pay 171 = .ok (.iload_n 1, 1) := by decide +kernel
theorem dX10_pay_172 : decode cX10_pay 172 = .ok (.iload_n 2, 1) := by decide +kernel
theorem dX10_pay_173 : decode cX10_pay 173 = .ok (.iload_n 3, 1) := by decide +kernel
theorem dX10_pay_174 : decode cX10_pay 174 = .ok (.iload 4, 2) := by decide +kernel
theorem dX10_pay_176 : decode cX10_pay 176 = .ok (.iload 5, 2) := by decide +kernel
theorem dX10_pay_178 : decode cX10_pay 178 = .ok (.iload 6, 2) := by decide +kernel
theorem dX10_pay_180 : decode cX10_pay 180 = .ok (.invokevirtual 303, 3) := by decide +kernel
theorem dX10_pay_183 : decode cX10_pay 183 = .ok (.return_, 1) := by decide +kernel
theorem dX10_buy_0 : decode cX10_buy 0 = .ok (.aload_n 0, 1) := by decide +kernel
theorem dX10_buy_1 : decode cX10_buy 1 = .ok (.iconst 0, 1) := by decide +kernel
theorem dX10_buy_2 : decode cX10_buy 2 = .ok (.putfield 83, 3) := by decide +kernel
theorem dX10_buy_5 : decode cX10_buy 5 = .ok (.aload_n 0, 1) := by decide +kernel
theorem dX10_buy_6 : decode cX10_buy 6 = .ok (.invokevirtual 167, 3) := by decide +kernel
theorem dX10_buy_9 : decode cX10_buy 9 = .ok (.aload_n 0, 1) := by decide +kernel
theorem dX10_buy_10 : decode cX10_buy 10 = .ok (.iload_n 1, 1) := by decide +kernel
theorem dX10_buy_11 : decode cX10_buy 11 = .ok (.iload_n 2, 1) := by decide +kernel
theorem dX10_buy_12 : decode cX10_buy 12 = .ok (.iload_n 3, 1) := by decide +kernel
theorem dX10_buy_13 : decode cX10_buy 13 = .ok (.iload 4, 2) := by decide +kernel
theorem dX10_buy_15 : decode cX10_buy 15 = .ok (.invokevirtual 321, 3) := by decide +kernel
theorem dX10_buy_18 : decode cX10_buy 18 = .ok (.istore 5, 2) := by decide +kernel
theorem dX10_buy_20 : decode cX10_buy 20 = .ok (.iload 5, 2) := by decide +kernel
theorem dX10_buy_22 : decode cX10_buy 22 = .ok (.ifCond .ge 6, 3) := by decide +kernel
theorem dX10_buy_25 : decode cX10_buy 25 = .ok (.iload 5, 2) := by decide +kernel
theorem dX10_buy_27 : decode cX10_buy 27 = .ok (.ireturn, 1) := by decide +kernel
theorem dX10_buy_28 : decode cX10_buy 28 = .ok (.aload_n 0, 1) := by decide +kernel
theorem dX10_buy_29 : decode cX10_buy 29 = .ok (.invokevirtual 325, 3) := by decide +kernel
theorem dX10_buy_32 : decode cX10_buy 32 = .ok (.aload_n 0, 1) := by decide +kernel
theorem dX10_buy_33 : decode cX10_buy 33 = .ok (.aload_n 0, 1) := by decide +kernel
theorem dX10_buy_34 : decode cX10_buy 34 = .ok (.invokevirtual 328, 3) := by decide +kernel
theorem dX10_buy_37 : decode cX10_buy 37 = .ok (.invokevirtual 269, 3) := by decide +kernel
theorem dX10_buy_40 : decode cX10_buy 40 = .ok (.ifCond .eq 5, 3) := by decide +kernel
theorem dX10_buy_43 : decode cX10_buy 43 = .ok (.iconst (-1), 1) := by decide +kernel
theorem dX10_buy_44 : decode cX10_buy 44 = .ok (.ireturn, 1) := by decide +kernel
theorem dX10_buy_45 : decode cX10_buy 45 = .ok (.aload_n 0, 1) := by decide +kernel
theorem dX10_buy_46 : decode cX10_buy 46 = .ok (.invokevirtual 272, 3) := by decide +kernel
theorem dX10_buy_49 : decode cX10_buy 49 = .ok (.aload_n 0, 1) := by decide +kernel
theorem dX10_buy_50 : decode cX10_buy 50 = .ok (.iload_n 1, 1) := by decide +kernel
theorem dX10_buy_51 : decode cX10_buy 51 = .ok (.iload_n 2, 1) := by decide +kernel
theorem dX10_buy_52 : decode cX10_buy 52 = .ok (.iload_n 3, 1) := by decide +kernel
theorem dX10_buy_53 : decode cX10_buy 53 = .ok (.iload 4, 2) := by decide +kernel
theorem dX10_buy_55 : decode cX10_buy 55 = .ok (.invokevirtual 331, 3) := by decide +kernel
theorem dX10_buy_58 : decode cX10_buy 58 = .ok (.iload 5, 2) := by decide +kernel
theorem dX10_buy_60 : decode cX10_buy 60 = .ok (.ireturn, 1) := by decide +kernel
theorem dX10_steal_0 : decode cX10_steal 0 = .ok (.aload_n 0, 1) := by decide +kernel
theorem dX10_steal_1 : decode cX10_steal 1 = .ok (.iconst 0, 1) := by decide +kernel
theorem dX10_steal_2 : decode cX10_steal 2 = .ok (.putfield 83, 3) := by decide +kernel
theorem dX10_steal_5 : decode cX10_steal 5 = .ok (.aload_n 0, 1) := by decide +kernel
theorem dX10_steal_6 : decode cX10_steal 6 = .ok (.invokevirtual 167, 3) := by decide +kernel
theorem dX10_steal_9 : decode cX10_steal 9 = .ok (.aload_n 0, 1) := by decide +kernel
theorem dX10_steal_10 : decode cX10_steal 10 = .ok (.iload_n 1, 1) := by decide +kernel
theorem dX10_steal_11 : decode cX10_steal 11 = .ok (.invokevirtual 243, 3) := by decide +kernel
theorem dX10_steal_14 : decode cX10_steal 14 = .ok (.ifCond .eq 31, 3) := by decide +kernel
theorem dX10_steal_17 : decode cX10_steal 17 = .ok (.aload_n 0, 1) := by decide +kernel
theorem dX10_steal_18 : decode cX10_steal 18 = .ok (.iload_n 2, 1) := by decide +kernel
theorem dX10_steal_19 : decode cX10_steal 19 = .ok (.invokevirtual 243, 3) := by decide +kernel
theorem dX10_steal_22 : decode cX10_steal 22 = .ok (.ifCond .eq 23, 3) := by decide +kernel
theorem dX10_steal_25 : decode cX10_steal 25 = .ok (.aload_n 0, 1) := by decide +kernel
theorem dX10_steal_26 : decode cX10_steal 26 = .ok (.iload_n 1, 1) := by decide +kernel
theorem dX10_steal_27 : decode cX10_steal 27 = .ok (.iload_n 2, 1) := by decide +kernel
theorem dX10_steal_28 : decode cX10_steal 28 = .ok (.invokevirtual 297, 3) := by decide +kernel
theorem dX10_steal_31 : decode cX10_steal 31 = .ok (.ifCond .ne 14, 3) := by decide +kernel
theorem dX10_steal_34 : decode cX10_steal 34 = .ok (.aload_n 0, 1) := by decide +kernel
theorem dX10_steal_35 : decode cX10_steal 35 = .ok (.getfield 13, 3) := by decide +kernel
theorem dX10_steal_38 : decode cX10_steal 38 = .ok (.bipush 110, 2) := by decide +kernel
theorem dX10_steal_40 : decode cX10_steal 40 = .ok (.iaload, 1) := by decide +kernel
theorem dX10_steal_41 : decode cX10_steal 41 = .ok (.iconst (-1), 1) := by decide +kernel
theorem dX10_steal_42 : decode cX10_steal 42 = .ok (.if_icmp .eq 5, 3) := by decide +kernel
theorem dX10_steal_45 : decode cX10_steal 45 = .ok (.iconst 0, 1) := by decide +kernel
theorem dX10_steal_46 : decode cX10_steal 46 = .ok (.ireturn, 1) := by decide +kernel
theorem dX10_steal_47 : decode cX10_steal 47 = .ok (.aload_n 0, 1) := by decide +kernel
theorem dX10_steal_48 : decode cX10_steal 48 = .ok (.invokevirtual 272, 3) := by decide +kernel
theorem dX10_steal_51 : decode cX10_steal 51 = .ok (.aload_n 0, 1) := by decide +kernel
theorem dX10_steal_52 : decode cX10_steal 52 = .ok (.getfield 13, 3) := by decide +kernel
theorem dX10_steal_55 : decode cX10_steal 55 = .ok (.bipush 110, 2) := by decide +kernel
theorem dX10_steal_57 : decode cX10_steal 57 = .ok (.iload_n 2, 1) := by decide +kernel
theorem dX10_steal_58 : decode cX10_steal 58 = .ok (.iastore, 1) := by decide +kernel
theorem dX10_steal_59 : decode cX10_steal 59 = .ok (.aload_n 0, 1) := by decide +kernel
theorem dX10_steal_60 : decode cX10_steal 60 = .ok (.getfield 13, 3) := by decide +kernel
theorem dX10_steal_63 : decode cX10_steal 63 = .ok (.bipush 111, 2) := by decide +kernel
theorem dX10_steal_65 : decode cX10_steal 65 = .ok (.iload_n 1, 1) := by decide +kernel
theorem dX10_steal_66 : decode cX10_steal 66 = .ok (.iastore, 1) := by decide +kernel
theorem dX10_steal_67 : decode cX10_steal 67 = .ok (.iconst 1, 1) := by decide +kernel
theorem dX10_steal_68 : decode cX10_steal 68 = .ok (.ireturn, 1) := by decide +kernel
theorem dX10_giveBack_0 : decode cX10_giveBack 0 = .ok (.aload_n 0, 1) := by decide +kernel
theorem dX10_giveBack_1 : decode cX10_giveBack 1 = .ok (.getfield 13, 3) := by decide +kernel
theorem dX10_giveBack_4 : decode cX10_giveBack 4 = .ok (.bipush 110, 2) := by decide +kernel
theorem dX10_giveBack_6 : decode cX10_giveBack 6 = .ok (.iconst (-1), 1) := by decide +kernel
theorem dX10_giveBack_7 : decode cX10_giveBack 7 = .ok (.iastore, 1) := by decide +kernel
theorem dX10_giveBack_8 : decode cX10_giveBack 8 = .ok (.aload_n 0, 1) := by decide +kernel
theorem dX10_giveBack_9 : decode cX10_giveBack 9 = .ok (.getfield 13, 3) := by decide +kernel
theorem dX10_giveBack_12 : decode cX10_giveBack 12 = .ok (.bipush 111, 2) := by decide +kernel
theorem dX10_giveBack_14 : decode cX10_giveBack 14 = .ok (.iconst (-1), 1) := by decide +kernel
theorem dX10_giveBack_15 : decode cX10_giveBack 15 = .ok (.iastore, 1) := by decide +kernel
theorem dX10_giveBack_16 : decode cX10_giveBack 16 = .ok (.return_, 1) := by decide +kernel
theorem dX10_forge_0 : decode cX10_forge 0 = .ok (.aload_n 0, 1) := by decide +kernel
theorem dX10_forge_1 : decode cX10_forge 1 = .ok (.iconst 0, 1) := by decide +kernel
theorem dX10_forge_2 : decode cX10_forge 2 = .ok (.putfield 83, 3) := by decide +kernel
theorem dX10_forge_5 : decode cX10_forge 5 = .ok (.aload_n 0, 1) := by decide +kernel
theorem dX10_forge_6 : decode cX10_forge 6 = .ok (.invokevirtual 167, 3) := by decide +kernel
theorem dX10_forge_9 : decode cX10_forge 9 = .ok (.aload_n 0, 1) := by decide +kernel
theorem dX10_forge_10 : decode cX10_forge 10 = .ok (.iload_n 1, 1) := by decide +kernel
theorem dX10_forge_11 : decode cX10_forge 11 = .ok (.invokevirtual 282, 3) := by decide +kernel
theorem dX10_forge_14 : decode cX10_forge 14 = .ok (.ifCond .eq 19, 3) := by decide +kernel
theorem dX10_forge_17 : decode cX10_forge 17 = .ok (.aload_n 0, 1) := by decide +kernel
theorem dX10_forge_18 : decode cX10_forge 18 = .ok (.iload_n 2, 1) := by decide +kernel
theorem dX10_forge_19 : decode cX10_forge 19 = .ok (.invokevirtual 259, 3) := by decide +kernel
theorem dX10_forge_22 : decode cX10_forge 22 = .ok (.ifCond .eq 11, 3) := by decide +kernel
theorem dX10_forge_25 : decode cX10_forge 25 = .ok (.aload_n 0, 1) := by decide +kernel
theorem dX10_forge_26 : decode cX10_forge 26 = .ok (.iconst 1, 1) := by decide +kernel
theorem dX10_forge_27 : decode cX10_forge 27 = .ok (.invokevirtual 269, 3) := by decide +kernel
theorem dX10_forge_30 : decode cX10_forge 30 = .ok (.ifCond .eq 5, 3) := by decide +kernel
theorem dX10_forge_33 : decode cX10_forge 33 = .ok (.iconst (-1), 1) := by decide +kernel
theorem dX10_forge_34 : decode cX10_forge 34 = .ok (.ireturn, 1) := by decide +kernel
theorem dX10_forge_35 : decode cX10_forge 35 = .ok (.aload_n 0, 1) := by decide +kernel
theorem dX10_forge_36 : decode cX10_forge 36 = .ok (.getfield 13, 3) := by decide +kernel
theorem dX10_forge_39 : decode cX10_forge 39 = .ok (.bipush 110, 2) := by decide +kernel
theorem dX10_forge_41 : decode cX10_forge 41 = .ok (.iaload, 1) := by decide +kernel
theorem dX10_forge_42 : decode cX10_forge 42 = .ok (.iconst (-1), 1) := by decide +kernel
theorem dX10_forge_43 : decode cX10_forge 43 = .ok (.if_icmp .ne 5, 3) := by decide +kernel
theorem dX10_forge_46 : decode cX10_forge 46 = .ok (.iconst 1, 1) := by decide +kernel
theorem dX10_forge_47 : decode cX10_forge 47 = .ok (.ireturn, 1) := by decide +kernel
theorem dX10_forge_48 : decode cX10_forge 48 = .ok (.aload_n 0, 1) := by decide +kernel
theorem dX10_forge_49 : decode cX10_forge 49 = .ok (.iload_n 1, 1) := by decide +kernel
theorem dX10_forge_50 : decode cX10_forge 50 = .ok (.iconst 1, 1) := by decide +kernel
theorem dX10_forge_51 : decode cX10_forge 51 = .ok (.invokevirtual 256, 3) := by decide +kernel
theorem dX10_forge_54 : decode cX10_forge 54 = .ok (.aload_n 0, 1) := by decide +kernel
theorem dX10_forge_55 : decode cX10_forge 55 = .ok (.getfield 13, 3) := by decide +kernel
theorem dX10_forge_58 : decode cX10_forge 58 = .ok (.bipush 111, 2) := by decide +kernel
theorem dX10_forge_60 : decode cX10_forge 60 = .ok (.iaload, 1) := by decide +kernel
theorem dX10_forge_61 : decode cX10_forge 61 = .ok (.if_icmp .eq 5, 3) := by decide +kernel
theorem dX10_forge_64 : decode cX10_forge 64 = .ok (.iconst 2, 1) := by decide +kernel
theorem dX10_forge_65 : decode cX10_forge 65 = .ok (.ireturn, 1) := by decide +kernel
theorem dX10_forge_66 : decode cX10_forge 66 = .ok (.aload_n 0, 1) := by decide +kernel
theorem dX10_forge_67 : decode cX10_forge 67 = .ok (.iload_n 1, 1) := by decide +kernel
theorem dX10_forge_68 : decode cX10_forge 68 = .ok (.iload_n 2, 1) := by decide +kernel
theorem dX10_forge_69 : decode cX10_forge 69 = .ok (.invokevirtual 300, 3) := by decide +kernel
theorem dX10_forge_72 : decode cX10_forge 72 = .ok (.istore_n 3, 1) := by decide +kernel
theorem dX10_forge_73 : decode cX10_forge 73 = .ok (.iload_n 3, 1) := by decide +kernel
theorem dX10_forge_74 : decode cX10_forge 74 = .ok (.ifCond .eq 5, 3) := by decide +kernel
theorem dX10_forge_77 : decode cX10_forge 77 = .ok (.iload_n 3, 1) := by decide +kernel
theorem dX10_forge_78 : decode cX10_forge 78 = .ok (.ireturn, 1) := by decide +kernel
theorem dX10_forge_79 : decode cX10_forge 79 = .ok (.aload_n 0, 1) := by decide +kernel
theorem dX10_forge_80 : decode cX10_forge 80 = .ok (.invokevirtual 272, 3) := by decide +kernel
theorem dX10_forge_83 : decode cX10_forge 83 = .ok (.aload_n 0, 1) := by decide +kernel
theorem dX10_forge_84 : decode cX10_forge 84 = .ok (.iload_n 1, 1) := by decide +kernel
theorem dX10_forge_85 : decode cX10_forge 85 = .ok (.aload_n 0, 1) := by decide +kernel
theorem dX10_forge_86 : decode cX10_forge 86 = .ok (.getfield 13, 3) := by decide +kernel
theorem dX10_forge_89 : decode cX10_forge 89 = .ok (.bipush 110, 2) := by decide +kernel
theorem dX10_forge_91 : decode cX10_forge 91 = .ok (.iaload, 1) := by decide +kernel
theorem dX10_forge_92 : decode cX10_forge 92 = .ok (.iload_n 2, 1) := by decide +kernel
theorem dX10_forge_93 : decode cX10_forge 93 = .ok (.iconst (-1), 1) := by decide +kernel
theorem dX10_forge_94 : decode cX10_forge 94 = .ok (.iconst 1, 1) := by decide +kernel
theorem dX10_forge_95 : decode cX10_forge 95 = .ok (.invokevirtual 275, 3) := by decide +kernel
theorem dX10_forge_98 : decode cX10_forge 98 = .ok (.iconst 0, 1) := by decide +kernel
theorem dX10_forge_99 : decode cX10_forge 99 = .ok (.ireturn, 1) := by decide +kernel
theorem dX10_day_0 : decode cX10_day 0 = .ok (.aload_n 0, 1) := by decide +kernel
theorem dX10_day_1 : decode cX10_day 1 = .ok (.iconst 0, 1) := by decide +kernel
theorem dX10_day_2 : decode cX10_day 2 = .ok (.putfield 83, 3) := by decide +kernel
theorem dX10_day_5 : decode cX10_day 5 = .ok (.aload_n 0, 1) := by decide +kernel
theorem dX10_day_6 : decode cX10_day 6 = .ok (.invokevirtual 167, 3) := by decide +kernel
theorem dX10_day_9 : decode cX10_day 9 = .ok (.aload_n 0, 1) := by decide +kernel
theorem dX10_day_10 : decode cX10_day 10 = .ok (.getfield 13, 3) := by decide +kernel
theorem dX10_day_13 : decode cX10_day 13 = .ok (.bipush 109, 2) := by decide +kernel
theorem dX10_day_15 : decode cX10_day 15 = .ok (.iaload, 1) := by decide +kernel
theorem dX10_day_16 : decode cX10_day 16 = .ok (.sipush 9999, 3) := by decide +kernel
theorem dX10_day_19 : decode cX10_day 19 = .ok (.if_icmp .ne 5, 3) := by decide +kernel
theorem dX10_day_22 : decode cX10_day 22 = .ok (.iconst (-1), 1) := by decide +kernel
theorem dX10_day_23 : decode cX10_day 23 = .ok (.ireturn, 1) := by decide +kernel
theorem dX10_day_24 : decode cX10_day 24 = .ok (.aload_n 0, 1) := by decide +kernel
theorem dX10_day_25 : decode cX10_day 25 = .ok (.invokevirtual 272, 3) := by decide +kernel
theorem dX10_day_28 : decode cX10_day 28 = .ok (.aload_n 0, 1) := by decide +kernel
theorem dX10_day_29 : decode cX10_day 29 = .ok (.getfield 13, 3) := by decide +kernel
theorem dX10_day_32 : decode cX10_day 32 = .ok (.bipush 109, 2) := by decide +kernel
theorem dX10_day_34 : decode cX10_day 34 = .ok (.dup2, 1) := by decide +kernel
theorem dX10_day_35 : decode cX10_day 35 = .ok (.iaload, 1) := by decide +kernel
theorem dX10_day_36 : decode cX10_day 36 = .ok (.iconst 1, 1) := by decide +kernel
theorem dX10_day_37 : decode cX10_day 37 = .ok (.iadd, 1) := by decide +kernel
theorem dX10_day_38 : decode cX10_day 38 = .ok (.iastore, 1) := by decide +kernel
theorem dX10_day_39 : decode cX10_day 39 = .ok (.aload_n 0, 1) := by decide +kernel
theorem dX10_day_40 : decode cX10_day 40 = .ok (.invokevirtual 335, 3) := by decide +kernel
theorem dX10_day_43 : decode cX10_day 43 = .ok (.aload_n 0, 1) := by decide +kernel
theorem dX10_day_44 : decode cX10_day 44 = .ok (.getfield 13, 3) := by decide +kernel
theorem dX10_day_47 : decode cX10_day 47 = .ok (.bipush 109, 2) := by decide +kernel
theorem dX10_day_49 : decode cX10_day 49 = .ok (.iaload, 1) := by decide +kernel
theorem dX10_day_50 : decode cX10_day 50 = .ok (.ireturn, 1) := by decide +kernel
theorem dX10_rob_0 : decode cX10_rob 0 = .ok (.aload_n 0, 1) := by decide +kernel
theorem dX10_rob_1 : decode cX10_rob 1 = .ok (.iconst 0, 1) := by decide +kernel
theorem dX10_rob_2 : decode cX10_rob 2 = .ok (.putfield 83, 3) := by decide +kernel
theorem dX10_rob_5 : decode cX10_rob 5 = .ok (.aload_n 0, 1) := by decide +kernel
theorem dX10_rob_6 : decode cX10_rob 6 = .ok (.invokevirtual 167, 3) := by decide +kernel
theorem dX10_rob_9 : decode cX10_rob 9 = .ok (.aload_n 0, 1) := by decide +kernel
theorem dX10_rob_10 : decode cX10_rob 10 = .ok (.iload_n 1, 1) := by decide +kernel
theorem dX10_rob_11 : decode cX10_rob 11 = .ok (.invokevirtual 243, 3) := by decide +kernel
theorem dX10_rob_14 : decode cX10_rob 14 = .ok (.ifCond .eq 30, 3) := by decide +kernel
theorem dX10_rob_17 : decode cX10_rob 17 = .ok (.aload_n 0, 1) := by decide +kernel
theorem dX10_rob_18 : decode cX10_rob 18 = .ok (.iload_n 2, 1) := by decide +kernel
theorem dX10_rob_19 : decode cX10_rob 19 = .ok (.invokevirtual 282, 3) := by decide +kernel
theorem dX10_rob_22 : decode cX10_rob 22 = .ok (.ifCond .eq 22, 3) := by decide +kernel
theorem dX10_rob_25 : decode cX10_rob 25 = .ok (.aload_n 0, 1) := by decide +kernel
theorem dX10_rob_26 : decode cX10_rob 26 = .ok (.iload_n 2, 1) := by decide +kernel
theorem dX10_rob_27 : decode cX10_rob 27 = .ok (.iconst 1, 1) := by decide +kernel
theorem dX10_rob_28 : decode cX10_rob 28 = .ok (.invokevirtual 256, 3) := by decide +kernel
theorem dX10_rob_31 : decode cX10_rob 31 = .ok (.iload_n 1, 1) := by decide +kernel
theorem dX10_rob_32 : decode cX10_rob 32 = .ok (.if_icmp .eq 12, 3) := by decide +kernel
theorem dX10_rob_35 : decode cX10_rob 35 = .ok (.aload_n 0, 1) := by decide +kernel
theorem dX10_rob_36 : decode cX10_rob 36 = .ok (.iload_n 1, 1) := by decide +kernel
theorem dX10_rob_37 : decode cX10_rob 37 = .ok (.iconst 2, 1) := by decide +kernel
theorem dX10_rob_38 : decode cX10_rob 38 = .ok (.invokevirtual 249, 3) := by decide +kernel
theorem dX10_rob_41 : decode cX10_rob 41 = .ok (.ifCond .le 5, 3) := by decide +kernel
theorem dX10_rob_44 : decode cX10_rob 44 = .ok (.iconst 0, 1) := by decide +kernel
theorem dX10_rob_45 : decode cX10_rob 45 = .ok (.ireturn, 1) := by decide +kernel
theorem dX10_rob_46 : decode cX10_rob 46 = .ok (.aload_n 0, 1) := by decide +kernel
theorem dX10_rob_47 : decode cX10_rob 47 = .ok (.invokevirtual 272, 3) := by decide +kernel
theorem dX10_rob_50 : decode cX10_rob 50 = .ok (.aload_n 0, 1) := by decide +kernel
theorem dX10_rob_51 : decode cX10_rob 51 = .ok (.getfield 13, 3) := by decide +kernel
theorem dX10_rob_54 : decode cX10_rob 54 = .ok (.bipush 120, 2) := by decide +kernel
theorem dX10_rob_56 : decode cX10_rob 56 = .ok (.bipush 32, 2) := by decide +kernel
theorem dX10_rob_58 : decode cX10_rob 58 = .ok (.iload_n 2, 1) := by decide +kernel
theorem dX10_rob_59 : decode cX10_rob 59 = .ok (.imul, 1) := by decide +kernel
theorem dX10_rob_60 : decode cX10_rob 60 = .ok (.iadd, 1) := by decide +kernel
theorem dX10_rob_61 : decode cX10_rob 61 = .ok (.iconst 1, 1) := by decide +kernel
theorem dX10_rob_62 : decode cX10_rob 62 = .ok (.iadd, 1) := by decide +kernel
theorem dX10_rob_63 : decode cX10_rob 63 = .ok (.iload_n 1, 1) := by decide +kernel
theorem dX10_rob_64 : decode cX10_rob 64 = .ok (.iastore, 1) := by decide +kernel
theorem dX10_rob_65 : decode cX10_rob 65 = .ok (.iconst 1, 1) := by decide +kernel
theorem dX10_rob_66 : decode cX10_rob 66 = .ok (.ireturn, 1) := by decide +kernel
theorem dX10_dies_0 : decode cX10_dies 0 = .ok (.aload_n 0, 1) := by decide +kernel
theorem dX10_dies_1 : decode cX10_dies 1 = .ok (.iconst 0, 1) := by decide +kernel
theorem dX10_dies_2 : decode cX10_dies 2 = .ok (.putfield 83, 3) := by decide +kernel
theorem dX10_dies_5 : decode cX10_dies 5 = .ok (.aload_n 0, 1) := by decide +kernel
theorem dX10_dies_6 : decode cX10_dies 6 = .ok (.invokevirtual 167, 3) := by decide +kernel
theorem dX10_dies_9 : decode cX10_dies 9 = .ok (.aload_n 0, 1) := by decide +kernel
theorem dX10_dies_10 : decode cX10_dies 10 = .ok (.iload_n 1, 1) := by decide +kernel
theorem dX10_dies_11 : decode cX10_dies 11 = .ok (.invokevirtual 243, 3) := by decide +kernel
theorem dX10_dies_14 : decode cX10_dies 14 = .ok (.ifCond .eq 20, 3) := by decide +kernel
theorem dX10_dies_17 : decode cX10_dies 17 = .ok (.aload_n 0, 1) := by decide +kernel
theorem dX10_dies_18 : decode cX10_dies 18 = .ok (.iload_n 2, 1) := by decide +kernel
theorem dX10_dies_19 : decode cX10_dies 19 = .ok (.invokevirtual 243, 3) := by decide +kernel
theorem dX10_dies_22 : decode cX10_dies 22 = .ok (.ifCond .eq 12, 3) := by decide +kernel
theorem dX10_dies_25 : decode cX10_dies 25 = .ok (.aload_n 0, 1) := by decide +kernel
theorem dX10_dies_26 : decode cX10_dies 26 = .ok (.iload_n 1, 1) := by decide +kernel
theorem dX10_dies_27 : decode cX10_dies 27 = .ok (.iload_n 2, 1) := by decide +kernel
theorem dX10_dies_28 : decode cX10_dies 28 = .ok (.invokevirtual 297, 3) := by decide +kernel
theorem dX10_dies_31 : decode cX10_dies 31 = .ok (.ifCond .eq 5, 3) := by decide +kernel
theorem dX10_dies_34 : decode cX10_dies 34 = .ok (.iconst (-1), 1) := by decide +kernel
theorem dX10_dies_35 : decode cX10_dies 35 = .ok (.ireturn, 1) := by decide +kernel
theorem dX10_dies_36 : decode cX10_dies 36 = .ok (.aload_n 0, 1) := by decide +kernel
theorem dX10_dies_37 : decode cX10_dies 37 = .ok (.invokevirtual 272, 3) := by decide +kernel
theorem dX10_dies_40 : decode cX10_dies 40 = .ok (.aload_n 0, 1) := by decide +kernel
theorem dX10_dies_41 : decode cX10_dies 41 = .ok (.getfield 13, 3) := by decide +kernel
theorem dX10_dies_44 : decode cX10_dies 44 = .ok (.bipush 8, 2) := by decide +kernel
theorem dX10_dies_46 : decode cX10_dies 46 = .ok (.iconst 3, 1) := by decide +kernel
theorem dX10_dies_47 : decode cX10_dies 47 = .ok (.iload_n 1, 1) := by decide +kernel
theorem dX10_dies_48 : decode cX10_dies 48 = .ok (.imul, 1) := by decide +kernel
theorem dX10_dies_49 : decode cX10_dies 49 = .ok (.iadd, 1) := by decide +kernel
theorem dX10_dies_50 : decode cX10_dies 50 = .ok (.iconst 2, 1) := by decide +kernel
theorem dX10_dies_51 : decode cX10_dies 51 = .ok (.iadd, 1) := by decide +kernel
theorem dX10_dies_52 : decode cX10_dies 52 = .ok (.iconst 1, 1) := by decide +kernel
theorem dX10_dies_53 : decode cX10_dies 53 = .ok (.iastore, 1) := by decide +kernel
theorem dX10_dies_54 : decode cX10_dies 54 = .ok (.iconst 0, 1) := by decide +kernel
theorem dX10_dies_55 : decode cX10_dies 55 = .ok (.istore_n 3, 1) := by decide +kernel
theorem dX10_dies_56 : decode cX10_dies 56 = .ok (.iconst 0, 1) := by decide +kernel
theorem dX10_dies_57 : decode cX10_dies 57 = .ok (.istore 4, 2) := by decide +kernel
theorem dX10_dies_59 : decode cX10_dies 59 = .ok (.iload 4, 2) := by decide +kernel
theorem dX10_dies_61 : decode cX10_dies 61 = .ok (.aload_n 0, 1) := by decide +kernel
theorem dX10_dies_62 : decode cX10_dies 62 = .ok (.invokevirtual 188, 3) := by decide +kernel
theorem dX10_dies_65 : decode cX10_dies 65 = .ok (.if_icmp .ge 42, 3) := by decide +kernel
theorem dX10_dies_68 : decode cX10_dies 68 = .ok (.aload_n 0, 1) := by decide +kernel
theorem dX10_dies_69 : decode cX10_dies 69 = .ok (.iload 4, 2) := by decide +kernel
theorem dX10_dies_71 : decode cX10_dies 71 = .ok (.iconst 1, 1) := by decide +kernel
theorem dX10_dies_72 : decode cX10_dies 72 = .ok (.invokevirtual 256, 3) := by decide +kernel
theorem dX10_dies_75 : decode cX10_dies 75 = .ok (.iload_n 1, 1) := by decide +kernel
theorem dX10_dies_76 : decode cX10_dies 76 = .ok (.if_icmp .eq 6, 3) := by decide +kernel
theorem dX10_dies_79 : decode cX10_dies 79 = .ok (.goto 22, 3) := by decide +kernel
theorem dX10_dies_82 : decode cX10_dies 82 = .ok (.aload_n 0, 1) := by decide +kernel
theorem dX10_dies_83 : decode cX10_dies 83 = .ok (.getfield 13, 3) := by decide +kernel
theorem dX10_dies_86 : decode cX10_dies 86 = .ok (.bipush 120, 2) := by decide +kernel
theorem dX10_dies_88 : decode cX10_dies 88 = .ok (.bipush 32, 2) := by decide +kernel
theorem dX10_dies_90 : decode cX10_dies 90 = .ok (.iload 4, 2) := by decide +kernel
theorem dX10_dies_92 : decode cX10_dies 92 = .ok (.imul, 1) := by decide +kernel
theorem dX10_dies_93 : decode cX10_dies 93 = .ok (.iadd, 1) := by decide +kernel
theorem dX10_dies_94 : decode cX10_dies 94 = .ok (.iconst 1, 1) := by decide +kernel
theorem dX10_dies_95 : decode cX10_dies 95 = .ok (.iadd, 1) := by decide +kernel
theorem dX10_dies_96 : decode cX10_dies 96 = .ok (.iload_n 2, 1) := by decide +kernel
theorem dX10_dies_97 : decode cX10_dies 97 = .ok (.iastore, 1) := by decide +kernel
theorem dX10_dies_98 : decode cX10_dies 98 = .ok (.iinc 3 1, 3) := by decide +kernel
theorem dX10_dies_101 : decode cX10_dies 101 = .ok (.iinc 4 1, 3) := by decide +kernel
theorem dX10_dies_104 : decode cX10_dies 104 = .ok (.goto (-45), 3) := by decide +kernel
theorem dX10_dies_107 : decode cX10_dies 107 = .ok (.aload_n 0, 1) := by decide +kernel
theorem dX10_dies_108 : decode cX10_dies 108 = .ok (.getfield 13, 3) := by decide +kernel
theorem dX10_dies_111 : decode cX10_dies 111 = .ok (.bipush 110, 2) := by decide +kernel
theorem dX10_dies_113 : decode cX10_dies 113 = .ok (.iaload, 1) := by decide +kernel
theorem dX10_dies_114 : decode cX10_dies 114 = .ok (.iload_n 1, 1) := by decide +kernel
theorem dX10_dies_115 : decode cX10_dies 115 = .ok (.if_icmp .eq 14, 3) := by decide +kernel
theorem dX10_dies_118 : decode cX10_dies 118 = .ok (.aload_n 0, 1) := by decide +kernel
theorem dX10_dies_119 : decode cX10_dies 119 = .ok (.getfield 13, 3) := by decide +kernel
theorem dX10_dies_122 : decode cX10_dies 122 = .ok (.bipush 111, 2) := by decide +kernel
theorem dX10_dies_124 : decode cX10_dies 124 = .ok (.iaload, 1) := by decide +kernel
theorem dX10_dies_125 : decode cX10_dies 125 = .ok (.iload_n 1, 1) := by decide +kernel
theorem dX10_dies_126 : decode cX10_dies 126 = .ok (.if_icmp .ne 7, 3) := by decide +kernel
theorem dX10_dies_129 : decode cX10_dies 129 = .ok (.aload_n 0, 1) := by decide +kernel
theorem dX10_dies_130 : decode cX10_dies 130 = .ok (.invokevirtual 335, 3) := by decide +kernel
theorem dX10_dies_133 : decode cX10_dies 133 = .ok (.iload_n 3, 1) := by decide +kernel
theorem dX10_dies_134 : decode cX10_dies 134 = .ok (.ireturn, 1) := by decide +kernel
theorem dX10_close_0 : decode cX10_close 0 = .ok (.aload_n 0, 1) := by decide +kernel
theorem dX10_close_1 : decode cX10_close 1 = .ok (.iconst 0, 1) := by decide +kernel
theorem dX10_close_2 : decode cX10_close 2 = .ok (.putfield 83, 3) := by decide +kernel
theorem dX10_close_5 : decode cX10_close 5 = .ok (.aload_n 0, 1) := by decide +kernel
theorem dX10_close_6 : decode cX10_close 6 = .ok (.invokevirtual 167, 3) := by decide +kernel
theorem dX10_close_9 : decode cX10_close 9 = .ok (.aload_n 0, 1) := by decide +kernel
theorem dX10_close_10 : decode cX10_close 10 = .ok (.iload_n 1, 1) := by decide +kernel
theorem dX10_close_11 : decode cX10_close 11 = .ok (.invokevirtual 259, 3) := by decide +kernel
theorem dX10_close_14 : decode cX10_close 14 = .ok (.ifCond .eq 12, 3) := by decide +kernel
theorem dX10_close_17 : decode cX10_close 17 = .ok (.aload_n 0, 1) := by decide +kernel
theorem dX10_close_18 : decode cX10_close 18 = .ok (.iload_n 1, 1) := by decide +kernel
theorem dX10_close_19 : decode cX10_close 19 = .ok (.iconst 2, 1) := by decide +kernel
theorem dX10_close_20 : decode cX10_close 20 = .ok (.invokevirtual 262, 3) := by decide +kernel
theorem dX10_close_23 : decode cX10_close 23 = .ok (.ifCond .le 5, 3) := by decide +kernel
theorem dX10_close_26 : decode cX10_close 26 = .ok (.iconst 0, 1) := by decide +kernel
theorem dX10_close_27 : decode cX10_close 27 = .ok (.ireturn, 1) := by decide +kernel
theorem dX10_close_28 : decode cX10_close 28 = .ok (.aload_n 0, 1) := by decide +kernel
theorem dX10_close_29 : decode cX10_close 29 = .ok (.invokevirtual 272, 3) := by decide +kernel
theorem dX10_close_32 : decode cX10_close 32 = .ok (.aload_n 0, 1) := by decide +kernel
theorem dX10_close_33 : decode cX10_close 33 = .ok (.getfield 13, 3) := by decide +kernel
theorem dX10_close_36 : decode cX10_close 36 = .ok (.bipush 32, 2) := by decide +kernel
theorem dX10_close_38 : decode cX10_close 38 = .ok (.iconst 3, 1) := by decide +kernel
theorem dX10_close_39 : decode cX10_close 39 = .ok (.iload_n 1, 1) := by decide +kernel
theorem dX10_close_40 : decode cX10_close 40 = .ok (.imul, 1) := by decide +kernel
theorem dX10_close_41 : decode cX10_close 41 = .ok (.iadd, 1) := by decide +kernel
theorem dX10_close_42 : decode cX10_close 42 = .ok (.iconst 2, 1) := by decide +kernel
theorem dX10_close_43 : decode cX10_close 43 = .ok (.iadd, 1) := by decide +kernel
theorem dX10_close_44 : decode cX10_close 44 = .ok (.iconst 1, 1) := by decide +kernel
theorem dX10_close_45 : decode cX10_close 45 = .ok (.iastore, 1) := by decide +kernel
theorem dX10_close_46 : decode cX10_close 46 = .ok (.iconst 1, 1) := by decide +kernel
theorem dX10_close_47 : decode cX10_close 47 = .ok (.ireturn, 1) := by decide +kernel
theorem dX10_strokes_0 : decode cX10_strokes 0 = .ok (.aload_n 0, 1) := by decide +kernel
theorem dX10_strokes_1 : decode cX10_strokes 1 = .ok (.iconst 0, 1) := by decide +kernel
theorem dX10_strokes_2 : decode cX10_strokes 2 = .ok (.putfield 83, 3) := by decide +kernel
