theorem dX7_go_287 : decode cX7_go 287 = .ok (.iconst 4, 1) := by decide +kernel
theorem dX7_go_288 : decode cX7_go 288 = .ok (.if_icmp .ge 20, 3) := by decide +kernel
theorem dX7_go_291 : decode cX7_go 291 = .ok (.aload_n 0, 1) := by decide +kernel
theorem dX7_go_292 : decode cX7_go 292 = .ok (.bipush 10, 2) := by decide +kernel
theorem dX7_go_294 : decode cX7_go 294 = .ok (.aload_n 0, 1) := by decide +kernel
theorem dX7_go_295 : decode cX7_go 295 = .ok (.getfield 142, 3) := by decide +kernel
theorem dX7_go_298 : decode cX7_go 298 = .ok (.imul, 1) := by decide +kernel
theorem dX7_go_299 : decode cX7_go 299 = .ok (.iload 4, 2) := by decide +kernel
theorem dX7_go_301 : decode cX7_go 301 = .ok (.iadd, 1) := by decide +kernel
theorem dX7_go_302 : decode cX7_go 302 = .ok (.bipush 48, 2) := by decide +kernel
theorem dX7_go_304 : decode cX7_go 304 = .ok (.isub, 1) := by decide +kernel
theorem dX7_go_305 : decode cX7_go 305 = .ok (.putfield 142, 3) := by decide +kernel
theorem dX7_go_308 : decode cX7_go 308 = .ok (.aload_n 0, 1) := by decide +kernel
theorem dX7_go_309 : decode cX7_go 309 = .ok (.dup, 1) := by decide +kernel
theorem dX7_go_310 : decode cX7_go 310 = .ok (.getfield 119, 3) := by decide +kernel
theorem dX7_go_313 : decode cX7_go 313 = .ok (.iconst 1, 1) := by decide +kernel
theorem dX7_go_314 : decode cX7_go 314 = .ok (.iadd, 1) := by decide +kernel
theorem dX7_go_315 : decode cX7_go 315 = .ok (.putfield 119, 3) := by decide +kernel
theorem dX7_go_318 : decode cX7_go 318 = .ok (.goto (-138), 3) := by decide +kernel
theorem dX7_go_321 : decode cX7_go 321 = .ok (.aload_n 0, 1) := by decide +kernel
theorem dX7_go_322 : decode cX7_go 322 = .ok (.iload_n 3, 1) := by decide +kernel
theorem dX7_go_323 : decode cX7_go 323 = .ok (.ifCond .eq 20, 3) := by decide +kernel
theorem dX7_go_326 : decode cX7_go 326 = .ok (.iload_n 2, 1) := by decide +kernel
theorem dX7_go_327 : decode cX7_go 327 = .ok (.ifCond .ne 20, 3) := by decide +kernel
theorem dX7_go_330 : decode cX7_go 330 = .ok (.aload_n 0, 1) := by decide +kernel
theorem dX7_go_331 : decode cX7_go 331 = .ok (.getfield 119, 3) := by decide +kernel
theorem dX7_go_334 : decode cX7_go 334 = .ok (.aload_n 0, 1) := by decide +kernel
theorem dX7_go_335 : decode cX7_go 335 = .ok (.getfield 122, 3) := by decide +kernel
theorem dX7_go_338 : decode cX7_go 338 = .ok (.isub, 1) := by decide +kernel
theorem dX7_go_339 : decode cX7_go 339 = .ok (.iconst 4, 1) := by decide +kernel
theorem dX7_go_340 : decode cX7_go 340 = .ok (.if_icmp .le 7, 3) := by decide +kernel
theorem dX7_go_343 : decode cX7_go 343 = .ok (.iconst 1, 1) := by decide +kernel
theorem dX7_go_344 : decode cX7_go 344 = .ok (.goto 12, 3) := by decide +kernel
theorem dX7_go_347 : decode cX7_go 347 = .ok (.iload_n 2, 1) := by decide +kernel
theorem dX7_go_348 : decode cX7_go 348 = .ok (.ifCond .eq 7, 3) := by decide +kernel
theorem dX7_go_351 : decode cX7_go 351 = .ok (.iconst 2, 1) := by decide +kernel
theorem dX7_go_352 : decode cX7_go 352 = .ok (.goto 4, 3) := by decide +kernel
theorem dX7_go_355 : decode cX7_go 355 = .ok (.iconst 3, 1) := by decide +kernel
theorem dX7_go_356 : decode cX7_go 356 = .ok (.putfield 128, 3) := by decide +kernel
theorem dX7_go_359 : decode cX7_go 359 = .ok (.return_, 1) := by decide +kernel
theorem dX7_spelt_0 : decode cX7_spelt 0 = .ok (.ldc2_w 149, 3) := by decide +kernel
theorem dX7_spelt_3 : decode cX7_spelt 3 = .ok (.ldc2_w 149, 3) := by decide +kernel
theorem dX7_spelt_6 : decode cX7_spelt 6 = .ok (.iload_n 0, 1) := by decide +kernel
theorem dX7_spelt_7 : decode cX7_spelt 7 = .ok (.i2l, 1) := by decide +kernel
theorem dX7_spelt_8 : decode cX7_spelt 8 = .ok (.ldc2_w 151, 3) := by decide +kernel
theorem dX7_spelt_11 : decode cX7_spelt 11 = .ok (.lsub, 1) := by decide +kernel
theorem dX7_spelt_12 : decode cX7_spelt 12 = .ok (.lmul, 1) := by decide +kernel
theorem dX7_spelt_13 : decode cX7_spelt 13 = .ok (.iload_n 1, 1) := by decide +kernel
theorem dX7_spelt_14 : decode cX7_spelt 14 = .ok (.i2l, 1) := by decide +kernel
theorem dX7_spelt_15 : decode cX7_spelt 15 = .ok (.ladd, 1) := by decide +kernel
theorem dX7_spelt_16 : decode cX7_spelt 16 = .ok (.ldc2_w 151, 3) := by decide +kernel
theorem dX7_spelt_19 : decode cX7_spelt 19 = .ok (.lsub, 1) := by decide +kernel
theorem dX7_spelt_20 : decode cX7_spelt 20 = .ok (.lmul, 1) := by decide +kernel
theorem dX7_spelt_21 : decode cX7_spelt 21 = .ok (.iload_n 2, 1) := by decide +kernel
theorem dX7_spelt_22 : decode cX7_spelt 22 = .ok (.i2l, 1) := by decide +kernel
theorem dX7_spelt_23 : decode cX7_spelt 23 = .ok (.ladd, 1) := by decide +kernel
theorem dX7_spelt_24 : decode cX7_spelt 24 = .ok (.ldc2_w 151, 3) := by decide +kernel
theorem dX7_spelt_27 : decode cX7_spelt 27 = .ok (.lsub, 1) := by decide +kernel
theorem dX7_spelt_28 : decode cX7_spelt 28 = .ok (.lstore 6, 2) := by decide +kernel
theorem dX7_spelt_30 : decode cX7_spelt 30 = .ok (.iload_n 3, 1) := by decide +kernel
theorem dX7_spelt_31 : decode cX7_spelt 31 = .ok (.ifCond .le 18, 3) := by decide +kernel
theorem dX7_spelt_34 : decode cX7_spelt 34 = .ok (.ldc2_w 149, 3) := by decide +kernel
theorem dX7_spelt_37 : decode cX7_spelt 37 = .ok (.lload 6, 2) := by decide +kernel
theorem dX7_spelt_39 : decode cX7_spelt 39 = .ok (.lmul, 1) := by decide +kernel
theorem dX7_spelt_40 : decode cX7_spelt 40 = .ok (.iload_n 3, 1) := by decide +kernel
theorem dX7_spelt_41 : decode cX7_spelt 41 = .ok (.i2l, 1) := by decide +kernel
theorem dX7_spelt_42 : decode cX7_spelt 42 = .ok (.ladd, 1) := by decide +kernel
theorem dX7_spelt_43 : decode cX7_spelt 43 = .ok (.ldc2_w 151, 3) := by decide +kernel
theorem dX7_spelt_46 : decode cX7_spelt 46 = .ok (.lsub, 1) := by decide +kernel
theorem dX7_spelt_47 : decode cX7_spelt 47 = .ok (.lstore 6, 2) := by decide +kernel
theorem dX7_spelt_49 : decode cX7_spelt 49 = .ok (.iload 4, 2) := by decide +kernel
theorem dX7_spelt_51 : decode cX7_spelt 51 = .ok (.ifCond .le 19, 3) := by decide +kernel
theorem dX7_spelt_54 : decode cX7_spelt 54 = .ok (.ldc2_w 149, 3) := by decide +kernel
theorem dX7_spelt_57 : decode cX7_spelt 57 = .ok (.lload 6, 2) := by decide +kernel
theorem dX7_spelt_59 : decode cX7_spelt 59 = .ok (.lmul, 1) := by decide +kernel
theorem dX7_spelt_60 : decode cX7_spelt 60 = .ok (.iload 4, 2) := by decide +kernel
theorem dX7_spelt_62 : decode cX7_spelt 62 = .ok (.i2l, 1) := by decide +kernel
theorem dX7_spelt_63 : decode cX7_spelt 63 = .ok (.ladd, 1) := by decide +kernel
theorem dX7_spelt_64 : decode cX7_spelt 64 = .ok (.ldc2_w 151, 3) := by decide +kernel
theorem dX7_spelt_67 : decode cX7_spelt 67 = .ok (.lsub, 1) := by decide +kernel
theorem dX7_spelt_68 : decode cX7_spelt 68 = .ok (.lstore 6, 2) := by decide +kernel
theorem dX7_spelt_70 : decode cX7_spelt 70 = .ok (.iload 5, 2) := by decide +kernel
theorem dX7_spelt_72 : decode cX7_spelt 72 = .ok (.ifCond .le 20, 3) := by decide +kernel
theorem dX7_spelt_75 : decode cX7_spelt 75 = .ok (.ldc2_w 149, 3) := by decide +kernel
theorem dX7_spelt_78 : decode cX7_spelt 78 = .ok (.lload 6, 2) := by decide +kernel
theorem dX7_spelt_80 : decode cX7_spelt 80 = .ok (.lmul, 1) := by decide +kernel
theorem dX7_spelt_81 : decode cX7_spelt 81 = .ok (.iload 5, 2) := by decide +kernel
theorem dX7_spelt_83 : decode cX7_spelt 83 = .ok (.i2l, 1) := by decide +kernel
theorem dX7_spelt_84 : decode cX7_spelt 84 = .ok (.ladd, 1) := by decide +kernel
theorem dX7_spelt_85 : decode cX7_spelt 85 = .ok (.ldc2_w 151, 3) := by decide +kernel
theorem dX7_spelt_88 : decode cX7_spelt 88 = .ok (.lsub, 1) := by decide +kernel
theorem dX7_spelt_89 : decode cX7_spelt 89 = .ok (.goto 5, 3) := by decide +kernel
theorem dX7_spelt_92 : decode cX7_spelt 92 = .ok (.lload 6, 2) := by decide +kernel
theorem dX7_spelt_94 : decode cX7_spelt 94 = .ok (.lreturn, 1) := by decide +kernel
theorem dX7_isKey_0 : decode cX7_isKey 0 = .ok (.aload_n 0, 1) := by decide +kernel
theorem dX7_isKey_1 : decode cX7_isKey 1 = .ok (.getfield 128, 3) := by decide +kernel
theorem dX7_isKey_4 : decode cX7_isKey 4 = .ok (.iconst 2, 1) := by decide +kernel
theorem dX7_isKey_5 : decode cX7_isKey 5 = .ok (.if_icmp .ne 16, 3) := by decide +kernel
theorem dX7_isKey_8 : decode cX7_isKey 8 = .ok (.aload_n 0, 1) := by decide +kernel
theorem dX7_isKey_9 : decode cX7_isKey 9 = .ok (.getfield 138, 3) := by decide +kernel
theorem dX7_isKey_12 : decode cX7_isKey 12 = .ok (.lload_n 1, 1) := by decide +kernel
theorem dX7_isKey_13 : decode cX7_isKey 13 = .ok (.lcmp, 1) := by decide +kernel
theorem dX7_isKey_14 : decode cX7_isKey 14 = .ok (.ifCond .ne 7, 3) := by decide +kernel
theorem dX7_isKey_17 : decode cX7_isKey 17 = .ok (.iconst 1, 1) := by decide +kernel
theorem dX7_isKey_18 : decode cX7_isKey 18 = .ok (.goto 4, 3) := by decide +kernel
theorem dX7_isKey_21 : decode cX7_isKey 21 = .ok (.iconst 0, 1) := by decide +kernel
theorem dX7_isKey_22 : decode cX7_isKey 22 = .ok (.ireturn, 1) := by decide +kernel
theorem dX7_bad_0 : decode cX7_bad 0 = .ok (.aload_n 0, 1) := by decide +kernel
theorem dX7_bad_1 : decode cX7_bad 1 = .ok (.aload_n 0, 1) := by decide +kernel
theorem dX7_bad_2 : decode cX7_bad 2 = .ok (.getfield 128, 3) := by decide +kernel
theorem dX7_bad_5 : decode cX7_bad 5 = .ok (.iconst 1, 1) := by decide +kernel
theorem dX7_bad_6 : decode cX7_bad 6 = .ok (.if_icmp .ne 7, 3) := by decide +kernel
theorem dX7_bad_9 : decode cX7_bad 9 = .ok (.iconst 1, 1) := by decide +kernel
theorem dX7_bad_10 : decode cX7_bad 10 = .ok (.goto 4, 3) := by decide +kernel
theorem dX7_bad_13 : decode cX7_bad 13 = .ok (.iload_n 1, 1) := by decide +kernel
theorem dX7_bad_14 : decode cX7_bad 14 = .ok (.putfield 155, 3) := by decide +kernel
theorem dX7_bad_17 : decode cX7_bad 17 = .ok (.aload_n 0, 1) := by decide +kernel
theorem dX7_bad_18 : decode cX7_bad 18 = .ok (.aload_n 0, 1) := by decide +kernel
theorem dX7_bad_19 : decode cX7_bad 19 = .ok (.getfield 122, 3) := by decide +kernel
theorem dX7_bad_22 : decode cX7_bad 22 = .ok (.putfield 158, 3) := by decide +kernel
theorem dX7_bad_25 : decode cX7_bad 25 = .ok (.iconst 0, 1) := by decide +kernel
theorem dX7_bad_26 : decode cX7_bad 26 = .ok (.ireturn, 1) := by decide +kernel
theorem dX7_begins_0 : decode cX7_begins 0 = .ok (.aload_n 0, 1) := by decide +kernel
theorem dX7_begins_1 : decode cX7_begins 1 = .ok (.aload_n 0, 1) := by decide +kernel
theorem dX7_begins_2 : decode cX7_begins 2 = .ok (.getfield 109, 3) := by decide +kernel
theorem dX7_begins_5 : decode cX7_begins 5 = .ok (.putfield 116, 3) := by decide +kernel
theorem dX7_begins_8 : decode cX7_begins 8 = .ok (.aload_n 0, 1) := by decide +kernel
theorem dX7_begins_9 : decode cX7_begins 9 = .ok (.iconst 0, 1) := by decide +kernel
theorem dX7_begins_10 : decode cX7_begins 10 = .ok (.putfield 109, 3) := by decide +kernel
theorem dX7_begins_13 : decode cX7_begins 13 = .ok (.aload_n 0, 1) := by decide +kernel
theorem dX7_begins_14 : decode cX7_begins 14 = .ok (.iload_n 1, 1) := by decide +kernel
theorem dX7_begins_15 : decode cX7_begins 15 = .ok (.putfield 125, 3) := by decide +kernel
theorem dX7_begins_18 : decode cX7_begins 18 = .ok (.aload_n 0, 1) := by decide +kernel
theorem dX7_begins_19 : decode cX7_begins 19 = .ok (.iconst 0, 1) := by decide +kernel
theorem dX7_begins_20 : decode cX7_begins 20 = .ok (.putfield 155, 3) := by decide +kernel
theorem dX7_begins_23 : decode cX7_begins 23 = .ok (.aload_n 0, 1) := by decide +kernel
theorem dX7_begins_24 : decode cX7_begins 24 = .ok (.iconst 0, 1) := by decide +kernel
theorem dX7_begins_25 : decode cX7_begins 25 = .ok (.putfield 161, 3) := by decide +kernel
theorem dX7_begins_28 : decode cX7_begins 28 = .ok (.aload_n 0, 1) := by decide +kernel
theorem dX7_begins_29 : decode cX7_begins 29 = .ok (.iconst 0, 1) := by decide +kernel
theorem dX7_begins_30 : decode cX7_begins 30 = .ok (.putfield 119, 3) := by decide +kernel
theorem dX7_begins_33 : decode cX7_begins 33 = .ok (.aload_n 0, 1) := by decide +kernel
theorem dX7_begins_34 : decode cX7_begins 34 = .ok (.invokevirtual 164, 3) := by decide +kernel
theorem dX7_begins_37 : decode cX7_begins 37 = .ok (.return_, 1) := by decide +kernel
theorem dX7_readNumber_0 : decode cX7_readNumber 0 = .ok (.aload_n 0, 1) := by decide +kernel
theorem dX7_readNumber_1 : decode cX7_readNumber 1 = .ok (.getfield 128, 3) := by decide +kernel
theorem dX7_readNumber_4 : decode cX7_readNumber 4 = .ok (.iconst 3, 1) := by decide +kernel
theorem dX7_readNumber_5 : decode cX7_readNumber 5 = .ok (.if_icmp .eq 9, 3) := by decide +kernel
theorem dX7_readNumber_8 : decode cX7_readNumber 8 = .ok (.aload_n 0, 1) := by decide +kernel
theorem dX7_readNumber_9 : decode cX7_readNumber 9 = .ok (.iconst 1, 1) := by decide +kernel
theorem dX7_readNumber_10 : decode cX7_readNumber 10 = .ok (.invokevirtual 167, 3) := by decide +kernel
theorem dX7_readNumber_13 : decode cX7_readNumber 13 = .ok (.ireturn, 1) := by decide +kernel
theorem dX7_readNumber_14 : decode cX7_readNumber 14 = .ok (.aload_n 0, 1) := by decide +kernel
theorem dX7_readNumber_15 : decode cX7_readNumber 15 = .ok (.getfield 142, 3) := by decide +kernel
theorem dX7_readNumber_18 : decode cX7_readNumber 18 = .ok (.iload_n 1, 1) := by decide +kernel
theorem dX7_readNumber_19 : decode cX7_readNumber 19 = .ok (.if_icmp .lt 11, 3) := by decide +kernel
theorem dX7_readNumber_22 : decode cX7_readNumber 22 = .ok (.aload_n 0, 1) := by decide +kernel
theorem dX7_readNumber_23 : decode cX7_readNumber 23 = .ok (.getfield 142, 3) := by decide +kernel
theorem dX7_readNumber_26 : decode cX7_readNumber 26 = .ok (.iload_n 2, 1) := by decide +kernel
theorem dX7_readNumber_27 : decode cX7_readNumber 27 = .ok (.if_icmp .le 11, 3) := by decide +kernel
theorem dX7_readNumber_30 : decode cX7_readNumber 30 = .ok (.aload_n 0, 1) := by decide +kernel
theorem dX7_readNumber_31 : decode cX7_readNumber 31 = .ok (.iconst 2, 1) := by decide +kernel
theorem dX7_readNumber_32 : decode cX7_readNumber 32 = .ok (.invokevirtual 167, 3) := by decide +kernel
theorem dX7_readNumber_35 : decode cX7_readNumber 35 = .ok (.ifCond .eq 7, 3) := by decide +kernel
theorem dX7_readNumber_38 : decode cX7_readNumber 38 = .ok (.iconst 1, 1) := by decide +kernel
theorem dX7_readNumber_39 : decode cX7_readNumber 39 = .ok (.goto 4, 3) := by decide +kernel
theorem dX7_readNumber_42 : decode cX7_readNumber 42 = .ok (.iconst 0, 1) := by decide +kernel
theorem dX7_readNumber_43 : decode cX7_readNumber 43 = .ok (.ireturn, 1) := by decide +kernel
theorem dX7_ruleAtHand_0 : decode cX7_ruleAtHand 0 = .ok (.aload_n 0, 1) := by decide +kernel
theorem dX7_ruleAtHand_1 : decode cX7_ruleAtHand 1 = .ok (.bipush 103, 2) := by decide +kernel
theorem dX7_ruleAtHand_3 : decode cX7_ruleAtHand 3 = .ok (.bipush 97, 2) := by decide +kernel
theorem dX7_ruleAtHand_5 : decode cX7_ruleAtHand 5 = .ok (.bipush 112, 2) := by decide +kernel
theorem dX7_ruleAtHand_7 : decode cX7_ruleAtHand 7 = .ok (.iconst 0, 1) := by decide +kernel
theorem dX7_ruleAtHand_8 : decode cX7_ruleAtHand 8 = .ok (.iconst 0, 1) := by decide +kernel
theorem dX7_ruleAtHand_9 : decode cX7_ruleAtHand 9 = .ok (.iconst 0, 1) := by decide +kernel
theorem dX7_ruleAtHand_10 : decode cX7_ruleAtHand 10 = .ok (.invokestatic 170, 3) := by decide +kernel
theorem dX7_ruleAtHand_13 : decode cX7_ruleAtHand 13 = .ok (.invokevirtual 174, 3) := by decide +kernel
theorem dX7_ruleAtHand_16 : decode cX7_ruleAtHand 16 = .ok (.ifCond .eq 5, 3) := by decide +kernel
theorem dX7_ruleAtHand_19 : decode cX7_ruleAtHand 19 = .ok (.iconst 0, 1) := by decide +kernel
theorem dX7_ruleAtHand_20 : decode cX7_ruleAtHand 20 = .ok (.ireturn, 1) := by decide +kernel
theorem dX7_ruleAtHand_21 : decode cX7_ruleAtHand 21 = .ok (.aload_n 0, 1) := by decide +kernel
theorem dX7_ruleAtHand_22 : decode cX7_ruleAtHand 22 = .ok (.bipush 97, 2) := by decide +kernel
theorem dX7_ruleAtHand_24 : decode cX7_ruleAtHand 24 = .ok (.bipush 114, 2) := by decide +kernel
theorem dX7_ruleAtHand_26 : decode cX7_ruleAtHand 26 = .ok (.bipush 116, 2) := by decide +kernel
theorem dX7_ruleAtHand_28 : decode cX7_ruleAtHand 28 = .ok (.bipush 105, 2) := by decide +kernel
theorem dX7_ruleAtHand_30 : decode cX7_ruleAtHand 30 = .ok (.bipush 115, 2) := by decide +kernel
theorem dX7_ruleAtHand_32 : decode cX7_ruleAtHand 32 = .ok (.bipush 116, 2) := by decide +kernel
theorem dX7_ruleAtHand_34 : decode cX7_ruleAtHand 34 = .ok (.invokestatic 170, 3) := by decide +kernel
theorem dX7_ruleAtHand_37 : decode cX7_ruleAtHand 37 = .ok (.invokevirtual 174, 3) := by decide +kernel
theorem dX7_ruleAtHand_40 : decode cX7_ruleAtHand 40 = .ok (.ifCond .eq 5, 3) := by decide +kernel
theorem dX7_ruleAtHand_43 : decode cX7_ruleAtHand 43 = .ok (.iconst 1, 1) := by decide +kernel
theorem dX7_ruleAtHand_44 : decode cX7_ruleAtHand 44 = .ok (.ireturn, 1) := by decide +kernel
theorem dX7_ruleAtHand_45 : decode cX7_ruleAtHand 45 = .ok (.aload_n 0, 1) := by decide +kernel
theorem dX7_ruleAtHand_46 : decode cX7_ruleAtHand 46 = .ok (.bipush 107, 2) := by decide +kernel
theorem dX7_ruleAtHand_48 : decode cX7_ruleAtHand 48 = .ok (.bipush 101, 2) := by decide +kernel
theorem dX7_ruleAtHand_50 : decode cX7_ruleAtHand 50 = .ok (.bipush 121, 2) := by decide +kernel
theorem dX7_ruleAtHand_52 : decode cX7_ruleAtHand 52 = .ok (.bipush 115, 2) := by decide +kernel
theorem dX7_ruleAtHand_54 : decode cX7_ruleAtHand 54 = .ok (.iconst 0, 1) := by decide +kernel
theorem dX7_ruleAtHand_55 : decode cX7_ruleAtHand 55 = .ok (.iconst 0, 1) := by decide +kernel
theorem dX7_ruleAtHand_56 : decode cX7_ruleAtHand 56 = .ok (.invokestatic 170, 3) := by decide +kernel
theorem dX7_ruleAtHand_59 : decode cX7_ruleAtHand 59 = .ok (.invokevirtual 174, 3) := by decide +kernel
theorem dX7_ruleAtHand_62 : decode cX7_ruleAtHand 62 = .ok (.ifCond .eq 5, 3) := by decide +kernel
theorem dX7_ruleAtHand_65 : decode cX7_ruleAtHand 65 = .ok (.iconst 2, 1) := by decide +kernel
theorem dX7_ruleAtHand_66 : decode cX7_ruleAtHand 66 = .ok (.ireturn, 1) := by decide +kernel
theorem dX7_ruleAtHand_67 : decode cX7_ruleAtHand 67 = .ok (.aload_n 0, 1) := by decide +kernel
theorem dX7_ruleAtHand_68 : decode cX7_ruleAtHand 68 = .ok (.bipush 115, 2) := by decide +kernel
theorem dX7_ruleAtHand_70 : decode cX7_ruleAtHand 70 = .ok (.bipush 108, 2) := by decide +kernel
theorem dX7_ruleAtHand_72 : decode cX7_ruleAtHand 72 = .ok (.bipush 97, 2) := by decide +kernel
theorem dX7_ruleAtHand_74 : decode cX7_ruleAtHand 74 = .ok (.bipush 99, 2) := by decide +kernel
theorem dX7_ruleAtHand_76 : decode cX7_ruleAtHand 76 = .ok (.bipush 107, 2) := by decide +kernel
theorem dX7_ruleAtHand_78 : decode cX7_ruleAtHand 78 = .ok (.iconst 0, 1) := by decide +kernel
theorem dX7_ruleAtHand_79 : decode cX7_ruleAtHand 79 = .ok (.invokestatic 170, 3) := by decide +kernel
theorem dX7_ruleAtHand_82 : decode cX7_ruleAtHand 82 = .ok (.invokevirtual 174, 3) := by decide +kernel
theorem dX7_ruleAtHand_85 : decode cX7_ruleAtHand 85 = .ok (.ifCond .eq 5, 3) := by decide +kernel
theorem dX7_ruleAtHand_88 : decode cX7_ruleAtHand 88 = .ok (.iconst 3, 1) := by decide +kernel
theorem dX7_ruleAtHand_89 : decode cX7_ruleAtHand 89 = .ok (.ireturn, 1) := by decide +kernel
theorem dX7_ruleAtHand_90 : decode cX7_ruleAtHand 90 = .ok (.aload_n 0, 1) := by decide +kernel
theorem dX7_ruleAtHand_91 : decode cX7_ruleAtHand 91 = .ok (.bipush 109, 2) := by decide +kernel
theorem dX7_ruleAtHand_93 : decode cX7_ruleAtHand 93 = .ok (.bipush 111, 2) := by decide +kernel
theorem dX7_ruleAtHand_95 : decode cX7_ruleAtHand 95 = .ok (.bipush 115, 2) := by decide +kernel
theorem dX7_ruleAtHand_97 : decode cX7_ruleAtHand 97 = .ok (.bipush 116, 2) := by decide +kernel
theorem dX7_ruleAtHand_99 : decode cX7_ruleAtHand 99 = .ok (.iconst 0, 1) := by decide +kernel
theorem dX7_ruleAtHand_100 : decode cX7_ruleAtHand 100 = .ok (.iconst 0, 1) := by decide +kernel
theorem dX7_ruleAtHand_101 : decode cX7_ruleAtHand 101 = .ok (.invokestatic 170, 3) := by decide +kernel
theorem dX7_ruleAtHand_104 : decode cX7_ruleAtHand 104 = .ok (.invokevirtual 174, 3) := by decide +kernel
theorem dX7_ruleAtHand_107 : decode cX7_ruleAtHand 107 = .ok (.ifCond .eq 7, 3) := by decide +kernel
theorem dX7_ruleAtHand_110 : decode cX7_ruleAtHand 110 = .ok (.iconst 4, 1) := by decide +kernel
theorem dX7_ruleAtHand_111 : decode cX7_ruleAtHand 111 = .ok (.goto 4, 3) := by decide +kernel
theorem dX7_ruleAtHand_114 : decode cX7_ruleAtHand 114 = .ok (.iconst (-1), 1) := by decide +kernel
theorem dX7_ruleAtHand_115 : decode cX7_ruleAtHand 115 = .ok (.ireturn, 1) := by decide +kernel
theorem dX7_readRule_0 : decode cX7_readRule 0 = .ok (.aload_n 0, 1) := by decide +kernel
theorem dX7_readRule_1 : decode cX7_readRule 1 = .ok (.invokevirtual 178, 3) := by decide +kernel
theorem dX7_readRule_4 : decode cX7_readRule 4 = .ok (.istore_n 1, 1) := by decide +kernel
theorem dX7_readRule_5 : decode cX7_readRule 5 = .ok (.iload_n 1, 1) := by decide +kernel
theorem dX7_readRule_6 : decode cX7_readRule 6 = .ok (.iconst (-1), 1) := by decide +kernel
theorem dX7_readRule_7 : decode cX7_readRule 7 = .ok (.if_icmp .ne 9, 3) := by decide +kernel
theorem dX7_readRule_10 : decode cX7_readRule 10 = .ok (.aload_n 0, 1) := by decide +kernel
theorem dX7_readRule_11 : decode cX7_readRule 11 = .ok (.iconst 1, 1) := by decide +kernel
theorem dX7_readRule_12 : decode cX7_readRule 12 = .ok (.invokevirtual 167, 3) := by decide +kernel
theorem dX7_readRule_15 : decode cX7_readRule 15 = .ok (.ireturn, 1) := by decide +kernel
theorem dX7_readRule_16 : decode cX7_readRule 16 = .ok (.aload_n 0, 1) := by decide +kernel
theorem dX7_readRule_17 : decode cX7_readRule 17 = .ok (.getfield 161, 3) := by decide +kernel
theorem dX7_readRule_20 : decode cX7_readRule 20 = .ok (.iload_n 1, 1) := by decide +kernel
theorem dX7_readRule_21 : decode cX7_readRule 21 = .ok (.ishr, 1) := by decide +kernel
theorem dX7_readRule_22 : decode cX7_readRule 22 = .ok (.iconst 1, 1) := by decide +kernel
theorem dX7_readRule_23 : decode cX7_readRule 23 = .ok (.iand, 1) := by decide +kernel
theorem dX7_readRule_24 : decode cX7_readRule 24 = .ok (.iconst 1, 1) := by decide +kernel
theorem dX7_readRule_25 : decode cX7_readRule 25 = .ok (.if_icmp .ne 9, 3) := by decide +kernel
theorem dX7_readRule_28 : decode cX7_readRule 28 = .ok (.aload_n 0, 1) := by decide +kernel
theorem dX7_readRule_29 : decode cX7_readRule 29 = .ok (.iconst 3, 1) := by decide +kernel
theorem dX7_readRule_30 : decode cX7_readRule 30 = .ok (.invokevirtual 167, 3) := by decide +kernel
theorem dX7_readRule_33 : decode cX7_readRule 33 = .ok (.ireturn, 1) := by decide +kernel
theorem dX7_readRule_34 : decode cX7_readRule 34 = .ok (.aload_n 0, 1) := by decide +kernel
theorem dX7_readRule_35 : decode cX7_readRule 35 = .ok (.invokevirtual 164, 3) := by decide +kernel
theorem dX7_readRule_38 : decode cX7_readRule 38 = .ok (.aload_n 0, 1) := by decide +kernel
theorem dX7_readRule_39 : decode cX7_readRule 39 = .ok (.aload_n 0, 1) := by decide +kernel
theorem dX7_readRule_40 : decode cX7_readRule 40 = .ok (.getfield 22, 3) := by decide +kernel
theorem dX7_readRule_43 : decode cX7_readRule 43 = .ok (.iload_n 1, 1) := by decide +kernel
theorem dX7_readRule_44 : decode cX7_readRule 44 = .ok (.iaload, 1) := by decide +kernel
theorem dX7_readRule_45 : decode cX7_readRule 45 = .ok (.aload_n 0, 1) := by decide +kernel
theorem dX7_readRule_46 : decode cX7_readRule 46 = .ok (.getfield 25, 3) := by decide +kernel
theorem dX7_readRule_49 : decode cX7_readRule 49 = .ok (.iload_n 1, 1) := by decide +kernel
theorem dX7_readRule_50 : decode cX7_readRule 50 = .ok (.iaload, 1) := by decide +kernel
theorem dX7_readRule_51 : decode cX7_readRule 51 = .ok (.invokevirtual 182, 3) := by decide +kernel
theorem dX7_readRule_54 : decode cX7_readRule 54 = .ok (.ifCond .ne 5, 3) := by decide +kernel
theorem dX7_readRule_57 : decode cX7_readRule 57 = .ok (.iconst 0, 1) := by decide +kernel
theorem dX7_readRule_58 : decode cX7_readRule 58 = .ok (.ireturn, 1) := by decide +kernel
theorem dX7_readRule_59 : decode cX7_readRule 59 = .ok (.aload_n 0, 1) := by decide +kernel
theorem dX7_readRule_60 : decode cX7_readRule 60 = .ok (.getfield 19, 3) := by decide +kernel
theorem dX7_readRule_63 : decode cX7_readRule 63 = .ok (.iload_n 1, 1) := by decide +kernel
theorem dX7_readRule_64 : decode cX7_readRule 64 = .ok (.aload_n 0, 1) := by decide +kernel
theorem dX7_readRule_65 : decode cX7_readRule 65 = .ok (.getfield 142, 3) := by decide +kernel
theorem dX7_readRule_68 : decode cX7_readRule 68 = .ok (.iastore, 1) := by decide +kernel
theorem dX7_readRule_69 : decode cX7_readRule 69 = .ok (.aload_n 0, 1) := by decide +kernel
theorem dX7_readRule_70 : decode cX7_readRule 70 = .ok (.dup, 1) := by decide +kernel
theorem dX7_readRule_71 : decode cX7_readRule 71 = .ok (.getfield 161, 3) := by decide +kernel
theorem dX7_readRule_74 : decode cX7_readRule 74 = .ok (.iconst 1, 1) := by decide +kernel
theorem dX7_readRule_75 : decode cX7_readRule 75 = .ok (.iload_n 1, 1) := by decide +kernel
theorem dX7_readRule_76 : decode cX7_readRule 76 = .ok (.ishl, 1) := by decide +kernel
theorem dX7_readRule_77 : decode cX7_readRule 77 = .ok (.ior, 1) := by decide +kernel
theorem dX7_readRule_78 : decode cX7_readRule 78 = .ok (.putfield 161, 3) := by decide +kernel
theorem dX7_readRule_81 : decode cX7_readRule 81 = .ok (.aload_n 0, 1) := by decide +kernel
theorem dX7_readRule_82 : decode cX7_readRule 82 = .ok (.invokevirtual 164, 3) := by decide +kernel
theorem dX7_readRule_85 : decode cX7_readRule 85 = .ok (.aload_n 0, 1) := by decide +kernel
theorem dX7_readRule_86 : decode cX7_readRule 86 = .ok (.getfield 128, 3) := by decide +kernel
theorem dX7_readRule_89 : decode cX7_readRule 89 = .ok (.iconst 4, 1) := by decide +kernel
theorem dX7_readRule_90 : decode cX7_readRule 90 = .ok (.if_icmp .eq 11, 3) := by decide +kernel
theorem dX7_readRule_93 : decode cX7_readRule 93 = .ok (.aload_n 0, 1) := by decide +kernel
theorem dX7_readRule_94 : decode cX7_readRule 94 = .ok (.iconst 1, 1) := by decide +kernel
theorem dX7_readRule_95 : decode cX7_readRule 95 = .ok (.invokevirtual 167, 3) := by decide +kernel
theorem dX7_readRule_98 : decode cX7_readRule 98 = .ok (.ifCond .eq 7, 3) := by decide +kernel
theorem dX7_readRule_101 : decode cX7_readRule 101 = .ok (.iconst 1, 1) := by decide +kernel
theorem dX7_readRule_102 : decode cX7_readRule 102 = .ok (.goto 4, 3) := by decide +kernel
theorem dX7_readRule_105 : decode cX7_readRule 105 = .ok (.iconst 0, 1) := by decide +kernel
theorem dX7_readRule_106 : decode cX7_readRule 106 = .ok (.ireturn, 1) := by decide +kernel
theorem dX7_rules_0 : decode cX7_rules 0 = .ok (.aload_n 0, 1) := by decide +kernel
theorem dX7_rules_1 : decode cX7_rules 1 = .ok (.iconst 0, 1) := by decide +kernel
theorem dX7_rules_2 : decode cX7_rules 2 = .ok (.putfield 105, 3) := by decide +kernel
theorem dX7_rules_5 : decode cX7_rules 5 = .ok (.aload_n 0, 1) := by decide +kernel
theorem dX7_rules_6 : decode cX7_rules 6 = .ok (.bipush 120, 2) := by decide +kernel
theorem dX7_rules_8 : decode cX7_rules 8 = .ok (.invokevirtual 186, 3) := by decide +kernel
theorem dX7_rules_11 : decode cX7_rules 11 = .ok (.iconst 0, 1) := by decide +kernel
theorem dX7_rules_12 : decode cX7_rules 12 = .ok (.istore_n 1, 1) := by decide +kernel
theorem dX7_rules_13 : decode cX7_rules 13 = .ok (.iload_n 1, 1) := by decide +kernel
theorem dX7_rules_14 : decode cX7_rules 14 = .ok (.iconst 5, 1) := by decide +kernel
theorem dX7_rules_15 : decode cX7_rules 15 = .ok (.if_icmp .ge 21, 3) := by decide +kernel
theorem dX7_rules_18 : decode cX7_rules 18 = .ok (.aload_n 0, 1) := by decide +kernel
theorem dX7_rules_19 : decode cX7_rules 19 = .ok (.getfield 19, 3) := by decide +kernel
theorem dX7_rules_22 : decode cX7_rules 22 = .ok (.iload_n 1, 1) := by decide +kernel
theorem dX7_rules_23 : decode cX7_rules 23 = .ok (.aload_n 0, 1) := by decide +kernel
theorem dX7_rules_24 : decode cX7_rules 24 = .ok (.getfield 16, 3) := by decide +kernel
theorem dX7_rules_27 : decode cX7_rules 27 = .ok (.iload_n 1, 1) := by decide +kernel
theorem dX7_rules_28 : decode cX7_rules 28 = .ok (.iaload, 1) := by decide +kernel
theorem dX7_rules_29 : decode cX7_rules 29 = .ok (.iastore, 1) := by decide +kernel
theorem dX7_rules_30 : decode cX7_rules 30 = .ok (.iinc 1 1, 3) := by decide +kernel
theorem dX7_rules_33 : decode cX7_rules 33 = .ok (.goto (-20), 3) := by decide +kernel
theorem dX7_rules_36 : decode cX7_rules 36 = .ok (.iconst 0, 1) := by decide +kernel
theorem dX7_rules_37 : decode cX7_rules 37 = .ok (.istore_n 1, 1) := by decide +kernel
theorem dX7_rules_38 : decode cX7_rules 38 = .ok (.aload_n 0, 1) := by decide +kernel
theorem dX7_rules_39 : decode cX7_rules 39 = .ok (.getfield 128, 3) := by decide +kernel
theorem dX7_rules_42 : decode cX7_rules 42 = .ok (.ifCond .eq 27, 3) := by decide +kernel
theorem dX7_rules_45 : decode cX7_rules 45 = .ok (.aload_n 0, 1) := by decide +kernel
theorem dX7_rules_46 : decode cX7_rules 46 = .ok (.invokevirtual 189, 3) := by decide +kernel
theorem dX7_rules_49 : decode cX7_rules 49 = .ok (.ifCond .ne 10, 3) := by decide +kernel
theorem dX7_rules_52 : decode cX7_rules 52 = .ok (.iconst (-1), 1) := by decide +kernel
theorem dX7_rules_53 : decode cX7_rules 53 = .ok (.aload_n 0, 1) := by decide +kernel
theorem dX7_rules_54 : decode cX7_rules 54 = .ok (.getfield 158, 3) := by decide +kernel
theorem dX7_rules_57 : decode cX7_rules 57 = .ok (.isub, 1) := by decide +kernel
theorem dX7_rules_58 : decode cX7_rules 58 = .ok (.ireturn, 1) := by decide +kernel
theorem dX7_rules_59 : decode cX7_rules 59 = .ok (.iinc 1 1, 3) := by decide +kernel
theorem dX7_rules_62 : decode cX7_rules 62 = .ok (.aload_n 0, 1) := by decide +kernel
theorem dX7_rules_63 : decode cX7_rules 63 = .ok (.invokevirtual 164, 3) := by decide +kernel
theorem dX7_rules_66 : decode cX7_rules 66 = .ok (.goto (-28), 3) := by decide +kernel
theorem dX7_rules_69 : decode cX7_rules 69 = .ok (.iconst 0, 1) := by decide +kernel
theorem dX7_rules_70 : decode cX7_rules 70 = .ok (.istore_n 2, 1) := by decide +kernel
theorem dX7_rules_71 : decode cX7_rules 71 = .ok (.iload_n 2, 1) := by decide +kernel
theorem dX7_rules_72 : decode cX7_rules 72 = .ok (.iconst 5, 1) := by decide +kernel
theorem dX7_rules_73 : decode cX7_rules 73 = .ok (.if_icmp .ge 21, 3) := by decide +kernel
theorem dX7_rules_76 : decode cX7_rules 76 = .ok (.aload_n 0, 1) := by decide +kernel
theorem dX7_rules_77 : decode cX7_rules 77 = .ok (.getfield 13, 3) := by decide +kernel
theorem dX7_rules_80 : decode cX7_rules 80 = .ok (.iload_n 2, 1) := by decide +kernel
theorem dX7_rules_81 : decode cX7_rules 81 = .ok (.aload_n 0, 1) := by decide +kernel
theorem dX7_rules_82 : decode cX7_rules 82 = .ok (.getfield 19, 3) := by decide +kernel
theorem dX7_rules_85 : decode cX7_rules 85 = .ok (.iload_n 2, 1) := by decide +kernel
theorem dX7_rules_86 : decode cX7_rules 86 = .ok (.iaload, 1) := by decide +kernel
theorem dX7_rules_87 : decode cX7_rules 87 = .ok (.iastore, 1) := by decide +kernel
theorem dX7_rules_88 : decode cX7_rules 88 = .ok (.iinc 2 1, 3) := by decide +kernel
theorem dX7_rules_91 : decode cX7_rules 91 = .ok (.goto (-20), 3) := by decide +kernel
theorem dX7_rules_94 : decode cX7_rules 94 = .ok (.iload_n 1, 1) := by decide +kernel
theorem dX7_rules_95 : decode cX7_rules 95 = .ok (.ireturn, 1) := by decide +kernel
theorem dX7_readItem_0 : decode cX7_readItem 0 = .ok (.aload_n 0, 1) := by decide +kernel
theorem dX7_readItem_1 : decode cX7_readItem 1 = .ok (.bipush 115, 2) := by decide +kernel
theorem dX7_readItem_3 : decode cX7_readItem 3 = .ok (.bipush 111, 2) := by decide +kernel
theorem dX7_readItem_5 : decode cX7_readItem 5 = .ok (.bipush 110, 2) := by decide +kernel
theorem dX7_readItem_7 : decode cX7_readItem 7 = .ok (.bipush 103, 2) := by decide +kernel
theorem dX7_readItem_9 : decode cX7_readItem 9 = .ok (.bipush 115, 2) := by decide +kernel
theorem dX7_readItem_11 : decode cX7_readItem 11 = .ok (.iconst 0, 1) := by decide +kernel
theorem dX7_readItem_12 : decode cX7_readItem 12 = .ok (.invokestatic 170, 3) := by decide +kernel
theorem dX7_readItem_15 : decode cX7_readItem 15 = .ok (.invokevirtual 174, 3) := by decide +kernel
theorem dX7_readItem_18 : decode cX7_readItem 18 = .ok (.istore_n 1, 1) := by decide +kernel
theorem dX7_readItem_19 : decode cX7_readItem 19 = .ok (.iload_n 1, 1) := by decide +kernel
theorem dX7_readItem_20 : decode cX7_readItem 20 = .ok (.ifCond .ne 29, 3) := by decide +kernel
theorem dX7_readItem_23 : decode cX7_readItem 23 = .ok (.aload_n 0, 1) := by decide +kernel
theorem dX7_readItem_24 : decode cX7_readItem 24 = .ok (.bipush 116, 2) := by decide +kernel
theorem dX7_readItem_26 : decode cX7_readItem 26 = .ok (.bipush 97, 2) := by decide +kernel
theorem dX7_readItem_28 : decode cX7_readItem 28 = .ok (.bipush 108, 2) := by decide +kernel
theorem dX7_readItem_30 : decode cX7_readItem 30 = .ok (.bipush 107, 2) := by decide +kernel
theorem dX7_readItem_32 : decode cX7_readItem 32 = .ok (.iconst 0, 1) := by decide +kernel
theorem dX7_readItem_33 : decode cX7_readItem 33 = .ok (.iconst 0, 1) := by decide +kernel
theorem dX7_readItem_34 : decode cX7_readItem 34 = .ok (.invokestatic 170, 3) := by decide +kernel
theorem dX7_readItem_37 : decode cX7_readItem 37 = .ok (.invokevirtual 174, 3) := by decide +kernel
theorem dX7_readItem_40 : decode cX7_readItem 40 = .ok (.ifCond .ne 9, 3) := by decide +kernel
theorem dX7_readItem_43 : decode cX7_readItem 43 = .ok (.aload_n 0, 1) := by decide +kernel
theorem dX7_readItem_44 : decode cX7_readItem 44 = .ok (.iconst 1, 1) := by decide +kernel
theorem dX7_readItem_45 : decode cX7_readItem 45 = .ok (.invokevirtual 167, 3) := by decide +kernel
theorem dX7_readItem_48 : decode cX7_readItem 48 = .ok (.ireturn, 1) := by decide +kernel
theorem dX7_readItem_49 : decode cX7_readItem 49 = .ok (.aload_n 0, 1) := by decide +kernel
theorem dX7_readItem_50 : decode cX7_readItem 50 = .ok (.getfield 28, 3) := by decide +kernel
theorem dX7_readItem_53 : decode cX7_readItem 53 = .ok (.bipush 6, 2) := by decide +kernel
theorem dX7_readItem_55 : decode cX7_readItem 55 = .ok (.iaload, 1) := by decide +kernel
theorem dX7_readItem_56 : decode cX7_readItem 56 = .ok (.bipush 8, 2) := by decide +kernel
theorem dX7_readItem_58 : decode cX7_readItem 58 = .ok (.if_icmp .ne 9, 3) := by decide +kernel
theorem dX7_readItem_61 : decode cX7_readItem 61 = .ok (.aload_n 0, 1) := by decide +kernel
theorem dX7_readItem_62 : decode cX7_readItem 62 = .ok (.iconst 3, 1) := by decide +kernel
theorem dX7_readItem_63 : decode cX7_readItem 63 = .ok (.invokevirtual 167, 3) := by decide +kernel
theorem dX7_readItem_66 : decode cX7_readItem 66 = .ok (.ireturn, 1) := by decide +kernel
theorem dX7_readItem_67 : decode cX7_readItem 67 = .ok (.bipush 48, 2) := by decide +kernel
theorem dX7_readItem_69 : decode cX7_readItem 69 = .ok (.aload_n 0, 1) := by decide +kernel
theorem dX7_readItem_70 : decode cX7_readItem 70 = .ok (.getfield 28, 3) := by decide +kernel
theorem dX7_readItem_73 : decode cX7_readItem 73 = .ok (.bipush 6, 2) := by decide +kernel
theorem dX7_readItem_75 : decode cX7_readItem 75 = .ok (.iaload, 1) := by decide +kernel
theorem dX7_readItem_76 : decode cX7_readItem 76 = .ok (.iadd, 1) := by decide +kernel
theorem dX7_readItem_77 : decode cX7_readItem 77 = .ok (.istore_n 2, 1) := by decide +kernel
theorem dX7_readItem_78 : decode cX7_readItem 78 = .ok (.aload_n 0, 1) := by decide +kernel
theorem dX7_readItem_79 : decode cX7_readItem 79 = .ok (.invokevirtual 164, 3) := by decide +kernel
theorem dX7_readItem_82 : decode cX7_readItem 82 = .ok (.aload_n 0, 1) := by decide +kernel
theorem dX7_readItem_83 : decode cX7_readItem 83 = .ok (.iconst 1, 1) := by decide +kernel
theorem dX7_readItem_84 : decode cX7_readItem 84 = .ok (.sipush 3600, 3) := by decide +kernel
theorem dX7_readItem_87 : decode cX7_readItem 87 = .ok (.invokevirtual 182, 3) := by decide +kernel
theorem dX7_readItem_90 : decode cX7_readItem 90 = .ok (.ifCond .ne 5, 3) := by decide +kernel
theorem dX7_readItem_93 : decode cX7_readItem 93 = .ok (.iconst 0, 1) := by decide +kernel
theorem dX7_readItem_94 : decode cX7_readItem 94 = .ok (.ireturn, 1) := by decide +kernel
theorem dX7_readItem_95 : decode cX7_readItem 95 = .ok (.aload_n 0, 1) := by decide +kernel
theorem dX7_readItem_96 : decode cX7_readItem 96 = .ok (.dup, 1) := by decide +kernel
theorem dX7_readItem_97 : decode cX7_readItem 97 = .ok (.getfield 193, 3) := by decide +kernel
theorem dX7_readItem_100 : decode cX7_readItem 100 = .ok (.aload_n 0, 1) := by decide +kernel
theorem dX7_readItem_101 : decode cX7_readItem 101 = .ok (.getfield 142, 3) := by decide +kernel
theorem dX7_readItem_104 : decode cX7_readItem 104 = .ok (.iadd, 1) := by decide +kernel
theorem dX7_readItem_105 : decode cX7_readItem 105 = .ok (.putfield 193, 3) := by decide +kernel
theorem dX7_readItem_108 : decode cX7_readItem 108 = .ok (.aload_n 0, 1) := by decide +kernel
theorem dX7_readItem_109 : decode cX7_readItem 109 = .ok (.getfield 193, 3) := by decide +kernel
theorem dX7_readItem_112 : decode cX7_readItem 112 = .ok (.sipush 3600, 3) := by decide +kernel
theorem dX7_readItem_115 : decode cX7_readItem 115 = .ok (.if_icmp .le 9, 3) := by decide +kernel
theorem dX7_readItem_118 : decode cX7_readItem 118 = .ok (.aload_n 0, 1) := by decide +kernel
theorem dX7_readItem_119 : decode cX7_readItem 119 = .ok (.iconst 3, 1) := by decide +kernel
theorem dX7_readItem_120 : decode cX7_readItem 120 = .ok (.invokevirtual 167, 3) := by decide +kernel
theorem dX7_readItem_123 : decode cX7_readItem 123 = .ok (.ireturn, 1) := by decide +kernel
theorem dX7_readItem_124 : decode cX7_readItem 124 = .ok (.aload_n 0, 1) := by decide +kernel
theorem dX7_readItem_125 : decode cX7_readItem 125 = .ok (.getfield 31, 3) := by decide +kernel
theorem dX7_readItem_128 : decode cX7_readItem 128 = .ok (.iload_n 2, 1) := by decide +kernel
theorem dX7_readItem_129 : decode cX7_readItem 129 = .ok (.aload_n 0, 1) := by decide +kernel
theorem dX7_readItem_130 : decode cX7_readItem 130 = .ok (.getfield 142, 3) := by decide +kernel
theorem dX7_readItem_133 : decode cX7_readItem 133 = .ok (.iastore, 1) := by decide +kernel
theorem dX7_readItem_134 : decode cX7_readItem 134 = .ok (.aload_n 0, 1) := by decide +kernel
theorem dX7_readItem_135 : decode cX7_readItem 135 = .ok (.getfield 34, 3) := by decide +kernel
theorem dX7_readItem_138 : decode cX7_readItem 138 = .ok (.iload_n 2, 1) := by decide +kernel
theorem dX7_readItem_139 : decode cX7_readItem 139 = .ok (.iconst (-1), 1) := by decide +kernel
theorem dX7_readItem_140 : decode cX7_readItem 140 = .ok (.iastore, 1) := by decide +kernel
theorem dX7_readItem_141 : decode cX7_readItem 141 = .ok (.aload_n 0, 1) := by decide +kernel
theorem dX7_readItem_142 : decode cX7_readItem 142 = .ok (.getfield 37, 3) := by decide +kernel
theorem dX7_readItem_145 : decode cX7_readItem 145 = .ok (.iload_n 2, 1) := by decide +kernel
theorem dX7_readItem_146 : decode cX7_readItem 146 = .ok (.iload_n 1, 1) := by decide +kernel
theorem dX7_readItem_147 : decode cX7_readItem 147 = .ok (.ifCond .eq 7, 3) := by decide +kernel
theorem dX7_readItem_150 : decode cX7_readItem 150 = .ok (.iconst 0, 1) := by decide +kernel
theorem dX7_readItem_151 : decode cX7_readItem 151 = .ok (.goto 4, 3) := by decide +kernel
theorem dX7_readItem_154 : decode cX7_readItem 154 = .ok (.iconst (-1), 1) := by decide +kernel
theorem dX7_readItem_155 : decode cX7_readItem 155 = .ok (.iastore, 1) := by decide +kernel
theorem dX7_readItem_156 : decode cX7_readItem 156 = .ok (.aload_n 0, 1) := by decide +kernel
theorem dX7_readItem_157 : decode cX7_readItem 157 = .ok (.invokevirtual 164, 3) := by decide +kernel
theorem dX7_readItem_160 : decode cX7_readItem 160 = .ok (.iload_n 1, 1) := by decide +kernel
theorem dX7_readItem_161 : decode cX7_readItem 161 = .ok (.ifCond .eq 52, 3) := by decide +kernel
theorem dX7_readItem_164 : decode cX7_readItem 164 = .ok (.aload_n 0, 1) := by decide +kernel
theorem dX7_readItem_165 : decode cX7_readItem 165 = .ok (.bipush 109, 2) := by decide +kernel
theorem dX7_readItem_167 : decode cX7_readItem 167 = .ok (.bipush 111, 2) := by decide +kernel
theorem dX7_readItem_169 : decode cX7_readItem 169 = .ok (.bipush 111, 2) := by decide +kernel
theorem dX7_readItem_171 : decode cX7_readItem 171 = .ok (.bipush 100, 2) := by decide +kernel
theorem dX7_readItem_173 : decode cX7_readItem 173 = .ok (.iconst 0, 1) := by decide +kernel
theorem dX7_readItem_174 : decode cX7_readItem 174 = .ok (.iconst 0, 1) := by decide +kernel
theorem dX7_readItem_175 : decode cX7_readItem 175 = .ok (.invokestatic 170, 3) := by decide +kernel
theorem dX7_readItem_178 : decode cX7_readItem 178 = .ok (.invokevirtual 174, 3) := by decide +kernel
theorem dX7_readItem_181 : decode cX7_readItem 181 = .ok (.ifCond .eq 32, 3) := by decide +kernel
theorem dX7_readItem_184 : decode cX7_readItem 184 = .ok (.aload_n 0, 1) := by decide +kernel
theorem dX7_readItem_185 : decode cX7_readItem 185 = .ok (.invokevirtual 164, 3) := by decide +kernel
theorem dX7_readItem_188 : decode cX7_readItem 188 = .ok (.aload_n 0, 1) := by decide +kernel
theorem dX7_readItem_189 : decode cX7_readItem 189 = .ok (.iconst 0, 1) := by decide +kernel
theorem dX7_readItem_190 : decode cX7_readItem 190 = .ok (.iconst 3, 1) := by decide +kernel
theorem dX7_readItem_191 : decode cX7_readItem 191 = .ok (.invokevirtual 182, 3) := by decide +kernel
theorem dX7_readItem_194 : decode cX7_readItem 194 = .ok (.ifCond .ne 5, 3) := by decide +kernel
theorem dX7_readItem_197 : decode cX7_readItem 197 = .ok (.iconst 0, 1) := by decide +kernel
theorem dX7_readItem_198 : decode cX7_readItem 198 = .ok (.ireturn, 1) := by decide +kernel
theorem dX7_readItem_199 : decode cX7_readItem 199 = .ok (.aload_n 0, 1) := by decide +kernel
theorem dX7_readItem_200 : decode cX7_readItem 200 = .ok (.getfield 34, 3) := by decide +kernel
theorem dX7_readItem_203 : decode cX7_readItem 203 = .ok (.iload_n 2, 1) := by decide +kernel
theorem dX7_readItem_204 : decode cX7_readItem 204 = .ok (.aload_n 0, 1) := by decide +kernel
theorem dX7_readItem_205 : decode cX7_readItem 205 = .ok (.getfield 142, 3) := by decide +kernel
theorem dX7_readItem_208 : decode cX7_readItem 208 = .ok (.iastore, 1) := by decide +kernel
theorem dX7_readItem_209 : decode cX7_readItem 209 = .ok (.aload_n 0, 1) := by decide +kernel
theorem dX7_readItem_210 : decode cX7_readItem 210 = .ok (.invokevirtual 164, 3) := by decide +kernel
theorem dX7_readItem_213 : decode cX7_readItem 213 = .ok (.iload_n 1, 1) := by decide +kernel
theorem dX7_readItem_214 : decode cX7_readItem 214 = .ok (.ifCond .eq 51, 3) := by decide +kernel
theorem dX7_readItem_217 : decode cX7_readItem 217 = .ok (.aload_n 0, 1) := by decide +kernel
theorem dX7_readItem_218 : decode cX7_readItem 218 = .ok (.bipush 110, 2) := by decide +kernel
theorem dX7_readItem_220 : decode cX7_readItem 220 = .ok (.bipush 101, 2) := by decide +kernel
theorem dX7_readItem_222 : decode cX7_readItem 222 = .ok (.bipush 119, 2) := by decide +kernel
theorem dX7_readItem_224 : decode cX7_readItem 224 = .ok (.iconst 0, 1) := by decide +kernel
theorem dX7_readItem_225 : decode cX7_readItem 225 = .ok (.iconst 0, 1) := by decide +kernel
theorem dX7_readItem_226 : decode cX7_readItem 226 = .ok (.iconst 0, 1) := by decide +kernel
theorem dX7_readItem_227 : decode cX7_readItem 227 = .ok (.invokestatic 170, 3) := by decide +kernel
theorem dX7_readItem_230 : decode cX7_readItem 230 = .ok (.invokevirtual 174, 3) := by decide +kernel
theorem dX7_readItem_233 : decode cX7_readItem 233 = .ok (.ifCond .eq 32, 3) := by decide +kernel
theorem dX7_readItem_236 : decode cX7_readItem 236 = .ok (.aload_n 0, 1) := by decide +kernel
theorem dX7_readItem_237 : decode cX7_readItem 237 = .ok (.invokevirtual 164, 3) := by decide +kernel
theorem dX7_readItem_240 : decode cX7_readItem 240 = .ok (.aload_n 0, 1) := by decide +kernel
theorem dX7_readItem_241 : decode cX7_readItem 241 = .ok (.iconst 0, 1) := by decide +kernel
theorem dX7_readItem_242 : decode cX7_readItem 242 = .ok (.iconst 4, 1) := by decide +kernel
theorem dX7_readItem_243 : decode cX7_readItem 243 = .ok (.invokevirtual 182, 3) := by decide +kernel
theorem dX7_readItem_246 : decode cX7_readItem 246 = .ok (.ifCond .ne 5, 3) := by decide +kernel
theorem dX7_readItem_249 : decode cX7_readItem 249 = .ok (.iconst 0, 1) := by decide +kernel
theorem dX7_readItem_250 : decode cX7_readItem 250 = .ok (.ireturn, 1) := by decide +kernel
theorem dX7_readItem_251 : decode cX7_readItem 251 = .ok (.aload_n 0, 1) := by decide +kernel
theorem dX7_readItem_252 : decode cX7_readItem 252 = .ok (.getfield 37, 3) := by decide +kernel
theorem dX7_readItem_255 : decode cX7_readItem 255 = .ok (.iload_n 2, 1) := by decide +kernel
theorem dX7_readItem_256 : decode cX7_readItem 256 = .ok (.aload_n 0, 1) := by decide +kernel
theorem dX7_readItem_257 : decode cX7_readItem 257 = .ok (.getfield 142, 3) := by decide +kernel
theorem dX7_readItem_260 : decode cX7_readItem 260 = .ok (.iastore, 1) := by decide +kernel
theorem dX7_readItem_261 : decode cX7_readItem 261 = .ok (.aload_n 0, 1) := by decide +kernel
theorem dX7_readItem_262 : decode cX7_readItem 262 = .ok (.invokevirtual 164, 3) := by decide +kernel
theorem dX7_readItem_265 : decode cX7_readItem 265 = .ok (.aload_n 0, 1) := by decide +kernel
theorem dX7_readItem_266 : decode cX7_readItem 266 = .ok (.getfield 128, 3) := by decide +kernel
theorem dX7_readItem_269 : decode cX7_readItem 269 = .ok (.iconst 4, 1) := by decide +kernel
theorem dX7_readItem_270 : decode cX7_readItem 270 = .ok (.if_icmp .eq 9, 3) := by decide +kernel
theorem dX7_readItem_273 : decode cX7_readItem 273 = .ok (.aload_n 0, 1) := by decide +kernel
theorem dX7_readItem_274 : decode cX7_readItem 274 = .ok (.iconst 1, 1) := by decide +kernel
theorem dX7_readItem_275 : decode cX7_readItem 275 = .ok (.invokevirtual 167, 3) := by decide +kernel
theorem dX7_readItem_278 : decode cX7_readItem 278 = .ok (.ireturn, 1) := by decide +kernel
theorem dX7_readItem_279 : decode cX7_readItem 279 = .ok (.aload_n 0, 1) := by decide +kernel
theorem dX7_readItem_280 : decode cX7_readItem 280 = .ok (.getfield 28, 3) := by decide +kernel
theorem dX7_readItem_283 : decode cX7_readItem 283 = .ok (.bipush 6, 2) := by decide +kernel
theorem dX7_readItem_285 : decode cX7_readItem 285 = .ok (.dup2, 1) := by decide +kernel
theorem dX7_readItem_286 : decode cX7_readItem 286 = .ok (.iaload, 1) := by decide +kernel
theorem dX7_readItem_287 : decode cX7_readItem 287 = .ok (.iconst 1, 1) := by decide +kernel
theorem dX7_readItem_288 : decode cX7_readItem 288 = .ok (.iadd, 1) := by decide +kernel
theorem dX7_readItem_289 : decode cX7_readItem 289 = .ok (.iastore, 1) := by decide +kernel
theorem dX7_readItem_290 : decode cX7_readItem 290 = .ok (.aload_n 0, 1) := by decide +kernel
theorem dX7_readItem_291 : decode cX7_readItem 291 = .ok (.invokevirtual 164, 3) := by decide +kernel
theorem dX7_readItem_294 : decode cX7_readItem 294 = .ok (.iconst 1, 1) := by decide +kernel
theorem dX7_readItem_295 : decode cX7_readItem 295 = .ok (.ireturn, 1) := by decide +kernel
theorem dX7_isClock_0 : decode cX7_isClock 0 = .ok (.iload_n 0, 1) := by decide +kernel
theorem dX7_isClock_1 : decode cX7_isClock 1 = .ok (.ifCond .lt 13, 3) := by decide +kernel
theorem dX7_isClock_4 : decode cX7_isClock 4 = .ok (.iload_n 0, 1) := by decide +kernel
theorem dX7_isClock_5 : decode cX7_isClock 5 = .ok (.bipush 6, 2) := by decide +kernel
theorem dX7_isClock_7 : decode cX7_isClock 7 = .ok (.if_icmp .ge 7, 3) := by decide +kernel
theorem dX7_isClock_10 : decode cX7_isClock 10 = .ok (.iconst 1, 1) := by decide +kernel
theorem dX7_isClock_11 : decode cX7_isClock 11 = .ok (.goto 4, 3) := by decide +kernel
theorem dX7_isClock_14 : decode cX7_isClock 14 = .ok (.iconst 0, 1) := by decide +kernel
theorem dX7_isClock_15 : decode cX7_isClock 15 = .ok (.ireturn, 1) := by decide +kernel
theorem dX7_clock_0 : decode cX7_clock 0 = .ok (.iload_n 1, 1) := by decide +kernel
theorem dX7_clock_1 : decode cX7_clock 1 = .ok (.invokestatic 196, 3) := by decide +kernel
theorem dX7_clock_4 : decode cX7_clock 4 = .ok (.ifCond .ne 8, 3) := by decide +kernel
theorem dX7_clock_7 : decode cX7_clock 7 = .ok (.aload_n 0, 1) := by decide +kernel
theorem dX7_clock_8 : decode cX7_clock 8 = .ok (.invokevirtual 199, 3) := by decide +kernel
theorem dX7_clock_11 : decode cX7_clock 11 = .ok (.ireturn, 1) := by decide +kernel
theorem dX7_clock_12 : decode cX7_clock 12 = .ok (.aload_n 0, 1) := by decide +kernel
theorem dX7_clock_13 : decode cX7_clock 13 = .ok (.iconst 0, 1) := by decide +kernel
theorem dX7_clock_14 : decode cX7_clock 14 = .ok (.putfield 105, 3) := by decide +kernel
theorem dX7_clock_17 : decode cX7_clock 17 = .ok (.aload_n 0, 1) := by decide +kernel
theorem dX7_clock_18 : decode cX7_clock 18 = .ok (.sipush 240, 3) := by decide +kernel
theorem dX7_clock_21 : decode cX7_clock 21 = .ok (.invokevirtual 186, 3) := by decide +kernel
theorem dX7_clock_24 : decode cX7_clock 24 = .ok (.aload_n 0, 1) := by decide +kernel
theorem dX7_clock_25 : decode cX7_clock 25 = .ok (.getfield 28, 3) := by decide +kernel
theorem dX7_clock_28 : decode cX7_clock 28 = .ok (.bipush 6, 2) := by decide +kernel
theorem dX7_clock_30 : decode cX7_clock 30 = .ok (.iconst 0, 1) := by decide +kernel
theorem dX7_clock_31 : decode cX7_clock 31 = .ok (.iastore, 1) := by decide +kernel
theorem dX7_clock_32 : decode cX7_clock 32 = .ok (.aload_n 0, 1) := by decide +kernel
theorem dX7_clock_33 : decode cX7_clock 33 = .ok (.iconst 0, 1) := by decide +kernel
theorem dX7_clock_34 : decode cX7_clock 34 = .ok (.putfield 193, 3) := by decide +kernel
theorem dX7_clock_37 : decode cX7_clock 37 = .ok (.aload_n 0, 1) := by decide +kernel
theorem dX7_clock_38 : decode cX7_clock 38 = .ok (.getfield 128, 3) := by decide +kernel
theorem dX7_clock_41 : decode cX7_clock 41 = .ok (.ifCond .eq 17, 3) := by decide +kernel
theorem dX7_clock_44 : decode cX7_clock 44 = .ok (.aload_n 0, 1) := by decide +kernel
theorem dX7_clock_45 : decode cX7_clock 45 = .ok (.invokevirtual 202, 3) := by decide +kernel
theorem dX7_clock_48 : decode cX7_clock 48 = .ok (.ifCond .ne (-11), 3) := by decide +kernel
theorem dX7_clock_51 : decode cX7_clock 51 = .ok (.iconst (-1), 1) := by decide +kernel
theorem dX7_clock_52 : decode cX7_clock 52 = .ok (.aload_n 0, 1) := by decide +kernel
theorem dX7_clock_53 : decode cX7_clock 53 = .ok (.getfield 158, 3) := by decide +kernel
theorem dX7_clock_56 : decode cX7_clock 56 = .ok (.isub, 1) := by decide +kernel
theorem dX7_clock_57 : decode cX7_clock 57 = .ok (.ireturn, 1) := by decide +kernel
theorem dX7_clock_58 : decode cX7_clock 58 = .ok (.aload_n 0, 1) := by decide +kernel
theorem dX7_clock_59 : decode cX7_clock 59 = .ok (.getfield 193, 3) := by decide +kernel
theorem dX7_clock_62 : decode cX7_clock 62 = .ok (.sipush 3600, 3) := by decide +kernel
theorem dX7_clock_65 : decode cX7_clock 65 = .ok (.if_icmp .ge 15, 3) := by decide +kernel
theorem dX7_clock_68 : decode cX7_clock 68 = .ok (.aload_n 0, 1) := by decide +kernel
theorem dX7_clock_69 : decode cX7_clock 69 = .ok (.iconst 4, 1) := by decide +kernel
theorem dX7_clock_70 : decode cX7_clock 70 = .ok (.putfield 155, 3) := by decide +kernel
theorem dX7_clock_73 : decode cX7_clock 73 = .ok (.iconst (-1), 1) := by decide +kernel
theorem dX7_clock_74 : decode cX7_clock 74 = .ok (.aload_n 0, 1) := by decide +kernel
theorem dX7_clock_75 : decode cX7_clock 75 = .ok (.getfield 116, 3) := by decide +kernel
theorem dX7_clock_78 : decode cX7_clock 78 = .ok (.isub, 1) := by decide +kernel
theorem dX7_clock_79 : decode cX7_clock 79 = .ok (.ireturn, 1) := by decide +kernel
theorem dX7_clock_80 : decode cX7_clock 80 = .ok (.aload_n 0, 1) := by decide +kernel
theorem dX7_clock_81 : decode cX7_clock 81 = .ok (.getfield 28, 3) := by decide +kernel
theorem dX7_clock_84 : decode cX7_clock 84 = .ok (.iload_n 1, 1) := by decide +kernel
theorem dX7_clock_85 : decode cX7_clock 85 = .ok (.aload_n 0, 1) := by decide +kernel
theorem dX7_clock_86 : decode cX7_clock 86 = .ok (.getfield 28, 3) := by decide +kernel
theorem dX7_clock_89 : decode cX7_clock 89 = .ok (.bipush 6, 2) := by decide +kernel
theorem dX7_clock_91 : decode cX7_clock 91 = .ok (.iaload, 1) := by decide +kernel
theorem dX7_clock_92 : decode cX7_clock 92 = .ok (.iastore, 1) := by decide +kernel
theorem dX7_clock_93 : decode cX7_clock 93 = .ok (.iconst 0, 1) := by decide +kernel
theorem dX7_clock_94 : decode cX7_clock 94 = .ok (.istore_n 2, 1) := by decide +kernel
theorem dX7_clock_95 : decode cX7_clock 95 = .ok (.iload_n 2, 1) := by decide +kernel
theorem dX7_clock_96 : decode cX7_clock 96 = .ok (.aload_n 0, 1) := by decide +kernel
theorem dX7_clock_97 : decode cX7_clock 97 = .ok (.getfield 28, 3) := by decide +kernel
theorem dX7_clock_100 : decode cX7_clock 100 = .ok (.iload_n 1, 1) := by decide +kernel
theorem dX7_clock_101 : decode cX7_clock 101 = .ok (.iaload, 1) := by decide +kernel
theorem dX7_clock_102 : decode cX7_clock 102 = .ok (.if_icmp .ge 69, 3) := by decide +kernel
theorem dX7_clock_105 : decode cX7_clock 105 = .ok (.aload_n 0, 1) := by decide +kernel
theorem dX7_clock_106 : decode cX7_clock 106 = .ok (.getfield 31, 3) := by decide +kernel
theorem dX7_clock_109 : decode cX7_clock 109 = .ok (.bipush 8, 2) := by decide +kernel
theorem dX7_clock_111 : decode cX7_clock 111 = .ok (.iload_n 1, 1) := by decide +kernel
theorem dX7_clock_112 : decode cX7_clock 112 = .ok (.imul, 1) := by decide +kernel
theorem dX7_clock_113 : decode cX7_clock 113 = .ok (.iload_n 2, 1) := by decide +kernel
theorem dX7_clock_114 : decode cX7_clock 114 = .ok (.iadd, 1) := by decide +kernel
theorem dX7_clock_115 : decode cX7_clock 115 = .ok (.aload_n 0, 1) := by decide +kernel
theorem dX7_clock_116 : decode cX7_clock 116 = .ok (.getfield 31, 3) := by decide +kernel
theorem dX7_clock_119 : decode cX7_clock 119 = .ok (.bipush 48, 2) := by decide +kernel
theorem dX7_clock_121 : decode cX7_clock 121 = .ok (.iload_n 2, 1) := by decide +kernel
theorem dX7_clock_122 : decode cX7_clock 122 = .ok (.iadd, 1) := by decide +kernel
theorem dX7_clock_123 : decode cX7_clock 123 = .ok (.iaload, 1) := by decide +kernel
theorem dX7_clock_124 : decode cX7_clock 124 = .ok (.iastore, 1) := by decide +kernel
theorem dX7_clock_125 : decode cX7_clock 125 = .ok (.aload_n 0, 1) := by decide +kernel
theorem dX7_clock_126 : decode cX7_clock 126 = .ok (.getfield 34, 3) := by decide +kernel
theorem dX7_clock_129 : decode cX7_clock 129 = .ok (.bipush 8, 2) := by decide +kernel
theorem dX7_clock_131 : decode cX7_clock 131 = .ok (.iload_n 1, 1) := by decide +kernel
theorem dX7_clock_132 : decode cX7_clock 132 = .ok (.imul, 1) := by decide +kernel
theorem dX7_clock_133 : decode cX7_clock 133 = .ok (.iload_n 2, 1) := by decide +kernel
theorem dX7_clock_134 : decode cX7_clock 134 = .ok (.iadd, 1) := by decide +kernel
theorem dX7_clock_135 : decode cX7_clock 135 = .ok (.aload_n 0, 1) := by decide +kernel
theorem dX7_clock_136 : decode cX7_clock 136 = .ok (.getfield 34, 3) := by decide +kernel
theorem dX7_clock_139 : decode cX7_clock 139 = .ok (.bipush 48, 2) := by decide +kernel
theorem dX7_clock_141 : decode cX7_clock 141 = .ok (.iload_n 2, 1) := by decide +kernel
theorem dX7_clock_142 : decode cX7_clock 142 = .ok (.iadd, 1) := by decide +kernel
theorem dX7_clock_143 : decode cX7_clock 143 = .ok (.iaload, 1) := by decide +kernel
theorem dX7_clock_144 : decode cX7_clock 144 = .ok (.iastore, 1) := by decide +kernel
theorem dX7_clock_145 : decode cX7_clock 145 = .ok (.aload_n 0, 1) := by decide +kernel
theorem dX7_clock_146 : decode cX7_clock 146 = .ok (.getfield 37, 3) := by decide +kernel
theorem dX7_clock_149 : decode cX7_clock 149 = .ok (.bipush 8, 2) := by decide +kernel
theorem dX7_clock_151 : decode cX7_clock 151 = .ok (.iload_n 1, 1) := by decide +kernel
theorem dX7_clock_152 : decode cX7_clock 152 = .ok (.imul, 1) := by decide +kernel
theorem dX7_clock_153 : decode cX7_clock 153 = .ok (.iload_n 2, 1) := by decide +kernel
theorem dX7_clock_154 : decode cX7_clock 154 = .ok (.iadd, 1) := by decide +kernel
theorem dX7_clock_155 : decode cX7_clock 155 = .ok (.aload_n 0, 1) := by decide +kernel
theorem dX7_clock_156 : decode cX7_clock 156 = .ok (.getfield 37, 3) := by decide +kernel
theorem dX7_clock_159 : decode cX7_clock 159 = .ok (.bipush 48, 2) := by decide +kernel
theorem dX7_clock_161 : decode cX7_clock 161 = .ok (.iload_n 2, 1) := by decide +kernel
theorem dX7_clock_162 : decode cX7_clock 162 = .ok (.iadd, 1) := by decide +kernel
theorem dX7_clock_163 : decode cX7_clock 163 = .ok (.iaload, 1) := by decide +kernel
theorem dX7_clock_164 : decode cX7_clock 164 = .ok (.iastore, 1) := by decide +kernel
theorem dX7_clock_165 : decode cX7_clock 165 = .ok (.iinc 2 1, 3) := by decide +kernel
theorem dX7_clock_168 : decode cX7_clock 168 = .ok (.goto (-73), 3) := by decide +kernel
theorem dX7_clock_171 : decode cX7_clock 171 = .ok (.aload_n 0, 1) := by decide +kernel
theorem dX7_clock_172 : decode cX7_clock 172 = .ok (.getfield 28, 3) := by decide +kernel
theorem dX7_clock_175 : decode cX7_clock 175 = .ok (.iload_n 1, 1) := by decide +kernel
theorem dX7_clock_176 : decode cX7_clock 176 = .ok (.iaload, 1) := by decide +kernel
theorem dX7_clock_177 : decode cX7_clock 177 = .ok (.ireturn, 1) := by decide +kernel
theorem dX7_fault_0 : decode cX7_fault 0 = .ok (.aload_n 0, 1) := by decide +kernel
theorem dX7_fault_1 : decode cX7_fault 1 = .ok (.iconst 0, 1) := by decide +kernel
theorem dX7_fault_2 : decode cX7_fault 2 = .ok (.putfield 105, 3) := by decide +kernel
theorem dX7_fault_5 : decode cX7_fault 5 = .ok (.aload_n 0, 1) := by decide +kernel
theorem dX7_fault_6 : decode cX7_fault 6 = .ok (.getfield 155, 3) := by decide +kernel
theorem dX7_fault_9 : decode cX7_fault 9 = .ok (.ireturn, 1) := by decide +kernel
theorem dX7_rule_0 : decode cX7_rule 0 = .ok (.aload_n 0, 1) := by decide +kernel
theorem dX7_rule_1 : decode cX7_rule 1 = .ok (.iconst 0, 1) := by decide +kernel
theorem dX7_rule_2 : decode cX7_rule 2 = .ok (.putfield 105, 3) := by decide +kernel
theorem dX7_rule_5 : decode cX7_rule 5 = .ok (.iload_n 1, 1) := by decide +kernel
theorem dX7_rule_6 : decode cX7_rule 6 = .ok (.ifCond .lt 8, 3) := by decide +kernel
theorem dX7_rule_9 : decode cX7_rule 9 = .ok (.iload_n 1, 1) := by decide +kernel
theorem dX7_rule_10 : decode cX7_rule 10 = .ok (.iconst 5, 1) := by decide +kernel
theorem dX7_rule_11 : decode cX7_rule 11 = .ok (.if_icmp .lt 7, 3) := by decide +kernel
theorem dX7_rule_14 : decode cX7_rule 14 = .ok (.iconst (-1), 1) := by decide +kernel
theorem dX7_rule_15 : decode cX7_rule 15 = .ok (.goto 9, 3) := by decide +kernel
theorem dX7_rule_18 : decode cX7_rule 18 = .ok (.aload_n 0, 1) := by decide +kernel
theorem dX7_rule_19 : decode cX7_rule 19 = .ok (.getfield 13, 3) := by decide +kernel
theorem dX7_rule_22 : decode cX7_rule 22 = .ok (.iload_n 1, 1) := by decide +kernel
theorem dX7_rule_23 : decode cX7_rule 23 = .ok (.iaload, 1) := by decide +kernel
theorem dX7_rule_24 : decode cX7_rule 24 = .ok (.ireturn, 1) := by decide +kernel
theorem dX7_isIn_0 : decode cX7_isIn 0 = .ok (.iload_n 0, 1) := by decide +kernel
theorem dX7_isIn_1 : decode cX7_isIn 1 = .ok (.iload_n 1, 1) := by decide +kernel
theorem dX7_isIn_2 : decode cX7_isIn 2 = .ok (.if_icmp .lt 12, 3) := by decide +kernel
theorem dX7_isIn_5 : decode cX7_isIn 5 = .ok (.iload_n 0, 1) := by decide +kernel
theorem dX7_isIn_6 : decode cX7_isIn 6 = .ok (.iload_n 2, 1) := by decide +kernel
theorem dX7_isIn_7 : decode cX7_isIn 7 = .ok (.if_icmp .gt 7, 3) := by decide +kernel
theorem dX7_isIn_10 : decode cX7_isIn 10 = .ok (.iconst 1, 1) := by decide +kernel
theorem dX7_isIn_11 : decode cX7_isIn 11 = .ok (.goto 4, 3) := by decide +kernel
theorem dX7_isIn_14 : decode cX7_isIn 14 = .ok (.iconst 0, 1) := by decide +kernel
theorem dX7_isIn_15 : decode cX7_isIn 15 = .ok (.ireturn, 1) := by decide +kernel
theorem dX7_isSong_0 : decode cX7_isSong 0 = .ok (.iload_n 1, 1) := by decide +kernel
theorem dX7_isSong_1 : decode cX7_isSong 1 = .ok (.ifCond .lt 15, 3) := by decide +kernel
theorem dX7_isSong_4 : decode cX7_isSong 4 = .ok (.iload_n 1, 1) := by decide +kernel
theorem dX7_isSong_5 : decode cX7_isSong 5 = .ok (.aload_n 0, 1) := by decide +kernel
theorem dX7_isSong_6 : decode cX7_isSong 6 = .ok (.getfield 205, 3) := by decide +kernel
theorem dX7_isSong_9 : decode cX7_isSong 9 = .ok (.if_icmp .ge 7, 3) := by decide +kernel
theorem dX7_isSong_12 : decode cX7_isSong 12 = .ok (.iconst 1, 1) := by decide +kernel
theorem dX7_isSong_13 : decode cX7_isSong 13 = .ok (.goto 4, 3) := by decide +kernel
theorem dX7_isSong_16 : decode cX7_isSong 16 = .ok (.iconst 0, 1) := by decide +kernel
theorem dX7_isSong_17 : decode cX7_isSong 17 = .ok (.ireturn, 1) := by decide +kernel
theorem dX7_song_0 : decode cX7_song 0 = .ok (.aload_n 0, 1) := by decide +kernel
theorem dX7_song_1 : decode cX7_song 1 = .ok (.iconst 0, 1) := by decide +kernel
theorem dX7_song_2 : decode cX7_song 2 = .ok (.putfield 105, 3) := by decide +kernel
theorem dX7_song_5 : decode cX7_song 5 = .ok (.aload_n 0, 1) := by decide +kernel
theorem dX7_song_6 : decode cX7_song 6 = .ok (.getfield 205, 3) := by decide +kernel
theorem dX7_song_9 : decode cX7_song 9 = .ok (.bipush 24, 2) := by decide +kernel
theorem dX7_song_11 : decode cX7_song 11 = .ok (.if_icmp .eq 45, 3) := by decide +kernel
theorem dX7_song_14 : decode cX7_song 14 = .ok (.iload_n 1, 1) := by decide +kernel
theorem dX7_song_15 : decode cX7_song 15 = .ok (.bipush 30, 2) := by decide +kernel
theorem dX7_song_17 : decode cX7_song 17 = .ok (.sipush 900, 3) := by decide +kernel
theorem dX7_song_20 : decode cX7_song 20 = .ok (.invokestatic 208, 3) := by decide +kernel
theorem dX7_song_23 : decode cX7_song 23 = .ok (.ifCond .eq 33, 3) := by decide +kernel
theorem dX7_song_26 : decode cX7_song 26 = .ok (.iload_n 2, 1) := by decide +kernel
theorem dX7_song_27 : decode cX7_song 27 = .ok (.iconst 0, 1) := by decide +kernel
theorem dX7_song_28 : decode cX7_song 28 = .ok (.bipush 11, 2) := by decide +kernel
theorem dX7_song_30 : decode cX7_song 30 = .ok (.invokestatic 208, 3) := by decide +kernel
theorem dX7_song_33 : decode cX7_song 33 = .ok (.ifCond .eq 23, 3) := by decide +kernel
theorem dX7_song_36 : decode cX7_song 36 = .ok (.iload_n 3, 1) := by decide +kernel
theorem dX7_song_37 : decode cX7_song 37 = .ok (.iconst 0, 1) := by decide +kernel
theorem dX7_song_38 : decode cX7_song 38 = .ok (.bipush 11, 2) := by decide +kernel
theorem dX7_song_40 : decode cX7_song 40 = .ok (.invokestatic 208, 3) := by decide +kernel
theorem dX7_song_43 : decode cX7_song 43 = .ok (.ifCond .eq 13, 3) := by decide +kernel
theorem dX7_song_46 : decode cX7_song 46 = .ok (.iload 4, 2) := by decide +kernel
theorem dX7_song_48 : decode cX7_song 48 = .ok (.iconst 0, 1) := by decide +kernel
theorem dX7_song_49 : decode cX7_song 49 = .ok (.iconst 3, 1) := by decide +kernel
theorem dX7_song_50 : decode cX7_song 50 = .ok (.invokestatic 208, 3) := by decide +kernel
theorem dX7_song_53 : decode cX7_song 53 = .ok (.ifCond .ne 5, 3) := by decide +kernel
theorem dX7_song_56 : decode cX7_song 56 = .ok (.iconst (-1), 1) := by decide +kernel
theorem dX7_song_57 : decode cX7_song 57 = .ok (.ireturn, 1) := by decide +kernel
theorem dX7_song_58 : decode cX7_song 58 = .ok (.aload_n 0, 1) := by decide +kernel
theorem dX7_song_59 : decode cX7_song 59 = .ok (.getfield 40, 3) := by decide +kernel
theorem dX7_song_62 : decode cX7_song 62 = .ok (.aload_n 0, 1) := by decide +kernel
theorem dX7_song_63 : decode cX7_song 63 = .ok (.getfield 205, 3) := by decide +kernel
theorem dX7_song_66 : decode cX7_song 66 = .ok (.iload_n 1, 1) := by decide +kernel
theorem dX7_song_67 : decode cX7_song 67 = .ok (.iastore, 1) := by decide +kernel
theorem dX7_song_68 : decode cX7_song 68 = .ok (.aload_n 0, 1) := by decide +kernel
theorem dX7_song_69 : decode cX7_song 69 = .ok (.getfield 43, 3) := by decide +kernel
theorem dX7_song_72 : decode cX7_song 72 = .ok (.aload_n 0, 1) := by decide +kernel
theorem dX7_song_73 : decode cX7_song 73 = .ok (.getfield 205, 3) := by decide +kernel
theorem dX7_song_76 : decode cX7_song 76 = .ok (.iload_n 2, 1) := by decide +kernel
theorem dX7_song_77 : decode cX7_song 77 = .ok (.iastore, 1) := by decide +kernel
theorem dX7_song_78 : decode cX7_song 78 = .ok (.aload_n 0, 1) := by decide +kernel
theorem dX7_song_79 : decode cX7_song 79 = .ok (.getfield 46, 3) := by decide +kernel
theorem dX7_song_82 : decode cX7_song 82 = .ok (.aload_n 0, 1) := by decide +kernel
theorem dX7_song_83 : decode cX7_song 83 = .ok (.getfield 205, 3) := by decide +kernel
theorem dX7_song_86 : decode cX7_song 86 = .ok (.iload_n 3, 1) := by decide +kernel
theorem dX7_song_87 : decode cX7_song 87 = .ok (.iastore, 1) := by decide +kernel
theorem dX7_song_88 : decode cX7_song 88 = .ok (.aload_n 0, 1) := by decide +kernel
theorem dX7_song_89 : decode cX7_song 89 = .ok (.getfield 49, 3) := by decide +kernel
theorem dX7_song_92 : decode cX7_song 92 = .ok (.aload_n 0, 1) := by decide +kernel
theorem dX7_song_93 : decode cX7_song 93 = .ok (.getfield 205, 3) := by decide +kernel
theorem dX7_song_96 : decode cX7_song 96 = .ok (.iload 4, 2) := by decide +kernel
theorem dX7_song_98 : decode cX7_song 98 = .ok (.iastore, 1) := by decide +kernel
theorem dX7_song_99 : decode cX7_song 99 = .ok (.aload_n 0, 1) := by decide +kernel
theorem dX7_song_100 : decode cX7_song 100 = .ok (.getfield 67, 3) := by decide +kernel
theorem dX7_song_103 : decode cX7_song 103 = .ok (.aload_n 0, 1) := by decide +kernel
theorem dX7_song_104 : decode cX7_song 104 = .ok (.getfield 205, 3) := by decide +kernel
theorem dX7_song_107 : decode cX7_song 107 = .ok (.iload 5, 2) := by decide +kernel
theorem dX7_song_109 : decode cX7_song 109 = .ok (.bastore, 1) := by decide +kernel
theorem dX7_song_110 : decode cX7_song 110 = .ok (.aload_n 0, 1) := by decide +kernel
theorem dX7_song_111 : decode cX7_song 111 = .ok (.dup, 1) := by decide +kernel
theorem dX7_song_112 : decode cX7_song 112 = .ok (.getfield 205, 3) := by decide +kernel
theorem dX7_song_115 : decode cX7_song 115 = .ok (.iconst 1, 1) := by decide +kernel
theorem dX7_song_116 : decode cX7_song 116 = .ok (.iadd, 1) := by decide +kernel
theorem dX7_song_117 : decode cX7_song 117 = .ok (.putfield 205, 3) := by decide +kernel
theorem dX7_song_120 : decode cX7_song 120 = .ok (.aload_n 0, 1) := by decide +kernel
theorem dX7_song_121 : decode cX7_song 121 = .ok (.getfield 205, 3) := by decide +kernel
theorem dX7_song_124 : decode cX7_song 124 = .ok (.iconst 1, 1) := by decide +kernel
theorem dX7_song_125 : decode cX7_song 125 = .ok (.isub, 1) := by decide +kernel
theorem dX7_song_126 : decode cX7_song 126 = .ok (.ireturn, 1) := by decide +kernel
theorem dX7_heatOf_0 : decode cX7_heatOf 0 = .ok (.bipush 15, 2) := by decide +kernel
theorem dX7_heatOf_2 : decode cX7_heatOf 2 = .ok (.aload_n 0, 1) := by decide +kernel
theorem dX7_heatOf_3 : decode cX7_heatOf 3 = .ok (.getfield 55, 3) := by decide +kernel
theorem dX7_heatOf_6 : decode cX7_heatOf 6 = .ok (.iload_n 1, 1) := by decide +kernel
theorem dX7_heatOf_7 : decode cX7_heatOf 7 = .ok (.iaload, 1) := by decide +kernel
theorem dX7_heatOf_8 : decode cX7_heatOf 8 = .ok (.imul, 1) := by decide +kernel
theorem dX7_heatOf_9 : decode cX7_heatOf 9 = .ok (.istore_n 2, 1) := by decide +kernel
theorem dX7_heatOf_10 : decode cX7_heatOf 10 = .ok (.iconst 0, 1) := by decide +kernel
theorem dX7_heatOf_11 : decode cX7_heatOf 11 = .ok (.istore_n 3, 1) := by decide +kernel
theorem dX7_heatOf_12 : decode cX7_heatOf 12 = .ok (.iload_n 3, 1) := by decide +kernel
theorem dX7_heatOf_13 : decode cX7_heatOf 13 = .ok (.bipush 10, 2) := by decide +kernel
theorem dX7_heatOf_15 : decode cX7_heatOf 15 = .ok (.if_icmp .ge 33, 3) := by decide +kernel
theorem dX7_heatOf_18 : decode cX7_heatOf 18 = .ok (.iload_n 3, 1) := by decide +kernel
theorem dX7_heatOf_19 : decode cX7_heatOf 19 = .ok (.aload_n 0, 1) := by decide +kernel
theorem dX7_heatOf_20 : decode cX7_heatOf 20 = .ok (.getfield 52, 3) := by decide +kernel
theorem dX7_heatOf_23 : decode cX7_heatOf 23 = .ok (.iload_n 1, 1) := by decide +kernel
theorem dX7_heatOf_24 : decode cX7_heatOf 24 = .ok (.iaload, 1) := by decide +kernel
theorem dX7_heatOf_25 : decode cX7_heatOf 25 = .ok (.if_icmp .ge 23, 3) := by decide +kernel
theorem dX7_heatOf_28 : decode cX7_heatOf 28 = .ok (.iload_n 2, 1) := by decide +kernel
theorem dX7_heatOf_29 : decode cX7_heatOf 29 = .ok (.aload_n 0, 1) := by decide +kernel
theorem dX7_heatOf_30 : decode cX7_heatOf 30 = .ok (.getfield 61, 3) := by decide +kernel
theorem dX7_heatOf_33 : decode cX7_heatOf 33 = .ok (.bipush 10, 2) := by decide +kernel
theorem dX7_heatOf_35 : decode cX7_heatOf 35 = .ok (.iload_n 1, 1) := by decide +kernel
theorem dX7_heatOf_36 : decode cX7_heatOf 36 = .ok (.imul, 1) := by decide +kernel
theorem dX7_heatOf_37 : decode cX7_heatOf 37 = .ok (.iload_n 3, 1) := by decide +kernel
theorem dX7_heatOf_38 : decode cX7_heatOf 38 = .ok (.iadd, 1) := by decide +kernel
theorem dX7_heatOf_39 : decode cX7_heatOf 39 = .ok (.iaload, 1) := by decide +kernel
theorem dX7_heatOf_40 : decode cX7_heatOf 40 = .ok (.iadd, 1) := by decide +kernel
theorem dX7_heatOf_41 : decode cX7_heatOf 41 = .ok (.istore_n 2, 1) := by decide +kernel
theorem dX7_heatOf_42 : decode cX7_heatOf 42 = .ok (.iinc 3 1, 3) := by decide +kernel
theorem dX7_heatOf_45 : decode cX7_heatOf 45 = .ok (.goto (-33), 3) := by decide +kernel
theorem dX7_heatOf_48 : decode cX7_heatOf 48 = .ok (.iload_n 2, 1) := by decide +kernel
theorem dX7_heatOf_49 : decode cX7_heatOf 49 = .ok (.ireturn, 1) := by decide +kernel
theorem dX7_vote_0 : decode cX7_vote 0 = .ok (.aload_n 0, 1) := by decide +kernel
theorem dX7_vote_1 : decode cX7_vote 1 = .ok (.iconst 0, 1) := by decide +kernel
theorem dX7_vote_2 : decode cX7_vote 2 = .ok (.putfield 105, 3) := by decide +kernel
theorem dX7_vote_5 : decode cX7_vote 5 = .ok (.aload_n 0, 1) := by decide +kernel
theorem dX7_vote_6 : decode cX7_vote 6 = .ok (.iload_n 1, 1) := by decide +kernel
theorem dX7_vote_7 : decode cX7_vote 7 = .ok (.invokevirtual 212, 3) := by decide +kernel
theorem dX7_vote_10 : decode cX7_vote 10 = .ok (.ifCond .eq 13, 3) := by decide +kernel
theorem dX7_vote_13 : decode cX7_vote 13 = .ok (.iload_n 2, 1) := by decide +kernel
theorem dX7_vote_14 : decode cX7_vote 14 = .ok (.iconst 0, 1) := by decide +kernel
theorem dX7_vote_15 : decode cX7_vote 15 = .ok (.bipush 9, 2) := by decide +kernel
theorem dX7_vote_17 : decode cX7_vote 17 = .ok (.invokestatic 208, 3) := by decide +kernel
theorem dX7_vote_20 : decode cX7_vote 20 = .ok (.ifCond .ne 5, 3) := by decide +kernel
theorem dX7_vote_23 : decode cX7_vote 23 = .ok (.iconst (-1), 1) := by decide +kernel
theorem dX7_vote_24 : decode cX7_vote 24 = .ok (.ireturn, 1) := by decide +kernel
theorem dX7_vote_25 : decode cX7_vote 25 = .ok (.aload_n 0, 1) := by decide +kernel
theorem dX7_vote_26 : decode cX7_vote 26 = .ok (.getfield 61, 3) := by decide +kernel
theorem dX7_vote_29 : decode cX7_vote 29 = .ok (.bipush 10, 2) := by decide +kernel
theorem dX7_vote_31 : decode cX7_vote 31 = .ok (.iload_n 1, 1) := by decide +kernel
theorem dX7_vote_32 : decode cX7_vote 32 = .ok (.imul, 1) := by decide +kernel
theorem dX7_vote_33 : decode cX7_vote 33 = .ok (.aload_n 0, 1) := by decide +kernel
theorem dX7_vote_34 : decode cX7_vote 34 = .ok (.getfield 52, 3) := by decide +kernel
theorem dX7_vote_37 : decode cX7_vote 37 = .ok (.iload_n 1, 1) := by decide +kernel
theorem dX7_vote_38 : decode cX7_vote 38 = .ok (.iaload, 1) := by decide +kernel
theorem dX7_vote_39 : decode cX7_vote 39 = .ok (.bipush 10, 2) := by decide +kernel
theorem dX7_vote_41 : decode cX7_vote 41 = .ok (.irem, 1) := by decide +kernel
theorem dX7_vote_42 : decode cX7_vote 42 = .ok (.iadd, 1) := by decide +kernel
theorem dX7_vote_43 : decode cX7_vote 43 = .ok (.iload_n 2, 1) := by decide +kernel
theorem dX7_vote_44 : decode cX7_vote 44 = .ok (.iastore, 1) := by decide +kernel
theorem dX7_vote_45 : decode cX7_vote 45 = .ok (.aload_n 0, 1) := by decide +kernel
theorem dX7_vote_46 : decode cX7_vote 46 = .ok (.getfield 52, 3) := by decide +kernel
theorem dX7_vote_49 : decode cX7_vote 49 = .ok (.iload_n 1, 1) := by decide +kernel
theorem dX7_vote_50 : decode cX7_vote 50 = .ok (.dup2, 1) := by decide +kernel
theorem dX7_vote_51 : decode cX7_vote 51 = .ok (.iaload, 1) := by decide +kernel
theorem dX7_vote_52 : decode cX7_vote 52 = .ok (.iconst 1, 1) := by decide +kernel
theorem dX7_vote_53 : decode cX7_vote 53 = .ok (.iadd, 1) := by decide +kernel
theorem dX7_vote_54 : decode cX7_vote 54 = .ok (.iastore, 1) := by decide +kernel
theorem dX7_vote_55 : decode cX7_vote 55 = .ok (.aload_n 0, 1) := by decide +kernel
theorem dX7_vote_56 : decode cX7_vote 56 = .ok (.iload_n 1, 1) := by decide +kernel
theorem dX7_vote_57 : decode cX7_vote 57 = .ok (.invokevirtual 215, 3) := by decide +kernel
theorem dX7_vote_60 : decode cX7_vote 60 = .ok (.ireturn, 1) := by decide +kernel
theorem dX7_ask_0 : decode cX7_ask 0 = .ok (.aload_n 0, 1) := by decide +kernel
theorem dX7_ask_1 : decode cX7_ask 1 = .ok (.iconst 0, 1) := by decide +kernel
theorem dX7_ask_2 : decode cX7_ask 2 = .ok (.putfield 105, 3) := by decide +kernel
theorem dX7_ask_5 : decode cX7_ask 5 = .ok (.aload_n 0, 1) := by decide +kernel
theorem dX7_ask_6 : decode cX7_ask 6 = .ok (.iload_n 1, 1) := by decide +kernel
theorem dX7_ask_7 : decode cX7_ask 7 = .ok (.invokevirtual 212, 3) := by decide +kernel
theorem dX7_ask_10 : decode cX7_ask 10 = .ok (.ifCond .eq 14, 3) := by decide +kernel
theorem dX7_ask_13 : decode cX7_ask 13 = .ok (.aload_n 0, 1) := by decide +kernel
theorem dX7_ask_14 : decode cX7_ask 14 = .ok (.getfield 55, 3) := by decide +kernel
theorem dX7_ask_17 : decode cX7_ask 17 = .ok (.iload_n 1, 1) := by decide +kernel
theorem dX7_ask_18 : decode cX7_ask 18 = .ok (.iaload, 1) := by decide +kernel
theorem dX7_ask_19 : decode cX7_ask 19 = .ok (.bipush 20, 2) := by decide +kernel
theorem dX7_ask_21 : decode cX7_ask 21 = .ok (.if_icmp .ne 5, 3) := by decide +kernel
theorem dX7_ask_24 : decode cX7_ask 24 = .ok (.iconst (-1), 1) := by decide +kernel
theorem dX7_ask_25 : decode cX7_ask 25 = .ok (.ireturn, 1) := by decide +kernel
theorem dX7_ask_26 : decode cX7_ask 26 = .ok (.aload_n 0, 1) := by decide +kernel
theorem dX7_ask_27 : decode cX7_ask 27 = .ok (.getfield 55, 3) := by decide +kernel
theorem dX7_ask_30 : decode cX7_ask 30 = .ok (.iload_n 1, 1) := by decide +kernel
theorem dX7_ask_31 : decode cX7_ask 31 = .ok (.dup2, 1) := by decide +kernel
theorem dX7_ask_32 : decode cX7_ask 32 = .ok (.iaload, 1) := by decide +kernel
theorem dX7_ask_33 : decode cX7_ask 33 = .ok (.iconst 1, 1) := by decide +kernel
theorem dX7_ask_34 : decode cX7_ask 34 = .ok (.iadd, 1) := by decide +kernel
theorem dX7_ask_35 : decode cX7_ask 35 = .ok (.iastore, 1) := by decide +kernel
theorem dX7_ask_36 : decode cX7_ask 36 = .ok (.aload_n 0, 1) := by decide +kernel
theorem dX7_ask_37 : decode cX7_ask 37 = .ok (.getfield 55, 3) := by decide +kernel
theorem dX7_ask_40 : decode cX7_ask 40 = .ok (.iload_n 1, 1) := by decide +kernel
theorem dX7_ask_41 : decode cX7_ask 41 = .ok (.iaload, 1) := by decide +kernel
theorem dX7_ask_42 : decode cX7_ask 42 = .ok (.ireturn, 1) := by decide +kernel
theorem dX7_endOf_0 : decode cX7_endOf 0 = .ok (.aload_n 0, 1) := by decide +kernel
theorem dX7_endOf_1 : decode cX7_endOf 1 = .ok (.getfield 74, 3) := by decide +kernel
theorem dX7_endOf_4 : decode cX7_endOf 4 = .ok (.iload_n 1, 1) := by decide +kernel
theorem dX7_endOf_5 : decode cX7_endOf 5 = .ok (.iaload, 1) := by decide +kernel
theorem dX7_endOf_6 : decode cX7_endOf 6 = .ok (.aload_n 0, 1) := by decide +kernel
theorem dX7_endOf_7 : decode cX7_endOf 7 = .ok (.getfield 40, 3) := by decide +kernel
theorem dX7_endOf_10 : decode cX7_endOf 10 = .ok (.aload_n 0, 1) := by decide +kernel
theorem dX7_endOf_11 : decode cX7_endOf 11 = .ok (.getfield 71, 3) := by decide +kernel
theorem dX7_endOf_14 : decode cX7_endOf 14 = .ok (.iload_n 1, 1) := by decide +kernel
theorem dX7_endOf_15 : decode cX7_endOf 15 = .ok (.iaload, 1) := by decide +kernel
theorem dX7_endOf_16 : decode cX7_endOf 16 = .ok (.iaload, 1) := by decide +kernel
theorem dX7_endOf_17 : decode cX7_endOf 17 = .ok (.iadd, 1) := by decide +kernel
theorem dX7_endOf_18 : decode cX7_endOf 18 = .ok (.ireturn, 1) := by decide +kernel
theorem dX7_soundsOf_0 : decode cX7_soundsOf 0 = .ok (.iconst 0, 1) := by decide +kernel
theorem dX7_soundsOf_1 : decode cX7_soundsOf 1 = .ok (.istore_n 2, 1) := by decide +kernel
theorem dX7_soundsOf_2 : decode cX7_soundsOf 2 = .ok (.iconst 0, 1) := by decide +kernel
theorem dX7_soundsOf_3 : decode cX7_soundsOf 3 = .ok (.istore_n 3, 1) := by decide +kernel
theorem dX7_soundsOf_4 : decode cX7_soundsOf 4 = .ok (.iload_n 3, 1) := by decide +kernel
theorem dX7_soundsOf_5 : decode cX7_soundsOf 5 = .ok (.aload_n 0, 1) := by decide +kernel
theorem dX7_soundsOf_6 : decode cX7_soundsOf 6 = .ok (.getfield 218, 3) := by decide +kernel
theorem dX7_soundsOf_9 : decode cX7_soundsOf 9 = .ok (.if_icmp .ge 22, 3) := by decide +kernel
theorem dX7_soundsOf_12 : decode cX7_soundsOf 12 = .ok (.aload_n 0, 1) := by decide +kernel
theorem dX7_soundsOf_13 : decode cX7_soundsOf 13 = .ok (.getfield 71, 3) := by decide +kernel
theorem dX7_soundsOf_16 : decode cX7_soundsOf 16 = .ok (.iload_n 3, 1) := by decide +kernel
theorem dX7_soundsOf_17 : decode cX7_soundsOf 17 = .ok (.iaload, 1) := by decide +kernel
theorem dX7_soundsOf_18 : decode cX7_soundsOf 18 = .ok (.iload_n 1, 1) := by decide +kernel
theorem dX7_soundsOf_19 : decode cX7_soundsOf 19 = .ok (.if_icmp .ne 6, 3) := by decide +kernel
theorem dX7_soundsOf_22 : decode cX7_soundsOf 22 = .ok (.iinc 2 1, 3) := by decide +kernel
theorem dX7_soundsOf_25 : decode cX7_soundsOf 25 = .ok (.iinc 3 1, 3) := by decide +kernel
theorem dX7_soundsOf_28 : decode cX7_soundsOf 28 = .ok (.goto (-24), 3) := by decide +kernel
theorem dX7_soundsOf_31 : decode cX7_soundsOf 31 = .ok (.iload_n 2, 1) := by decide +kernel
theorem dX7_soundsOf_32 : decode cX7_soundsOf 32 = .ok (.ireturn, 1) := by decide +kernel
theorem dX7_ask0_0 : decode cX7_ask0 0 = .ok (.iconst 0, 1) := by decide +kernel
theorem dX7_ask0_1 : decode cX7_ask0 1 = .ok (.istore_n 1, 1) := by decide +kernel
theorem dX7_ask0_2 : decode cX7_ask0 2 = .ok (.iload_n 1, 1) := by decide +kernel
theorem dX7_ask0_3 : decode cX7_ask0 3 = .ok (.aload_n 0, 1) := by decide +kernel
theorem dX7_ask0_4 : decode cX7_ask0 4 = .ok (.getfield 205, 3) := by decide +kernel
theorem dX7_ask0_7 : decode cX7_ask0 7 = .ok (.if_icmp .ge 83, 3) := by decide +kernel
theorem dX7_ask0_10 : decode cX7_ask0 10 = .ok (.aload_n 0, 1) := by decide +kernel
theorem dX7_ask0_11 : decode cX7_ask0 11 = .ok (.getfield 83, 3) := by decide +kernel
theorem dX7_ask0_14 : decode cX7_ask0 14 = .ok (.iload_n 1, 1) := by decide +kernel
theorem dX7_ask0_15 : decode cX7_ask0 15 = .ok (.iconst 0, 1) := by decide +kernel
theorem dX7_ask0_16 : decode cX7_ask0 16 = .ok (.iastore, 1) := by decide +kernel
theorem dX7_ask0_17 : decode cX7_ask0 17 = .ok (.iconst 0, 1) := by decide +kernel
theorem dX7_ask0_18 : decode cX7_ask0 18 = .ok (.istore_n 2, 1) := by decide +kernel
theorem dX7_ask0_19 : decode cX7_ask0 19 = .ok (.iload_n 2, 1) := by decide +kernel
theorem dX7_ask0_20 : decode cX7_ask0 20 = .ok (.aload_n 0, 1) := by decide +kernel
theorem dX7_ask0_21 : decode cX7_ask0 21 = .ok (.getfield 218, 3) := by decide +kernel
theorem dX7_ask0_24 : decode cX7_ask0 24 = .ok (.if_icmp .ge 60, 3) := by decide +kernel
theorem dX7_ask0_27 : decode cX7_ask0 27 = .ok (.aload_n 0, 1) := by decide +kernel
theorem dX7_ask0_28 : decode cX7_ask0 28 = .ok (.getfield 74, 3) := by decide +kernel
theorem dX7_ask0_31 : decode cX7_ask0 31 = .ok (.iload_n 2, 1) := by decide +kernel
theorem dX7_ask0_32 : decode cX7_ask0 32 = .ok (.iaload, 1) := by decide +kernel
theorem dX7_ask0_33 : decode cX7_ask0 33 = .ok (.aload_n 0, 1) := by decide +kernel
theorem dX7_ask0_34 : decode cX7_ask0 34 = .ok (.aload_n 0, 1) := by decide +kernel
theorem dX7_ask0_35 : decode cX7_ask0 35 = .ok (.getfield 71, 3) := by decide +kernel
theorem dX7_ask0_38 : decode cX7_ask0 38 = .ok (.iload_n 2, 1) := by decide +kernel
theorem dX7_ask0_39 : decode cX7_ask0 39 = .ok (.iaload, 1) := by decide +kernel
theorem dX7_ask0_40 : decode cX7_ask0 40 = .ok (.iload_n 1, 1) := by decide +kernel
theorem dX7_ask0_41 : decode cX7_ask0 41 = .ok (.invokevirtual 221, 3) := by decide +kernel
theorem dX7_ask0_44 : decode cX7_ask0 44 = .ok (.iadd, 1) := by decide +kernel
theorem dX7_ask0_45 : decode cX7_ask0 45 = .ok (.aload_n 0, 1) := by decide +kernel
theorem dX7_ask0_46 : decode cX7_ask0 46 = .ok (.getfield 83, 3) := by decide +kernel
theorem dX7_ask0_49 : decode cX7_ask0 49 = .ok (.iload_n 1, 1) := by decide +kernel
theorem dX7_ask0_50 : decode cX7_ask0 50 = .ok (.iaload, 1) := by decide +kernel
theorem dX7_ask0_51 : decode cX7_ask0 51 = .ok (.if_icmp .le 27, 3) := by decide +kernel
theorem dX7_ask0_54 : decode cX7_ask0 54 = .ok (.aload_n 0, 1) := by decide +kernel
theorem dX7_ask0_55 : decode cX7_ask0 55 = .ok (.getfield 83, 3) := by decide +kernel
theorem dX7_ask0_58 : decode cX7_ask0 58 = .ok (.iload_n 1, 1) := by decide +kernel
theorem dX7_ask0_59 : decode cX7_ask0 59 = .ok (.aload_n 0, 1) := by decide +kernel
theorem dX7_ask0_60 : decode cX7_ask0 60 = .ok (.getfield 74, 3) := by decide +kernel
theorem dX7_ask0_63 : decode cX7_ask0 63 = .ok (.iload_n 2, 1) := by decide +kernel
theorem dX7_ask0_64 : decode cX7_ask0 64 = .ok (.iaload, 1) := by decide +kernel
theorem dX7_ask0_65 : decode cX7_ask0 65 = .ok (.aload_n 0, 1) := by decide +kernel
theorem dX7_ask0_66 : decode cX7_ask0 66 = .ok (.aload_n 0, 1) := by decide +kernel
theorem dX7_ask0_67 : decode cX7_ask0 67 = .ok (.getfield 71, 3) := by decide +kernel
theorem dX7_ask0_70 : decode cX7_ask0 70 = .ok (.iload_n 2, 1) := by decide +kernel
theorem dX7_ask0_71 : decode cX7_ask0 71 = .ok (.iaload, 1) := by decide +kernel
theorem dX7_ask0_72 : decode cX7_ask0 72 = .ok (.iload_n 1, 1) := by decide +kernel
theorem dX7_ask0_73 : decode cX7_ask0 73 = .ok (.invokevirtual 221, 3) := by decide +kernel
theorem dX7_ask0_76 : decode cX7_ask0 76 = .ok (.iadd, 1) := by decide +kernel
theorem dX7_ask0_77 : decode cX7_ask0 77 = .ok (.iastore, 1) := by decide +kernel
theorem dX7_ask0_78 : decode cX7_ask0 78 = .ok (.iinc 2 1, 3) := by decide +kernel
theorem dX7_ask0_81 : decode cX7_ask0 81 = .ok (.goto (-62), 3) := by decide +kernel
theorem dX7_ask0_84 : decode cX7_ask0 84 = .ok (.iinc 1 1, 3) := by decide +kernel
theorem dX7_ask0_87 : decode cX7_ask0 87 = .ok (.goto (-85), 3) := by decide +kernel
theorem dX7_ask0_90 : decode cX7_ask0 90 = .ok (.return_, 1) := by decide +kernel
theorem dX7_rests_0 : decode cX7_rests 0 = .ok (.iload_n 1, 1) := by decide +kernel
theorem dX7_rests_1 : decode cX7_rests 1 = .ok (.iload_n 2, 1) := by decide +kernel
theorem dX7_rests_2 : decode cX7_rests 2 = .ok (.if_icmp .ne 12, 3) := by decide +kernel
theorem dX7_rests_5 : decode cX7_rests 5 = .ok (.aload_n 0, 1) := by decide +kernel
theorem dX7_rests_6 : decode cX7_rests 6 = .ok (.getfield 13, 3) := by decide +kernel
theorem dX7_rests_9 : decode cX7_rests 9 = .ok (.iconst 0, 1) := by decide +kernel
theorem dX7_rests_10 : decode cX7_rests 10 = .ok (.iaload, 1) := by decide +kernel
theorem dX7_rests_11 : decode cX7_rests 11 = .ok (.goto 4, 3) := by decide +kernel
theorem dX7_rests_14 : decode cX7_rests 14 = .ok (.iconst 0, 1) := by decide +kernel
theorem dX7_rests_15 : decode cX7_rests 15 = .ok (.istore_n 3, 1) := by decide +kernel
theorem dX7_rests_16 : decode cX7_rests 16 = .ok (.aload_n 0, 1) := by decide +kernel
theorem dX7_rests_17 : decode cX7_rests 17 = .ok (.getfield 43, 3) := by decide +kernel
theorem dX7_rests_20 : decode cX7_rests 20 = .ok (.iload_n 1, 1) := by decide +kernel
theorem dX7_rests_21 : decode cX7_rests 21 = .ok (.iaload, 1) := by decide +kernel
theorem dX7_rests_22 : decode cX7_rests 22 = .ok (.aload_n 0, 1) := by decide +kernel
theorem dX7_rests_23 : decode cX7_rests 23 = .ok (.getfield 43, 3) := by decide +kernel
theorem dX7_rests_26 : decode cX7_rests 26 = .ok (.iload_n 2, 1) := by decide +kernel
theorem dX7_rests_27 : decode cX7_rests 27 = .ok (.iaload, 1) := by decide +kernel
theorem dX7_rests_28 : decode cX7_rests 28 = .ok (.if_icmp .ne 20, 3) := by decide +kernel
theorem dX7_rests_31 : decode cX7_rests 31 = .ok (.aload_n 0, 1) := by decide +kernel
theorem dX7_rests_32 : decode cX7_rests 32 = .ok (.getfield 13, 3) := by decide +kernel
theorem dX7_rests_35 : decode cX7_rests 35 = .ok (.iconst 1, 1) := by decide +kernel
theorem dX7_rests_36 : decode cX7_rests 36 = .ok (.iaload, 1) := by decide +kernel
theorem dX7_rests_37 : decode cX7_rests 37 = .ok (.iload_n 3, 1) := by decide +kernel
theorem dX7_rests_38 : decode cX7_rests 38 = .ok (.if_icmp .le 10, 3) := by decide +kernel
theorem dX7_rests_41 : decode cX7_rests 41 = .ok (.aload_n 0, 1) := by decide +kernel
theorem dX7_rests_42 : decode cX7_rests 42 = .ok (.getfield 13, 3) := by decide +kernel
theorem dX7_rests_45 : decode cX7_rests 45 = .ok (.iconst 1, 1) := by decide +kernel
theorem dX7_rests_46 : decode cX7_rests 46 = .ok (.iaload, 1) := by decide +kernel
theorem dX7_rests_47 : decode cX7_rests 47 = .ok (.istore_n 3, 1) := by decide +kernel
theorem dX7_rests_48 : decode cX7_rests 48 = .ok (.bipush 60, 2) := by decide +kernel
theorem dX7_rests_50 : decode cX7_rests 50 = .ok (.iload_n 3, 1) := by decide +kernel
theorem dX7_rests_51 : decode cX7_rests 51 = .ok (.imul, 1) := by decide +kernel
theorem dX7_rests_52 : decode cX7_rests 52 = .ok (.ireturn, 1) := by decide +kernel
theorem dX7_goWith_0 : decode cX7_goWith 0 = .ok (.aload_n 0, 1) := by decide +kernel
theorem dX7_goWith_1 : decode cX7_goWith 1 = .ok (.getfield 46, 3) := by decide +kernel
theorem dX7_goWith_4 : decode cX7_goWith 4 = .ok (.iload_n 1, 1) := by decide +kernel
theorem dX7_goWith_5 : decode cX7_goWith 5 = .ok (.iaload, 1) := by decide +kernel
theorem dX7_goWith_6 : decode cX7_goWith 6 = .ok (.aload_n 0, 1) := by decide +kernel
theorem dX7_goWith_7 : decode cX7_goWith 7 = .ok (.getfield 46, 3) := by decide +kernel
theorem dX7_goWith_10 : decode cX7_goWith 10 = .ok (.iload_n 2, 1) := by decide +kernel
theorem dX7_goWith_11 : decode cX7_goWith 11 = .ok (.iaload, 1) := by decide +kernel
theorem dX7_goWith_12 : decode cX7_goWith 12 = .ok (.if_icmp .le 19, 3) := by decide +kernel
theorem dX7_goWith_15 : decode cX7_goWith 15 = .ok (.aload_n 0, 1) := by decide +kernel
theorem dX7_goWith_16 : decode cX7_goWith 16 = .ok (.getfield 46, 3) := by decide +kernel
theorem dX7_goWith_19 : decode cX7_goWith 19 = .ok (.iload_n 1, 1) := by decide +kernel
theorem dX7_goWith_20 : decode cX7_goWith 20 = .ok (.iaload, 1) := by decide +kernel
theorem dX7_goWith_21 : decode cX7_goWith 21 = .ok (.aload_n 0, 1) := by decide +kernel
theorem dX7_goWith_22 : decode cX7_goWith 22 = .ok (.getfield 46, 3) := by decide +kernel
theorem dX7_goWith_25 : decode cX7_goWith 25 = .ok (.iload_n 2, 1) := by decide +kernel
theorem dX7_goWith_26 : decode cX7_goWith 26 = .ok (.iaload, 1) := by decide +kernel
theorem dX7_goWith_27 : decode cX7_goWith 27 = .ok (.isub, 1) := by decide +kernel
theorem dX7_goWith_28 : decode cX7_goWith 28 = .ok (.goto 16, 3) := by decide +kernel
theorem dX7_goWith_31 : decode cX7_goWith 31 = .ok (.aload_n 0, 1) := by decide +kernel
theorem dX7_goWith_32 : decode cX7_goWith 32 = .ok (.getfield 46, 3) := by decide +kernel
theorem dX7_goWith_35 : decode cX7_goWith 35 = .ok (.iload_n 2, 1) := by decide +kernel
theorem dX7_goWith_36 : decode cX7_goWith 36 = .ok (.iaload, 1) := by decide +kernel
theorem dX7_goWith_37 : decode cX7_goWith 37 = .ok (.aload_n 0, 1) := by decide +kernel
theorem dX7_goWith_38 : decode cX7_goWith 38 = .ok (.getfield 46, 3) := by decide +kernel
theorem dX7_goWith_41 : decode cX7_goWith 41 = .ok (.iload_n 1, 1) := by decide +kernel
theorem dX7_goWith_42 : decode cX7_goWith 42 = .ok (.iaload, 1) := by decide +kernel
theorem dX7_goWith_43 : decode cX7_goWith 43 = .ok (.isub, 1) := by decide +kernel
theorem dX7_goWith_44 : decode cX7_goWith 44 = .ok (.istore_n 3, 1) := by decide +kernel
theorem dX7_goWith_45 : decode cX7_goWith 45 = .ok (.iload_n 3, 1) := by decide +kernel
theorem dX7_goWith_46 : decode cX7_goWith 46 = .ok (.bipush 6, 2) := by decide +kernel
theorem dX7_goWith_48 : decode cX7_goWith 48 = .ok (.if_icmp .le 10, 3) := by decide +kernel
theorem dX7_goWith_51 : decode cX7_goWith 51 = .ok (.bipush 12, 2) := by decide +kernel
theorem dX7_goWith_53 : decode cX7_goWith 53 = .ok (.iload_n 3, 1) := by decide +kernel
theorem dX7_goWith_54 : decode cX7_goWith 54 = .ok (.isub, 1) := by decide +kernel
theorem dX7_goWith_55 : decode cX7_goWith 55 = .ok (.goto 4, 3) := by decide +kernel
theorem dX7_goWith_58 : decode cX7_goWith 58 = .ok (.iload_n 3, 1) := by decide +kernel
theorem dX7_goWith_59 : decode cX7_goWith 59 = .ok (.aload_n 0, 1) := by decide +kernel
theorem dX7_goWith_60 : decode cX7_goWith 60 = .ok (.getfield 13, 3) := by decide +kernel
theorem dX7_goWith_63 : decode cX7_goWith 63 = .ok (.iconst 2, 1) := by decide +kernel
theorem dX7_goWith_64 : decode cX7_goWith 64 = .ok (.iaload, 1) := by decide +kernel
theorem dX7_goWith_65 : decode cX7_goWith 65 = .ok (.if_icmp .gt 7, 3) := by decide +kernel
theorem dX7_goWith_68 : decode cX7_goWith 68 = .ok (.iconst 1, 1) := by decide +kernel
theorem dX7_goWith_69 : decode cX7_goWith 69 = .ok (.goto 4, 3) := by decide +kernel
theorem dX7_goWith_72 : decode cX7_goWith 72 = .ok (.iconst 0, 1) := by decide +kernel
theorem dX7_goWith_73 : decode cX7_goWith 73 = .ok (.ireturn, 1) := by decide +kernel
theorem dX7_judge_0 : decode cX7_judge 0 = .ok (.iload 4, 2) := by decide +kernel
theorem dX7_judge_2 : decode cX7_judge 2 = .ok (.iload 5, 2) := by decide +kernel
theorem dX7_judge_4 : decode cX7_judge 4 = .ok (.isub, 1) := by decide +kernel
theorem dX7_judge_5 : decode cX7_judge 5 = .ok (.istore 7, 2) := by decide +kernel
theorem dX7_judge_7 : decode cX7_judge 7 = .ok (.aload_n 0, 1) := by decide +kernel
theorem dX7_judge_8 : decode cX7_judge 8 = .ok (.getfield 64, 3) := by decide +kernel
theorem dX7_judge_11 : decode cX7_judge 11 = .ok (.iload_n 3, 1) := by decide +kernel
theorem dX7_judge_12 : decode cX7_judge 12 = .ok (.iaload, 1) := by decide +kernel
theorem dX7_judge_13 : decode cX7_judge 13 = .ok (.istore 8, 2) := by decide +kernel
theorem dX7_judge_15 : decode cX7_judge 15 = .ok (.aload_n 0, 1) := by decide +kernel
theorem dX7_judge_16 : decode cX7_judge 16 = .ok (.getfield 67, 3) := by decide +kernel
theorem dX7_judge_19 : decode cX7_judge 19 = .ok (.iload_n 3, 1) := by decide +kernel
theorem dX7_judge_20 : decode cX7_judge 20 = .ok (.baload, 1) := by decide +kernel
theorem dX7_judge_21 : decode cX7_judge 21 = .ok (.ifCond .eq 7, 3) := by decide +kernel
theorem dX7_judge_24 : decode cX7_judge 24 = .ok (.iconst 1, 1) := by decide +kernel
theorem dX7_judge_25 : decode cX7_judge 25 = .ok (.goto 4, 3) := by decide +kernel
theorem dX7_judge_28 : decode cX7_judge 28 = .ok (.iconst 0, 1) := by decide +kernel
theorem dX7_judge_29 : decode cX7_judge 29 = .ok (.istore 9, 2) := by decide +kernel
theorem dX7_judge_31 : decode cX7_judge 31 = .ok (.iconst 0, 1) := by decide +kernel
theorem dX7_judge_32 : decode cX7_judge 32 = .ok (.istore 10, 2) := by decide +kernel
theorem dX7_judge_34 : decode cX7_judge 34 = .ok (.iload 10, 2) := by decide +kernel
theorem dX7_judge_36 : decode cX7_judge 36 = .ok (.iload_n 2, 1) := by decide +kernel
theorem dX7_judge_37 : decode cX7_judge 37 = .ok (.if_icmp .ge 52, 3) := by decide +kernel
theorem dX7_judge_40 : decode cX7_judge 40 = .ok (.iload 8, 2) := by decide +kernel
theorem dX7_judge_42 : decode cX7_judge 42 = .ok (.aload_n 0, 1) := by decide +kernel
theorem dX7_judge_43 : decode cX7_judge 43 = .ok (.getfield 64, 3) := by decide +kernel
theorem dX7_judge_46 : decode cX7_judge 46 = .ok (.aload_n 0, 1) := by decide +kernel
theorem dX7_judge_47 : decode cX7_judge 47 = .ok (.getfield 87, 3) := by decide +kernel
theorem dX7_judge_50 : decode cX7_judge 50 = .ok (.iconst 4, 1) := by decide +kernel
theorem dX7_judge_51 : decode cX7_judge 51 = .ok (.iload_n 1, 1) := by decide +kernel
theorem dX7_judge_52 : decode cX7_judge 52 = .ok (.imul, 1) := by decide +kernel
theorem dX7_judge_53 : decode cX7_judge 53 = .ok (.iload 10, 2) := by decide +kernel
theorem dX7_judge_55 : decode cX7_judge 55 = .ok (.iadd, 1) := by decide +kernel
theorem dX7_judge_56 : decode cX7_judge 56 = .ok (.iaload, 1) := by decide +kernel
theorem dX7_judge_57 : decode cX7_judge 57 = .ok (.iaload, 1) := by decide +kernel
theorem dX7_judge_58 : decode cX7_judge 58 = .ok (.iadd, 1) := by decide +kernel
theorem dX7_judge_59 : decode cX7_judge 59 = .ok (.istore 8, 2) := by decide +kernel
theorem dX7_judge_61 : decode cX7_judge 61 = .ok (.aload_n 0, 1) := by decide +kernel
theorem dX7_judge_62 : decode cX7_judge 62 = .ok (.getfield 67, 3) := by decide +kernel
theorem dX7_judge_65 : decode cX7_judge 65 = .ok (.aload_n 0, 1) := by decide +kernel
theorem dX7_judge_66 : decode cX7_judge 66 = .ok (.getfield 87, 3) := by decide +kernel
theorem dX7_judge_69 : decode cX7_judge 69 = .ok (.iconst 4, 1) := by decide +kernel
theorem dX7_judge_70 : decode cX7_judge 70 = .ok (.iload_n 1, 1) := by decide +kernel
theorem dX7_judge_71 : decode cX7_judge 71 = .ok (.imul, 1) := by decide +kernel
theorem dX7_judge_72 : decode cX7_judge 72 = .ok (.iload 10, 2) := by decide +kernel
theorem dX7_judge_74 : decode cX7_judge 74 = .ok (.iadd, 1) := by decide +kernel
theorem dX7_judge_75 : decode cX7_judge 75 = .ok (.iaload, 1) := by decide +kernel
theorem dX7_judge_76 : decode cX7_judge 76 = .ok (.baload, 1) := by decide +kernel
theorem dX7_judge_77 : decode cX7_judge 77 = .ok (.ifCond .eq 6, 3) := by decide +kernel
theorem dX7_judge_80 : decode cX7_judge 80 = .ok (.iinc 9 1, 3) := by decide +kernel
theorem dX7_judge_83 : decode cX7_judge 83 = .ok (.iinc 10 1, 3) := by decide +kernel
theorem dX7_judge_86 : decode cX7_judge 86 = .ok (.goto (-52), 3) := by decide +kernel
theorem dX7_judge_89 : decode cX7_judge 89 = .ok (.iload 7, 2) := by decide +kernel
theorem dX7_judge_91 : decode cX7_judge 91 = .ok (.aload_n 0, 1) := by decide +kernel
theorem dX7_judge_92 : decode cX7_judge 92 = .ok (.getfield 13, 3) := by decide +kernel
theorem dX7_judge_95 : decode cX7_judge 95 = .ok (.iconst 3, 1) := by decide +kernel
theorem dX7_judge_96 : decode cX7_judge 96 = .ok (.iaload, 1) := by decide +kernel
theorem dX7_judge_97 : decode cX7_judge 97 = .ok (.if_icmp .gt 10, 3) := by decide +kernel
theorem dX7_judge_100 : decode cX7_judge 100 = .ok (.iload 9, 2) := by decide +kernel
theorem dX7_judge_102 : decode cX7_judge 102 = .ok (.iload 6, 2) := by decide +kernel
theorem dX7_judge_104 : decode cX7_judge 104 = .ok (.if_icmp .ge 4, 3) := by decide +kernel
theorem dX7_judge_107 : decode cX7_judge 107 = .ok (.return_, 1) := by decide +kernel
theorem dX7_judge_108 : decode cX7_judge 108 = .ok (.aload_n 0, 1) := by decide +kernel
theorem dX7_judge_109 : decode cX7_judge 109 = .ok (.getfield 225, 3) := by decide +kernel
theorem dX7_judge_112 : decode cX7_judge 112 = .ok (.ifCond .le 50, 3) := by decide +kernel
theorem dX7_judge_115 : decode cX7_judge 115 = .ok (.iload 7, 2) := by decide +kernel
theorem dX7_judge_117 : decode cX7_judge 117 = .ok (.aload_n 0, 1) := by decide +kernel
theorem dX7_judge_118 : decode cX7_judge 118 = .ok (.getfield 228, 3) := by decide +kernel
theorem dX7_judge_121 : decode cX7_judge 121 = .ok (.if_icmp .gt 40, 3) := by decide +kernel
theorem dX7_judge_124 : decode cX7_judge 124 = .ok (.iload 7, 2) := by decide +kernel
theorem dX7_judge_126 : decode cX7_judge 126 = .ok (.aload_n 0, 1) := by decide +kernel
theorem dX7_judge_127 : decode cX7_judge 127 = .ok (.getfield 228, 3) := by decide +kernel
theorem dX7_judge_130 : decode cX7_judge 130 = .ok (.if_icmp .ne 32, 3) := by decide +kernel
theorem dX7_judge_133 : decode cX7_judge 133 = .ok (.iload 8, 2) := by decide +kernel
theorem dX7_judge_135 : decode cX7_judge 135 = .ok (.aload_n 0, 1) := by decide +kernel
theorem dX7_judge_136 : decode cX7_judge 136 = .ok (.getfield 231, 3) := by decide +kernel
theorem dX7_judge_139 : decode cX7_judge 139 = .ok (.if_icmp .lt 22, 3) := by decide +kernel
theorem dX7_judge_142 : decode cX7_judge 142 = .ok (.iload 8, 2) := by decide +kernel
theorem dX7_judge_144 : decode cX7_judge 144 = .ok (.aload_n 0, 1) := by decide +kernel
theorem dX7_judge_145 : decode cX7_judge 145 = .ok (.getfield 231, 3) := by decide +kernel
theorem dX7_judge_148 : decode cX7_judge 148 = .ok (.if_icmp .ne 14, 3) := by decide +kernel
theorem dX7_judge_151 : decode cX7_judge 151 = .ok (.aload_n 0, 1) := by decide +kernel
theorem dX7_judge_152 : decode cX7_judge 152 = .ok (.iload_n 1, 1) := by decide +kernel
theorem dX7_judge_153 : decode cX7_judge 153 = .ok (.iload_n 2, 1) := by decide +kernel
theorem dX7_judge_154 : decode cX7_judge 154 = .ok (.iload_n 3, 1) := by decide +kernel
theorem dX7_judge_155 : decode cX7_judge 155 = .ok (.invokevirtual 234, 3) := by decide +kernel
theorem dX7_judge_158 : decode cX7_judge 158 = .ok (.ifCond .ne 4, 3) := by decide +kernel
theorem dX7_judge_161 : decode cX7_judge 161 = .ok (.return_, 1) := by decide +kernel
theorem dX7_judge_162 : decode cX7_judge 162 = .ok (.iconst 0, 1) := by decide +kernel
theorem dX7_judge_163 : decode cX7_judge 163 = .ok (.istore 10, 2) := by decide +kernel
theorem dX7_judge_165 : decode cX7_judge 165 = .ok (.iload 10, 2) := by decide +kernel
theorem dX7_judge_167 : decode cX7_judge 167 = .ok (.iload_n 2, 1) := by decide +kernel
theorem dX7_judge_168 : decode cX7_judge 168 = .ok (.if_icmp .ge 27, 3) := by decide +kernel
theorem dX7_judge_171 : decode cX7_judge 171 = .ok (.aload_n 0, 1) := by decide +kernel
theorem dX7_judge_172 : decode cX7_judge 172 = .ok (.getfield 99, 3) := by decide +kernel
theorem dX7_judge_175 : decode cX7_judge 175 = .ok (.iload 10, 2) := by decide +kernel
theorem dX7_judge_177 : decode cX7_judge 177 = .ok (.aload_n 0, 1) := by decide +kernel
theorem dX7_judge_178 : decode cX7_judge 178 = .ok (.getfield 87, 3) := by decide +kernel
theorem dX7_judge_181 : decode cX7_judge 181 = .ok (.iconst 4, 1) := by decide +kernel
theorem dX7_judge_182 : decode cX7_judge 182 = .ok (.iload_n 1, 1) := by decide +kernel
theorem dX7_judge_183 : decode cX7_judge 183 = .ok (.imul, 1) := by decide +kernel
theorem dX7_judge_184 : decode cX7_judge 184 = .ok (.iload 10, 2) := by decide +kernel
theorem dX7_judge_186 : decode cX7_judge 186 = .ok (.iadd, 1) := by decide +kernel
theorem dX7_judge_187 : decode cX7_judge 187 = .ok (.iaload, 1) := by decide +kernel
theorem dX7_judge_188 : decode cX7_judge 188 = .ok (.iastore, 1) := by decide +kernel
theorem dX7_judge_189 : decode cX7_judge 189 = .ok (.iinc 10 1, 3) := by decide +kernel
theorem dX7_judge_192 : decode cX7_judge 192 = .ok (.goto (-27), 3) := by decide +kernel
theorem dX7_judge_195 : decode cX7_judge 195 = .ok (.aload_n 0, 1) := by decide +kernel
theorem dX7_judge_196 : decode cX7_judge 196 = .ok (.getfield 99, 3) := by decide +kernel
theorem dX7_judge_199 : decode cX7_judge 199 = .ok (.iload_n 2, 1) := by decide +kernel
theorem dX7_judge_200 : decode cX7_judge 200 = .ok (.iload_n 3, 1) := by decide +kernel
theorem dX7_judge_201 : decode cX7_judge 201 = .ok (.iastore, 1) := by decide +kernel
theorem dX7_judge_202 : decode cX7_judge 202 = .ok (.aload_n 0, 1) := by decide +kernel
theorem dX7_judge_203 : decode cX7_judge 203 = .ok (.iload_n 2, 1) := by decide +kernel
theorem dX7_judge_204 : decode cX7_judge 204 = .ok (.iconst 1, 1) := by decide +kernel
theorem dX7_judge_205 : decode cX7_judge 205 = .ok (.iadd, 1) := by decide +kernel
theorem dX7_judge_206 : decode cX7_judge 206 = .ok (.putfield 225, 3) := by decide +kernel
theorem dX7_judge_209 : decode cX7_judge 209 = .ok (.aload_n 0, 1) := by decide +kernel
theorem dX7_judge_210 : decode cX7_judge 210 = .ok (.iload 7, 2) := by decide +kernel
theorem dX7_judge_212 : decode cX7_judge 212 = .ok (.putfield 228, 3) := by decide +kernel
theorem dX7_judge_215 : decode cX7_judge 215 = .ok (.aload_n 0, 1) := by decide +kernel
theorem dX7_judge_216 : decode cX7_judge 216 = .ok (.iload 8, 2) := by decide +kernel
theorem dX7_judge_218 : decode cX7_judge 218 = .ok (.putfield 231, 3) := by decide +kernel
theorem dX7_judge_221 : decode cX7_judge 221 = .ok (.return_, 1) := by decide +kernel
theorem dX7_comesAhead_0 : decode cX7_comesAhead 0 = .ok (.iconst 0, 1) := by decide +kernel
theorem dX7_comesAhead_1 : decode cX7_comesAhead 1 = .ok (.istore 4, 2) := by decide +kernel
theorem dX7_comesAhead_3 : decode cX7_comesAhead 3 = .ok (.iload 4, 2) := by decide +kernel
theorem dX7_comesAhead_5 : decode cX7_comesAhead 5 = .ok (.iload_n 2, 1) := by decide +kernel
theorem dX7_comesAhead_6 : decode cX7_comesAhead 6 = .ok (.if_icmp .gt 71, 3) := by decide +kernel
theorem dX7_comesAhead_9 : decode cX7_comesAhead 9 = .ok (.iload 4, 2) := by decide +kernel
theorem dX7_comesAhead_11 : decode cX7_comesAhead 11 = .ok (.aload_n 0, 1) := by decide +kernel
theorem dX7_comesAhead_12 : decode cX7_comesAhead 12 = .ok (.getfield 225, 3) := by decide +kernel
theorem dX7_comesAhead_15 : decode cX7_comesAhead 15 = .ok (.if_icmp .ge 62, 3) := by decide +kernel
theorem dX7_comesAhead_18 : decode cX7_comesAhead 18 = .ok (.iload 4, 2) := by decide +kernel
theorem dX7_comesAhead_20 : decode cX7_comesAhead 20 = .ok (.iload_n 2, 1) := by decide +kernel
theorem dX7_comesAhead_21 : decode cX7_comesAhead 21 = .ok (.if_icmp .ge 17, 3) := by decide +kernel
theorem dX7_comesAhead_24 : decode cX7_comesAhead 24 = .ok (.aload_n 0, 1) := by decide +kernel
theorem dX7_comesAhead_25 : decode cX7_comesAhead 25 = .ok (.getfield 87, 3) := by decide +kernel
theorem dX7_comesAhead_28 : decode cX7_comesAhead 28 = .ok (.iconst 4, 1) := by decide +kernel
theorem dX7_comesAhead_29 : decode cX7_comesAhead 29 = .ok (.iload_n 1, 1) := by decide +kernel
theorem dX7_comesAhead_30 : decode cX7_comesAhead 30 = .ok (.imul, 1) := by decide +kernel
theorem dX7_comesAhead_31 : decode cX7_comesAhead 31 = .ok (.iload 4, 2) := by decide +kernel
theorem dX7_comesAhead_33 : decode cX7_comesAhead 33 = .ok (.iadd, 1) := by decide +kernel
theorem dX7_comesAhead_34 : decode cX7_comesAhead 34 = .ok (.iaload, 1) := by decide +kernel
theorem dX7_comesAhead_35 : decode cX7_comesAhead 35 = .ok (.goto 4, 3) := by decide +kernel
theorem dX7_comesAhead_38 : decode cX7_comesAhead 38 = .ok (.iload_n 3, 1) := by decide +kernel
theorem dX7_comesAhead_39 : decode cX7_comesAhead 39 = .ok (.istore 5, 2) := by decide +kernel
theorem dX7_comesAhead_41 : decode cX7_comesAhead 41 = .ok (.iload 5, 2) := by decide +kernel
theorem dX7_comesAhead_43 : decode cX7_comesAhead 43 = .ok (.aload_n 0, 1) := by decide +kernel
theorem dX7_comesAhead_44 : decode cX7_comesAhead 44 = .ok (.getfield 99, 3) := by decide +kernel
theorem dX7_comesAhead_47 : decode cX7_comesAhead 47 = .ok (.iload 4, 2) := by decide +kernel
theorem dX7_comesAhead_49 : decode cX7_comesAhead 49 = .ok (.iaload, 1) := by decide +kernel
theorem dX7_comesAhead_50 : decode cX7_comesAhead 50 = .ok (.if_icmp .eq 21, 3) := by decide +kernel
theorem dX7_comesAhead_53 : decode cX7_comesAhead 53 = .ok (.iload 5, 2) := by decide +kernel
theorem dX7_comesAhead_55 : decode cX7_comesAhead 55 = .ok (.aload_n 0, 1) := by decide +kernel
theorem dX7_comesAhead_56 : decode cX7_comesAhead 56 = .ok (.getfield 99, 3) := by decide +kernel
theorem dX7_comesAhead_59 : decode cX7_comesAhead 59 = .ok (.iload 4, 2) := by decide +kernel
theorem dX7_comesAhead_61 : decode cX7_comesAhead 61 = .ok (.iaload, 1) := by decide +kernel
theorem dX7_comesAhead_62 : decode cX7_comesAhead 62 = .ok (.if_icmp .ge 7, 3) := by decide +kernel
theorem dX7_comesAhead_65 : decode cX7_comesAhead 65 = .ok (.iconst 1, 1) := by decide +kernel
theorem dX7_comesAhead_66 : decode cX7_comesAhead 66 = .ok (.goto 4, 3) := by decide +kernel
theorem dX7_comesAhead_69 : decode cX7_comesAhead 69 = .ok (.iconst 0, 1) := by decide +kernel
theorem dX7_comesAhead_70 : decode cX7_comesAhead 70 = .ok (.ireturn, 1) := by decide +kernel
theorem dX7_comesAhead_71 : decode cX7_comesAhead 71 = .ok (.iinc 4 1, 3) := by decide +kernel
theorem dX7_comesAhead_74 : decode cX7_comesAhead 74 = .ok (.goto (-71), 3) := by decide +kernel
theorem dX7_comesAhead_77 : decode cX7_comesAhead 77 = .ok (.iload_n 2, 1) := by decide +kernel
theorem dX7_comesAhead_78 : decode cX7_comesAhead 78 = .ok (.iconst 1, 1) := by decide +kernel
theorem dX7_comesAhead_79 : decode cX7_comesAhead 79 = .ok (.iadd, 1) := by decide +kernel
theorem dX7_comesAhead_80 : decode cX7_comesAhead 80 = .ok (.aload_n 0, 1) := by decide +kernel
theorem dX7_comesAhead_81 : decode cX7_comesAhead 81 = .ok (.getfield 225, 3) := by decide +kernel
theorem dX7_comesAhead_84 : decode cX7_comesAhead 84 = .ok (.if_icmp .ge 7, 3) := by decide +kernel
theorem dX7_comesAhead_87 : decode cX7_comesAhead 87 = .ok (.iconst 1, 1) := by decide +kernel
theorem dX7_comesAhead_88 : decode cX7_comesAhead 88 = .ok (.goto 4, 3) := by decide +kernel
theorem dX7_comesAhead_91 : decode cX7_comesAhead 91 = .ok (.iconst 0, 1) := by decide +kernel
theorem dX7_comesAhead_92 : decode cX7_comesAhead 92 = .ok (.ireturn, 1) := by decide +kernel
theorem dX7_fits_0 : decode cX7_fits 0 = .ok (.iload_n 3, 1) := by decide +kernel
theorem dX7_fits_1 : decode cX7_fits 1 = .ok (.istore 6, 2) := by decide +kernel
theorem dX7_fits_3 : decode cX7_fits 3 = .ok (.iconst 0, 1) := by decide +kernel
theorem dX7_fits_4 : decode cX7_fits 4 = .ok (.istore 7, 2) := by decide +kernel
theorem dX7_fits_6 : decode cX7_fits 6 = .ok (.iload 7, 2) := by decide +kernel
theorem dX7_fits_8 : decode cX7_fits 8 = .ok (.iload_n 2, 1) := by decide +kernel
theorem dX7_fits_9 : decode cX7_fits 9 = .ok (.if_icmp .ge 52, 3) := by decide +kernel
theorem dX7_fits_12 : decode cX7_fits 12 = .ok (.aload_n 0, 1) := by decide +kernel
theorem dX7_fits_13 : decode cX7_fits 13 = .ok (.getfield 87, 3) := by decide +kernel
theorem dX7_fits_16 : decode cX7_fits 16 = .ok (.iconst 4, 1) := by decide +kernel
theorem dX7_fits_17 : decode cX7_fits 17 = .ok (.iload_n 1, 1) := by decide +kernel
theorem dX7_fits_18 : decode cX7_fits 18 = .ok (.imul, 1) := by decide +kernel
theorem dX7_fits_19 : decode cX7_fits 19 = .ok (.iload 7, 2) := by decide +kernel
theorem dX7_fits_21 : decode cX7_fits 21 = .ok (.iadd, 1) := by decide +kernel
theorem dX7_fits_22 : decode cX7_fits 22 = .ok (.iaload, 1) := by decide +kernel
theorem dX7_fits_23 : decode cX7_fits 23 = .ok (.istore 8, 2) := by decide +kernel
theorem dX7_fits_25 : decode cX7_fits 25 = .ok (.iload 5, 2) := by decide +kernel
theorem dX7_fits_27 : decode cX7_fits 27 = .ok (.iload 6, 2) := by decide +kernel
theorem dX7_fits_29 : decode cX7_fits 29 = .ok (.isub, 1) := by decide +kernel
theorem dX7_fits_30 : decode cX7_fits 30 = .ok (.aload_n 0, 1) := by decide +kernel
theorem dX7_fits_31 : decode cX7_fits 31 = .ok (.iload 8, 2) := by decide +kernel
theorem dX7_fits_33 : decode cX7_fits 33 = .ok (.iload 4, 2) := by decide +kernel
theorem dX7_fits_35 : decode cX7_fits 35 = .ok (.invokevirtual 221, 3) := by decide +kernel
theorem dX7_fits_38 : decode cX7_fits 38 = .ok (.if_icmp .ge 5, 3) := by decide +kernel
theorem dX7_fits_41 : decode cX7_fits 41 = .ok (.iconst 0, 1) := by decide +kernel
theorem dX7_fits_42 : decode cX7_fits 42 = .ok (.ireturn, 1) := by decide +kernel
theorem dX7_fits_43 : decode cX7_fits 43 = .ok (.iload 6, 2) := by decide +kernel
theorem dX7_fits_45 : decode cX7_fits 45 = .ok (.aload_n 0, 1) := by decide +kernel
theorem dX7_fits_46 : decode cX7_fits 46 = .ok (.getfield 40, 3) := by decide +kernel
theorem dX7_fits_49 : decode cX7_fits 49 = .ok (.iload 8, 2) := by decide +kernel
theorem dX7_fits_51 : decode cX7_fits 51 = .ok (.iaload, 1) := by decide +kernel
theorem dX7_fits_52 : decode cX7_fits 52 = .ok (.iadd, 1) := by decide +kernel
theorem dX7_fits_53 : decode cX7_fits 53 = .ok (.istore 6, 2) := by decide +kernel
theorem dX7_fits_55 : decode cX7_fits 55 = .ok (.iinc 7 1, 3) := by decide +kernel
theorem dX7_fits_58 : decode cX7_fits 58 = .ok (.goto (-52), 3) := by decide +kernel
theorem dX7_fits_61 : decode cX7_fits 61 = .ok (.iload_n 2, 1) := by decide +kernel
theorem dX7_fits_62 : decode cX7_fits 62 = .ok (.ifCond .ne 52, 3) := by decide +kernel
theorem dX7_fits_65 : decode cX7_fits 65 = .ok (.aload_n 0, 1) := by decide +kernel
theorem dX7_fits_66 : decode cX7_fits 66 = .ok (.getfield 218, 3) := by decide +kernel
theorem dX7_fits_69 : decode cX7_fits 69 = .ok (.ifCond .eq 37, 3) := by decide +kernel
theorem dX7_fits_72 : decode cX7_fits 72 = .ok (.aload_n 0, 1) := by decide +kernel
theorem dX7_fits_73 : decode cX7_fits 73 = .ok (.aload_n 0, 1) := by decide +kernel
theorem dX7_fits_74 : decode cX7_fits 74 = .ok (.getfield 218, 3) := by decide +kernel
theorem dX7_fits_77 : decode cX7_fits 77 = .ok (.iconst 1, 1) := by decide +kernel
theorem dX7_fits_78 : decode cX7_fits 78 = .ok (.isub, 1) := by decide +kernel
theorem dX7_fits_79 : decode cX7_fits 79 = .ok (.invokevirtual 237, 3) := by decide +kernel
theorem dX7_fits_82 : decode cX7_fits 82 = .ok (.iload_n 3, 1) := by decide +kernel
theorem dX7_fits_83 : decode cX7_fits 83 = .ok (.if_icmp .ne 23, 3) := by decide +kernel
theorem dX7_fits_86 : decode cX7_fits 86 = .ok (.aload_n 0, 1) := by decide +kernel
theorem dX7_fits_87 : decode cX7_fits 87 = .ok (.aload_n 0, 1) := by decide +kernel
theorem dX7_fits_88 : decode cX7_fits 88 = .ok (.getfield 71, 3) := by decide +kernel
theorem dX7_fits_91 : decode cX7_fits 91 = .ok (.aload_n 0, 1) := by decide +kernel
theorem dX7_fits_92 : decode cX7_fits 92 = .ok (.getfield 218, 3) := by decide +kernel
theorem dX7_fits_95 : decode cX7_fits 95 = .ok (.iconst 1, 1) := by decide +kernel
theorem dX7_fits_96 : decode cX7_fits 96 = .ok (.isub, 1) := by decide +kernel
theorem dX7_fits_97 : decode cX7_fits 97 = .ok (.iaload, 1) := by decide +kernel
theorem dX7_fits_98 : decode cX7_fits 98 = .ok (.iload 4, 2) := by decide +kernel
theorem dX7_fits_100 : decode cX7_fits 100 = .ok (.invokevirtual 240, 3) := by decide +kernel
theorem dX7_fits_103 : decode cX7_fits 103 = .ok (.ifCond .eq 7, 3) := by decide +kernel
theorem dX7_fits_106 : decode cX7_fits 106 = .ok (.iconst 1, 1) := by decide +kernel
theorem dX7_fits_107 : decode cX7_fits 107 = .ok (.goto 25, 3) := by decide +kernel
theorem dX7_fits_110 : decode cX7_fits 110 = .ok (.iconst 0, 1) := by decide +kernel
theorem dX7_fits_111 : decode cX7_fits 111 = .ok (.goto 21, 3) := by decide +kernel
theorem dX7_fits_114 : decode cX7_fits 114 = .ok (.aload_n 0, 1) := by decide +kernel
theorem dX7_fits_115 : decode cX7_fits 115 = .ok (.aload_n 0, 1) := by decide +kernel
theorem dX7_fits_116 : decode cX7_fits 116 = .ok (.getfield 87, 3) := by decide +kernel
theorem dX7_fits_119 : decode cX7_fits 119 = .ok (.iconst 4, 1) := by decide +kernel
theorem dX7_fits_120 : decode cX7_fits 120 = .ok (.iload_n 1, 1) := by decide +kernel
theorem dX7_fits_121 : decode cX7_fits 121 = .ok (.imul, 1) := by decide +kernel
theorem dX7_fits_122 : decode cX7_fits 122 = .ok (.iload_n 2, 1) := by decide +kernel
theorem dX7_fits_123 : decode cX7_fits 123 = .ok (.iadd, 1) := by decide +kernel
theorem dX7_fits_124 : decode cX7_fits 124 = .ok (.iconst 1, 1) := by decide +kernel
theorem dX7_fits_125 : decode cX7_fits 125 = .ok (.isub, 1) := by decide +kernel
theorem dX7_fits_126 : decode cX7_fits 126 = .ok (.iaload, 1) := by decide +kernel
theorem dX7_fits_127 : decode cX7_fits 127 = .ok (.iload 4, 2) := by decide +kernel
theorem dX7_fits_129 : decode cX7_fits 129 = .ok (.invokevirtual 240, 3) := by decide +kernel
theorem dX7_fits_132 : decode cX7_fits 132 = .ok (.ireturn, 1) := by decide +kernel
theorem dX7_fill_0 : decode cX7_fill 0 = .ok (.aload_n 0, 1) := by decide +kernel
theorem dX7_fill_1 : decode cX7_fill 1 = .ok (.invokevirtual 243, 3) := by decide +kernel
theorem dX7_fill_4 : decode cX7_fill 4 = .ok (.aload_n 0, 1) := by decide +kernel
theorem dX7_fill_5 : decode cX7_fill 5 = .ok (.iconst 0, 1) := by decide +kernel
theorem dX7_fill_6 : decode cX7_fill 6 = .ok (.putfield 225, 3) := by decide +kernel
theorem dX7_fill_9 : decode cX7_fill 9 = .ok (.aload_n 0, 1) := by decide +kernel
theorem dX7_fill_10 : decode cX7_fill 10 = .ok (.iconst 1, 1) := by decide +kernel
theorem dX7_fill_11 : decode cX7_fill 11 = .ok (.putfield 246, 3) := by decide +kernel
theorem dX7_fill_14 : decode cX7_fill 14 = .ok (.aload_n 0, 1) := by decide +kernel
theorem dX7_fill_15 : decode cX7_fill 15 = .ok (.getfield 93, 3) := by decide +kernel
theorem dX7_fill_18 : decode cX7_fill 18 = .ok (.iconst 0, 1) := by decide +kernel
theorem dX7_fill_19 : decode cX7_fill 19 = .ok (.iconst 0, 1) := by decide +kernel
theorem dX7_fill_20 : decode cX7_fill 20 = .ok (.iastore, 1) := by decide +kernel
theorem dX7_fill_21 : decode cX7_fill 21 = .ok (.iconst 0, 1) := by decide +kernel
theorem dX7_fill_22 : decode cX7_fill 22 = .ok (.istore 5, 2) := by decide +kernel
theorem dX7_fill_24 : decode cX7_fill 24 = .ok (.iload 5, 2) := by decide +kernel
theorem dX7_fill_26 : decode cX7_fill 26 = .ok (.aload_n 0, 1) := by decide +kernel
theorem dX7_fill_27 : decode cX7_fill 27 = .ok (.getfield 13, 3) := by decide +kernel
theorem dX7_fill_30 : decode cX7_fill 30 = .ok (.iconst 4, 1) := by decide +kernel
theorem dX7_fill_31 : decode cX7_fill 31 = .ok (.iaload, 1) := by decide +kernel
theorem dX7_fill_32 : decode cX7_fill 32 = .ok (.if_icmp .ge 318, 3) := by decide +kernel
theorem dX7_fill_35 : decode cX7_fill 35 = .ok (.aload_n 0, 1) := by decide +kernel
theorem dX7_fill_36 : decode cX7_fill 36 = .ok (.iconst 0, 1) := by decide +kernel
theorem dX7_fill_37 : decode cX7_fill 37 = .ok (.putfield 249, 3) := by decide +kernel
theorem dX7_fill_40 : decode cX7_fill 40 = .ok (.iconst 0, 1) := by decide +kernel
theorem dX7_fill_41 : decode cX7_fill 41 = .ok (.istore 6, 2) := by decide +kernel
theorem dX7_fill_43 : decode cX7_fill 43 = .ok (.iload 6, 2) := by decide +kernel
theorem dX7_fill_45 : decode cX7_fill 45 = .ok (.aload_n 0, 1) := by decide +kernel
theorem dX7_fill_46 : decode cX7_fill 46 = .ok (.getfield 246, 3) := by decide +kernel
theorem dX7_fill_49 : decode cX7_fill 49 = .ok (.if_icmp .ge 221, 3) := by decide +kernel
theorem dX7_fill_52 : decode cX7_fill 52 = .ok (.iconst 0, 1) := by decide +kernel
theorem dX7_fill_53 : decode cX7_fill 53 = .ok (.istore 7, 2) := by decide +kernel
theorem dX7_fill_55 : decode cX7_fill 55 = .ok (.iload 7, 2) := by decide +kernel
theorem dX7_fill_57 : decode cX7_fill 57 = .ok (.aload_n 0, 1) := by decide +kernel
theorem dX7_fill_58 : decode cX7_fill 58 = .ok (.getfield 205, 3) := by decide +kernel
theorem dX7_fill_61 : decode cX7_fill 61 = .ok (.if_icmp .ge 203, 3) := by decide +kernel
theorem dX7_fill_64 : decode cX7_fill 64 = .ok (.aload_n 0, 1) := by decide +kernel
theorem dX7_fill_65 : decode cX7_fill 65 = .ok (.getfield 93, 3) := by decide +kernel
theorem dX7_fill_68 : decode cX7_fill 68 = .ok (.iload 6, 2) := by decide +kernel
theorem dX7_fill_70 : decode cX7_fill 70 = .ok (.iaload, 1) := by decide +kernel
theorem dX7_fill_71 : decode cX7_fill 71 = .ok (.aload_n 0, 1) := by decide +kernel
theorem dX7_fill_72 : decode cX7_fill 72 = .ok (.getfield 40, 3) := by decide +kernel
theorem dX7_fill_75 : decode cX7_fill 75 = .ok (.iload 7, 2) := by decide +kernel
theorem dX7_fill_77 : decode cX7_fill 77 = .ok (.iaload, 1) := by decide +kernel
theorem dX7_fill_78 : decode cX7_fill 78 = .ok (.iadd, 1) := by decide +kernel
theorem dX7_fill_79 : decode cX7_fill 79 = .ok (.istore 8, 2) := by decide +kernel
theorem dX7_fill_81 : decode cX7_fill 81 = .ok (.iload 8, 2) := by decide +kernel
theorem dX7_fill_83 : decode cX7_fill 83 = .ok (.iload_n 2, 1) := by decide +kernel
theorem dX7_fill_84 : decode cX7_fill 84 = .ok (.if_icmp .gt 174, 3) := by decide +kernel
theorem dX7_fill_87 : decode cX7_fill 87 = .ok (.iload_n 3, 1) := by decide +kernel
theorem dX7_fill_88 : decode cX7_fill 88 = .ok (.iconst (-1), 1) := by decide +kernel
theorem dX7_fill_89 : decode cX7_fill 89 = .ok (.if_icmp .eq 14, 3) := by decide +kernel
theorem dX7_fill_92 : decode cX7_fill 92 = .ok (.aload_n 0, 1) := by decide +kernel
theorem dX7_fill_93 : decode cX7_fill 93 = .ok (.getfield 49, 3) := by decide +kernel
theorem dX7_fill_96 : decode cX7_fill 96 = .ok (.iload 7, 2) := by decide +kernel
theorem dX7_fill_98 : decode cX7_fill 98 = .ok (.iaload, 1) := by decide +kernel
theorem dX7_fill_99 : decode cX7_fill 99 = .ok (.iload_n 3, 1) := by decide +kernel
theorem dX7_fill_100 : decode cX7_fill 100 = .ok (.if_icmp .ne 158, 3) := by decide +kernel
theorem dX7_fill_103 : decode cX7_fill 103 = .ok (.iload_n 1, 1) := by decide +kernel
theorem dX7_fill_104 : decode cX7_fill 104 = .ok (.aload_n 0, 1) := by decide +kernel
theorem dX7_fill_105 : decode cX7_fill 105 = .ok (.getfield 93, 3) := by decide +kernel
theorem dX7_fill_108 : decode cX7_fill 108 = .ok (.iload 6, 2) := by decide +kernel
theorem dX7_fill_110 : decode cX7_fill 110 = .ok (.iaload, 1) := by decide +kernel
theorem dX7_fill_111 : decode cX7_fill 111 = .ok (.iadd, 1) := by decide +kernel
theorem dX7_fill_112 : decode cX7_fill 112 = .ok (.aload_n 0, 1) := by decide +kernel
theorem dX7_fill_113 : decode cX7_fill 113 = .ok (.getfield 83, 3) := by decide +kernel
theorem dX7_fill_116 : decode cX7_fill 116 = .ok (.iload 7, 2) := by decide +kernel
theorem dX7_fill_118 : decode cX7_fill 118 = .ok (.iaload, 1) := by decide +kernel
theorem dX7_fill_119 : decode cX7_fill 119 = .ok (.if_icmp .lt 139, 3) := by decide +kernel
theorem dX7_fill_122 : decode cX7_fill 122 = .ok (.aload_n 0, 1) := by decide +kernel
theorem dX7_fill_123 : decode cX7_fill 123 = .ok (.iload 6, 2) := by decide +kernel
theorem dX7_fill_125 : decode cX7_fill 125 = .ok (.iload 5, 2) := by decide +kernel
theorem dX7_fill_127 : decode cX7_fill 127 = .ok (.iload_n 1, 1) := by decide +kernel
theorem dX7_fill_128 : decode cX7_fill 128 = .ok (.iload 7, 2) := by decide +kernel
theorem dX7_fill_130 : decode cX7_fill 130 = .ok (.iload_n 1, 1) := by decide +kernel
theorem dX7_fill_131 : decode cX7_fill 131 = .ok (.aload_n 0, 1) := by decide +kernel
theorem dX7_fill_132 : decode cX7_fill 132 = .ok (.getfield 93, 3) := by decide +kernel
theorem dX7_fill_135 : decode cX7_fill 135 = .ok (.iload 6, 2) := by decide +kernel
theorem dX7_fill_137 : decode cX7_fill 137 = .ok (.iaload, 1) := by decide +kernel
theorem dX7_fill_138 : decode cX7_fill 138 = .ok (.iadd, 1) := by decide +kernel
theorem dX7_fill_139 : decode cX7_fill 139 = .ok (.invokevirtual 252, 3) := by decide +kernel
theorem dX7_fill_142 : decode cX7_fill 142 = .ok (.ifCond .ne 6, 3) := by decide +kernel
theorem dX7_fill_145 : decode cX7_fill 145 = .ok (.goto 113, 3) := by decide +kernel
theorem dX7_fill_148 : decode cX7_fill 148 = .ok (.aload_n 0, 1) := by decide +kernel
theorem dX7_fill_149 : decode cX7_fill 149 = .ok (.iload 6, 2) := by decide +kernel
theorem dX7_fill_151 : decode cX7_fill 151 = .ok (.iload 5, 2) := by decide +kernel
theorem dX7_fill_153 : decode cX7_fill 153 = .ok (.iload 7, 2) := by decide +kernel
theorem dX7_fill_155 : decode cX7_fill 155 = .ok (.iload_n 2, 1) := by decide +kernel
theorem dX7_fill_156 : decode cX7_fill 156 = .ok (.iload 8, 2) := by decide +kernel
theorem dX7_fill_158 : decode cX7_fill 158 = .ok (.iload 4, 2) := by decide +kernel
theorem dX7_fill_160 : decode cX7_fill 160 = .ok (.invokevirtual 256, 3) := by decide +kernel
theorem dX7_fill_163 : decode cX7_fill 163 = .ok (.iload 5, 2) := by decide +kernel
theorem dX7_fill_165 : decode cX7_fill 165 = .ok (.iconst 1, 1) := by decide +kernel
theorem dX7_fill_166 : decode cX7_fill 166 = .ok (.iadd, 1) := by decide +kernel
theorem dX7_fill_167 : decode cX7_fill 167 = .ok (.aload_n 0, 1) := by decide +kernel
theorem dX7_fill_168 : decode cX7_fill 168 = .ok (.getfield 13, 3) := by decide +kernel
theorem dX7_fill_171 : decode cX7_fill 171 = .ok (.iconst 4, 1) := by decide +kernel
theorem dX7_fill_172 : decode cX7_fill 172 = .ok (.iaload, 1) := by decide +kernel
theorem dX7_fill_173 : decode cX7_fill 173 = .ok (.if_icmp .ne 6, 3) := by decide +kernel
theorem dX7_fill_176 : decode cX7_fill 176 = .ok (.goto 82, 3) := by decide +kernel
theorem dX7_fill_179 : decode cX7_fill 179 = .ok (.iconst 0, 1) := by decide +kernel
theorem dX7_fill_180 : decode cX7_fill 180 = .ok (.istore 9, 2) := by decide +kernel
theorem dX7_fill_182 : decode cX7_fill 182 = .ok (.iload 9, 2) := by decide +kernel
theorem dX7_fill_184 : decode cX7_fill 184 = .ok (.iload 5, 2) := by decide +kernel
theorem dX7_fill_186 : decode cX7_fill 186 = .ok (.if_icmp .ge 35, 3) := by decide +kernel
theorem dX7_fill_189 : decode cX7_fill 189 = .ok (.aload_n 0, 1) := by decide +kernel
theorem dX7_fill_190 : decode cX7_fill 190 = .ok (.getfield 90, 3) := by decide +kernel
theorem dX7_fill_193 : decode cX7_fill 193 = .ok (.iconst 4, 1) := by decide +kernel
theorem dX7_fill_194 : decode cX7_fill 194 = .ok (.aload_n 0, 1) := by decide +kernel
theorem dX7_fill_195 : decode cX7_fill 195 = .ok (.getfield 249, 3) := by decide +kernel
theorem dX7_fill_198 : decode cX7_fill 198 = .ok (.imul, 1) := by decide +kernel
theorem dX7_fill_199 : decode cX7_fill 199 = .ok (.iload 9, 2) := by decide +kernel
theorem dX7_fill_201 : decode cX7_fill 201 = .ok (.iadd, 1) := by decide +kernel
theorem dX7_fill_202 : decode cX7_fill 202 = .ok (.aload_n 0, 1) := by decide +kernel
theorem dX7_fill_203 : decode cX7_fill 203 = .ok (.getfield 87, 3) := by decide +kernel
theorem dX7_fill_206 : decode cX7_fill 206 = .ok (.iconst 4, 1) := by decide +kernel
theorem dX7_fill_207 : decode cX7_fill 207 = .ok (.iload 6, 2) := by decide +kernel
theorem dX7_fill_209 : decode cX7_fill 209 = .ok (.imul, 1) := by decide +kernel
theorem dX7_fill_210 : decode cX7_fill 210 = .ok (.iload 9, 2) := by decide +kernel
theorem dX7_fill_212 : decode cX7_fill 212 = .ok (.iadd, 1) := by decide +kernel
theorem dX7_fill_213 : decode cX7_fill 213 = .ok (.iaload, 1) := by decide +kernel
theorem dX7_fill_214 : decode cX7_fill 214 = .ok (.iastore, 1) := by decide +kernel
theorem dX7_fill_215 : decode cX7_fill 215 = .ok (.iinc 9 1, 3) := by decide +kernel
theorem dX7_fill_218 : decode cX7_fill 218 = .ok (.goto (-36), 3) := by decide +kernel
theorem dX7_fill_221 : decode cX7_fill 221 = .ok (.aload_n 0, 1) := by decide +kernel
theorem dX7_fill_222 : decode cX7_fill 222 = .ok (.getfield 90, 3) := by decide +kernel
theorem dX7_fill_225 : decode cX7_fill 225 = .ok (.iconst 4, 1) := by decide +kernel
theorem dX7_fill_226 : decode cX7_fill 226 = .ok (.aload_n 0, 1) := by decide +kernel
theorem dX7_fill_227 : decode cX7_fill 227 = .ok (.getfield 249, 3) := by decide +kernel
theorem dX7_fill_230 : decode cX7_fill 230 = .ok (.imul, 1) := by decide +kernel
theorem dX7_fill_231 : decode cX7_fill 231 = .ok (.iload 5, 2) := by decide +kernel
theorem dX7_fill_233 : decode cX7_fill 233 = .ok (.iadd, 1) := by decide +kernel
theorem dX7_fill_234 : decode cX7_fill 234 = .ok (.iload 7, 2) := by decide +kernel
theorem dX7_fill_236 : decode cX7_fill 236 = .ok (.iastore, 1) := by decide +kernel
theorem dX7_fill_237 : decode cX7_fill 237 = .ok (.aload_n 0, 1) := by decide +kernel
theorem dX7_fill_238 : decode cX7_fill 238 = .ok (.getfield 96, 3) := by decide +kernel
theorem dX7_fill_241 : decode cX7_fill 241 = .ok (.aload_n 0, 1) := by decide +kernel
theorem dX7_fill_242 : decode cX7_fill 242 = .ok (.getfield 249, 3) := by decide +kernel
theorem dX7_fill_245 : decode cX7_fill 245 = .ok (.iload 8, 2) := by decide +kernel
theorem dX7_fill_247 : decode cX7_fill 247 = .ok (.iastore, 1) := by decide +kernel
theorem dX7_fill_248 : decode cX7_fill 248 = .ok (.aload_n 0, 1) := by decide +kernel
theorem dX7_fill_249 : decode cX7_fill 249 = .ok (.dup, 1) := by decide +kernel
theorem dX7_fill_250 : decode cX7_fill 250 = .ok (.getfield 249, 3) := by decide +kernel
theorem dX7_fill_253 : decode cX7_fill 253 = .ok (.iconst 1, 1) := by decide +kernel
theorem dX7_fill_254 : decode cX7_fill 254 = .ok (.iadd, 1) := by decide +kernel
theorem dX7_fill_255 : decode cX7_fill 255 = .ok (.putfield 249, 3) := by decide +kernel
theorem dX7_fill_258 : decode cX7_fill 258 = .ok (.iinc 7 1, 3) := by decide +kernel
theorem dX7_fill_261 : decode cX7_fill 261 = .ok (.goto (-206), 3) := by decide +kernel
theorem dX7_fill_264 : decode cX7_fill 264 = .ok (.iinc 6 1, 3) := by decide +kernel
theorem dX7_fill_267 : decode cX7_fill 267 = .ok (.goto (-224), 3) := by decide +kernel
theorem dX7_fill_270 : decode cX7_fill 270 = .ok (.aload_n 0, 1) := by decide +kernel
theorem dX7_fill_271 : decode cX7_fill 271 = .ok (.aload_n 0, 1) := by decide +kernel
theorem dX7_fill_272 : decode cX7_fill 272 = .ok (.getfield 249, 3) := by decide +kernel
theorem dX7_fill_275 : decode cX7_fill 275 = .ok (.putfield 246, 3) := by decide +kernel
theorem dX7_fill_278 : decode cX7_fill 278 = .ok (.iconst 0, 1) := by decide +kernel
theorem dX7_fill_279 : decode cX7_fill 279 = .ok (.istore 6, 2) := by decide +kernel
theorem dX7_fill_281 : decode cX7_fill 281 = .ok (.iload 6, 2) := by decide +kernel
theorem dX7_fill_283 : decode cX7_fill 283 = .ok (.iconst 4, 1) := by decide +kernel
theorem dX7_fill_284 : decode cX7_fill 284 = .ok (.aload_n 0, 1) := by decide +kernel
theorem dX7_fill_285 : decode cX7_fill 285 = .ok (.getfield 249, 3) := by decide +kernel
theorem dX7_fill_288 : decode cX7_fill 288 = .ok (.imul, 1) := by decide +kernel
theorem dX7_fill_289 : decode cX7_fill 289 = .ok (.if_icmp .ge 23, 3) := by decide +kernel
theorem dX7_fill_292 : decode cX7_fill 292 = .ok (.aload_n 0, 1) := by decide +kernel
theorem dX7_fill_293 : decode cX7_fill 293 = .ok (.getfield 87, 3) := by decide +kernel
theorem dX7_fill_296 : decode cX7_fill 296 = .ok (.iload 6, 2) := by decide +kernel
theorem dX7_fill_298 : decode cX7_fill 298 = .ok (.aload_n 0, 1) := by decide +kernel
theorem dX7_fill_299 : decode cX7_fill 299 = .ok (.getfield 90, 3) := by decide +kernel
theorem dX7_fill_302 : decode cX7_fill 302 = .ok (.iload 6, 2) := by decide +kernel
theorem dX7_fill_304 : decode cX7_fill 304 = .ok (.iaload, 1) := by decide +kernel
theorem dX7_fill_305 : decode cX7_fill 305 = .ok (.iastore, 1) := by decide +kernel
theorem dX7_fill_306 : decode cX7_fill 306 = .ok (.iinc 6 1, 3) := by decide +kernel
theorem dX7_fill_309 : decode cX7_fill 309 = .ok (.goto (-28), 3) := by decide +kernel
theorem dX7_fill_312 : decode cX7_fill 312 = .ok (.iconst 0, 1) := by decide +kernel
theorem dX7_fill_313 : decode cX7_fill 313 = .ok (.istore 6, 2) := by decide +kernel
theorem dX7_fill_315 : decode cX7_fill 315 = .ok (.iload 6, 2) := by decide +kernel
theorem dX7_fill_317 : decode cX7_fill 317 = .ok (.aload_n 0, 1) := by decide +kernel
theorem dX7_fill_318 : decode cX7_fill 318 = .ok (.getfield 249, 3) := by decide +kernel
theorem dX7_fill_321 : decode cX7_fill 321 = .ok (.if_icmp .ge 23, 3) := by decide +kernel
theorem dX7_fill_324 : decode cX7_fill 324 = .ok (.aload_n 0, 1) := by decide +kernel
theorem dX7_fill_325 : decode cX7_fill 325 = .ok (.getfield 93, 3) := by decide +kernel
theorem dX7_fill_328 : decode cX7_fill 328 = .ok (.iload 6, 2) := by decide +kernel
theorem dX7_fill_330 : decode cX7_fill 330 = .ok (.aload_n 0, 1) := by decide +kernel
theorem dX7_fill_331 : decode cX7_fill 331 = .ok (.getfield 96, 3) := by decide +kernel
theorem dX7_fill_334 : decode cX7_fill 334 = .ok (.iload 6, 2) := by decide +kernel
theorem dX7_fill_336 : decode cX7_fill 336 = .ok (.iaload, 1) := by decide +kernel
theorem dX7_fill_337 : decode cX7_fill 337 = .ok (.iastore, 1) := by decide +kernel
theorem dX7_fill_338 : decode cX7_fill 338 = .ok (.iinc 6 1, 3) := by decide +kernel
theorem dX7_fill_341 : decode cX7_fill 341 = .ok (.goto (-26), 3) := by decide +kernel
theorem dX7_fill_344 : decode cX7_fill 344 = .ok (.iinc 5 1, 3) := by decide +kernel
theorem dX7_fill_347 : decode cX7_fill 347 = .ok (.goto (-323), 3) := by decide +kernel
theorem dX7_fill_350 : decode cX7_fill 350 = .ok (.return_, 1) := by decide +kernel
theorem dX7_layStretch_0 : decode cX7_layStretch 0 = .ok (.aload_n 0, 1) := by decide +kernel
theorem dX7_layStretch_1 : decode cX7_layStretch 1 = .ok (.iload_n 3, 1) := by decide +kernel
theorem dX7_layStretch_2 : decode cX7_layStretch 2 = .ok (.aload_n 0, 1) := by decide +kernel
theorem dX7_layStretch_3 : decode cX7_layStretch 3 = .ok (.getfield 31, 3) := by decide +kernel
theorem dX7_layStretch_6 : decode cX7_layStretch 6 = .ok (.iload_n 1, 1) := by decide +kernel
theorem dX7_layStretch_7 : decode cX7_layStretch 7 = .ok (.iaload, 1) := by decide +kernel
theorem dX7_layStretch_8 : decode cX7_layStretch 8 = .ok (.aload_n 0, 1) := by decide +kernel
theorem dX7_layStretch_9 : decode cX7_layStretch 9 = .ok (.getfield 34, 3) := by decide +kernel
theorem dX7_layStretch_12 : decode cX7_layStretch 12 = .ok (.iload_n 1, 1) := by decide +kernel
theorem dX7_layStretch_13 : decode cX7_layStretch 13 = .ok (.iaload, 1) := by decide +kernel
theorem dX7_layStretch_14 : decode cX7_layStretch 14 = .ok (.aload_n 0, 1) := by decide +kernel
theorem dX7_layStretch_15 : decode cX7_layStretch 15 = .ok (.getfield 37, 3) := by decide +kernel
theorem dX7_layStretch_18 : decode cX7_layStretch 18 = .ok (.iload_n 1, 1) := by decide +kernel
theorem dX7_layStretch_19 : decode cX7_layStretch 19 = .ok (.iaload, 1) := by decide +kernel
theorem dX7_layStretch_20 : decode cX7_layStretch 20 = .ok (.invokevirtual 260, 3) := by decide +kernel
theorem dX7_layStretch_23 : decode cX7_layStretch 23 = .ok (.iload_n 3, 1) := by decide +kernel
theorem dX7_layStretch_24 : decode cX7_layStretch 24 = .ok (.istore 4, 2) := by decide +kernel
theorem dX7_layStretch_26 : decode cX7_layStretch 26 = .ok (.iconst 0, 1) := by decide +kernel
theorem dX7_layStretch_27 : decode cX7_layStretch 27 = .ok (.istore 5, 2) := by decide +kernel
theorem dX7_layStretch_29 : decode cX7_layStretch 29 = .ok (.iload 5, 2) := by decide +kernel
theorem dX7_layStretch_31 : decode cX7_layStretch 31 = .ok (.aload_n 0, 1) := by decide +kernel
theorem dX7_layStretch_32 : decode cX7_layStretch 32 = .ok (.getfield 225, 3) := by decide +kernel
theorem dX7_layStretch_35 : decode cX7_layStretch 35 = .ok (.if_icmp .ge 104, 3) := by decide +kernel
theorem dX7_layStretch_38 : decode cX7_layStretch 38 = .ok (.aload_n 0, 1) := by decide +kernel
theorem dX7_layStretch_39 : decode cX7_layStretch 39 = .ok (.getfield 99, 3) := by decide +kernel
theorem dX7_layStretch_42 : decode cX7_layStretch 42 = .ok (.iload 5, 2) := by decide +kernel
theorem dX7_layStretch_44 : decode cX7_layStretch 44 = .ok (.iaload, 1) := by decide +kernel
theorem dX7_layStretch_45 : decode cX7_layStretch 45 = .ok (.istore 6, 2) := by decide +kernel
theorem dX7_layStretch_47 : decode cX7_layStretch 47 = .ok (.aload_n 0, 1) := by decide +kernel
theorem dX7_layStretch_48 : decode cX7_layStretch 48 = .ok (.getfield 71, 3) := by decide +kernel
theorem dX7_layStretch_51 : decode cX7_layStretch 51 = .ok (.aload_n 0, 1) := by decide +kernel
theorem dX7_layStretch_52 : decode cX7_layStretch 52 = .ok (.getfield 218, 3) := by decide +kernel
theorem dX7_layStretch_55 : decode cX7_layStretch 55 = .ok (.iload 6, 2) := by decide +kernel
theorem dX7_layStretch_57 : decode cX7_layStretch 57 = .ok (.iastore, 1) := by decide +kernel
theorem dX7_layStretch_58 : decode cX7_layStretch 58 = .ok (.aload_n 0, 1) := by decide +kernel
theorem dX7_layStretch_59 : decode cX7_layStretch 59 = .ok (.getfield 74, 3) := by decide +kernel
theorem dX7_layStretch_62 : decode cX7_layStretch 62 = .ok (.aload_n 0, 1) := by decide +kernel
theorem dX7_layStretch_63 : decode cX7_layStretch 63 = .ok (.getfield 218, 3) := by decide +kernel
theorem dX7_layStretch_66 : decode cX7_layStretch 66 = .ok (.iload 4, 2) := by decide +kernel
theorem dX7_layStretch_68 : decode cX7_layStretch 68 = .ok (.iastore, 1) := by decide +kernel
theorem dX7_layStretch_69 : decode cX7_layStretch 69 = .ok (.aload_n 0, 1) := by decide +kernel
theorem dX7_layStretch_70 : decode cX7_layStretch 70 = .ok (.getfield 77, 3) := by decide +kernel
theorem dX7_layStretch_73 : decode cX7_layStretch 73 = .ok (.aload_n 0, 1) := by decide +kernel
theorem dX7_layStretch_74 : decode cX7_layStretch 74 = .ok (.getfield 218, 3) := by decide +kernel
