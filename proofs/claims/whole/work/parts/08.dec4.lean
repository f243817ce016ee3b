theorem dX10_fill_281 : decode cX10_fill 281 = .ok (.iaload, 1) := by decide +kernel
theorem dX10_fill_282 : decode cX10_fill 282 = .ok (.iadd, 1) := by decide +kernel
theorem dX10_fill_283 : decode cX10_fill 283 = .ok (.iastore, 1) := by decide +kernel
theorem dX10_fill_284 : decode cX10_fill 284 = .ok (.aload_n 0, 1) := by decide +kernel
theorem dX10_fill_285 : decode cX10_fill 285 = .ok (.dup, 1) := by decide +kernel
theorem dX10_fill_286 : decode cX10_fill 286 = .ok (.getfield 192, 3) := by decide +kernel
theorem dX10_fill_289 : decode cX10_fill 289 = .ok (.iconst 1, 1) := by decide +kernel
theorem dX10_fill_290 : decode cX10_fill 290 = .ok (.iadd, 1) := by decide +kernel
theorem dX10_fill_291 : decode cX10_fill 291 = .ok (.putfield 192, 3) := by decide +kernel
theorem dX10_fill_294 : decode cX10_fill 294 = .ok (.iinc 7 1, 3) := by decide +kernel
theorem dX10_fill_297 : decode cX10_fill 297 = .ok (.goto (-186), 3) := by decide +kernel
theorem dX10_fill_300 : decode cX10_fill 300 = .ok (.iload 6, 2) := by decide +kernel
theorem dX10_fill_302 : decode cX10_fill 302 = .ok (.aload_n 0, 1) := by decide +kernel
theorem dX10_fill_303 : decode cX10_fill 303 = .ok (.getfield 102, 3) := by decide +kernel
theorem dX10_fill_306 : decode cX10_fill 306 = .ok (.bipush 7, 2) := by decide +kernel
theorem dX10_fill_308 : decode cX10_fill 308 = .ok (.iload 4, 2) := by decide +kernel
theorem dX10_fill_310 : decode cX10_fill 310 = .ok (.imul, 1) := by decide +kernel
theorem dX10_fill_311 : decode cX10_fill 311 = .ok (.iload 7, 2) := by decide +kernel
theorem dX10_fill_313 : decode cX10_fill 313 = .ok (.iadd, 1) := by decide +kernel
theorem dX10_fill_314 : decode cX10_fill 314 = .ok (.iaload, 1) := by decide +kernel
theorem dX10_fill_315 : decode cX10_fill 315 = .ok (.iadd, 1) := by decide +kernel
theorem dX10_fill_316 : decode cX10_fill 316 = .ok (.istore 6, 2) := by decide +kernel
theorem dX10_fill_318 : decode cX10_fill 318 = .ok (.iload 5, 2) := by decide +kernel
theorem dX10_fill_320 : decode cX10_fill 320 = .ok (.iconst 3, 1) := by decide +kernel
theorem dX10_fill_321 : decode cX10_fill 321 = .ok (.ishl, 1) := by decide +kernel
theorem dX10_fill_322 : decode cX10_fill 322 = .ok (.iload 7, 2) := by decide +kernel
theorem dX10_fill_324 : decode cX10_fill 324 = .ok (.ior, 1) := by decide +kernel
theorem dX10_fill_325 : decode cX10_fill 325 = .ok (.istore 5, 2) := by decide +kernel
theorem dX10_fill_327 : decode cX10_fill 327 = .ok (.iinc 4 1, 3) := by decide +kernel
theorem dX10_fill_330 : decode cX10_fill 330 = .ok (.aload_n 0, 1) := by decide +kernel
theorem dX10_fill_331 : decode cX10_fill 331 = .ok (.getfield 105, 3) := by decide +kernel
theorem dX10_fill_334 : decode cX10_fill 334 = .ok (.iload 4, 2) := by decide +kernel
theorem dX10_fill_336 : decode cX10_fill 336 = .ok (.iload 8, 2) := by decide +kernel
theorem dX10_fill_338 : decode cX10_fill 338 = .ok (.iastore, 1) := by decide +kernel
theorem dX10_fill_339 : decode cX10_fill 339 = .ok (.iconst 0, 1) := by decide +kernel
theorem dX10_fill_340 : decode cX10_fill 340 = .ok (.istore 7, 2) := by decide +kernel
theorem dX10_fill_342 : decode cX10_fill 342 = .ok (.goto (-231), 3) := by decide +kernel
theorem dX10_fill_345 : decode cX10_fill 345 = .ok (.return_, 1) := by decide +kernel
theorem dX10_reading_0 : decode cX10_reading 0 = .ok (.aload_n 0, 1) := by decide +kernel
theorem dX10_reading_1 : decode cX10_reading 1 = .ok (.iload_n 1, 1) := by decide +kernel
theorem dX10_reading_2 : decode cX10_reading 2 = .ok (.invokevirtual 206, 3) := by decide +kernel
theorem dX10_reading_5 : decode cX10_reading 5 = .ok (.iload_n 2, 1) := by decide +kernel
theorem dX10_reading_6 : decode cX10_reading 6 = .ok (.ifCond .lt 11, 3) := by decide +kernel
theorem dX10_reading_9 : decode cX10_reading 9 = .ok (.iload_n 2, 1) := by decide +kernel
theorem dX10_reading_10 : decode cX10_reading 10 = .ok (.aload_n 0, 1) := by decide +kernel
theorem dX10_reading_11 : decode cX10_reading 11 = .ok (.getfield 192, 3) := by decide +kernel
theorem dX10_reading_14 : decode cX10_reading 14 = .ok (.if_icmp .lt 5, 3) := by decide +kernel
theorem dX10_reading_17 : decode cX10_reading 17 = .ok (.iconst (-1), 1) := by decide +kernel
theorem dX10_reading_18 : decode cX10_reading 18 = .ok (.ireturn, 1) := by decide +kernel
theorem dX10_reading_19 : decode cX10_reading 19 = .ok (.iload_n 2, 1) := by decide +kernel
theorem dX10_reading_20 : decode cX10_reading 20 = .ok (.istore_n 3, 1) := by decide +kernel
theorem dX10_reading_21 : decode cX10_reading 21 = .ok (.iconst 0, 1) := by decide +kernel
theorem dX10_reading_22 : decode cX10_reading 22 = .ok (.istore 4, 2) := by decide +kernel
theorem dX10_reading_24 : decode cX10_reading 24 = .ok (.iconst 0, 1) := by decide +kernel
theorem dX10_reading_25 : decode cX10_reading 25 = .ok (.istore 5, 2) := by decide +kernel
theorem dX10_reading_27 : decode cX10_reading 27 = .ok (.iload 5, 2) := by decide +kernel
theorem dX10_reading_29 : decode cX10_reading 29 = .ok (.aload_n 0, 1) := by decide +kernel
theorem dX10_reading_30 : decode cX10_reading 30 = .ok (.getfield 192, 3) := by decide +kernel
theorem dX10_reading_33 : decode cX10_reading 33 = .ok (.if_icmp .ge 35, 3) := by decide +kernel
theorem dX10_reading_36 : decode cX10_reading 36 = .ok (.aload_n 0, 1) := by decide +kernel
theorem dX10_reading_37 : decode cX10_reading 37 = .ok (.getfield 111, 3) := by decide +kernel
theorem dX10_reading_40 : decode cX10_reading 40 = .ok (.iload 5, 2) := by decide +kernel
theorem dX10_reading_42 : decode cX10_reading 42 = .ok (.iaload, 1) := by decide +kernel
theorem dX10_reading_43 : decode cX10_reading 43 = .ok (.iload 4, 2) := by decide +kernel
theorem dX10_reading_45 : decode cX10_reading 45 = .ok (.if_icmp .le 13, 3) := by decide +kernel
theorem dX10_reading_48 : decode cX10_reading 48 = .ok (.aload_n 0, 1) := by decide +kernel
theorem dX10_reading_49 : decode cX10_reading 49 = .ok (.getfield 111, 3) := by decide +kernel
theorem dX10_reading_52 : decode cX10_reading 52 = .ok (.iload 5, 2) := by decide +kernel
theorem dX10_reading_54 : decode cX10_reading 54 = .ok (.iaload, 1) := by decide +kernel
theorem dX10_reading_55 : decode cX10_reading 55 = .ok (.goto 5, 3) := by decide +kernel
theorem dX10_reading_58 : decode cX10_reading 58 = .ok (.iload 4, 2) := by decide +kernel
theorem dX10_reading_60 : decode cX10_reading 60 = .ok (.istore 4, 2) := by decide +kernel
theorem dX10_reading_62 : decode cX10_reading 62 = .ok (.iinc 5 1, 3) := by decide +kernel
theorem dX10_reading_65 : decode cX10_reading 65 = .ok (.goto (-38), 3) := by decide +kernel
theorem dX10_reading_68 : decode cX10_reading 68 = .ok (.iconst 0, 1) := by decide +kernel
theorem dX10_reading_69 : decode cX10_reading 69 = .ok (.istore 5, 2) := by decide +kernel
theorem dX10_reading_71 : decode cX10_reading 71 = .ok (.iload 5, 2) := by decide +kernel
theorem dX10_reading_73 : decode cX10_reading 73 = .ok (.iload 4, 2) := by decide +kernel
theorem dX10_reading_75 : decode cX10_reading 75 = .ok (.if_icmp .gt 52, 3) := by decide +kernel
theorem dX10_reading_78 : decode cX10_reading 78 = .ok (.iconst 0, 1) := by decide +kernel
theorem dX10_reading_79 : decode cX10_reading 79 = .ok (.istore 6, 2) := by decide +kernel
theorem dX10_reading_81 : decode cX10_reading 81 = .ok (.iload 6, 2) := by decide +kernel
theorem dX10_reading_83 : decode cX10_reading 83 = .ok (.aload_n 0, 1) := by decide +kernel
theorem dX10_reading_84 : decode cX10_reading 84 = .ok (.getfield 192, 3) := by decide +kernel
theorem dX10_reading_87 : decode cX10_reading 87 = .ok (.if_icmp .ge 34, 3) := by decide +kernel
theorem dX10_reading_90 : decode cX10_reading 90 = .ok (.aload_n 0, 1) := by decide +kernel
theorem dX10_reading_91 : decode cX10_reading 91 = .ok (.getfield 111, 3) := by decide +kernel
theorem dX10_reading_94 : decode cX10_reading 94 = .ok (.iload 6, 2) := by decide +kernel
theorem dX10_reading_96 : decode cX10_reading 96 = .ok (.iaload, 1) := by decide +kernel
theorem dX10_reading_97 : decode cX10_reading 97 = .ok (.iload 5, 2) := by decide +kernel
theorem dX10_reading_99 : decode cX10_reading 99 = .ok (.if_icmp .eq 6, 3) := by decide +kernel
theorem dX10_reading_102 : decode cX10_reading 102 = .ok (.goto 13, 3) := by decide +kernel
theorem dX10_reading_105 : decode cX10_reading 105 = .ok (.iload_n 3, 1) := by decide +kernel
theorem dX10_reading_106 : decode cX10_reading 106 = .ok (.ifCond .ne 6, 3) := by decide +kernel
theorem dX10_reading_109 : decode cX10_reading 109 = .ok (.iload 6, 2) := by decide +kernel
theorem dX10_reading_111 : decode cX10_reading 111 = .ok (.ireturn, 1) := by decide +kernel
theorem dX10_reading_112 : decode cX10_reading 112 = .ok (.iinc 3 (-1), 3) := by decide +kernel
theorem dX10_reading_115 : decode cX10_reading 115 = .ok (.iinc 6 1, 3) := by decide +kernel
theorem dX10_reading_118 : decode cX10_reading 118 = .ok (.goto (-37), 3) := by decide +kernel
theorem dX10_reading_121 : decode cX10_reading 121 = .ok (.iinc 5 1, 3) := by decide +kernel
theorem dX10_reading_124 : decode cX10_reading 124 = .ok (.goto (-53), 3) := by decide +kernel
theorem dX10_reading_127 : decode cX10_reading 127 = .ok (.iconst (-1), 1) := by decide +kernel
theorem dX10_reading_128 : decode cX10_reading 128 = .ok (.ireturn, 1) := by decide +kernel
theorem dX10_isName_0 : decode cX10_isName 0 = .ok (.iload_n 1, 1) := by decide +kernel
theorem dX10_isName_1 : decode cX10_isName 1 = .ok (.ifCond .lt 15, 3) := by decide +kernel
theorem dX10_isName_4 : decode cX10_isName 4 = .ok (.iload_n 1, 1) := by decide +kernel
theorem dX10_isName_5 : decode cX10_isName 5 = .ok (.aload_n 0, 1) := by decide +kernel
theorem dX10_isName_6 : decode cX10_isName 6 = .ok (.getfield 189, 3) := by decide +kernel
theorem dX10_isName_9 : decode cX10_isName 9 = .ok (.if_icmp .ge 7, 3) := by decide +kernel
theorem dX10_isName_12 : decode cX10_isName 12 = .ok (.iconst 1, 1) := by decide +kernel
theorem dX10_isName_13 : decode cX10_isName 13 = .ok (.goto 4, 3) := by decide +kernel
theorem dX10_isName_16 : decode cX10_isName 16 = .ok (.iconst 0, 1) := by decide +kernel
theorem dX10_isName_17 : decode cX10_isName 17 = .ok (.ireturn, 1) := by decide +kernel
theorem dX10_readings_0 : decode cX10_readings 0 = .ok (.aload_n 0, 1) := by decide +kernel
theorem dX10_readings_1 : decode cX10_readings 1 = .ok (.iconst 0, 1) := by decide +kernel
theorem dX10_readings_2 : decode cX10_readings 2 = .ok (.putfield 126, 3) := by decide +kernel
theorem dX10_readings_5 : decode cX10_readings 5 = .ok (.aload_n 0, 1) := by decide +kernel
theorem dX10_readings_6 : decode cX10_readings 6 = .ok (.iload_n 1, 1) := by decide +kernel
theorem dX10_readings_7 : decode cX10_readings 7 = .ok (.invokevirtual 210, 3) := by decide +kernel
theorem dX10_readings_10 : decode cX10_readings 10 = .ok (.ifCond .eq 7, 3) := by decide +kernel
theorem dX10_readings_13 : decode cX10_readings 13 = .ok (.iload_n 2, 1) := by decide +kernel
theorem dX10_readings_14 : decode cX10_readings 14 = .ok (.ifCond .ge 5, 3) := by decide +kernel
theorem dX10_readings_17 : decode cX10_readings 17 = .ok (.iconst (-1), 1) := by decide +kernel
theorem dX10_readings_18 : decode cX10_readings 18 = .ok (.ireturn, 1) := by decide +kernel
theorem dX10_readings_19 : decode cX10_readings 19 = .ok (.aload_n 0, 1) := by decide +kernel
theorem dX10_readings_20 : decode cX10_readings 20 = .ok (.iload_n 1, 1) := by decide +kernel
theorem dX10_readings_21 : decode cX10_readings 21 = .ok (.invokevirtual 206, 3) := by decide +kernel
theorem dX10_readings_24 : decode cX10_readings 24 = .ok (.iconst 0, 1) := by decide +kernel
theorem dX10_readings_25 : decode cX10_readings 25 = .ok (.istore_n 3, 1) := by decide +kernel
theorem dX10_readings_26 : decode cX10_readings 26 = .ok (.iconst 0, 1) := by decide +kernel
theorem dX10_readings_27 : decode cX10_readings 27 = .ok (.istore 4, 2) := by decide +kernel
theorem dX10_readings_29 : decode cX10_readings 29 = .ok (.iload 4, 2) := by decide +kernel
theorem dX10_readings_31 : decode cX10_readings 31 = .ok (.aload_n 0, 1) := by decide +kernel
theorem dX10_readings_32 : decode cX10_readings 32 = .ok (.getfield 192, 3) := by decide +kernel
theorem dX10_readings_35 : decode cX10_readings 35 = .ok (.if_icmp .ge 28, 3) := by decide +kernel
theorem dX10_readings_38 : decode cX10_readings 38 = .ok (.iload_n 3, 1) := by decide +kernel
theorem dX10_readings_39 : decode cX10_readings 39 = .ok (.aload_n 0, 1) := by decide +kernel
theorem dX10_readings_40 : decode cX10_readings 40 = .ok (.getfield 111, 3) := by decide +kernel
theorem dX10_readings_43 : decode cX10_readings 43 = .ok (.iload 4, 2) := by decide +kernel
theorem dX10_readings_45 : decode cX10_readings 45 = .ok (.iaload, 1) := by decide +kernel
theorem dX10_readings_46 : decode cX10_readings 46 = .ok (.iload_n 2, 1) := by decide +kernel
theorem dX10_readings_47 : decode cX10_readings 47 = .ok (.if_icmp .gt 7, 3) := by decide +kernel
theorem dX10_readings_50 : decode cX10_readings 50 = .ok (.iconst 1, 1) := by decide +kernel
theorem dX10_readings_51 : decode cX10_readings 51 = .ok (.goto 4, 3) := by decide +kernel
theorem dX10_readings_54 : decode cX10_readings 54 = .ok (.iconst 0, 1) := by decide +kernel
theorem dX10_readings_55 : decode cX10_readings 55 = .ok (.iadd, 1) := by decide +kernel
theorem dX10_readings_56 : decode cX10_readings 56 = .ok (.istore_n 3, 1) := by decide +kernel
theorem dX10_readings_57 : decode cX10_readings 57 = .ok (.iinc 4 1, 3) := by decide +kernel
theorem dX10_readings_60 : decode cX10_readings 60 = .ok (.goto (-31), 3) := by decide +kernel
theorem dX10_readings_63 : decode cX10_readings 63 = .ok (.iload_n 3, 1) := by decide +kernel
theorem dX10_readings_64 : decode cX10_readings 64 = .ok (.ireturn, 1) := by decide +kernel
theorem dX10_cost_0 : decode cX10_cost 0 = .ok (.aload_n 0, 1) := by decide +kernel
theorem dX10_cost_1 : decode cX10_cost 1 = .ok (.iconst 0, 1) := by decide +kernel
theorem dX10_cost_2 : decode cX10_cost 2 = .ok (.putfield 126, 3) := by decide +kernel
theorem dX10_cost_5 : decode cX10_cost 5 = .ok (.aload_n 0, 1) := by decide +kernel
theorem dX10_cost_6 : decode cX10_cost 6 = .ok (.iload_n 1, 1) := by decide +kernel
theorem dX10_cost_7 : decode cX10_cost 7 = .ok (.invokevirtual 210, 3) := by decide +kernel
theorem dX10_cost_10 : decode cX10_cost 10 = .ok (.ifCond .eq 12, 3) := by decide +kernel
theorem dX10_cost_13 : decode cX10_cost 13 = .ok (.aload_n 0, 1) := by decide +kernel
theorem dX10_cost_14 : decode cX10_cost 14 = .ok (.iload_n 1, 1) := by decide +kernel
theorem dX10_cost_15 : decode cX10_cost 15 = .ok (.iload_n 2, 1) := by decide +kernel
theorem dX10_cost_16 : decode cX10_cost 16 = .ok (.invokevirtual 213, 3) := by decide +kernel
theorem dX10_cost_19 : decode cX10_cost 19 = .ok (.goto 4, 3) := by decide +kernel
theorem dX10_cost_22 : decode cX10_cost 22 = .ok (.iconst (-1), 1) := by decide +kernel
theorem dX10_cost_23 : decode cX10_cost 23 = .ok (.istore_n 3, 1) := by decide +kernel
theorem dX10_cost_24 : decode cX10_cost 24 = .ok (.iload_n 3, 1) := by decide +kernel
theorem dX10_cost_25 : decode cX10_cost 25 = .ok (.ifCond .ge 7, 3) := by decide +kernel
theorem dX10_cost_28 : decode cX10_cost 28 = .ok (.iconst (-1), 1) := by decide +kernel
theorem dX10_cost_29 : decode cX10_cost 29 = .ok (.goto 9, 3) := by decide +kernel
theorem dX10_cost_32 : decode cX10_cost 32 = .ok (.aload_n 0, 1) := by decide +kernel
theorem dX10_cost_33 : decode cX10_cost 33 = .ok (.getfield 111, 3) := by decide +kernel
theorem dX10_cost_36 : decode cX10_cost 36 = .ok (.iload_n 3, 1) := by decide +kernel
theorem dX10_cost_37 : decode cX10_cost 37 = .ok (.iaload, 1) := by decide +kernel
theorem dX10_cost_38 : decode cX10_cost 38 = .ok (.ireturn, 1) := by decide +kernel
theorem dX10_kindIn_0 : decode cX10_kindIn 0 = .ok (.aload_n 0, 1) := by decide +kernel
theorem dX10_kindIn_1 : decode cX10_kindIn 1 = .ok (.getfield 108, 3) := by decide +kernel
theorem dX10_kindIn_4 : decode cX10_kindIn 4 = .ok (.iload_n 2, 1) := by decide +kernel
theorem dX10_kindIn_5 : decode cX10_kindIn 5 = .ok (.iaload, 1) := by decide +kernel
theorem dX10_kindIn_6 : decode cX10_kindIn 6 = .ok (.iconst 3, 1) := by decide +kernel
theorem dX10_kindIn_7 : decode cX10_kindIn 7 = .ok (.aload_n 0, 1) := by decide +kernel
theorem dX10_kindIn_8 : decode cX10_kindIn 8 = .ok (.getfield 63, 3) := by decide +kernel
theorem dX10_kindIn_11 : decode cX10_kindIn 11 = .ok (.iload_n 1, 1) := by decide +kernel
theorem dX10_kindIn_12 : decode cX10_kindIn 12 = .ok (.iaload, 1) := by decide +kernel
theorem dX10_kindIn_13 : decode cX10_kindIn 13 = .ok (.iconst 1, 1) := by decide +kernel
theorem dX10_kindIn_14 : decode cX10_kindIn 14 = .ok (.isub, 1) := by decide +kernel
theorem dX10_kindIn_15 : decode cX10_kindIn 15 = .ok (.iload_n 3, 1) := by decide +kernel
theorem dX10_kindIn_16 : decode cX10_kindIn 16 = .ok (.isub, 1) := by decide +kernel
theorem dX10_kindIn_17 : decode cX10_kindIn 17 = .ok (.imul, 1) := by decide +kernel
theorem dX10_kindIn_18 : decode cX10_kindIn 18 = .ok (.ishr, 1) := by decide +kernel
theorem dX10_kindIn_19 : decode cX10_kindIn 19 = .ok (.bipush 7, 2) := by decide +kernel
theorem dX10_kindIn_21 : decode cX10_kindIn 21 = .ok (.iand, 1) := by decide +kernel
theorem dX10_kindIn_22 : decode cX10_kindIn 22 = .ok (.ireturn, 1) := by decide +kernel
theorem dX10_kind_0 : decode cX10_kind 0 = .ok (.aload_n 0, 1) := by decide +kernel
theorem dX10_kind_1 : decode cX10_kind 1 = .ok (.iconst 0, 1) := by decide +kernel
theorem dX10_kind_2 : decode cX10_kind 2 = .ok (.putfield 126, 3) := by decide +kernel
theorem dX10_kind_5 : decode cX10_kind 5 = .ok (.aload_n 0, 1) := by decide +kernel
theorem dX10_kind_6 : decode cX10_kind 6 = .ok (.iload_n 1, 1) := by decide +kernel
theorem dX10_kind_7 : decode cX10_kind 7 = .ok (.invokevirtual 210, 3) := by decide +kernel
theorem dX10_kind_10 : decode cX10_kind 10 = .ok (.ifCond .eq 12, 3) := by decide +kernel
theorem dX10_kind_13 : decode cX10_kind 13 = .ok (.aload_n 0, 1) := by decide +kernel
theorem dX10_kind_14 : decode cX10_kind 14 = .ok (.iload_n 1, 1) := by decide +kernel
theorem dX10_kind_15 : decode cX10_kind 15 = .ok (.iload_n 2, 1) := by decide +kernel
theorem dX10_kind_16 : decode cX10_kind 16 = .ok (.invokevirtual 213, 3) := by decide +kernel
theorem dX10_kind_19 : decode cX10_kind 19 = .ok (.goto 4, 3) := by decide +kernel
theorem dX10_kind_22 : decode cX10_kind 22 = .ok (.iconst (-1), 1) := by decide +kernel
theorem dX10_kind_23 : decode cX10_kind 23 = .ok (.istore 4, 2) := by decide +kernel
theorem dX10_kind_25 : decode cX10_kind 25 = .ok (.iload 4, 2) := by decide +kernel
theorem dX10_kind_27 : decode cX10_kind 27 = .ok (.ifCond .lt 17, 3) := by decide +kernel
theorem dX10_kind_30 : decode cX10_kind 30 = .ok (.iload_n 3, 1) := by decide +kernel
theorem dX10_kind_31 : decode cX10_kind 31 = .ok (.ifCond .lt 13, 3) := by decide +kernel
theorem dX10_kind_34 : decode cX10_kind 34 = .ok (.iload_n 3, 1) := by decide +kernel
theorem dX10_kind_35 : decode cX10_kind 35 = .ok (.aload_n 0, 1) := by decide +kernel
theorem dX10_kind_36 : decode cX10_kind 36 = .ok (.getfield 63, 3) := by decide +kernel
theorem dX10_kind_39 : decode cX10_kind 39 = .ok (.iload_n 1, 1) := by decide +kernel
theorem dX10_kind_40 : decode cX10_kind 40 = .ok (.iaload, 1) := by decide +kernel
theorem dX10_kind_41 : decode cX10_kind 41 = .ok (.if_icmp .lt 7, 3) := by decide +kernel
theorem dX10_kind_44 : decode cX10_kind 44 = .ok (.iconst (-1), 1) := by decide +kernel
theorem dX10_kind_45 : decode cX10_kind 45 = .ok (.goto 11, 3) := by decide +kernel
theorem dX10_kind_48 : decode cX10_kind 48 = .ok (.aload_n 0, 1) := by decide +kernel
theorem dX10_kind_49 : decode cX10_kind 49 = .ok (.iload_n 1, 1) := by decide +kernel
theorem dX10_kind_50 : decode cX10_kind 50 = .ok (.iload 4, 2) := by decide +kernel
theorem dX10_kind_52 : decode cX10_kind 52 = .ok (.iload_n 3, 1) := by decide +kernel
theorem dX10_kind_53 : decode cX10_kind 53 = .ok (.invokevirtual 216, 3) := by decide +kernel
theorem dX10_kind_56 : decode cX10_kind 56 = .ok (.ireturn, 1) := by decide +kernel
theorem dX10_first_0 : decode cX10_first 0 = .ok (.aload_n 0, 1) := by decide +kernel
theorem dX10_first_1 : decode cX10_first 1 = .ok (.iload_n 1, 1) := by decide +kernel
theorem dX10_first_2 : decode cX10_first 2 = .ok (.iconst 0, 1) := by decide +kernel
theorem dX10_first_3 : decode cX10_first 3 = .ok (.invokevirtual 213, 3) := by decide +kernel
theorem dX10_first_6 : decode cX10_first 6 = .ok (.istore_n 2, 1) := by decide +kernel
theorem dX10_first_7 : decode cX10_first 7 = .ok (.aload_n 0, 1) := by decide +kernel
theorem dX10_first_8 : decode cX10_first 8 = .ok (.getfield 117, 3) := by decide +kernel
theorem dX10_first_11 : decode cX10_first 11 = .ok (.iload_n 1, 1) := by decide +kernel
theorem dX10_first_12 : decode cX10_first 12 = .ok (.iload_n 2, 1) := by decide +kernel
theorem dX10_first_13 : decode cX10_first 13 = .ok (.ifCond .lt 7, 3) := by decide +kernel
theorem dX10_first_16 : decode cX10_first 16 = .ok (.iconst 1, 1) := by decide +kernel
theorem dX10_first_17 : decode cX10_first 17 = .ok (.goto 4, 3) := by decide +kernel
theorem dX10_first_20 : decode cX10_first 20 = .ok (.iconst 0, 1) := by decide +kernel
theorem dX10_first_21 : decode cX10_first 21 = .ok (.bastore, 1) := by decide +kernel
theorem dX10_first_22 : decode cX10_first 22 = .ok (.iconst 0, 1) := by decide +kernel
theorem dX10_first_23 : decode cX10_first 23 = .ok (.istore_n 3, 1) := by decide +kernel
theorem dX10_first_24 : decode cX10_first 24 = .ok (.iload_n 3, 1) := by decide +kernel
theorem dX10_first_25 : decode cX10_first 25 = .ok (.aload_n 0, 1) := by decide +kernel
theorem dX10_first_26 : decode cX10_first 26 = .ok (.getfield 63, 3) := by decide +kernel
theorem dX10_first_29 : decode cX10_first 29 = .ok (.iload_n 1, 1) := by decide +kernel
theorem dX10_first_30 : decode cX10_first 30 = .ok (.iaload, 1) := by decide +kernel
theorem dX10_first_31 : decode cX10_first 31 = .ok (.if_icmp .ge 31, 3) := by decide +kernel
theorem dX10_first_34 : decode cX10_first 34 = .ok (.iload_n 2, 1) := by decide +kernel
theorem dX10_first_35 : decode cX10_first 35 = .ok (.ifCond .lt 27, 3) := by decide +kernel
theorem dX10_first_38 : decode cX10_first 38 = .ok (.aload_n 0, 1) := by decide +kernel
theorem dX10_first_39 : decode cX10_first 39 = .ok (.getfield 114, 3) := by decide +kernel
theorem dX10_first_42 : decode cX10_first 42 = .ok (.bipush 8, 2) := by decide +kernel
theorem dX10_first_44 : decode cX10_first 44 = .ok (.iload_n 1, 1) := by decide +kernel
theorem dX10_first_45 : decode cX10_first 45 = .ok (.imul, 1) := by decide +kernel
theorem dX10_first_46 : decode cX10_first 46 = .ok (.iload_n 3, 1) := by decide +kernel
theorem dX10_first_47 : decode cX10_first 47 = .ok (.iadd, 1) := by decide +kernel
theorem dX10_first_48 : decode cX10_first 48 = .ok (.aload_n 0, 1) := by decide +kernel
theorem dX10_first_49 : decode cX10_first 49 = .ok (.iload_n 1, 1) := by decide +kernel
theorem dX10_first_50 : decode cX10_first 50 = .ok (.iload_n 2, 1) := by decide +kernel
theorem dX10_first_51 : decode cX10_first 51 = .ok (.iload_n 3, 1) := by decide +kernel
theorem dX10_first_52 : decode cX10_first 52 = .ok (.invokevirtual 216, 3) := by decide +kernel
theorem dX10_first_55 : decode cX10_first 55 = .ok (.iastore, 1) := by decide +kernel
theorem dX10_first_56 : decode cX10_first 56 = .ok (.iinc 3 1, 3) := by decide +kernel
theorem dX10_first_59 : decode cX10_first 59 = .ok (.goto (-35), 3) := by decide +kernel
theorem dX10_first_62 : decode cX10_first 62 = .ok (.return_, 1) := by decide +kernel
theorem dX10_firstAll_0 : decode cX10_firstAll 0 = .ok (.iconst 0, 1) := by decide +kernel
theorem dX10_firstAll_1 : decode cX10_firstAll 1 = .ok (.istore_n 1, 1) := by decide +kernel
theorem dX10_firstAll_2 : decode cX10_firstAll 2 = .ok (.iload_n 1, 1) := by decide +kernel
theorem dX10_firstAll_3 : decode cX10_firstAll 3 = .ok (.aload_n 0, 1) := by decide +kernel
theorem dX10_firstAll_4 : decode cX10_firstAll 4 = .ok (.getfield 189, 3) := by decide +kernel
theorem dX10_firstAll_7 : decode cX10_firstAll 7 = .ok (.if_icmp .ge 14, 3) := by decide +kernel
theorem dX10_firstAll_10 : decode cX10_firstAll 10 = .ok (.aload_n 0, 1) := by decide +kernel
theorem dX10_firstAll_11 : decode cX10_firstAll 11 = .ok (.iload_n 1, 1) := by decide +kernel
theorem dX10_firstAll_12 : decode cX10_firstAll 12 = .ok (.invokevirtual 219, 3) := by decide +kernel
theorem dX10_firstAll_15 : decode cX10_firstAll 15 = .ok (.iinc 1 1, 3) := by decide +kernel
theorem dX10_firstAll_18 : decode cX10_firstAll 18 = .ok (.goto (-16), 3) := by decide +kernel
theorem dX10_firstAll_21 : decode cX10_firstAll 21 = .ok (.return_, 1) := by decide +kernel
theorem dX10_pick_0 : decode cX10_pick 0 = .ok (.aload_n 0, 1) := by decide +kernel
theorem dX10_pick_1 : decode cX10_pick 1 = .ok (.getfield 123, 3) := by decide +kernel
theorem dX10_pick_4 : decode cX10_pick 4 = .ok (.iload_n 1, 1) := by decide +kernel
theorem dX10_pick_5 : decode cX10_pick 5 = .ok (.iconst 0, 1) := by decide +kernel
theorem dX10_pick_6 : decode cX10_pick 6 = .ok (.iastore, 1) := by decide +kernel
theorem dX10_pick_7 : decode cX10_pick 7 = .ok (.aload_n 0, 1) := by decide +kernel
theorem dX10_pick_8 : decode cX10_pick 8 = .ok (.getfield 117, 3) := by decide +kernel
theorem dX10_pick_11 : decode cX10_pick 11 = .ok (.iload_n 1, 1) := by decide +kernel
theorem dX10_pick_12 : decode cX10_pick 12 = .ok (.baload, 1) := by decide +kernel
theorem dX10_pick_13 : decode cX10_pick 13 = .ok (.ifCond .ne 4, 3) := by decide +kernel
theorem dX10_pick_16 : decode cX10_pick 16 = .ok (.return_, 1) := by decide +kernel
theorem dX10_pick_17 : decode cX10_pick 17 = .ok (.aload_n 0, 1) := by decide +kernel
theorem dX10_pick_18 : decode cX10_pick 18 = .ok (.getfield 60, 3) := by decide +kernel
theorem dX10_pick_21 : decode cX10_pick 21 = .ok (.iload_n 1, 1) := by decide +kernel
theorem dX10_pick_22 : decode cX10_pick 22 = .ok (.iaload, 1) := by decide +kernel
theorem dX10_pick_23 : decode cX10_pick 23 = .ok (.istore_n 3, 1) := by decide +kernel
theorem dX10_pick_24 : decode cX10_pick 24 = .ok (.iload_n 2, 1) := by decide +kernel
theorem dX10_pick_25 : decode cX10_pick 25 = .ok (.ifCond .eq 12, 3) := by decide +kernel
theorem dX10_pick_28 : decode cX10_pick 28 = .ok (.aload_n 0, 1) := by decide +kernel
theorem dX10_pick_29 : decode cX10_pick 29 = .ok (.getfield 38, 3) := by decide +kernel
theorem dX10_pick_32 : decode cX10_pick 32 = .ok (.iload_n 3, 1) := by decide +kernel
theorem dX10_pick_33 : decode cX10_pick 33 = .ok (.iaload, 1) := by decide +kernel
theorem dX10_pick_34 : decode cX10_pick 34 = .ok (.goto 9, 3) := by decide +kernel
theorem dX10_pick_37 : decode cX10_pick 37 = .ok (.aload_n 0, 1) := by decide +kernel
theorem dX10_pick_38 : decode cX10_pick 38 = .ok (.getfield 44, 3) := by decide +kernel
theorem dX10_pick_41 : decode cX10_pick 41 = .ok (.iload_n 3, 1) := by decide +kernel
theorem dX10_pick_42 : decode cX10_pick 42 = .ok (.iaload, 1) := by decide +kernel
theorem dX10_pick_43 : decode cX10_pick 43 = .ok (.istore 4, 2) := by decide +kernel
theorem dX10_pick_45 : decode cX10_pick 45 = .ok (.iconst 0, 1) := by decide +kernel
theorem dX10_pick_46 : decode cX10_pick 46 = .ok (.istore 5, 2) := by decide +kernel
theorem dX10_pick_48 : decode cX10_pick 48 = .ok (.iload 5, 2) := by decide +kernel
theorem dX10_pick_50 : decode cX10_pick 50 = .ok (.iload 4, 2) := by decide +kernel
theorem dX10_pick_52 : decode cX10_pick 52 = .ok (.if_icmp .ge 115, 3) := by decide +kernel
theorem dX10_pick_55 : decode cX10_pick 55 = .ok (.iload_n 2, 1) := by decide +kernel
theorem dX10_pick_56 : decode cX10_pick 56 = .ok (.ifCond .eq 18, 3) := by decide +kernel
theorem dX10_pick_59 : decode cX10_pick 59 = .ok (.aload_n 0, 1) := by decide +kernel
theorem dX10_pick_60 : decode cX10_pick 60 = .ok (.getfield 41, 3) := by decide +kernel
theorem dX10_pick_63 : decode cX10_pick 63 = .ok (.bipush 7, 2) := by decide +kernel
theorem dX10_pick_65 : decode cX10_pick 65 = .ok (.iload_n 3, 1) := by decide +kernel
theorem dX10_pick_66 : decode cX10_pick 66 = .ok (.imul, 1) := by decide +kernel
theorem dX10_pick_67 : decode cX10_pick 67 = .ok (.iload 5, 2) := by decide +kernel
theorem dX10_pick_69 : decode cX10_pick 69 = .ok (.iadd, 1) := by decide +kernel
theorem dX10_pick_70 : decode cX10_pick 70 = .ok (.iaload, 1) := by decide +kernel
theorem dX10_pick_71 : decode cX10_pick 71 = .ok (.goto 15, 3) := by decide +kernel
theorem dX10_pick_74 : decode cX10_pick 74 = .ok (.aload_n 0, 1) := by decide +kernel
theorem dX10_pick_75 : decode cX10_pick 75 = .ok (.getfield 47, 3) := by decide +kernel
theorem dX10_pick_78 : decode cX10_pick 78 = .ok (.bipush 7, 2) := by decide +kernel
theorem dX10_pick_80 : decode cX10_pick 80 = .ok (.iload_n 3, 1) := by decide +kernel
theorem dX10_pick_81 : decode cX10_pick 81 = .ok (.imul, 1) := by decide +kernel
theorem dX10_pick_82 : decode cX10_pick 82 = .ok (.iload 5, 2) := by decide +kernel
theorem dX10_pick_84 : decode cX10_pick 84 = .ok (.iadd, 1) := by decide +kernel
theorem dX10_pick_85 : decode cX10_pick 85 = .ok (.iaload, 1) := by decide +kernel
theorem dX10_pick_86 : decode cX10_pick 86 = .ok (.istore 6, 2) := by decide +kernel
theorem dX10_pick_88 : decode cX10_pick 88 = .ok (.iconst 0, 1) := by decide +kernel
theorem dX10_pick_89 : decode cX10_pick 89 = .ok (.istore 7, 2) := by decide +kernel
theorem dX10_pick_91 : decode cX10_pick 91 = .ok (.iload 7, 2) := by decide +kernel
theorem dX10_pick_93 : decode cX10_pick 93 = .ok (.aload_n 0, 1) := by decide +kernel
theorem dX10_pick_94 : decode cX10_pick 94 = .ok (.getfield 63, 3) := by decide +kernel
theorem dX10_pick_97 : decode cX10_pick 97 = .ok (.iload_n 1, 1) := by decide +kernel
theorem dX10_pick_98 : decode cX10_pick 98 = .ok (.iaload, 1) := by decide +kernel
theorem dX10_pick_99 : decode cX10_pick 99 = .ok (.if_icmp .ge 62, 3) := by decide +kernel
theorem dX10_pick_102 : decode cX10_pick 102 = .ok (.aload_n 0, 1) := by decide +kernel
theorem dX10_pick_103 : decode cX10_pick 103 = .ok (.getfield 114, 3) := by decide +kernel
theorem dX10_pick_106 : decode cX10_pick 106 = .ok (.bipush 8, 2) := by decide +kernel
theorem dX10_pick_108 : decode cX10_pick 108 = .ok (.iload_n 1, 1) := by decide +kernel
theorem dX10_pick_109 : decode cX10_pick 109 = .ok (.imul, 1) := by decide +kernel
theorem dX10_pick_110 : decode cX10_pick 110 = .ok (.iload 7, 2) := by decide +kernel
theorem dX10_pick_112 : decode cX10_pick 112 = .ok (.iadd, 1) := by decide +kernel
theorem dX10_pick_113 : decode cX10_pick 113 = .ok (.iaload, 1) := by decide +kernel
theorem dX10_pick_114 : decode cX10_pick 114 = .ok (.iload 6, 2) := by decide +kernel
theorem dX10_pick_116 : decode cX10_pick 116 = .ok (.if_icmp .eq 6, 3) := by decide +kernel
theorem dX10_pick_119 : decode cX10_pick 119 = .ok (.goto 36, 3) := by decide +kernel
theorem dX10_pick_122 : decode cX10_pick 122 = .ok (.aload_n 0, 1) := by decide +kernel
theorem dX10_pick_123 : decode cX10_pick 123 = .ok (.getfield 120, 3) := by decide +kernel
theorem dX10_pick_126 : decode cX10_pick 126 = .ok (.bipush 8, 2) := by decide +kernel
theorem dX10_pick_128 : decode cX10_pick 128 = .ok (.iload_n 1, 1) := by decide +kernel
theorem dX10_pick_129 : decode cX10_pick 129 = .ok (.imul, 1) := by decide +kernel
theorem dX10_pick_130 : decode cX10_pick 130 = .ok (.aload_n 0, 1) := by decide +kernel
theorem dX10_pick_131 : decode cX10_pick 131 = .ok (.getfield 123, 3) := by decide +kernel
theorem dX10_pick_134 : decode cX10_pick 134 = .ok (.iload_n 1, 1) := by decide +kernel
theorem dX10_pick_135 : decode cX10_pick 135 = .ok (.iaload, 1) := by decide +kernel
theorem dX10_pick_136 : decode cX10_pick 136 = .ok (.iadd, 1) := by decide +kernel
theorem dX10_pick_137 : decode cX10_pick 137 = .ok (.bipush 8, 2) := by decide +kernel
theorem dX10_pick_139 : decode cX10_pick 139 = .ok (.iload_n 1, 1) := by decide +kernel
theorem dX10_pick_140 : decode cX10_pick 140 = .ok (.imul, 1) := by decide +kernel
theorem dX10_pick_141 : decode cX10_pick 141 = .ok (.iload 7, 2) := by decide +kernel
theorem dX10_pick_143 : decode cX10_pick 143 = .ok (.iadd, 1) := by decide +kernel
theorem dX10_pick_144 : decode cX10_pick 144 = .ok (.iastore, 1) := by decide +kernel
theorem dX10_pick_145 : decode cX10_pick 145 = .ok (.aload_n 0, 1) := by decide +kernel
theorem dX10_pick_146 : decode cX10_pick 146 = .ok (.getfield 123, 3) := by decide +kernel
theorem dX10_pick_149 : decode cX10_pick 149 = .ok (.iload_n 1, 1) := by decide +kernel
theorem dX10_pick_150 : decode cX10_pick 150 = .ok (.dup2, 1) := by decide +kernel
theorem dX10_pick_151 : decode cX10_pick 151 = .ok (.iaload, 1) := by decide +kernel
theorem dX10_pick_152 : decode cX10_pick 152 = .ok (.iconst 1, 1) := by decide +kernel
theorem dX10_pick_153 : decode cX10_pick 153 = .ok (.iadd, 1) := by decide +kernel
theorem dX10_pick_154 : decode cX10_pick 154 = .ok (.iastore, 1) := by decide +kernel
theorem dX10_pick_155 : decode cX10_pick 155 = .ok (.iinc 7 1, 3) := by decide +kernel
theorem dX10_pick_158 : decode cX10_pick 158 = .ok (.goto (-67), 3) := by decide +kernel
theorem dX10_pick_161 : decode cX10_pick 161 = .ok (.iinc 5 1, 3) := by decide +kernel
theorem dX10_pick_164 : decode cX10_pick 164 = .ok (.goto (-116), 3) := by decide +kernel
theorem dX10_pick_167 : decode cX10_pick 167 = .ok (.return_, 1) := by decide +kernel
theorem dX10_compare_0 : decode cX10_compare 0 = .ok (.iconst 0, 1) := by decide +kernel
theorem dX10_compare_1 : decode cX10_compare 1 = .ok (.istore_n 3, 1) := by decide +kernel
theorem dX10_compare_2 : decode cX10_compare 2 = .ok (.iload_n 3, 1) := by decide +kernel
theorem dX10_compare_3 : decode cX10_compare 3 = .ok (.aload_n 0, 1) := by decide +kernel
theorem dX10_compare_4 : decode cX10_compare 4 = .ok (.getfield 75, 3) := by decide +kernel
theorem dX10_compare_7 : decode cX10_compare 7 = .ok (.iload_n 1, 1) := by decide +kernel
theorem dX10_compare_8 : decode cX10_compare 8 = .ok (.iaload, 1) := by decide +kernel
theorem dX10_compare_9 : decode cX10_compare 9 = .ok (.if_icmp .ge 68, 3) := by decide +kernel
theorem dX10_compare_12 : decode cX10_compare 12 = .ok (.iload_n 3, 1) := by decide +kernel
theorem dX10_compare_13 : decode cX10_compare 13 = .ok (.aload_n 0, 1) := by decide +kernel
theorem dX10_compare_14 : decode cX10_compare 14 = .ok (.getfield 75, 3) := by decide +kernel
theorem dX10_compare_17 : decode cX10_compare 17 = .ok (.iload_n 2, 1) := by decide +kernel
theorem dX10_compare_18 : decode cX10_compare 18 = .ok (.iaload, 1) := by decide +kernel
theorem dX10_compare_19 : decode cX10_compare 19 = .ok (.if_icmp .ge 58, 3) := by decide +kernel
theorem dX10_compare_22 : decode cX10_compare 22 = .ok (.aload_n 0, 1) := by decide +kernel
theorem dX10_compare_23 : decode cX10_compare 23 = .ok (.getfield 72, 3) := by decide +kernel
theorem dX10_compare_26 : decode cX10_compare 26 = .ok (.bipush 21, 2) := by decide +kernel
theorem dX10_compare_28 : decode cX10_compare 28 = .ok (.iload_n 1, 1) := by decide +kernel
theorem dX10_compare_29 : decode cX10_compare 29 = .ok (.imul, 1) := by decide +kernel
theorem dX10_compare_30 : decode cX10_compare 30 = .ok (.iload_n 3, 1) := by decide +kernel
theorem dX10_compare_31 : decode cX10_compare 31 = .ok (.iadd, 1) := by decide +kernel
theorem dX10_compare_32 : decode cX10_compare 32 = .ok (.iaload, 1) := by decide +kernel
theorem dX10_compare_33 : decode cX10_compare 33 = .ok (.aload_n 0, 1) := by decide +kernel
theorem dX10_compare_34 : decode cX10_compare 34 = .ok (.getfield 72, 3) := by decide +kernel
theorem dX10_compare_37 : decode cX10_compare 37 = .ok (.bipush 21, 2) := by decide +kernel
theorem dX10_compare_39 : decode cX10_compare 39 = .ok (.iload_n 2, 1) := by decide +kernel
theorem dX10_compare_40 : decode cX10_compare 40 = .ok (.imul, 1) := by decide +kernel
theorem dX10_compare_41 : decode cX10_compare 41 = .ok (.iload_n 3, 1) := by decide +kernel
theorem dX10_compare_42 : decode cX10_compare 42 = .ok (.iadd, 1) := by decide +kernel
theorem dX10_compare_43 : decode cX10_compare 43 = .ok (.iaload, 1) := by decide +kernel
theorem dX10_compare_44 : decode cX10_compare 44 = .ok (.if_icmp .eq 27, 3) := by decide +kernel
theorem dX10_compare_47 : decode cX10_compare 47 = .ok (.aload_n 0, 1) := by decide +kernel
theorem dX10_compare_48 : decode cX10_compare 48 = .ok (.getfield 72, 3) := by decide +kernel
theorem dX10_compare_51 : decode cX10_compare 51 = .ok (.bipush 21, 2) := by decide +kernel
theorem dX10_compare_53 : decode cX10_compare 53 = .ok (.iload_n 1, 1) := by decide +kernel
theorem dX10_compare_54 : decode cX10_compare 54 = .ok (.imul, 1) := by decide +kernel
theorem dX10_compare_55 : decode cX10_compare 55 = .ok (.iload_n 3, 1) := by decide +kernel
theorem dX10_compare_56 : decode cX10_compare 56 = .ok (.iadd, 1) := by decide +kernel
theorem dX10_compare_57 : decode cX10_compare 57 = .ok (.iaload, 1) := by decide +kernel
theorem dX10_compare_58 : decode cX10_compare 58 = .ok (.aload_n 0, 1) := by decide +kernel
theorem dX10_compare_59 : decode cX10_compare 59 = .ok (.getfield 72, 3) := by decide +kernel
theorem dX10_compare_62 : decode cX10_compare 62 = .ok (.bipush 21, 2) := by decide +kernel
theorem dX10_compare_64 : decode cX10_compare 64 = .ok (.iload_n 2, 1) := by decide +kernel
theorem dX10_compare_65 : decode cX10_compare 65 = .ok (.imul, 1) := by decide +kernel
theorem dX10_compare_66 : decode cX10_compare 66 = .ok (.iload_n 3, 1) := by decide +kernel
theorem dX10_compare_67 : decode cX10_compare 67 = .ok (.iadd, 1) := by decide +kernel
theorem dX10_compare_68 : decode cX10_compare 68 = .ok (.iaload, 1) := by decide +kernel
theorem dX10_compare_69 : decode cX10_compare 69 = .ok (.isub, 1) := by decide +kernel
theorem dX10_compare_70 : decode cX10_compare 70 = .ok (.ireturn, 1) := by decide +kernel
theorem dX10_compare_71 : decode cX10_compare 71 = .ok (.iinc 3 1, 3) := by decide +kernel
theorem dX10_compare_74 : decode cX10_compare 74 = .ok (.goto (-72), 3) := by decide +kernel
theorem dX10_compare_77 : decode cX10_compare 77 = .ok (.aload_n 0, 1) := by decide +kernel
theorem dX10_compare_78 : decode cX10_compare 78 = .ok (.getfield 75, 3) := by decide +kernel
theorem dX10_compare_81 : decode cX10_compare 81 = .ok (.iload_n 1, 1) := by decide +kernel
theorem dX10_compare_82 : decode cX10_compare 82 = .ok (.iaload, 1) := by decide +kernel
theorem dX10_compare_83 : decode cX10_compare 83 = .ok (.aload_n 0, 1) := by decide +kernel
theorem dX10_compare_84 : decode cX10_compare 84 = .ok (.getfield 75, 3) := by decide +kernel
theorem dX10_compare_87 : decode cX10_compare 87 = .ok (.iload_n 2, 1) := by decide +kernel
theorem dX10_compare_88 : decode cX10_compare 88 = .ok (.iaload, 1) := by decide +kernel
theorem dX10_compare_89 : decode cX10_compare 89 = .ok (.isub, 1) := by decide +kernel
theorem dX10_compare_90 : decode cX10_compare 90 = .ok (.ireturn, 1) := by decide +kernel
theorem dX10_ahead_0 : decode cX10_ahead 0 = .ok (.aload_n 0, 1) := by decide +kernel
theorem dX10_ahead_1 : decode cX10_ahead 1 = .ok (.getfield 117, 3) := by decide +kernel
theorem dX10_ahead_4 : decode cX10_ahead 4 = .ok (.iload_n 1, 1) := by decide +kernel
theorem dX10_ahead_5 : decode cX10_ahead 5 = .ok (.baload, 1) := by decide +kernel
theorem dX10_ahead_6 : decode cX10_ahead 6 = .ok (.aload_n 0, 1) := by decide +kernel
theorem dX10_ahead_7 : decode cX10_ahead 7 = .ok (.getfield 117, 3) := by decide +kernel
theorem dX10_ahead_10 : decode cX10_ahead 10 = .ok (.iload_n 2, 1) := by decide +kernel
theorem dX10_ahead_11 : decode cX10_ahead 11 = .ok (.baload, 1) := by decide +kernel
theorem dX10_ahead_12 : decode cX10_ahead 12 = .ok (.if_icmp .eq 10, 3) := by decide +kernel
theorem dX10_ahead_15 : decode cX10_ahead 15 = .ok (.aload_n 0, 1) := by decide +kernel
theorem dX10_ahead_16 : decode cX10_ahead 16 = .ok (.getfield 117, 3) := by decide +kernel
theorem dX10_ahead_19 : decode cX10_ahead 19 = .ok (.iload_n 1, 1) := by decide +kernel
theorem dX10_ahead_20 : decode cX10_ahead 20 = .ok (.baload, 1) := by decide +kernel
theorem dX10_ahead_21 : decode cX10_ahead 21 = .ok (.ireturn, 1) := by decide +kernel
theorem dX10_ahead_22 : decode cX10_ahead 22 = .ok (.aload_n 0, 1) := by decide +kernel
theorem dX10_ahead_23 : decode cX10_ahead 23 = .ok (.getfield 117, 3) := by decide +kernel
theorem dX10_ahead_26 : decode cX10_ahead 26 = .ok (.iload_n 1, 1) := by decide +kernel
theorem dX10_ahead_27 : decode cX10_ahead 27 = .ok (.baload, 1) := by decide +kernel
theorem dX10_ahead_28 : decode cX10_ahead 28 = .ok (.ifCond .ne 14, 3) := by decide +kernel
theorem dX10_ahead_31 : decode cX10_ahead 31 = .ok (.iload_n 1, 1) := by decide +kernel
theorem dX10_ahead_32 : decode cX10_ahead 32 = .ok (.iload_n 2, 1) := by decide +kernel
theorem dX10_ahead_33 : decode cX10_ahead 33 = .ok (.if_icmp .ge 7, 3) := by decide +kernel
theorem dX10_ahead_36 : decode cX10_ahead 36 = .ok (.iconst 1, 1) := by decide +kernel
theorem dX10_ahead_37 : decode cX10_ahead 37 = .ok (.goto 4, 3) := by decide +kernel
theorem dX10_ahead_40 : decode cX10_ahead 40 = .ok (.iconst 0, 1) := by decide +kernel
theorem dX10_ahead_41 : decode cX10_ahead 41 = .ok (.ireturn, 1) := by decide +kernel
theorem dX10_ahead_42 : decode cX10_ahead 42 = .ok (.iconst 0, 1) := by decide +kernel
theorem dX10_ahead_43 : decode cX10_ahead 43 = .ok (.istore_n 3, 1) := by decide +kernel
theorem dX10_ahead_44 : decode cX10_ahead 44 = .ok (.iload_n 3, 1) := by decide +kernel
theorem dX10_ahead_45 : decode cX10_ahead 45 = .ok (.aload_n 0, 1) := by decide +kernel
theorem dX10_ahead_46 : decode cX10_ahead 46 = .ok (.getfield 123, 3) := by decide +kernel
theorem dX10_ahead_49 : decode cX10_ahead 49 = .ok (.iload_n 1, 1) := by decide +kernel
theorem dX10_ahead_50 : decode cX10_ahead 50 = .ok (.iaload, 1) := by decide +kernel
theorem dX10_ahead_51 : decode cX10_ahead 51 = .ok (.if_icmp .ge 63, 3) := by decide +kernel
theorem dX10_ahead_54 : decode cX10_ahead 54 = .ok (.iload_n 3, 1) := by decide +kernel
theorem dX10_ahead_55 : decode cX10_ahead 55 = .ok (.aload_n 0, 1) := by decide +kernel
theorem dX10_ahead_56 : decode cX10_ahead 56 = .ok (.getfield 123, 3) := by decide +kernel
theorem dX10_ahead_59 : decode cX10_ahead 59 = .ok (.iload_n 2, 1) := by decide +kernel
theorem dX10_ahead_60 : decode cX10_ahead 60 = .ok (.iaload, 1) := by decide +kernel
theorem dX10_ahead_61 : decode cX10_ahead 61 = .ok (.if_icmp .ge 53, 3) := by decide +kernel
theorem dX10_ahead_64 : decode cX10_ahead 64 = .ok (.aload_n 0, 1) := by decide +kernel
theorem dX10_ahead_65 : decode cX10_ahead 65 = .ok (.aload_n 0, 1) := by decide +kernel
theorem dX10_ahead_66 : decode cX10_ahead 66 = .ok (.getfield 120, 3) := by decide +kernel
theorem dX10_ahead_69 : decode cX10_ahead 69 = .ok (.bipush 8, 2) := by decide +kernel
theorem dX10_ahead_71 : decode cX10_ahead 71 = .ok (.iload_n 1, 1) := by decide +kernel
theorem dX10_ahead_72 : decode cX10_ahead 72 = .ok (.imul, 1) := by decide +kernel
theorem dX10_ahead_73 : decode cX10_ahead 73 = .ok (.iload_n 3, 1) := by decide +kernel
theorem dX10_ahead_74 : decode cX10_ahead 74 = .ok (.iadd, 1) := by decide +kernel
theorem dX10_ahead_75 : decode cX10_ahead 75 = .ok (.iaload, 1) := by decide +kernel
theorem dX10_ahead_76 : decode cX10_ahead 76 = .ok (.aload_n 0, 1) := by decide +kernel
theorem dX10_ahead_77 : decode cX10_ahead 77 = .ok (.getfield 120, 3) := by decide +kernel
theorem dX10_ahead_80 : decode cX10_ahead 80 = .ok (.bipush 8, 2) := by decide +kernel
theorem dX10_ahead_82 : decode cX10_ahead 82 = .ok (.iload_n 2, 1) := by decide +kernel
theorem dX10_ahead_83 : decode cX10_ahead 83 = .ok (.imul, 1) := by decide +kernel
theorem dX10_ahead_84 : decode cX10_ahead 84 = .ok (.iload_n 3, 1) := by decide +kernel
theorem dX10_ahead_85 : decode cX10_ahead 85 = .ok (.iadd, 1) := by decide +kernel
theorem dX10_ahead_86 : decode cX10_ahead 86 = .ok (.iaload, 1) := by decide +kernel
theorem dX10_ahead_87 : decode cX10_ahead 87 = .ok (.invokevirtual 222, 3) := by decide +kernel
theorem dX10_ahead_90 : decode cX10_ahead 90 = .ok (.istore 4, 2) := by decide +kernel
theorem dX10_ahead_92 : decode cX10_ahead 92 = .ok (.iload 4, 2) := by decide +kernel
theorem dX10_ahead_94 : decode cX10_ahead 94 = .ok (.ifCond .eq 14, 3) := by decide +kernel
theorem dX10_ahead_97 : decode cX10_ahead 97 = .ok (.iload 4, 2) := by decide +kernel
theorem dX10_ahead_99 : decode cX10_ahead 99 = .ok (.ifCond .ge 7, 3) := by decide +kernel
theorem dX10_ahead_102 : decode cX10_ahead 102 = .ok (.iconst 1, 1) := by decide +kernel
theorem dX10_ahead_103 : decode cX10_ahead 103 = .ok (.goto 4, 3) := by decide +kernel
theorem dX10_ahead_106 : decode cX10_ahead 106 = .ok (.iconst 0, 1) := by decide +kernel
theorem dX10_ahead_107 : decode cX10_ahead 107 = .ok (.ireturn, 1) := by decide +kernel
theorem dX10_ahead_108 : decode cX10_ahead 108 = .ok (.iinc 3 1, 3) := by decide +kernel
theorem dX10_ahead_111 : decode cX10_ahead 111 = .ok (.goto (-67), 3) := by decide +kernel
theorem dX10_ahead_114 : decode cX10_ahead 114 = .ok (.aload_n 0, 1) := by decide +kernel
theorem dX10_ahead_115 : decode cX10_ahead 115 = .ok (.getfield 123, 3) := by decide +kernel
theorem dX10_ahead_118 : decode cX10_ahead 118 = .ok (.iload_n 1, 1) := by decide +kernel
theorem dX10_ahead_119 : decode cX10_ahead 119 = .ok (.iaload, 1) := by decide +kernel
theorem dX10_ahead_120 : decode cX10_ahead 120 = .ok (.aload_n 0, 1) := by decide +kernel
theorem dX10_ahead_121 : decode cX10_ahead 121 = .ok (.getfield 123, 3) := by decide +kernel
theorem dX10_ahead_124 : decode cX10_ahead 124 = .ok (.iload_n 2, 1) := by decide +kernel
theorem dX10_ahead_125 : decode cX10_ahead 125 = .ok (.iaload, 1) := by decide +kernel
theorem dX10_ahead_126 : decode cX10_ahead 126 = .ok (.if_icmp .eq 26, 3) := by decide +kernel
theorem dX10_ahead_129 : decode cX10_ahead 129 = .ok (.aload_n 0, 1) := by decide +kernel
theorem dX10_ahead_130 : decode cX10_ahead 130 = .ok (.getfield 123, 3) := by decide +kernel
theorem dX10_ahead_133 : decode cX10_ahead 133 = .ok (.iload_n 1, 1) := by decide +kernel
theorem dX10_ahead_134 : decode cX10_ahead 134 = .ok (.iaload, 1) := by decide +kernel
theorem dX10_ahead_135 : decode cX10_ahead 135 = .ok (.aload_n 0, 1) := by decide +kernel
theorem dX10_ahead_136 : decode cX10_ahead 136 = .ok (.getfield 123, 3) := by decide +kernel
theorem dX10_ahead_139 : decode cX10_ahead 139 = .ok (.iload_n 2, 1) := by decide +kernel
theorem dX10_ahead_140 : decode cX10_ahead 140 = .ok (.iaload, 1) := by decide +kernel
theorem dX10_ahead_141 : decode cX10_ahead 141 = .ok (.if_icmp .ge 7, 3) := by decide +kernel
theorem dX10_ahead_144 : decode cX10_ahead 144 = .ok (.iconst 1, 1) := by decide +kernel
theorem dX10_ahead_145 : decode cX10_ahead 145 = .ok (.goto 17, 3) := by decide +kernel
theorem dX10_ahead_148 : decode cX10_ahead 148 = .ok (.iconst 0, 1) := by decide +kernel
theorem dX10_ahead_149 : decode cX10_ahead 149 = .ok (.goto 13, 3) := by decide +kernel
theorem dX10_ahead_152 : decode cX10_ahead 152 = .ok (.iload_n 1, 1) := by decide +kernel
theorem dX10_ahead_153 : decode cX10_ahead 153 = .ok (.iload_n 2, 1) := by decide +kernel
theorem dX10_ahead_154 : decode cX10_ahead 154 = .ok (.if_icmp .ge 7, 3) := by decide +kernel
theorem dX10_ahead_157 : decode cX10_ahead 157 = .ok (.iconst 1, 1) := by decide +kernel
theorem dX10_ahead_158 : decode cX10_ahead 158 = .ok (.goto 4, 3) := by decide +kernel
theorem dX10_ahead_161 : decode cX10_ahead 161 = .ok (.iconst 0, 1) := by decide +kernel
theorem dX10_ahead_162 : decode cX10_ahead 162 = .ok (.ireturn, 1) := by decide +kernel
theorem dX10_orderAll_0 : decode cX10_orderAll 0 = .ok (.aload_n 0, 1) := by decide +kernel
theorem dX10_orderAll_1 : decode cX10_orderAll 1 = .ok (.invokevirtual 225, 3) := by decide +kernel
theorem dX10_orderAll_4 : decode cX10_orderAll 4 = .ok (.iconst 0, 1) := by decide +kernel
theorem dX10_orderAll_5 : decode cX10_orderAll 5 = .ok (.istore_n 1, 1) := by decide +kernel
theorem dX10_orderAll_6 : decode cX10_orderAll 6 = .ok (.iload_n 1, 1) := by decide +kernel
theorem dX10_orderAll_7 : decode cX10_orderAll 7 = .ok (.aload_n 0, 1) := by decide +kernel
theorem dX10_orderAll_8 : decode cX10_orderAll 8 = .ok (.getfield 189, 3) := by decide +kernel
theorem dX10_orderAll_11 : decode cX10_orderAll 11 = .ok (.if_icmp .ge 15, 3) := by decide +kernel
theorem dX10_orderAll_14 : decode cX10_orderAll 14 = .ok (.aload_n 0, 1) := by decide +kernel
theorem dX10_orderAll_15 : decode cX10_orderAll 15 = .ok (.iload_n 1, 1) := by decide +kernel
theorem dX10_orderAll_16 : decode cX10_orderAll 16 = .ok (.iconst 1, 1) := by decide +kernel
theorem dX10_orderAll_17 : decode cX10_orderAll 17 = .ok (.invokevirtual 228, 3) := by decide +kernel
theorem dX10_orderAll_20 : decode cX10_orderAll 20 = .ok (.iinc 1 1, 3) := by decide +kernel
theorem dX10_orderAll_23 : decode cX10_orderAll 23 = .ok (.goto (-17), 3) := by decide +kernel
theorem dX10_orderAll_26 : decode cX10_orderAll 26 = .ok (.return_, 1) := by decide +kernel
theorem dX10_placeOf_0 : decode cX10_placeOf 0 = .ok (.iconst 0, 1) := by decide +kernel
theorem dX10_placeOf_1 : decode cX10_placeOf 1 = .ok (.istore_n 2, 1) := by decide +kernel
theorem dX10_placeOf_2 : decode cX10_placeOf 2 = .ok (.iconst 0, 1) := by decide +kernel
theorem dX10_placeOf_3 : decode cX10_placeOf 3 = .ok (.istore_n 3, 1) := by decide +kernel
theorem dX10_placeOf_4 : decode cX10_placeOf 4 = .ok (.iload_n 3, 1) := by decide +kernel
theorem dX10_placeOf_5 : decode cX10_placeOf 5 = .ok (.aload_n 0, 1) := by decide +kernel
theorem dX10_placeOf_6 : decode cX10_placeOf 6 = .ok (.getfield 189, 3) := by decide +kernel
theorem dX10_placeOf_9 : decode cX10_placeOf 9 = .ok (.if_icmp .ge 31, 3) := by decide +kernel
theorem dX10_placeOf_12 : decode cX10_placeOf 12 = .ok (.iload_n 2, 1) := by decide +kernel
theorem dX10_placeOf_13 : decode cX10_placeOf 13 = .ok (.iload_n 3, 1) := by decide +kernel
theorem dX10_placeOf_14 : decode cX10_placeOf 14 = .ok (.iload_n 1, 1) := by decide +kernel
theorem dX10_placeOf_15 : decode cX10_placeOf 15 = .ok (.if_icmp .eq 16, 3) := by decide +kernel
theorem dX10_placeOf_18 : decode cX10_placeOf 18 = .ok (.aload_n 0, 1) := by decide +kernel
theorem dX10_placeOf_19 : decode cX10_placeOf 19 = .ok (.iload_n 3, 1) := by decide +kernel
theorem dX10_placeOf_20 : decode cX10_placeOf 20 = .ok (.iload_n 1, 1) := by decide +kernel
theorem dX10_placeOf_21 : decode cX10_placeOf 21 = .ok (.invokevirtual 232, 3) := by decide +kernel
theorem dX10_placeOf_24 : decode cX10_placeOf 24 = .ok (.ifCond .eq 7, 3) := by decide +kernel
theorem dX10_placeOf_27 : decode cX10_placeOf 27 = .ok (.iconst 1, 1) := by decide +kernel
theorem dX10_placeOf_28 : decode cX10_placeOf 28 = .ok (.goto 4, 3) := by decide +kernel
theorem dX10_placeOf_31 : decode cX10_placeOf 31 = .ok (.iconst 0, 1) := by decide +kernel
theorem dX10_placeOf_32 : decode cX10_placeOf 32 = .ok (.iadd, 1) := by decide +kernel
theorem dX10_placeOf_33 : decode cX10_placeOf 33 = .ok (.istore_n 2, 1) := by decide +kernel
theorem dX10_placeOf_34 : decode cX10_placeOf 34 = .ok (.iinc 3 1, 3) := by decide +kernel
theorem dX10_placeOf_37 : decode cX10_placeOf 37 = .ok (.goto (-33), 3) := by decide +kernel
theorem dX10_placeOf_40 : decode cX10_placeOf 40 = .ok (.iload_n 2, 1) := by decide +kernel
theorem dX10_placeOf_41 : decode cX10_placeOf 41 = .ok (.ireturn, 1) := by decide +kernel
theorem dX10_signs_0 : decode cX10_signs 0 = .ok (.iload_n 2, 1) := by decide +kernel
theorem dX10_signs_1 : decode cX10_signs 1 = .ok (.iconst 1, 1) := by decide +kernel
theorem dX10_signs_2 : decode cX10_signs 2 = .ok (.if_icmp .ne 87, 3) := by decide +kernel
theorem dX10_signs_5 : decode cX10_signs 5 = .ok (.aload_n 0, 1) := by decide +kernel
theorem dX10_signs_6 : decode cX10_signs 6 = .ok (.getfield 63, 3) := by decide +kernel
theorem dX10_signs_9 : decode cX10_signs 9 = .ok (.iload_n 1, 1) := by decide +kernel
theorem dX10_signs_10 : decode cX10_signs 10 = .ok (.iaload, 1) := by decide +kernel
theorem dX10_signs_11 : decode cX10_signs 11 = .ok (.iconst 1, 1) := by decide +kernel
theorem dX10_signs_12 : decode cX10_signs 12 = .ok (.isub, 1) := by decide +kernel
theorem dX10_signs_13 : decode cX10_signs 13 = .ok (.istore_n 3, 1) := by decide +kernel
theorem dX10_signs_14 : decode cX10_signs 14 = .ok (.bipush 8, 2) := by decide +kernel
theorem dX10_signs_16 : decode cX10_signs 16 = .ok (.iload_n 1, 1) := by decide +kernel
theorem dX10_signs_17 : decode cX10_signs 17 = .ok (.imul, 1) := by decide +kernel
theorem dX10_signs_18 : decode cX10_signs 18 = .ok (.istore 4, 2) := by decide +kernel
theorem dX10_signs_20 : decode cX10_signs 20 = .ok (.iload 4, 2) := by decide +kernel
theorem dX10_signs_22 : decode cX10_signs 22 = .ok (.bipush 8, 2) := by decide +kernel
theorem dX10_signs_24 : decode cX10_signs 24 = .ok (.iload_n 1, 1) := by decide +kernel
theorem dX10_signs_25 : decode cX10_signs 25 = .ok (.imul, 1) := by decide +kernel
theorem dX10_signs_26 : decode cX10_signs 26 = .ok (.aload_n 0, 1) := by decide +kernel
theorem dX10_signs_27 : decode cX10_signs 27 = .ok (.getfield 63, 3) := by decide +kernel
theorem dX10_signs_30 : decode cX10_signs 30 = .ok (.iload_n 1, 1) := by decide +kernel
theorem dX10_signs_31 : decode cX10_signs 31 = .ok (.iaload, 1) := by decide +kernel
theorem dX10_signs_32 : decode cX10_signs 32 = .ok (.iadd, 1) := by decide +kernel
theorem dX10_signs_33 : decode cX10_signs 33 = .ok (.if_icmp .ge 54, 3) := by decide +kernel
theorem dX10_signs_36 : decode cX10_signs 36 = .ok (.iconst 0, 1) := by decide +kernel
theorem dX10_signs_37 : decode cX10_signs 37 = .ok (.istore 5, 2) := by decide +kernel
theorem dX10_signs_39 : decode cX10_signs 39 = .ok (.iload 5, 2) := by decide +kernel
theorem dX10_signs_41 : decode cX10_signs 41 = .ok (.aload_n 0, 1) := by decide +kernel
theorem dX10_signs_42 : decode cX10_signs 42 = .ok (.getfield 75, 3) := by decide +kernel
theorem dX10_signs_45 : decode cX10_signs 45 = .ok (.iload 4, 2) := by decide +kernel
theorem dX10_signs_47 : decode cX10_signs 47 = .ok (.iaload, 1) := by decide +kernel
theorem dX10_signs_48 : decode cX10_signs 48 = .ok (.if_icmp .ge 33, 3) := by decide +kernel
theorem dX10_signs_51 : decode cX10_signs 51 = .ok (.iload_n 3, 1) := by decide +kernel
theorem dX10_signs_52 : decode cX10_signs 52 = .ok (.aload_n 0, 1) := by decide +kernel
theorem dX10_signs_53 : decode cX10_signs 53 = .ok (.getfield 81, 3) := by decide +kernel
theorem dX10_signs_56 : decode cX10_signs 56 = .ok (.aload_n 0, 1) := by decide +kernel
theorem dX10_signs_57 : decode cX10_signs 57 = .ok (.getfield 72, 3) := by decide +kernel
theorem dX10_signs_60 : decode cX10_signs 60 = .ok (.bipush 21, 2) := by decide +kernel
theorem dX10_signs_62 : decode cX10_signs 62 = .ok (.iload 4, 2) := by decide +kernel
theorem dX10_signs_64 : decode cX10_signs 64 = .ok (.imul, 1) := by decide +kernel
theorem dX10_signs_65 : decode cX10_signs 65 = .ok (.iload 5, 2) := by decide +kernel
theorem dX10_signs_67 : decode cX10_signs 67 = .ok (.iadd, 1) := by decide +kernel
theorem dX10_signs_68 : decode cX10_signs 68 = .ok (.iaload, 1) := by decide +kernel
theorem dX10_signs_69 : decode cX10_signs 69 = .ok (.bipush 97, 2) := by decide +kernel
theorem dX10_signs_71 : decode cX10_signs 71 = .ok (.isub, 1) := by decide +kernel
theorem dX10_signs_72 : decode cX10_signs 72 = .ok (.iaload, 1) := by decide +kernel
theorem dX10_signs_73 : decode cX10_signs 73 = .ok (.iadd, 1) := by decide +kernel
theorem dX10_signs_74 : decode cX10_signs 74 = .ok (.istore_n 3, 1) := by decide +kernel
theorem dX10_signs_75 : decode cX10_signs 75 = .ok (.iinc 5 1, 3) := by decide +kernel
theorem dX10_signs_78 : decode cX10_signs 78 = .ok (.goto (-39), 3) := by decide +kernel
theorem dX10_signs_81 : decode cX10_signs 81 = .ok (.iinc 4 1, 3) := by decide +kernel
theorem dX10_signs_84 : decode cX10_signs 84 = .ok (.goto (-64), 3) := by decide +kernel
theorem dX10_signs_87 : decode cX10_signs 87 = .ok (.iload_n 3, 1) := by decide +kernel
theorem dX10_signs_88 : decode cX10_signs 88 = .ok (.ireturn, 1) := by decide +kernel
theorem dX10_signs_89 : decode cX10_signs 89 = .ok (.aload_n 0, 1) := by decide +kernel
theorem dX10_signs_90 : decode cX10_signs 90 = .ok (.iload_n 1, 1) := by decide +kernel
theorem dX10_signs_91 : decode cX10_signs 91 = .ok (.invokevirtual 219, 3) := by decide +kernel
theorem dX10_signs_94 : decode cX10_signs 94 = .ok (.aload_n 0, 1) := by decide +kernel
theorem dX10_signs_95 : decode cX10_signs 95 = .ok (.iload_n 1, 1) := by decide +kernel
theorem dX10_signs_96 : decode cX10_signs 96 = .ok (.iload_n 2, 1) := by decide +kernel
theorem dX10_signs_97 : decode cX10_signs 97 = .ok (.iconst 2, 1) := by decide +kernel
theorem dX10_signs_98 : decode cX10_signs 98 = .ok (.if_icmp .ne 7, 3) := by decide +kernel
theorem dX10_signs_101 : decode cX10_signs 101 = .ok (.iconst 1, 1) := by decide +kernel
theorem dX10_signs_102 : decode cX10_signs 102 = .ok (.goto 4, 3) := by decide +kernel
theorem dX10_signs_105 : decode cX10_signs 105 = .ok (.iconst 0, 1) := by decide +kernel
theorem dX10_signs_106 : decode cX10_signs 106 = .ok (.invokevirtual 228, 3) := by decide +kernel
theorem dX10_signs_109 : decode cX10_signs 109 = .ok (.aload_n 0, 1) := by decide +kernel
theorem dX10_signs_110 : decode cX10_signs 110 = .ok (.getfield 123, 3) := by decide +kernel
theorem dX10_signs_113 : decode cX10_signs 113 = .ok (.iload_n 1, 1) := by decide +kernel
theorem dX10_signs_114 : decode cX10_signs 114 = .ok (.iaload, 1) := by decide +kernel
theorem dX10_signs_115 : decode cX10_signs 115 = .ok (.ifCond .le 14, 3) := by decide +kernel
theorem dX10_signs_118 : decode cX10_signs 118 = .ok (.aload_n 0, 1) := by decide +kernel
theorem dX10_signs_119 : decode cX10_signs 119 = .ok (.getfield 123, 3) := by decide +kernel
theorem dX10_signs_122 : decode cX10_signs 122 = .ok (.iload_n 1, 1) := by decide +kernel
theorem dX10_signs_123 : decode cX10_signs 123 = .ok (.iaload, 1) := by decide +kernel
theorem dX10_signs_124 : decode cX10_signs 124 = .ok (.iconst 1, 1) := by decide +kernel
theorem dX10_signs_125 : decode cX10_signs 125 = .ok (.isub, 1) := by decide +kernel
theorem dX10_signs_126 : decode cX10_signs 126 = .ok (.goto 4, 3) := by decide +kernel
theorem dX10_signs_129 : decode cX10_signs 129 = .ok (.iconst 0, 1) := by decide +kernel
theorem dX10_signs_130 : decode cX10_signs 130 = .ok (.istore_n 3, 1) := by decide +kernel
theorem dX10_signs_131 : decode cX10_signs 131 = .ok (.iconst 0, 1) := by decide +kernel
theorem dX10_signs_132 : decode cX10_signs 132 = .ok (.istore 4, 2) := by decide +kernel
theorem dX10_signs_134 : decode cX10_signs 134 = .ok (.iload 4, 2) := by decide +kernel
theorem dX10_signs_136 : decode cX10_signs 136 = .ok (.aload_n 0, 1) := by decide +kernel
theorem dX10_signs_137 : decode cX10_signs 137 = .ok (.getfield 123, 3) := by decide +kernel
theorem dX10_signs_140 : decode cX10_signs 140 = .ok (.iload_n 1, 1) := by decide +kernel
theorem dX10_signs_141 : decode cX10_signs 141 = .ok (.iaload, 1) := by decide +kernel
theorem dX10_signs_142 : decode cX10_signs 142 = .ok (.if_icmp .ge 54, 3) := by decide +kernel
theorem dX10_signs_145 : decode cX10_signs 145 = .ok (.iload_n 3, 1) := by decide +kernel
theorem dX10_signs_146 : decode cX10_signs 146 = .ok (.iload_n 2, 1) := by decide +kernel
theorem dX10_signs_147 : decode cX10_signs 147 = .ok (.iconst 2, 1) := by decide +kernel
theorem dX10_signs_148 : decode cX10_signs 148 = .ok (.if_icmp .ne 23, 3) := by decide +kernel
theorem dX10_signs_151 : decode cX10_signs 151 = .ok (.aload_n 0, 1) := by decide +kernel
theorem dX10_signs_152 : decode cX10_signs 152 = .ok (.getfield 75, 3) := by decide +kernel
theorem dX10_signs_155 : decode cX10_signs 155 = .ok (.aload_n 0, 1) := by decide +kernel
theorem dX10_signs_156 : decode cX10_signs 156 = .ok (.getfield 120, 3) := by decide +kernel
theorem dX10_signs_159 : decode cX10_signs 159 = .ok (.bipush 8, 2) := by decide +kernel
theorem dX10_signs_161 : decode cX10_signs 161 = .ok (.iload_n 1, 1) := by decide +kernel
theorem dX10_signs_162 : decode cX10_signs 162 = .ok (.imul, 1) := by decide +kernel
theorem dX10_signs_163 : decode cX10_signs 163 = .ok (.iload 4, 2) := by decide +kernel
theorem dX10_signs_165 : decode cX10_signs 165 = .ok (.iadd, 1) := by decide +kernel
theorem dX10_signs_166 : decode cX10_signs 166 = .ok (.iaload, 1) := by decide +kernel
theorem dX10_signs_167 : decode cX10_signs 167 = .ok (.iaload, 1) := by decide +kernel
theorem dX10_signs_168 : decode cX10_signs 168 = .ok (.goto 20, 3) := by decide +kernel
theorem dX10_signs_171 : decode cX10_signs 171 = .ok (.aload_n 0, 1) := by decide +kernel
theorem dX10_signs_172 : decode cX10_signs 172 = .ok (.getfield 69, 3) := by decide +kernel
theorem dX10_signs_175 : decode cX10_signs 175 = .ok (.aload_n 0, 1) := by decide +kernel
theorem dX10_signs_176 : decode cX10_signs 176 = .ok (.getfield 120, 3) := by decide +kernel
theorem dX10_signs_179 : decode cX10_signs 179 = .ok (.bipush 8, 2) := by decide +kernel
theorem dX10_signs_181 : decode cX10_signs 181 = .ok (.iload_n 1, 1) := by decide +kernel
theorem dX10_signs_182 : decode cX10_signs 182 = .ok (.imul, 1) := by decide +kernel
theorem dX10_signs_183 : decode cX10_signs 183 = .ok (.iload 4, 2) := by decide +kernel
theorem dX10_signs_185 : decode cX10_signs 185 = .ok (.iadd, 1) := by decide +kernel
theorem dX10_signs_186 : decode cX10_signs 186 = .ok (.iaload, 1) := by decide +kernel
theorem dX10_signs_187 : decode cX10_signs 187 = .ok (.iaload, 1) := by decide +kernel
theorem dX10_signs_188 : decode cX10_signs 188 = .ok (.iadd, 1) := by decide +kernel
theorem dX10_signs_189 : decode cX10_signs 189 = .ok (.istore_n 3, 1) := by decide +kernel
theorem dX10_signs_190 : decode cX10_signs 190 = .ok (.iinc 4 1, 3) := by decide +kernel
theorem dX10_signs_193 : decode cX10_signs 193 = .ok (.goto (-59), 3) := by decide +kernel
theorem dX10_signs_196 : decode cX10_signs 196 = .ok (.iload_n 3, 1) := by decide +kernel
theorem dX10_signs_197 : decode cX10_signs 197 = .ok (.ireturn, 1) := by decide +kernel
theorem dX10_fails_0 : decode cX10_fails 0 = .ok (.aload_n 0, 1) := by decide +kernel
theorem dX10_fails_1 : decode cX10_fails 1 = .ok (.iload_n 1, 1) := by decide +kernel
theorem dX10_fails_2 : decode cX10_fails 2 = .ok (.putfield 126, 3) := by decide +kernel
theorem dX10_fails_5 : decode cX10_fails 5 = .ok (.iconst 0, 1) := by decide +kernel
theorem dX10_fails_6 : decode cX10_fails 6 = .ok (.ireturn, 1) := by decide +kernel
theorem dX10_look_0 : decode cX10_look 0 = .ok (.aload_n 0, 1) := by decide +kernel
theorem dX10_look_1 : decode cX10_look 1 = .ok (.iconst 0, 1) := by decide +kernel
theorem dX10_look_2 : decode cX10_look 2 = .ok (.putfield 126, 3) := by decide +kernel
theorem dX10_look_5 : decode cX10_look 5 = .ok (.aload_n 0, 1) := by decide +kernel
theorem dX10_look_6 : decode cX10_look 6 = .ok (.iload_n 1, 1) := by decide +kernel
theorem dX10_look_7 : decode cX10_look 7 = .ok (.invokevirtual 210, 3) := by decide +kernel
theorem dX10_look_10 : decode cX10_look 10 = .ok (.ifCond .ne 9, 3) := by decide +kernel
theorem dX10_look_13 : decode cX10_look 13 = .ok (.aload_n 0, 1) := by decide +kernel
theorem dX10_look_14 : decode cX10_look 14 = .ok (.iconst 1, 1) := by decide +kernel
theorem dX10_look_15 : decode cX10_look 15 = .ok (.invokevirtual 235, 3) := by decide +kernel
theorem dX10_look_18 : decode cX10_look 18 = .ok (.ireturn, 1) := by decide +kernel
theorem dX10_look_19 : decode cX10_look 19 = .ok (.iload_n 2, 1) := by decide +kernel
theorem dX10_look_20 : decode cX10_look 20 = .ok (.tableswitch 96 0 5 #[40, 47, 54, 64, 82, 89], 40) := by decide +kernel
theorem dX10_look_60 : decode cX10_look 60 = .ok (.aload_n 0, 1) := by decide +kernel
theorem dX10_look_61 : decode cX10_look 61 = .ok (.getfield 60, 3) := by decide +kernel
theorem dX10_look_64 : decode cX10_look 64 = .ok (.iload_n 1, 1) := by decide +kernel
theorem dX10_look_65 : decode cX10_look 65 = .ok (.iaload, 1) := by decide +kernel
theorem dX10_look_66 : decode cX10_look 66 = .ok (.ireturn, 1) := by decide +kernel
theorem dX10_look_67 : decode cX10_look 67 = .ok (.aload_n 0, 1) := by decide +kernel
theorem dX10_look_68 : decode cX10_look 68 = .ok (.getfield 63, 3) := by decide +kernel
theorem dX10_look_71 : decode cX10_look 71 = .ok (.iload_n 1, 1) := by decide +kernel
theorem dX10_look_72 : decode cX10_look 72 = .ok (.iaload, 1) := by decide +kernel
theorem dX10_look_73 : decode cX10_look 73 = .ok (.ireturn, 1) := by decide +kernel
theorem dX10_look_74 : decode cX10_look 74 = .ok (.aload_n 0, 1) := by decide +kernel
theorem dX10_look_75 : decode cX10_look 75 = .ok (.invokevirtual 238, 3) := by decide +kernel
theorem dX10_look_78 : decode cX10_look 78 = .ok (.aload_n 0, 1) := by decide +kernel
theorem dX10_look_79 : decode cX10_look 79 = .ok (.iload_n 1, 1) := by decide +kernel
theorem dX10_look_80 : decode cX10_look 80 = .ok (.invokevirtual 241, 3) := by decide +kernel
theorem dX10_look_83 : decode cX10_look 83 = .ok (.ireturn, 1) := by decide +kernel
theorem dX10_look_84 : decode cX10_look 84 = .ok (.aload_n 0, 1) := by decide +kernel
theorem dX10_look_85 : decode cX10_look 85 = .ok (.iload_n 1, 1) := by decide +kernel
theorem dX10_look_86 : decode cX10_look 86 = .ok (.invokevirtual 219, 3) := by decide +kernel
theorem dX10_look_89 : decode cX10_look 89 = .ok (.aload_n 0, 1) := by decide +kernel
theorem dX10_look_90 : decode cX10_look 90 = .ok (.iload_n 1, 1) := by decide +kernel
theorem dX10_look_91 : decode cX10_look 91 = .ok (.iconst 1, 1) := by decide +kernel
theorem dX10_look_92 : decode cX10_look 92 = .ok (.invokevirtual 228, 3) := by decide +kernel
theorem dX10_look_95 : decode cX10_look 95 = .ok (.aload_n 0, 1) := by decide +kernel
theorem dX10_look_96 : decode cX10_look 96 = .ok (.getfield 123, 3) := by decide +kernel
theorem dX10_look_99 : decode cX10_look 99 = .ok (.iload_n 1, 1) := by decide +kernel
theorem dX10_look_100 : decode cX10_look 100 = .ok (.iaload, 1) := by decide +kernel
theorem dX10_look_101 : decode cX10_look 101 = .ok (.ireturn, 1) := by decide +kernel
theorem dX10_look_102 : decode cX10_look 102 = .ok (.aload_n 0, 1) := by decide +kernel
theorem dX10_look_103 : decode cX10_look 103 = .ok (.iload_n 1, 1) := by decide +kernel
theorem dX10_look_104 : decode cX10_look 104 = .ok (.iconst 0, 1) := by decide +kernel
theorem dX10_look_105 : decode cX10_look 105 = .ok (.invokevirtual 244, 3) := by decide +kernel
theorem dX10_look_108 : decode cX10_look 108 = .ok (.ireturn, 1) := by decide +kernel
theorem dX10_look_109 : decode cX10_look 109 = .ok (.aload_n 0, 1) := by decide +kernel
theorem dX10_look_110 : decode cX10_look 110 = .ok (.iload_n 1, 1) := by decide +kernel
theorem dX10_look_111 : decode cX10_look 111 = .ok (.iconst 1, 1) := by decide +kernel
theorem dX10_look_112 : decode cX10_look 112 = .ok (.invokevirtual 244, 3) := by decide +kernel
theorem dX10_look_115 : decode cX10_look 115 = .ok (.ireturn, 1) := by decide +kernel
theorem dX10_look_116 : decode cX10_look 116 = .ok (.aload_n 0, 1) := by decide +kernel
theorem dX10_look_117 : decode cX10_look 117 = .ok (.iconst 2, 1) := by decide +kernel
theorem dX10_look_118 : decode cX10_look 118 = .ok (.invokevirtual 235, 3) := by decide +kernel
theorem dX10_look_121 : decode cX10_look 121 = .ok (.ireturn, 1) := by decide +kernel
theorem dX10_order_0 : decode cX10_order 0 = .ok (.aload_n 0, 1) := by decide +kernel
theorem dX10_order_1 : decode cX10_order 1 = .ok (.iconst 0, 1) := by decide +kernel
theorem dX10_order_2 : decode cX10_order 2 = .ok (.putfield 126, 3) := by decide +kernel
theorem dX10_order_5 : decode cX10_order 5 = .ok (.iload_n 1, 1) := by decide +kernel
theorem dX10_order_6 : decode cX10_order 6 = .ok (.ifCond .lt 11, 3) := by decide +kernel
theorem dX10_order_9 : decode cX10_order 9 = .ok (.iload_n 1, 1) := by decide +kernel
theorem dX10_order_10 : decode cX10_order 10 = .ok (.aload_n 0, 1) := by decide +kernel
theorem dX10_order_11 : decode cX10_order 11 = .ok (.getfield 189, 3) := by decide +kernel
theorem dX10_order_14 : decode cX10_order 14 = .ok (.if_icmp .lt 5, 3) := by decide +kernel
theorem dX10_order_17 : decode cX10_order 17 = .ok (.iconst (-1), 1) := by decide +kernel
theorem dX10_order_18 : decode cX10_order 18 = .ok (.ireturn, 1) := by decide +kernel
theorem dX10_order_19 : decode cX10_order 19 = .ok (.aload_n 0, 1) := by decide +kernel
theorem dX10_order_20 : decode cX10_order 20 = .ok (.invokevirtual 238, 3) := by decide +kernel
theorem dX10_order_23 : decode cX10_order 23 = .ok (.iconst 0, 1) := by decide +kernel
theorem dX10_order_24 : decode cX10_order 24 = .ok (.istore_n 2, 1) := by decide +kernel
theorem dX10_order_25 : decode cX10_order 25 = .ok (.iload_n 2, 1) := by decide +kernel
theorem dX10_order_26 : decode cX10_order 26 = .ok (.aload_n 0, 1) := by decide +kernel
theorem dX10_order_27 : decode cX10_order 27 = .ok (.getfield 189, 3) := by decide +kernel
theorem dX10_order_30 : decode cX10_order 30 = .ok (.if_icmp .ge 20, 3) := by decide +kernel
theorem dX10_order_33 : decode cX10_order 33 = .ok (.aload_n 0, 1) := by decide +kernel
theorem dX10_order_34 : decode cX10_order 34 = .ok (.iload_n 2, 1) := by decide +kernel
theorem dX10_order_35 : decode cX10_order 35 = .ok (.invokevirtual 241, 3) := by decide +kernel
theorem dX10_order_38 : decode cX10_order 38 = .ok (.iload_n 1, 1) := by decide +kernel
theorem dX10_order_39 : decode cX10_order 39 = .ok (.if_icmp .ne 5, 3) := by decide +kernel
theorem dX10_order_42 : decode cX10_order 42 = .ok (.iload_n 2, 1) := by decide +kernel
theorem dX10_order_43 : decode cX10_order 43 = .ok (.ireturn, 1) := by decide +kernel
theorem dX10_order_44 : decode cX10_order 44 = .ok (.iinc 2 1, 3) := by decide +kernel
theorem dX10_order_47 : decode cX10_order 47 = .ok (.goto (-22), 3) := by decide +kernel
theorem dX10_order_50 : decode cX10_order 50 = .ok (.iconst (-1), 1) := by decide +kernel
theorem dX10_order_51 : decode cX10_order 51 = .ok (.ireturn, 1) := by decide +kernel
theorem dX10_over_0 : decode cX10_over 0 = .ok (.iload_n 2, 1) := by decide +kernel
theorem dX10_over_1 : decode cX10_over 1 = .ok (.istore_n 3, 1) := by decide +kernel
theorem dX10_over_2 : decode cX10_over 2 = .ok (.bipush 8, 2) := by decide +kernel
theorem dX10_over_4 : decode cX10_over 4 = .ok (.iload_n 1, 1) := by decide +kernel
theorem dX10_over_5 : decode cX10_over 5 = .ok (.imul, 1) := by decide +kernel
theorem dX10_over_6 : decode cX10_over 6 = .ok (.istore 4, 2) := by decide +kernel
theorem dX10_over_8 : decode cX10_over 8 = .ok (.iload 4, 2) := by decide +kernel
theorem dX10_over_10 : decode cX10_over 10 = .ok (.bipush 8, 2) := by decide +kernel
theorem dX10_over_12 : decode cX10_over 12 = .ok (.iload_n 1, 1) := by decide +kernel
theorem dX10_over_13 : decode cX10_over 13 = .ok (.imul, 1) := by decide +kernel
theorem dX10_over_14 : decode cX10_over 14 = .ok (.aload_n 0, 1) := by decide +kernel
theorem dX10_over_15 : decode cX10_over 15 = .ok (.getfield 63, 3) := by decide +kernel
theorem dX10_over_18 : decode cX10_over 18 = .ok (.iload_n 1, 1) := by decide +kernel
theorem dX10_over_19 : decode cX10_over 19 = .ok (.iaload, 1) := by decide +kernel
theorem dX10_over_20 : decode cX10_over 20 = .ok (.iadd, 1) := by decide +kernel
theorem dX10_over_21 : decode cX10_over 21 = .ok (.if_icmp .ge 100, 3) := by decide +kernel
theorem dX10_over_24 : decode cX10_over 24 = .ok (.iload 4, 2) := by decide +kernel
theorem dX10_over_26 : decode cX10_over 26 = .ok (.bipush 8, 2) := by decide +kernel
theorem dX10_over_28 : decode cX10_over 28 = .ok (.iload_n 1, 1) := by decide +kernel
theorem dX10_over_29 : decode cX10_over 29 = .ok (.imul, 1) := by decide +kernel
theorem dX10_over_30 : decode cX10_over 30 = .ok (.if_icmp .le 13, 3) := by decide +kernel
theorem dX10_over_33 : decode cX10_over 33 = .ok (.iload_n 3, 1) := by decide +kernel
theorem dX10_over_34 : decode cX10_over 34 = .ok (.ifCond .ne 6, 3) := by decide +kernel
theorem dX10_over_37 : decode cX10_over 37 = .ok (.bipush 32, 2) := by decide +kernel
theorem dX10_over_39 : decode cX10_over 39 = .ok (.ireturn, 1) := by decide +kernel
theorem dX10_over_40 : decode cX10_over 40 = .ok (.iinc 3 (-1), 3) := by decide +kernel
theorem dX10_over_43 : decode cX10_over 43 = .ok (.iconst 0, 1) := by decide +kernel
theorem dX10_over_44 : decode cX10_over 44 = .ok (.istore 5, 2) := by decide +kernel
theorem dX10_over_46 : decode cX10_over 46 = .ok (.iload 5, 2) := by decide +kernel
theorem dX10_over_48 : decode cX10_over 48 = .ok (.aload_n 0, 1) := by decide +kernel
theorem dX10_over_49 : decode cX10_over 49 = .ok (.getfield 75, 3) := by decide +kernel
theorem dX10_over_52 : decode cX10_over 52 = .ok (.iload 4, 2) := by decide +kernel
theorem dX10_over_54 : decode cX10_over 54 = .ok (.iaload, 1) := by decide +kernel
theorem dX10_over_55 : decode cX10_over 55 = .ok (.if_icmp .ge 60, 3) := by decide +kernel
theorem dX10_over_58 : decode cX10_over 58 = .ok (.aload_n 0, 1) := by decide +kernel
theorem dX10_over_59 : decode cX10_over 59 = .ok (.getfield 72, 3) := by decide +kernel
theorem dX10_over_62 : decode cX10_over 62 = .ok (.bipush 21, 2) := by decide +kernel
theorem dX10_over_64 : decode cX10_over 64 = .ok (.iload 4, 2) := by decide +kernel
theorem dX10_over_66 : decode cX10_over 66 = .ok (.imul, 1) := by decide +kernel
theorem dX10_over_67 : decode cX10_over 67 = .ok (.iload 5, 2) := by decide +kernel
theorem dX10_over_69 : decode cX10_over 69 = .ok (.iadd, 1) := by decide +kernel
theorem dX10_over_70 : decode cX10_over 70 = .ok (.iaload, 1) := by decide +kernel
theorem dX10_over_71 : decode cX10_over 71 = .ok (.bipush 97, 2) := by decide +kernel
theorem dX10_over_73 : decode cX10_over 73 = .ok (.isub, 1) := by decide +kernel
theorem dX10_over_74 : decode cX10_over 74 = .ok (.istore 6, 2) := by decide +kernel
theorem dX10_over_76 : decode cX10_over 76 = .ok (.iload_n 3, 1) := by decide +kernel
theorem dX10_over_77 : decode cX10_over 77 = .ok (.aload_n 0, 1) := by decide +kernel
theorem dX10_over_78 : decode cX10_over 78 = .ok (.getfield 81, 3) := by decide +kernel
theorem dX10_over_81 : decode cX10_over 81 = .ok (.iload 6, 2) := by decide +kernel
theorem dX10_over_83 : decode cX10_over 83 = .ok (.iaload, 1) := by decide +kernel
theorem dX10_over_84 : decode cX10_over 84 = .ok (.if_icmp .ge 15, 3) := by decide +kernel
theorem dX10_over_87 : decode cX10_over 87 = .ok (.aload_n 0, 1) := by decide +kernel
theorem dX10_over_88 : decode cX10_over 88 = .ok (.getfield 78, 3) := by decide +kernel
theorem dX10_over_91 : decode cX10_over 91 = .ok (.iconst 3, 1) := by decide +kernel
theorem dX10_over_92 : decode cX10_over 92 = .ok (.iload 6, 2) := by decide +kernel
theorem dX10_over_94 : decode cX10_over 94 = .ok (.imul, 1) := by decide +kernel
theorem dX10_over_95 : decode cX10_over 95 = .ok (.iload_n 3, 1) := by decide +kernel
theorem dX10_over_96 : decode cX10_over 96 = .ok (.iadd, 1) := by decide +kernel
theorem dX10_over_97 : decode cX10_over 97 = .ok (.iaload, 1) := by decide +kernel
theorem dX10_over_98 : decode cX10_over 98 = .ok (.ireturn, 1) := by decide +kernel
theorem dX10_over_99 : decode cX10_over 99 = .ok (.iload_n 3, 1) := by decide +kernel
theorem dX10_over_100 : decode cX10_over 100 = .ok (.aload_n 0, 1) := by decide +kernel
theorem dX10_over_101 : decode cX10_over 101 = .ok (.getfield 81, 3) := by decide +kernel
theorem dX10_over_104 : decode cX10_over 104 = .ok (.iload 6, 2) := by decide +kernel
theorem dX10_over_106 : decode cX10_over 106 = .ok (.iaload, 1) := by decide +kernel
theorem dX10_over_107 : decode cX10_over 107 = .ok (.isub, 1) := by decide +kernel
theorem dX10_over_108 : decode cX10_over 108 = .ok (.istore_n 3, 1) := by decide +kernel
theorem dX10_over_109 : decode cX10_over 109 = .ok (.iinc 5 1, 3) := by decide +kernel
theorem dX10_over_112 : decode cX10_over 112 = .ok (.goto (-66), 3) := by decide +kernel
theorem dX10_over_115 : decode cX10_over 115 = .ok (.iinc 4 1, 3) := by decide +kernel
theorem dX10_over_118 : decode cX10_over 118 = .ok (.goto (-110), 3) := by decide +kernel
theorem dX10_over_121 : decode cX10_over 121 = .ok (.iconst (-1), 1) := by decide +kernel
theorem dX10_over_122 : decode cX10_over 122 = .ok (.ireturn, 1) := by decide +kernel
theorem dX10_sign_0 : decode cX10_sign 0 = .ok (.aload_n 0, 1) := by decide +kernel
theorem dX10_sign_1 : decode cX10_sign 1 = .ok (.iconst 0, 1) := by decide +kernel
theorem dX10_sign_2 : decode cX10_sign 2 = .ok (.putfield 126, 3) := by decide +kernel
theorem dX10_sign_5 : decode cX10_sign 5 = .ok (.aload_n 0, 1) := by decide +kernel
theorem dX10_sign_6 : decode cX10_sign 6 = .ok (.iload_n 1, 1) := by decide +kernel
theorem dX10_sign_7 : decode cX10_sign 7 = .ok (.invokevirtual 210, 3) := by decide +kernel
theorem dX10_sign_10 : decode cX10_sign 10 = .ok (.ifCond .eq 16, 3) := by decide +kernel
theorem dX10_sign_13 : decode cX10_sign 13 = .ok (.iload_n 2, 1) := by decide +kernel
theorem dX10_sign_14 : decode cX10_sign 14 = .ok (.ifCond .lt 12, 3) := by decide +kernel
theorem dX10_sign_17 : decode cX10_sign 17 = .ok (.iload_n 2, 1) := by decide +kernel
theorem dX10_sign_18 : decode cX10_sign 18 = .ok (.iconst 2, 1) := by decide +kernel
theorem dX10_sign_19 : decode cX10_sign 19 = .ok (.if_icmp .gt 7, 3) := by decide +kernel
theorem dX10_sign_22 : decode cX10_sign 22 = .ok (.iload_n 3, 1) := by decide +kernel
theorem dX10_sign_23 : decode cX10_sign 23 = .ok (.ifCond .ge 5, 3) := by decide +kernel
theorem dX10_sign_26 : decode cX10_sign 26 = .ok (.iconst (-1), 1) := by decide +kernel
theorem dX10_sign_27 : decode cX10_sign 27 = .ok (.ireturn, 1) := by decide +kernel
theorem dX10_sign_28 : decode cX10_sign 28 = .ok (.iload_n 2, 1) := by decide +kernel
theorem dX10_sign_29 : decode cX10_sign 29 = .ok (.iconst 1, 1) := by decide +kernel
theorem dX10_sign_30 : decode cX10_sign 30 = .ok (.if_icmp .ne 10, 3) := by decide +kernel
theorem dX10_sign_33 : decode cX10_sign 33 = .ok (.aload_n 0, 1) := by decide +kernel
theorem dX10_sign_34 : decode cX10_sign 34 = .ok (.iload_n 1, 1) := by decide +kernel
theorem dX10_sign_35 : decode cX10_sign 35 = .ok (.iload_n 3, 1) := by decide +kernel
theorem dX10_sign_36 : decode cX10_sign 36 = .ok (.invokevirtual 247, 3) := by decide +kernel
theorem dX10_sign_39 : decode cX10_sign 39 = .ok (.ireturn, 1) := by decide +kernel
theorem dX10_sign_40 : decode cX10_sign 40 = .ok (.aload_n 0, 1) := by decide +kernel
theorem dX10_sign_41 : decode cX10_sign 41 = .ok (.iload_n 1, 1) := by decide +kernel
theorem dX10_sign_42 : decode cX10_sign 42 = .ok (.invokevirtual 219, 3) := by decide +kernel
theorem dX10_sign_45 : decode cX10_sign 45 = .ok (.aload_n 0, 1) := by decide +kernel
theorem dX10_sign_46 : decode cX10_sign 46 = .ok (.iload_n 1, 1) := by decide +kernel
theorem dX10_sign_47 : decode cX10_sign 47 = .ok (.iload_n 2, 1) := by decide +kernel
theorem dX10_sign_48 : decode cX10_sign 48 = .ok (.iconst 2, 1) := by decide +kernel
theorem dX10_sign_49 : decode cX10_sign 49 = .ok (.if_icmp .ne 7, 3) := by decide +kernel
theorem dX10_sign_52 : decode cX10_sign 52 = .ok (.iconst 1, 1) := by decide +kernel
theorem dX10_sign_53 : decode cX10_sign 53 = .ok (.goto 4, 3) := by decide +kernel
theorem dX10_sign_56 : decode cX10_sign 56 = .ok (.iconst 0, 1) := by decide +kernel
theorem dX10_sign_57 : decode cX10_sign 57 = .ok (.invokevirtual 228, 3) := by decide +kernel
theorem dX10_sign_60 : decode cX10_sign 60 = .ok (.iload_n 3, 1) := by decide +kernel
theorem dX10_sign_61 : decode cX10_sign 61 = .ok (.istore 4, 2) := by decide +kernel
theorem dX10_sign_63 : decode cX10_sign 63 = .ok (.iconst 0, 1) := by decide +kernel
theorem dX10_sign_64 : decode cX10_sign 64 = .ok (.istore 5, 2) := by decide +kernel
theorem dX10_sign_66 : decode cX10_sign 66 = .ok (.iload 5, 2) := by decide +kernel
theorem dX10_sign_68 : decode cX10_sign 68 = .ok (.aload_n 0, 1) := by decide +kernel
theorem dX10_sign_69 : decode cX10_sign 69 = .ok (.getfield 123, 3) := by decide +kernel
theorem dX10_sign_72 : decode cX10_sign 72 = .ok (.iload_n 1, 1) := by decide +kernel
theorem dX10_sign_73 : decode cX10_sign 73 = .ok (.iaload, 1) := by decide +kernel
theorem dX10_sign_74 : decode cX10_sign 74 = .ok (.if_icmp .ge 112, 3) := by decide +kernel
theorem dX10_sign_77 : decode cX10_sign 77 = .ok (.aload_n 0, 1) := by decide +kernel
theorem dX10_sign_78 : decode cX10_sign 78 = .ok (.getfield 120, 3) := by decide +kernel
theorem dX10_sign_81 : decode cX10_sign 81 = .ok (.bipush 8, 2) := by decide +kernel
theorem dX10_sign_83 : decode cX10_sign 83 = .ok (.iload_n 1, 1) := by decide +kernel
theorem dX10_sign_84 : decode cX10_sign 84 = .ok (.imul, 1) := by decide +kernel
theorem dX10_sign_85 : decode cX10_sign 85 = .ok (.iload 5, 2) := by decide +kernel
theorem dX10_sign_87 : decode cX10_sign 87 = .ok (.iadd, 1) := by decide +kernel
theorem dX10_sign_88 : decode cX10_sign 88 = .ok (.iaload, 1) := by decide +kernel
theorem dX10_sign_89 : decode cX10_sign 89 = .ok (.istore 6, 2) := by decide +kernel
theorem dX10_sign_91 : decode cX10_sign 91 = .ok (.iload 5, 2) := by decide +kernel
theorem dX10_sign_93 : decode cX10_sign 93 = .ok (.ifCond .le 14, 3) := by decide +kernel
theorem dX10_sign_96 : decode cX10_sign 96 = .ok (.iload 4, 2) := by decide +kernel
theorem dX10_sign_98 : decode cX10_sign 98 = .ok (.ifCond .ne 6, 3) := by decide +kernel
theorem dX10_sign_101 : decode cX10_sign 101 = .ok (.bipush 32, 2) := by decide +kernel
theorem dX10_sign_103 : decode cX10_sign 103 = .ok (.ireturn, 1) := by decide +kernel
theorem dX10_sign_104 : decode cX10_sign 104 = .ok (.iinc 4 (-1), 3) := by decide +kernel
theorem dX10_sign_107 : decode cX10_sign 107 = .ok (.iload_n 2, 1) := by decide +kernel
theorem dX10_sign_108 : decode cX10_sign 108 = .ok (.iconst 2, 1) := by decide +kernel
theorem dX10_sign_109 : decode cX10_sign 109 = .ok (.if_icmp .ne 13, 3) := by decide +kernel
theorem dX10_sign_112 : decode cX10_sign 112 = .ok (.aload_n 0, 1) := by decide +kernel
theorem dX10_sign_113 : decode cX10_sign 113 = .ok (.getfield 75, 3) := by decide +kernel
theorem dX10_sign_116 : decode cX10_sign 116 = .ok (.iload 6, 2) := by decide +kernel
theorem dX10_sign_118 : decode cX10_sign 118 = .ok (.iaload, 1) := by decide +kernel
theorem dX10_sign_119 : decode cX10_sign 119 = .ok (.goto 10, 3) := by decide +kernel
theorem dX10_sign_122 : decode cX10_sign 122 = .ok (.aload_n 0, 1) := by decide +kernel
theorem dX10_sign_123 : decode cX10_sign 123 = .ok (.getfield 69, 3) := by decide +kernel
theorem dX10_sign_126 : decode cX10_sign 126 = .ok (.iload 6, 2) := by decide +kernel
theorem dX10_sign_128 : decode cX10_sign 128 = .ok (.iaload, 1) := by decide +kernel
theorem dX10_sign_129 : decode cX10_sign 129 = .ok (.istore 7, 2) := by decide +kernel
theorem dX10_sign_131 : decode cX10_sign 131 = .ok (.iload 4, 2) := by decide +kernel
theorem dX10_sign_133 : decode cX10_sign 133 = .ok (.iload 7, 2) := by decide +kernel
theorem dX10_sign_135 : decode cX10_sign 135 = .ok (.if_icmp .ge 38, 3) := by decide +kernel
theorem dX10_sign_138 : decode cX10_sign 138 = .ok (.iload_n 2, 1) := by decide +kernel
theorem dX10_sign_139 : decode cX10_sign 139 = .ok (.iconst 2, 1) := by decide +kernel
theorem dX10_sign_140 : decode cX10_sign 140 = .ok (.if_icmp .ne 19, 3) := by decide +kernel
theorem dX10_sign_143 : decode cX10_sign 143 = .ok (.aload_n 0, 1) := by decide +kernel
theorem dX10_sign_144 : decode cX10_sign 144 = .ok (.getfield 72, 3) := by decide +kernel
theorem dX10_sign_147 : decode cX10_sign 147 = .ok (.bipush 21, 2) := by decide +kernel
theorem dX10_sign_149 : decode cX10_sign 149 = .ok (.iload 6, 2) := by decide +kernel
theorem dX10_sign_151 : decode cX10_sign 151 = .ok (.imul, 1) := by decide +kernel
theorem dX10_sign_152 : decode cX10_sign 152 = .ok (.iload 4, 2) := by decide +kernel
theorem dX10_sign_154 : decode cX10_sign 154 = .ok (.iadd, 1) := by decide +kernel
theorem dX10_sign_155 : decode cX10_sign 155 = .ok (.iaload, 1) := by decide +kernel
theorem dX10_sign_156 : decode cX10_sign 156 = .ok (.goto 16, 3) := by decide +kernel
theorem dX10_sign_159 : decode cX10_sign 159 = .ok (.aload_n 0, 1) := by decide +kernel
theorem dX10_sign_160 : decode cX10_sign 160 = .ok (.getfield 66, 3) := by decide +kernel
theorem dX10_sign_163 : decode cX10_sign 163 = .ok (.bipush 21, 2) := by decide +kernel
theorem dX10_sign_165 : decode cX10_sign 165 = .ok (.iload 6, 2) := by decide +kernel
theorem dX10_sign_167 : decode cX10_sign 167 = .ok (.imul, 1) := by decide +kernel
theorem dX10_sign_168 : decode cX10_sign 168 = .ok (.iload 4, 2) := by decide +kernel
theorem dX10_sign_170 : decode cX10_sign 170 = .ok (.iadd, 1) := by decide +kernel
theorem dX10_sign_171 : decode cX10_sign 171 = .ok (.iaload, 1) := by decide +kernel
theorem dX10_sign_172 : decode cX10_sign 172 = .ok (.ireturn, 1) := by decide +kernel
theorem dX10_sign_173 : decode cX10_sign 173 = .ok (.iload 4, 2) := by decide +kernel
theorem dX10_sign_175 : decode cX10_sign 175 = .ok (.iload 7, 2) := by decide +kernel
theorem dX10_sign_177 : decode cX10_sign 177 = .ok (.isub, 1) := by decide +kernel
theorem dX10_sign_178 : decode cX10_sign 178 = .ok (.istore 4, 2) := by decide +kernel
theorem dX10_sign_180 : decode cX10_sign 180 = .ok (.iinc 5 1, 3) := by decide +kernel
theorem dX10_sign_183 : decode cX10_sign 183 = .ok (.goto (-117), 3) := by decide +kernel
theorem dX10_sign_186 : decode cX10_sign 186 = .ok (.iconst (-1), 1) := by decide +kernel
theorem dX10_sign_187 : decode cX10_sign 187 = .ok (.ireturn, 1) := by decide +kernel
theorem dX10_wordOf_0 : decode cX10_wordOf 0 = .ok (.iload 4, 2) := by decide +kernel
theorem dX10_wordOf_2 : decode cX10_wordOf 2 = .ok (.istore 5, 2) := by decide +kernel
theorem dX10_wordOf_4 : decode cX10_wordOf 4 = .ok (.iconst 0, 1) := by decide +kernel
theorem dX10_wordOf_5 : decode cX10_wordOf 5 = .ok (.istore 6, 2) := by decide +kernel
theorem dX10_wordOf_7 : decode cX10_wordOf 7 = .ok (.iload 6, 2) := by decide +kernel
theorem dX10_wordOf_9 : decode cX10_wordOf 9 = .ok (.aload_n 0, 1) := by decide +kernel
theorem dX10_wordOf_10 : decode cX10_wordOf 10 = .ok (.getfield 63, 3) := by decide +kernel
theorem dX10_wordOf_13 : decode cX10_wordOf 13 = .ok (.iload_n 1, 1) := by decide +kernel
theorem dX10_wordOf_14 : decode cX10_wordOf 14 = .ok (.iaload, 1) := by decide +kernel
theorem dX10_wordOf_15 : decode cX10_wordOf 15 = .ok (.if_icmp .ge 54, 3) := by decide +kernel
theorem dX10_wordOf_18 : decode cX10_wordOf 18 = .ok (.aload_n 0, 1) := by decide +kernel
theorem dX10_wordOf_19 : decode cX10_wordOf 19 = .ok (.getfield 114, 3) := by decide +kernel
theorem dX10_wordOf_22 : decode cX10_wordOf 22 = .ok (.bipush 8, 2) := by decide +kernel
theorem dX10_wordOf_24 : decode cX10_wordOf 24 = .ok (.iload_n 1, 1) := by decide +kernel
theorem dX10_wordOf_25 : decode cX10_wordOf 25 = .ok (.imul, 1) := by decide +kernel
theorem dX10_wordOf_26 : decode cX10_wordOf 26 = .ok (.iload 6, 2) := by decide +kernel
theorem dX10_wordOf_28 : decode cX10_wordOf 28 = .ok (.iadd, 1) := by decide +kernel
theorem dX10_wordOf_29 : decode cX10_wordOf 29 = .ok (.iaload, 1) := by decide +kernel
theorem dX10_wordOf_30 : decode cX10_wordOf 30 = .ok (.istore 7, 2) := by decide +kernel
theorem dX10_wordOf_32 : decode cX10_wordOf 32 = .ok (.iload 7, 2) := by decide +kernel
theorem dX10_wordOf_34 : decode cX10_wordOf 34 = .ok (.iload_n 2, 1) := by decide +kernel
theorem dX10_wordOf_35 : decode cX10_wordOf 35 = .ok (.if_icmp .eq 12, 3) := by decide +kernel
theorem dX10_wordOf_38 : decode cX10_wordOf 38 = .ok (.iload 7, 2) := by decide +kernel
theorem dX10_wordOf_40 : decode cX10_wordOf 40 = .ok (.iload_n 3, 1) := by decide +kernel
theorem dX10_wordOf_41 : decode cX10_wordOf 41 = .ok (.if_icmp .eq 6, 3) := by decide +kernel
theorem dX10_wordOf_44 : decode cX10_wordOf 44 = .ok (.goto 19, 3) := by decide +kernel
theorem dX10_wordOf_47 : decode cX10_wordOf 47 = .ok (.iload 5, 2) := by decide +kernel
theorem dX10_wordOf_49 : decode cX10_wordOf 49 = .ok (.ifCond .ne 11, 3) := by decide +kernel
theorem dX10_wordOf_52 : decode cX10_wordOf 52 = .ok (.bipush 8, 2) := by decide +kernel
theorem dX10_wordOf_54 : decode cX10_wordOf 54 = .ok (.iload_n 1, 1) := by decide +kernel
theorem dX10_wordOf_55 : decode cX10_wordOf 55 = .ok (.imul, 1) := by decide +kernel
theorem dX10_wordOf_56 : decode cX10_wordOf 56 = .ok (.iload 6, 2) := by decide +kernel
theorem dX10_wordOf_58 : decode cX10_wordOf 58 = .ok (.iadd, 1) := by decide +kernel
theorem dX10_wordOf_59 : decode cX10_wordOf 59 = .ok (.ireturn, 1) := by decide +kernel
theorem dX10_wordOf_60 : decode cX10_wordOf 60 = .ok (.iinc 5 (-1), 3) := by decide +kernel
theorem dX10_wordOf_63 : decode cX10_wordOf 63 = .ok (.iinc 6 1, 3) := by decide +kernel
theorem dX10_wordOf_66 : decode cX10_wordOf 66 = .ok (.goto (-59), 3) := by decide +kernel
theorem dX10_wordOf_69 : decode cX10_wordOf 69 = .ok (.iconst (-1), 1) := by decide +kernel
theorem dX10_wordOf_70 : decode cX10_wordOf 70 = .ok (.ireturn, 1) := by decide +kernel
theorem dX10_agree_0 : decode cX10_agree 0 = .ok (.aload_n 0, 1) := by decide +kernel
theorem dX10_agree_1 : decode cX10_agree 1 = .ok (.iconst 0, 1) := by decide +kernel
theorem dX10_agree_2 : decode cX10_agree 2 = .ok (.putfield 126, 3) := by decide +kernel
theorem dX10_agree_5 : decode cX10_agree 5 = .ok (.aload_n 0, 1) := by decide +kernel
theorem dX10_agree_6 : decode cX10_agree 6 = .ok (.iload_n 1, 1) := by decide +kernel
theorem dX10_agree_7 : decode cX10_agree 7 = .ok (.invokevirtual 210, 3) := by decide +kernel
theorem dX10_agree_10 : decode cX10_agree 10 = .ok (.ifCond .eq 11, 3) := by decide +kernel
theorem dX10_agree_13 : decode cX10_agree 13 = .ok (.aload_n 0, 1) := by decide +kernel
theorem dX10_agree_14 : decode cX10_agree 14 = .ok (.iload_n 2, 1) := by decide +kernel
theorem dX10_agree_15 : decode cX10_agree 15 = .ok (.invokevirtual 210, 3) := by decide +kernel
theorem dX10_agree_18 : decode cX10_agree 18 = .ok (.ifCond .ne 5, 3) := by decide +kernel
theorem dX10_agree_21 : decode cX10_agree 21 = .ok (.iconst (-1), 1) := by decide +kernel
theorem dX10_agree_22 : decode cX10_agree 22 = .ok (.ireturn, 1) := by decide +kernel
theorem dX10_agree_23 : decode cX10_agree 23 = .ok (.aload_n 0, 1) := by decide +kernel
theorem dX10_agree_24 : decode cX10_agree 24 = .ok (.iload_n 1, 1) := by decide +kernel
theorem dX10_agree_25 : decode cX10_agree 25 = .ok (.invokevirtual 219, 3) := by decide +kernel
theorem dX10_agree_28 : decode cX10_agree 28 = .ok (.aload_n 0, 1) := by decide +kernel
theorem dX10_agree_29 : decode cX10_agree 29 = .ok (.iload_n 2, 1) := by decide +kernel
theorem dX10_agree_30 : decode cX10_agree 30 = .ok (.invokevirtual 219, 3) := by decide +kernel
theorem dX10_agree_33 : decode cX10_agree 33 = .ok (.aload_n 0, 1) := by decide +kernel
theorem dX10_agree_34 : decode cX10_agree 34 = .ok (.getfield 117, 3) := by decide +kernel
theorem dX10_agree_37 : decode cX10_agree 37 = .ok (.iload_n 1, 1) := by decide +kernel
theorem dX10_agree_38 : decode cX10_agree 38 = .ok (.baload, 1) := by decide +kernel
theorem dX10_agree_39 : decode cX10_agree 39 = .ok (.ifCond .eq 12, 3) := by decide +kernel
theorem dX10_agree_42 : decode cX10_agree 42 = .ok (.aload_n 0, 1) := by decide +kernel
theorem dX10_agree_43 : decode cX10_agree 43 = .ok (.getfield 117, 3) := by decide +kernel
theorem dX10_agree_46 : decode cX10_agree 46 = .ok (.iload_n 2, 1) := by decide +kernel
theorem dX10_agree_47 : decode cX10_agree 47 = .ok (.baload, 1) := by decide +kernel
theorem dX10_agree_48 : decode cX10_agree 48 = .ok (.ifCond .ne 5, 3) := by decide +kernel
theorem dX10_agree_51 : decode cX10_agree 51 = .ok (.iconst (-1), 1) := by decide +kernel
theorem dX10_agree_52 : decode cX10_agree 52 = .ok (.ireturn, 1) := by decide +kernel
theorem dX10_agree_53 : decode cX10_agree 53 = .ok (.aload_n 0, 1) := by decide +kernel
theorem dX10_agree_54 : decode cX10_agree 54 = .ok (.getfield 60, 3) := by decide +kernel
theorem dX10_agree_57 : decode cX10_agree 57 = .ok (.iload_n 1, 1) := by decide +kernel
theorem dX10_agree_58 : decode cX10_agree 58 = .ok (.iaload, 1) := by decide +kernel
theorem dX10_agree_59 : decode cX10_agree 59 = .ok (.aload_n 0, 1) := by decide +kernel
theorem dX10_agree_60 : decode cX10_agree 60 = .ok (.getfield 60, 3) := by decide +kernel
theorem dX10_agree_63 : decode cX10_agree 63 = .ok (.iload_n 2, 1) := by decide +kernel
theorem dX10_agree_64 : decode cX10_agree 64 = .ok (.iaload, 1) := by decide +kernel
theorem dX10_agree_65 : decode cX10_agree 65 = .ok (.if_icmp .eq 5, 3) := by decide +kernel
theorem dX10_agree_68 : decode cX10_agree 68 = .ok (.iconst 0, 1) := by decide +kernel
theorem dX10_agree_69 : decode cX10_agree 69 = .ok (.ireturn, 1) := by decide +kernel
theorem dX10_agree_70 : decode cX10_agree 70 = .ok (.iconst 0, 1) := by decide +kernel
theorem dX10_agree_71 : decode cX10_agree 71 = .ok (.istore_n 3, 1) := by decide +kernel
theorem dX10_agree_72 : decode cX10_agree 72 = .ok (.iload_n 3, 1) := by decide +kernel
theorem dX10_agree_73 : decode cX10_agree 73 = .ok (.bipush 8, 2) := by decide +kernel
theorem dX10_agree_75 : decode cX10_agree 75 = .ok (.if_icmp .ge 70, 3) := by decide +kernel
theorem dX10_agree_78 : decode cX10_agree 78 = .ok (.aload_n 0, 1) := by decide +kernel
theorem dX10_agree_79 : decode cX10_agree 79 = .ok (.iload_n 1, 1) := by decide +kernel
theorem dX10_agree_80 : decode cX10_agree 80 = .ok (.iconst 4, 1) := by decide +kernel
theorem dX10_agree_81 : decode cX10_agree 81 = .ok (.iconst 4, 1) := by decide +kernel
theorem dX10_agree_82 : decode cX10_agree 82 = .ok (.iload_n 3, 1) := by decide +kernel
theorem dX10_agree_83 : decode cX10_agree 83 = .ok (.invokevirtual 250, 3) := by decide +kernel
theorem dX10_agree_86 : decode cX10_agree 86 = .ok (.istore 4, 2) := by decide +kernel
theorem dX10_agree_88 : decode cX10_agree 88 = .ok (.aload_n 0, 1) := by decide +kernel
theorem dX10_agree_89 : decode cX10_agree 89 = .ok (.iload_n 2, 1) := by decide +kernel
theorem dX10_agree_90 : decode cX10_agree 90 = .ok (.iconst 4, 1) := by decide +kernel
theorem dX10_agree_91 : decode cX10_agree 91 = .ok (.iconst 4, 1) := by decide +kernel
theorem dX10_agree_92 : decode cX10_agree 92 = .ok (.iload_n 3, 1) := by decide +kernel
theorem dX10_agree_93 : decode cX10_agree 93 = .ok (.invokevirtual 250, 3) := by decide +kernel
theorem dX10_agree_96 : decode cX10_agree 96 = .ok (.istore 5, 2) := by decide +kernel
theorem dX10_agree_98 : decode cX10_agree 98 = .ok (.iload 4, 2) := by decide +kernel
theorem dX10_agree_100 : decode cX10_agree 100 = .ok (.ifCond .ge 7, 3) := by decide +kernel
theorem dX10_agree_103 : decode cX10_agree 103 = .ok (.iconst 1, 1) := by decide +kernel
theorem dX10_agree_104 : decode cX10_agree 104 = .ok (.goto 4, 3) := by decide +kernel
theorem dX10_agree_107 : decode cX10_agree 107 = .ok (.iconst 0, 1) := by decide +kernel
theorem dX10_agree_108 : decode cX10_agree 108 = .ok (.iload 5, 2) := by decide +kernel
theorem dX10_agree_110 : decode cX10_agree 110 = .ok (.ifCond .ge 7, 3) := by decide +kernel
theorem dX10_agree_113 : decode cX10_agree 113 = .ok (.iconst 1, 1) := by decide +kernel
theorem dX10_agree_114 : decode cX10_agree 114 = .ok (.goto 4, 3) := by decide +kernel
theorem dX10_agree_117 : decode cX10_agree 117 = .ok (.iconst 0, 1) := by decide +kernel
theorem dX10_agree_118 : decode cX10_agree 118 = .ok (.if_icmp .ne 19, 3) := by decide +kernel
theorem dX10_agree_121 : decode cX10_agree 121 = .ok (.iload 4, 2) := by decide +kernel
theorem dX10_agree_123 : decode cX10_agree 123 = .ok (.ifCond .lt 16, 3) := by decide +kernel
theorem dX10_agree_126 : decode cX10_agree 126 = .ok (.aload_n 0, 1) := by decide +kernel
theorem dX10_agree_127 : decode cX10_agree 127 = .ok (.iload 4, 2) := by decide +kernel
theorem dX10_agree_129 : decode cX10_agree 129 = .ok (.iload 5, 2) := by decide +kernel
theorem dX10_agree_131 : decode cX10_agree 131 = .ok (.invokevirtual 222, 3) := by decide +kernel
theorem dX10_agree_134 : decode cX10_agree 134 = .ok (.ifCond .eq 5, 3) := by decide +kernel
theorem dX10_agree_137 : decode cX10_agree 137 = .ok (.iconst 0, 1) := by decide +kernel
theorem dX10_agree_138 : decode cX10_agree 138 = .ok (.ireturn, 1) := by decide +kernel
theorem dX10_agree_139 : decode cX10_agree 139 = .ok (.iinc 3 1, 3) := by decide +kernel
theorem dX10_agree_142 : decode cX10_agree 142 = .ok (.goto (-70), 3) := by decide +kernel
theorem dX10_agree_145 : decode cX10_agree 145 = .ok (.iconst 0, 1) := by decide +kernel
theorem dX10_agree_146 : decode cX10_agree 146 = .ok (.istore_n 3, 1) := by decide +kernel
theorem dX10_agree_147 : decode cX10_agree 147 = .ok (.iload_n 3, 1) := by decide +kernel
theorem dX10_agree_148 : decode cX10_agree 148 = .ok (.bipush 8, 2) := by decide +kernel
theorem dX10_agree_150 : decode cX10_agree 150 = .ok (.if_icmp .ge 114, 3) := by decide +kernel
theorem dX10_agree_153 : decode cX10_agree 153 = .ok (.aload_n 0, 1) := by decide +kernel
theorem dX10_agree_154 : decode cX10_agree 154 = .ok (.iload_n 1, 1) := by decide +kernel
theorem dX10_agree_155 : decode cX10_agree 155 = .ok (.iconst 1, 1) := by decide +kernel
theorem dX10_agree_156 : decode cX10_agree 156 = .ok (.bipush 6, 2) := by decide +kernel
theorem dX10_agree_158 : decode cX10_agree 158 = .ok (.iload_n 3, 1) := by decide +kernel
theorem dX10_agree_159 : decode cX10_agree 159 = .ok (.invokevirtual 250, 3) := by decide +kernel
theorem dX10_agree_162 : decode cX10_agree 162 = .ok (.istore 4, 2) := by decide +kernel
theorem dX10_agree_164 : decode cX10_agree 164 = .ok (.aload_n 0, 1) := by decide +kernel
theorem dX10_agree_165 : decode cX10_agree 165 = .ok (.iload_n 2, 1) := by decide +kernel
theorem dX10_agree_166 : decode cX10_agree 166 = .ok (.iconst 1, 1) := by decide +kernel
theorem dX10_agree_167 : decode cX10_agree 167 = .ok (.bipush 6, 2) := by decide +kernel
theorem dX10_agree_169 : decode cX10_agree 169 = .ok (.iload_n 3, 1) := by decide +kernel
theorem dX10_agree_170 : decode cX10_agree 170 = .ok (.invokevirtual 250, 3) := by decide +kernel
theorem dX10_agree_173 : decode cX10_agree 173 = .ok (.istore 5, 2) := by decide +kernel
theorem dX10_agree_175 : decode cX10_agree 175 = .ok (.iload 4, 2) := by decide +kernel
theorem dX10_agree_177 : decode cX10_agree 177 = .ok (.ifCond .lt 81, 3) := by decide +kernel
theorem dX10_agree_180 : decode cX10_agree 180 = .ok (.iload 5, 2) := by decide +kernel
theorem dX10_agree_182 : decode cX10_agree 182 = .ok (.ifCond .lt 76, 3) := by decide +kernel
theorem dX10_agree_185 : decode cX10_agree 185 = .ok (.aload_n 0, 1) := by decide +kernel
theorem dX10_agree_186 : decode cX10_agree 186 = .ok (.iload 4, 2) := by decide +kernel
theorem dX10_agree_188 : decode cX10_agree 188 = .ok (.iload 5, 2) := by decide +kernel
theorem dX10_agree_190 : decode cX10_agree 190 = .ok (.invokevirtual 222, 3) := by decide +kernel
theorem dX10_agree_193 : decode cX10_agree 193 = .ok (.ifCond .ne 6, 3) := by decide +kernel
theorem dX10_agree_196 : decode cX10_agree 196 = .ok (.goto 62, 3) := by decide +kernel
theorem dX10_agree_199 : decode cX10_agree 199 = .ok (.aload_n 0, 1) := by decide +kernel
theorem dX10_agree_200 : decode cX10_agree 200 = .ok (.getfield 75, 3) := by decide +kernel
theorem dX10_agree_203 : decode cX10_agree 203 = .ok (.iload 4, 2) := by decide +kernel
theorem dX10_agree_205 : decode cX10_agree 205 = .ok (.iaload, 1) := by decide +kernel
theorem dX10_agree_206 : decode cX10_agree 206 = .ok (.iconst 1, 1) := by decide +kernel
theorem dX10_agree_207 : decode cX10_agree 207 = .ok (.if_icmp .eq 14, 3) := by decide +kernel
theorem dX10_agree_210 : decode cX10_agree 210 = .ok (.aload_n 0, 1) := by decide +kernel
theorem dX10_agree_211 : decode cX10_agree 211 = .ok (.getfield 75, 3) := by decide +kernel
theorem dX10_agree_214 : decode cX10_agree 214 = .ok (.iload 5, 2) := by decide +kernel
theorem dX10_agree_216 : decode cX10_agree 216 = .ok (.iaload, 1) := by decide +kernel
theorem dX10_agree_217 : decode cX10_agree 217 = .ok (.iconst 1, 1) := by decide +kernel
theorem dX10_agree_218 : decode cX10_agree 218 = .ok (.if_icmp .ne 30, 3) := by decide +kernel
theorem dX10_agree_221 : decode cX10_agree 221 = .ok (.aload_n 0, 1) := by decide +kernel
theorem dX10_agree_222 : decode cX10_agree 222 = .ok (.getfield 72, 3) := by decide +kernel
theorem dX10_agree_225 : decode cX10_agree 225 = .ok (.bipush 21, 2) := by decide +kernel
theorem dX10_agree_227 : decode cX10_agree 227 = .ok (.iload 4, 2) := by decide +kernel
theorem dX10_agree_229 : decode cX10_agree 229 = .ok (.imul, 1) := by decide +kernel
theorem dX10_agree_230 : decode cX10_agree 230 = .ok (.iaload, 1) := by decide +kernel
theorem dX10_agree_231 : decode cX10_agree 231 = .ok (.aload_n 0, 1) := by decide +kernel
theorem dX10_agree_232 : decode cX10_agree 232 = .ok (.getfield 72, 3) := by decide +kernel
theorem dX10_agree_235 : decode cX10_agree 235 = .ok (.bipush 21, 2) := by decide +kernel
theorem dX10_agree_237 : decode cX10_agree 237 = .ok (.iload 5, 2) := by decide +kernel
theorem dX10_agree_239 : decode cX10_agree 239 = .ok (.imul, 1) := by decide +kernel
theorem dX10_agree_240 : decode cX10_agree 240 = .ok (.iaload, 1) := by decide +kernel
theorem dX10_agree_241 : decode cX10_agree 241 = .ok (.if_icmp .ne 7, 3) := by decide +kernel
theorem dX10_agree_244 : decode cX10_agree 244 = .ok (.iconst 1, 1) := by decide +kernel
theorem dX10_agree_245 : decode cX10_agree 245 = .ok (.goto 4, 3) := by decide +kernel
theorem dX10_agree_248 : decode cX10_agree 248 = .ok (.iconst 0, 1) := by decide +kernel
theorem dX10_agree_249 : decode cX10_agree 249 = .ok (.istore 6, 2) := by decide +kernel
theorem dX10_agree_251 : decode cX10_agree 251 = .ok (.iload 6, 2) := by decide +kernel
theorem dX10_agree_253 : decode cX10_agree 253 = .ok (.ifCond .ne 5, 3) := by decide +kernel
theorem dX10_agree_256 : decode cX10_agree 256 = .ok (.iconst 0, 1) := by decide +kernel
theorem dX10_agree_257 : decode cX10_agree 257 = .ok (.ireturn, 1) := by decide +kernel
theorem dX10_agree_258 : decode cX10_agree 258 = .ok (.iinc 3 1, 3) := by decide +kernel
theorem dX10_agree_261 : decode cX10_agree 261 = .ok (.goto (-114), 3) := by decide +kernel
theorem dX10_agree_264 : decode cX10_agree 264 = .ok (.iconst 1, 1) := by decide +kernel
theorem dX10_agree_265 : decode cX10_agree 265 = .ok (.ireturn, 1) := by decide +kernel
theorem dX10_father_0 : decode cX10_father 0 = .ok (.aload_n 0, 1) := by decide +kernel
theorem dX10_father_1 : decode cX10_father 1 = .ok (.iconst 0, 1) := by decide +kernel
theorem dX10_father_2 : decode cX10_father 2 = .ok (.putfield 126, 3) := by decide +kernel
theorem dX10_father_5 : decode cX10_father 5 = .ok (.aload_n 0, 1) := by decide +kernel
theorem dX10_father_6 : decode cX10_father 6 = .ok (.iload_n 1, 1) := by decide +kernel
theorem dX10_father_7 : decode cX10_father 7 = .ok (.invokevirtual 210, 3) := by decide +kernel
theorem dX10_father_10 : decode cX10_father 10 = .ok (.ifCond .eq 31, 3) := by decide +kernel
theorem dX10_father_13 : decode cX10_father 13 = .ok (.aload_n 0, 1) := by decide +kernel
theorem dX10_father_14 : decode cX10_father 14 = .ok (.iload_n 2, 1) := by decide +kernel
theorem dX10_father_15 : decode cX10_father 15 = .ok (.invokevirtual 210, 3) := by decide +kernel
theorem dX10_father_18 : decode cX10_father 18 = .ok (.ifCond .eq 23, 3) := by decide +kernel
theorem dX10_father_21 : decode cX10_father 21 = .ok (.iload_n 1, 1) := by decide +kernel
theorem dX10_father_22 : decode cX10_father 22 = .ok (.iload_n 2, 1) := by decide +kernel
theorem dX10_father_23 : decode cX10_father 23 = .ok (.if_icmp .eq 18, 3) := by decide +kernel
theorem dX10_father_26 : decode cX10_father 26 = .ok (.aload_n 0, 1) := by decide +kernel
theorem dX10_father_27 : decode cX10_father 27 = .ok (.getfield 60, 3) := by decide +kernel
theorem dX10_father_30 : decode cX10_father 30 = .ok (.iload_n 1, 1) := by decide +kernel
theorem dX10_father_31 : decode cX10_father 31 = .ok (.iaload, 1) := by decide +kernel
theorem dX10_father_32 : decode cX10_father 32 = .ok (.aload_n 0, 1) := by decide +kernel
theorem dX10_father_33 : decode cX10_father 33 = .ok (.getfield 60, 3) := by decide +kernel
theorem dX10_father_36 : decode cX10_father 36 = .ok (.iload_n 2, 1) := by decide +kernel
theorem dX10_father_37 : decode cX10_father 37 = .ok (.iaload, 1) := by decide +kernel
theorem dX10_father_38 : decode cX10_father 38 = .ok (.if_icmp .eq 5, 3) := by decide +kernel
theorem dX10_father_41 : decode cX10_father 41 = .ok (.iconst (-1), 1) := by decide +kernel
theorem dX10_father_42 : decode cX10_father 42 = .ok (.ireturn, 1) := by decide +kernel
theorem dX10_father_43 : decode cX10_father 43 = .ok (.aload_n 0, 1) := by decide +kernel
theorem dX10_father_44 : decode cX10_father 44 = .ok (.iload_n 1, 1) := by decide +kernel
theorem dX10_father_45 : decode cX10_father 45 = .ok (.invokevirtual 219, 3) := by decide +kernel
theorem dX10_father_48 : decode cX10_father 48 = .ok (.aload_n 0, 1) := by decide +kernel
theorem dX10_father_49 : decode cX10_father 49 = .ok (.iload_n 2, 1) := by decide +kernel
theorem dX10_father_50 : decode cX10_father 50 = .ok (.invokevirtual 219, 3) := by decide +kernel
theorem dX10_father_53 : decode cX10_father 53 = .ok (.aload_n 0, 1) := by decide +kernel
theorem dX10_father_54 : decode cX10_father 54 = .ok (.getfield 117, 3) := by decide +kernel
theorem dX10_father_57 : decode cX10_father 57 = .ok (.iload_n 1, 1) := by decide +kernel
theorem dX10_father_58 : decode cX10_father 58 = .ok (.baload, 1) := by decide +kernel
theorem dX10_father_59 : decode cX10_father 59 = .ok (.ifCond .eq 14, 3) := by decide +kernel
theorem dX10_father_62 : decode cX10_father 62 = .ok (.aload_n 0, 1) := by decide +kernel
theorem dX10_father_63 : decode cX10_father 63 = .ok (.iload_n 1, 1) := by decide +kernel
theorem dX10_father_64 : decode cX10_father 64 = .ok (.iconst 5, 1) := by decide +kernel
theorem dX10_father_65 : decode cX10_father 65 = .ok (.iconst 5, 1) := by decide +kernel
theorem dX10_father_66 : decode cX10_father 66 = .ok (.iconst 0, 1) := by decide +kernel
theorem dX10_father_67 : decode cX10_father 67 = .ok (.invokevirtual 250, 3) := by decide +kernel
theorem dX10_father_70 : decode cX10_father 70 = .ok (.goto 4, 3) := by decide +kernel
theorem dX10_father_73 : decode cX10_father 73 = .ok (.iconst (-1), 1) := by decide +kernel
theorem dX10_father_74 : decode cX10_father 74 = .ok (.istore_n 3, 1) := by decide +kernel
theorem dX10_father_75 : decode cX10_father 75 = .ok (.aload_n 0, 1) := by decide +kernel
theorem dX10_father_76 : decode cX10_father 76 = .ok (.getfield 117, 3) := by decide +kernel
theorem dX10_father_79 : decode cX10_father 79 = .ok (.iload_n 2, 1) := by decide +kernel
theorem dX10_father_80 : decode cX10_father 80 = .ok (.baload, 1) := by decide +kernel
theorem dX10_father_81 : decode cX10_father 81 = .ok (.ifCond .eq 14, 3) := by decide +kernel
theorem dX10_father_84 : decode cX10_father 84 = .ok (.aload_n 0, 1) := by decide +kernel
theorem dX10_father_85 : decode cX10_father 85 = .ok (.iload_n 2, 1) := by decide +kernel
theorem dX10_father_86 : decode cX10_father 86 = .ok (.iconst 1, 1) := by decide +kernel
theorem dX10_father_87 : decode cX10_father 87 = .ok (.iconst 1, 1) := by decide +kernel
theorem dX10_father_88 : decode cX10_father 88 = .ok (.iconst 0, 1) := by decide +kernel
theorem dX10_father_89 : decode cX10_father 89 = .ok (.invokevirtual 250, 3) := by decide +kernel
theorem dX10_father_92 : decode cX10_father 92 = .ok (.goto 4, 3) := by decide +kernel
theorem dX10_father_95 : decode cX10_father 95 = .ok (.iconst (-1), 1) := by decide +kernel
theorem dX10_father_96 : decode cX10_father 96 = .ok (.istore 4, 2) := by decide +kernel
theorem dX10_father_98 : decode cX10_father 98 = .ok (.iload_n 3, 1) := by decide +kernel
theorem dX10_father_99 : decode cX10_father 99 = .ok (.ifCond .lt 8, 3) := by decide +kernel
theorem dX10_father_102 : decode cX10_father 102 = .ok (.iload 4, 2) := by decide +kernel
theorem dX10_father_104 : decode cX10_father 104 = .ok (.ifCond .ge 5, 3) := by decide +kernel
theorem dX10_father_107 : decode cX10_father 107 = .ok (.iconst (-1), 1) := by decide +kernel
theorem dX10_father_108 : decode cX10_father 108 = .ok (.ireturn, 1) := by decide +kernel
theorem dX10_father_109 : decode cX10_father 109 = .ok (.aload_n 0, 1) := by decide +kernel
theorem dX10_father_110 : decode cX10_father 110 = .ok (.getfield 60, 3) := by decide +kernel
theorem dX10_father_113 : decode cX10_father 113 = .ok (.iload_n 1, 1) := by decide +kernel
theorem dX10_father_114 : decode cX10_father 114 = .ok (.iaload, 1) := by decide +kernel
theorem dX10_father_115 : decode cX10_father 115 = .ok (.istore 5, 2) := by decide +kernel
theorem dX10_father_117 : decode cX10_father 117 = .ok (.aload_n 0, 1) := by decide +kernel
theorem dX10_father_118 : decode cX10_father 118 = .ok (.getfield 75, 3) := by decide +kernel
theorem dX10_father_121 : decode cX10_father 121 = .ok (.iload_n 3, 1) := by decide +kernel
theorem dX10_father_122 : decode cX10_father 122 = .ok (.iaload, 1) := by decide +kernel
theorem dX10_father_123 : decode cX10_father 123 = .ok (.aload_n 0, 1) := by decide +kernel
theorem dX10_father_124 : decode cX10_father 124 = .ok (.getfield 75, 3) := by decide +kernel
theorem dX10_father_127 : decode cX10_father 127 = .ok (.iload 4, 2) := by decide +kernel
theorem dX10_father_129 : decode cX10_father 129 = .ok (.iaload, 1) := by decide +kernel
theorem dX10_father_130 : decode cX10_father 130 = .ok (.aload_n 0, 1) := by decide +kernel
theorem dX10_father_131 : decode cX10_father 131 = .ok (.getfield 50, 3) := by decide +kernel
theorem dX10_father_134 : decode cX10_father 134 = .ok (.iload 5, 2) := by decide +kernel
theorem dX10_father_136 : decode cX10_father 136 = .ok (.iaload, 1) := by decide +kernel
theorem dX10_father_137 : decode cX10_father 137 = .ok (.iadd, 1) := by decide +kernel
theorem dX10_father_138 : decode cX10_father 138 = .ok (.if_icmp .eq 5, 3) := by decide +kernel
theorem dX10_father_141 : decode cX10_father 141 = .ok (.iconst 0, 1) := by decide +kernel
theorem dX10_father_142 : decode cX10_father 142 = .ok (.ireturn, 1) := by decide +kernel
theorem dX10_father_143 : decode cX10_father 143 = .ok (.iconst 0, 1) := by decide +kernel
theorem dX10_father_144 : decode cX10_father 144 = .ok (.istore 6, 2) := by decide +kernel
theorem dX10_father_146 : decode cX10_father 146 = .ok (.iload 6, 2) := by decide +kernel
theorem dX10_father_148 : decode cX10_father 148 = .ok (.aload_n 0, 1) := by decide +kernel
theorem dX10_father_149 : decode cX10_father 149 = .ok (.getfield 75, 3) := by decide +kernel
theorem dX10_father_152 : decode cX10_father 152 = .ok (.iload_n 3, 1) := by decide +kernel
theorem dX10_father_153 : decode cX10_father 153 = .ok (.iaload, 1) := by decide +kernel
theorem dX10_father_154 : decode cX10_father 154 = .ok (.if_icmp .ge 79, 3) := by decide +kernel
theorem dX10_father_157 : decode cX10_father 157 = .ok (.iload 6, 2) := by decide +kernel
theorem dX10_father_159 : decode cX10_father 159 = .ok (.aload_n 0, 1) := by decide +kernel
theorem dX10_father_160 : decode cX10_father 160 = .ok (.getfield 75, 3) := by decide +kernel
theorem dX10_father_163 : decode cX10_father 163 = .ok (.iload 4, 2) := by decide +kernel
theorem dX10_father_165 : decode cX10_father 165 = .ok (.iaload, 1) := by decide +kernel
theorem dX10_father_166 : decode cX10_father 166 = .ok (.if_icmp .ge 19, 3) := by decide +kernel
theorem dX10_father_169 : decode cX10_father 169 = .ok (.aload_n 0, 1) := by decide +kernel
theorem dX10_father_170 : decode cX10_father 170 = .ok (.getfield 72, 3) := by decide +kernel
theorem dX10_father_173 : decode cX10_father 173 = .ok (.bipush 21, 2) := by decide +kernel
theorem dX10_father_175 : decode cX10_father 175 = .ok (.iload 4, 2) := by decide +kernel
theorem dX10_father_177 : decode cX10_father 177 = .ok (.imul, 1) := by decide +kernel
theorem dX10_father_178 : decode cX10_father 178 = .ok (.iload 6, 2) := by decide +kernel
theorem dX10_father_180 : decode cX10_father 180 = .ok (.iadd, 1) := by decide +kernel
theorem dX10_father_181 : decode cX10_father 181 = .ok (.iaload, 1) := by decide +kernel
theorem dX10_father_182 : decode cX10_father 182 = .ok (.goto 24, 3) := by decide +kernel
theorem dX10_father_185 : decode cX10_father 185 = .ok (.aload_n 0, 1) := by decide +kernel
theorem dX10_father_186 : decode cX10_father 186 = .ok (.getfield 53, 3) := by decide +kernel
theorem dX10_father_189 : decode cX10_father 189 = .ok (.bipush 6, 2) := by decide +kernel
theorem dX10_father_191 : decode cX10_father 191 = .ok (.iload 5, 2) := by decide +kernel
theorem dX10_father_193 : decode cX10_father 193 = .ok (.imul, 1) := by decide +kernel
theorem dX10_father_194 : decode cX10_father 194 = .ok (.iload 6, 2) := by decide +kernel
theorem dX10_father_196 : decode cX10_father 196 = .ok (.iadd, 1) := by decide +kernel
theorem dX10_father_197 : decode cX10_father 197 = .ok (.aload_n 0, 1) := by decide +kernel
theorem dX10_father_198 : decode cX10_father 198 = .ok (.getfield 75, 3) := by decide +kernel
theorem dX10_father_201 : decode cX10_father 201 = .ok (.iload 4, 2) := by decide +kernel
theorem dX10_father_203 : decode cX10_father 203 = .ok (.iaload, 1) := by decide +kernel
theorem dX10_father_204 : decode cX10_father 204 = .ok (.isub, 1) := by decide +kernel
theorem dX10_father_205 : decode cX10_father 205 = .ok (.iaload, 1) := by decide +kernel
theorem dX10_father_206 : decode cX10_father 206 = .ok (.istore 7, 2) := by decide +kernel
theorem dX10_father_208 : decode cX10_father 208 = .ok (.aload_n 0, 1) := by decide +kernel
theorem dX10_father_209 : decode cX10_father 209 = .ok (.getfield 72, 3) := by decide +kernel
theorem dX10_father_212 : decode cX10_father 212 = .ok (.bipush 21, 2) := by decide +kernel
theorem dX10_father_214 : decode cX10_father 214 = .ok (.iload_n 3, 1) := by decide +kernel
theorem dX10_father_215 : decode cX10_father 215 = .ok (.imul, 1) := by decide +kernel
theorem dX10_father_216 : decode cX10_father 216 = .ok (.iload 6, 2) := by decide +kernel
theorem dX10_father_218 : decode cX10_father 218 = .ok (.iadd, 1) := by decide +kernel
theorem dX10_father_219 : decode cX10_father 219 = .ok (.iaload, 1) := by decide +kernel
theorem dX10_father_220 : decode cX10_father 220 = .ok (.iload 7, 2) := by decide +kernel
theorem dX10_father_222 : decode cX10_father 222 = .ok (.if_icmp .eq 5, 3) := by decide +kernel
theorem dX10_father_225 : decode cX10_father 225 = .ok (.iconst 0, 1) := by decide +kernel
theorem dX10_father_226 : decode cX10_father 226 = .ok (.ireturn, 1) := by decide +kernel
theorem dX10_father_227 : decode cX10_father 227 = .ok (.iinc 6 1, 3) := by decide +kernel
theorem dX10_father_230 : decode cX10_father 230 = .ok (.goto (-84), 3) := by decide +kernel
theorem dX10_father_233 : decode cX10_father 233 = .ok (.iconst 1, 1) := by decide +kernel
theorem dX10_father_234 : decode cX10_father 234 = .ok (.ireturn, 1) := by decide +kernel
theorem dX10_table_0 : decode cX10_table 0 = .ok (.aload_n 0, 1) := by decide +kernel
theorem dX10_table_1 : decode cX10_table 1 = .ok (.iconst 0, 1) := by decide +kernel
theorem dX10_table_2 : decode cX10_table 2 = .ok (.putfield 126, 3) := by decide +kernel
theorem dX10_table_5 : decode cX10_table 5 = .ok (.iload_n 1, 1) := by decide +kernel
theorem dX10_table_6 : decode cX10_table 6 = .ok (.ifCond .lt 26, 3) := by decide +kernel
