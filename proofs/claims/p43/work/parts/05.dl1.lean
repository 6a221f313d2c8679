/-! decode rows: the law -/
theorem dL_below_0 : decode cL_below 0 = .ok (.iload_n 0, 1) := by decide +kernel
theorem dL_below_1 : decode cL_below 1 = .ok (.ldc 7, 2) := by decide +kernel
theorem dL_below_3 : decode cL_below 3 = .ok (.iand, 1) := by decide +kernel
theorem dL_below_4 : decode cL_below 4 = .ok (.iload_n 1, 1) := by decide +kernel
theorem dL_below_5 : decode cL_below 5 = .ok (.irem, 1) := by decide +kernel
theorem dL_below_6 : decode cL_below 6 = .ok (.ireturn, 1) := by decide +kernel
theorem dL_cell_0 : decode cL_cell 0 = .ok (.iload_n 1, 1) := by decide +kernel
theorem dL_cell_1 : decode cL_cell 1 = .ok (.aload_n 0, 1) := by decide +kernel
theorem dL_cell_2 : decode cL_cell 2 = .ok (.arraylength, 1) := by decide +kernel
theorem dL_cell_3 : decode cL_cell 3 = .ok (.if_icmp .ge 9, 3) := by decide +kernel
theorem dL_cell_6 : decode cL_cell 6 = .ok (.aload_n 0, 1) := by decide +kernel
theorem dL_cell_7 : decode cL_cell 7 = .ok (.iload_n 1, 1) := by decide +kernel
theorem dL_cell_8 : decode cL_cell 8 = .ok (.iaload, 1) := by decide +kernel
theorem dL_cell_9 : decode cL_cell 9 = .ok (.goto 9, 3) := by decide +kernel
theorem dL_cell_12 : decode cL_cell 12 = .ok (.ldc 8, 2) := by decide +kernel
theorem dL_cell_14 : decode cL_cell 14 = .ok (.iload_n 1, 1) := by decide +kernel
theorem dL_cell_15 : decode cL_cell 15 = .ok (.iconst 3, 1) := by decide +kernel
theorem dL_cell_16 : decode cL_cell 16 = .ok (.iadd, 1) := by decide +kernel
theorem dL_cell_17 : decode cL_cell 17 = .ok (.imul, 1) := by decide +kernel
theorem dL_cell_18 : decode cL_cell 18 = .ok (.ireturn, 1) := by decide +kernel
theorem dL_act_0 : decode cL_act 0 = .ok (.aload_n 1, 1) := by decide +kernel
theorem dL_act_1 : decode cL_act 1 = .ok (.getfield 9, 3) := by decide +kernel
theorem dL_act_4 : decode cL_act 4 = .ok (.arraylength, 1) := by decide +kernel
theorem dL_act_5 : decode cL_act 5 = .ok (.istore_n 3, 1) := by decide +kernel
theorem dL_act_6 : decode cL_act 6 = .ok (.aload_n 1, 1) := by decide +kernel
theorem dL_act_7 : decode cL_act 7 = .ok (.getfield 15, 3) := by decide +kernel
theorem dL_act_10 : decode cL_act 10 = .ok (.arraylength, 1) := by decide +kernel
theorem dL_act_11 : decode cL_act 11 = .ok (.istore 4, 2) := by decide +kernel
theorem dL_act_13 : decode cL_act 13 = .ok (.iload_n 2, 1) := by decide +kernel
theorem dL_act_14 : decode cL_act 14 = .ok (.bipush 9, 2) := by decide +kernel
theorem dL_act_16 : decode cL_act 16 = .ok (.ishr, 1) := by decide +kernel
theorem dL_act_17 : decode cL_act 17 = .ok (.bipush 20, 2) := by decide +kernel
theorem dL_act_19 : decode cL_act 19 = .ok (.invokestatic 18, 3) := by decide +kernel
theorem dL_act_22 : decode cL_act 22 = .ok (.istore 5, 2) := by decide +kernel
theorem dL_act_24 : decode cL_act 24 = .ok (.iload_n 3, 1) := by decide +kernel
theorem dL_act_25 : decode cL_act 25 = .ok (.ifCond .eq 9, 3) := by decide +kernel
theorem dL_act_28 : decode cL_act 28 = .ok (.iload 5, 2) := by decide +kernel
theorem dL_act_30 : decode cL_act 30 = .ok (.iconst 2, 1) := by decide +kernel
theorem dL_act_31 : decode cL_act 31 = .ok (.if_icmp .ge 75, 3) := by decide +kernel
theorem dL_act_34 : decode cL_act 34 = .ok (.iload_n 3, 1) := by decide +kernel
theorem dL_act_35 : decode cL_act 35 = .ok (.bipush 10, 2) := by decide +kernel
theorem dL_act_37 : decode cL_act 37 = .ok (.if_icmp .ne 5, 3) := by decide +kernel
theorem dL_act_40 : decode cL_act 40 = .ok (.iconst 1, 1) := by decide +kernel
theorem dL_act_41 : decode cL_act 41 = .ok (.ireturn, 1) := by decide +kernel
theorem dL_act_42 : decode cL_act 42 = .ok (.aload_n 1, 1) := by decide +kernel
theorem dL_act_43 : decode cL_act 43 = .ok (.aload_n 1, 1) := by decide +kernel
theorem dL_act_44 : decode cL_act 44 = .ok (.getfield 9, 3) := by decide +kernel
theorem dL_act_47 : decode cL_act 47 = .ok (.iconst 5, 1) := by decide +kernel
theorem dL_act_48 : decode cL_act 48 = .ok (.newarray .int, 2) := by decide +kernel
theorem dL_act_50 : decode cL_act 50 = .ok (.dup, 1) := by decide +kernel
theorem dL_act_51 : decode cL_act 51 = .ok (.iconst 0, 1) := by decide +kernel
theorem dL_act_52 : decode cL_act 52 = .ok (.iconst 1, 1) := by decide +kernel
theorem dL_act_53 : decode cL_act 53 = .ok (.iastore, 1) := by decide +kernel
theorem dL_act_54 : decode cL_act 54 = .ok (.dup, 1) := by decide +kernel
theorem dL_act_55 : decode cL_act 55 = .ok (.iconst 1, 1) := by decide +kernel
theorem dL_act_56 : decode cL_act 56 = .ok (.iload_n 2, 1) := by decide +kernel
theorem dL_act_57 : decode cL_act 57 = .ok (.iconst 2, 1) := by decide +kernel
theorem dL_act_58 : decode cL_act 58 = .ok (.ishr, 1) := by decide +kernel
theorem dL_act_59 : decode cL_act 59 = .ok (.bipush 100, 2) := by decide +kernel
theorem dL_act_61 : decode cL_act 61 = .ok (.invokestatic 18, 3) := by decide +kernel
theorem dL_act_64 : decode cL_act 64 = .ok (.iastore, 1) := by decide +kernel
theorem dL_act_65 : decode cL_act 65 = .ok (.dup, 1) := by decide +kernel
theorem dL_act_66 : decode cL_act 66 = .ok (.iconst 2, 1) := by decide +kernel
theorem dL_act_67 : decode cL_act 67 = .ok (.bipush 100, 2) := by decide +kernel
theorem dL_act_69 : decode cL_act 69 = .ok (.iastore, 1) := by decide +kernel
theorem dL_act_70 : decode cL_act 70 = .ok (.dup, 1) := by decide +kernel
theorem dL_act_71 : decode cL_act 71 = .ok (.iconst 3, 1) := by decide +kernel
theorem dL_act_72 : decode cL_act 72 = .ok (.iconst 0, 1) := by decide +kernel
theorem dL_act_73 : decode cL_act 73 = .ok (.iastore, 1) := by decide +kernel
theorem dL_act_74 : decode cL_act 74 = .ok (.dup, 1) := by decide +kernel
theorem dL_act_75 : decode cL_act 75 = .ok (.iconst 4, 1) := by decide +kernel
theorem dL_act_76 : decode cL_act 76 = .ok (.iconst (-1), 1) := by decide +kernel
theorem dL_act_77 : decode cL_act 77 = .ok (.iastore, 1) := by decide +kernel
theorem dL_act_78 : decode cL_act 78 = .ok (.invokestatic 24, 3) := by decide +kernel
theorem dL_act_81 : decode cL_act 81 = .ok (.putfield 9, 3) := by decide +kernel
theorem dL_act_84 : decode cL_act 84 = .ok (.aload_n 0, 1) := by decide +kernel
theorem dL_act_85 : decode cL_act 85 = .ok (.iload_n 2, 1) := by decide +kernel
theorem dL_act_86 : decode cL_act 86 = .ok (.iconst 2, 1) := by decide +kernel
theorem dL_act_87 : decode cL_act 87 = .ok (.ishr, 1) := by decide +kernel
theorem dL_act_88 : decode cL_act 88 = .ok (.bipush 100, 2) := by decide +kernel
theorem dL_act_90 : decode cL_act 90 = .ok (.invokestatic 18, 3) := by decide +kernel
theorem dL_act_93 : decode cL_act 93 = .ok (.invokevirtual 28, 3) := by decide +kernel
theorem dL_act_96 : decode cL_act 96 = .ok (.iload_n 3, 1) := by decide +kernel
theorem dL_act_97 : decode cL_act 97 = .ok (.if_icmp .ne 7, 3) := by decide +kernel
theorem dL_act_100 : decode cL_act 100 = .ok (.iconst 1, 1) := by decide +kernel
theorem dL_act_101 : decode cL_act 101 = .ok (.goto 4, 3) := by decide +kernel
theorem dL_act_104 : decode cL_act 104 = .ok (.iconst 0, 1) := by decide +kernel
theorem dL_act_105 : decode cL_act 105 = .ok (.ireturn, 1) := by decide +kernel
theorem dL_act_106 : decode cL_act 106 = .ok (.iload 4, 2) := by decide +kernel
theorem dL_act_108 : decode cL_act 108 = .ok (.ifCond .eq 9, 3) := by decide +kernel
theorem dL_act_111 : decode cL_act 111 = .ok (.iload 5, 2) := by decide +kernel
theorem dL_act_113 : decode cL_act 113 = .ok (.iconst 2, 1) := by decide +kernel
theorem dL_act_114 : decode cL_act 114 = .ok (.if_icmp .ne 64, 3) := by decide +kernel
theorem dL_act_117 : decode cL_act 117 = .ok (.iload 4, 2) := by decide +kernel
theorem dL_act_119 : decode cL_act 119 = .ok (.bipush 6, 2) := by decide +kernel
theorem dL_act_121 : decode cL_act 121 = .ok (.if_icmp .ne 5, 3) := by decide +kernel
theorem dL_act_124 : decode cL_act 124 = .ok (.iconst 1, 1) := by decide +kernel
theorem dL_act_125 : decode cL_act 125 = .ok (.ireturn, 1) := by decide +kernel
theorem dL_act_126 : decode cL_act 126 = .ok (.aload_n 1, 1) := by decide +kernel
theorem dL_act_127 : decode cL_act 127 = .ok (.aload_n 1, 1) := by decide +kernel
theorem dL_act_128 : decode cL_act 128 = .ok (.getfield 15, 3) := by decide +kernel
theorem dL_act_131 : decode cL_act 131 = .ok (.iconst 2, 1) := by decide +kernel
theorem dL_act_132 : decode cL_act 132 = .ok (.newarray .int, 2) := by decide +kernel
theorem dL_act_134 : decode cL_act 134 = .ok (.dup, 1) := by decide +kernel
theorem dL_act_135 : decode cL_act 135 = .ok (.iconst 0, 1) := by decide +kernel
theorem dL_act_136 : decode cL_act 136 = .ok (.iload_n 2, 1) := by decide +kernel
theorem dL_act_137 : decode cL_act 137 = .ok (.iconst 2, 1) := by decide +kernel
theorem dL_act_138 : decode cL_act 138 = .ok (.ishr, 1) := by decide +kernel
theorem dL_act_139 : decode cL_act 139 = .ok (.bipush 10, 2) := by decide +kernel
theorem dL_act_141 : decode cL_act 141 = .ok (.invokestatic 18, 3) := by decide +kernel
theorem dL_act_144 : decode cL_act 144 = .ok (.iastore, 1) := by decide +kernel
theorem dL_act_145 : decode cL_act 145 = .ok (.dup, 1) := by decide +kernel
theorem dL_act_146 : decode cL_act 146 = .ok (.iconst 1, 1) := by decide +kernel
theorem dL_act_147 : decode cL_act 147 = .ok (.iconst 1, 1) := by decide +kernel
theorem dL_act_148 : decode cL_act 148 = .ok (.iastore, 1) := by decide +kernel
theorem dL_act_149 : decode cL_act 149 = .ok (.invokestatic 24, 3) := by decide +kernel
theorem dL_act_152 : decode cL_act 152 = .ok (.putfield 15, 3) := by decide +kernel
theorem dL_act_155 : decode cL_act 155 = .ok (.aload_n 0, 1) := by decide +kernel
theorem dL_act_156 : decode cL_act 156 = .ok (.iload_n 2, 1) := by decide +kernel
theorem dL_act_157 : decode cL_act 157 = .ok (.iconst 2, 1) := by decide +kernel
theorem dL_act_158 : decode cL_act 158 = .ok (.ishr, 1) := by decide +kernel
theorem dL_act_159 : decode cL_act 159 = .ok (.bipush 10, 2) := by decide +kernel
theorem dL_act_161 : decode cL_act 161 = .ok (.invokestatic 18, 3) := by decide +kernel
theorem dL_act_164 : decode cL_act 164 = .ok (.invokevirtual 34, 3) := by decide +kernel
theorem dL_act_167 : decode cL_act 167 = .ok (.iload 4, 2) := by decide +kernel
theorem dL_act_169 : decode cL_act 169 = .ok (.if_icmp .ne 7, 3) := by decide +kernel
theorem dL_act_172 : decode cL_act 172 = .ok (.iconst 1, 1) := by decide +kernel
theorem dL_act_173 : decode cL_act 173 = .ok (.goto 4, 3) := by decide +kernel
theorem dL_act_176 : decode cL_act 176 = .ok (.iconst 0, 1) := by decide +kernel
theorem dL_act_177 : decode cL_act 177 = .ok (.ireturn, 1) := by decide +kernel
theorem dL_act_178 : decode cL_act 178 = .ok (.iload_n 2, 1) := by decide +kernel
theorem dL_act_179 : decode cL_act 179 = .ok (.iconst 1, 1) := by decide +kernel
theorem dL_act_180 : decode cL_act 180 = .ok (.ishr, 1) := by decide +kernel
theorem dL_act_181 : decode cL_act 181 = .ok (.iload_n 3, 1) := by decide +kernel
theorem dL_act_182 : decode cL_act 182 = .ok (.invokestatic 18, 3) := by decide +kernel
theorem dL_act_185 : decode cL_act 185 = .ok (.istore 6, 2) := by decide +kernel
theorem dL_act_187 : decode cL_act 187 = .ok (.aload_n 1, 1) := by decide +kernel
theorem dL_act_188 : decode cL_act 188 = .ok (.getfield 9, 3) := by decide +kernel
theorem dL_act_191 : decode cL_act 191 = .ok (.iload 6, 2) := by decide +kernel
theorem dL_act_193 : decode cL_act 193 = .ok (.aaload, 1) := by decide +kernel
theorem dL_act_194 : decode cL_act 194 = .ok (.astore 7, 2) := by decide +kernel
theorem dL_act_196 : decode cL_act 196 = .ok (.iload_n 2, 1) := by decide +kernel
theorem dL_act_197 : decode cL_act 197 = .ok (.iconst 3, 1) := by decide +kernel
theorem dL_act_198 : decode cL_act 198 = .ok (.ishr, 1) := by decide +kernel
theorem dL_act_199 : decode cL_act 199 = .ok (.iload 4, 2) := by decide +kernel
theorem dL_act_201 : decode cL_act 201 = .ok (.invokestatic 18, 3) := by decide +kernel
theorem dL_act_204 : decode cL_act 204 = .ok (.istore 8, 2) := by decide +kernel
theorem dL_act_206 : decode cL_act 206 = .ok (.iload 5, 2) := by decide +kernel
theorem dL_act_208 : decode cL_act 208 = .ok (.tableswitch 332 3 12 #[56, 56, 116, 116, 116, 195, 248, 286, 286, 286], 56) := by decide +kernel
theorem dL_act_264 : decode cL_act 264 = .ok (.iload_n 2, 1) := by decide +kernel
theorem dL_act_265 : decode cL_act 265 = .ok (.iconst 4, 1) := by decide +kernel
theorem dL_act_266 : decode cL_act 266 = .ok (.ishr, 1) := by decide +kernel
theorem dL_act_267 : decode cL_act 267 = .ok (.iload_n 3, 1) := by decide +kernel
theorem dL_act_268 : decode cL_act 268 = .ok (.iconst 1, 1) := by decide +kernel
theorem dL_act_269 : decode cL_act 269 = .ok (.iadd, 1) := by decide +kernel
theorem dL_act_270 : decode cL_act 270 = .ok (.invokestatic 18, 3) := by decide +kernel
theorem dL_act_273 : decode cL_act 273 = .ok (.iconst 1, 1) := by decide +kernel
theorem dL_act_274 : decode cL_act 274 = .ok (.isub, 1) := by decide +kernel
theorem dL_act_275 : decode cL_act 275 = .ok (.istore 9, 2) := by decide +kernel
theorem dL_act_277 : decode cL_act 277 = .ok (.aload 7, 2) := by decide +kernel
theorem dL_act_279 : decode cL_act 279 = .ok (.iconst 4, 1) := by decide +kernel
theorem dL_act_280 : decode cL_act 280 = .ok (.iaload, 1) := by decide +kernel
theorem dL_act_281 : decode cL_act 281 = .ok (.istore 10, 2) := by decide +kernel
theorem dL_act_283 : decode cL_act 283 = .ok (.aload 7, 2) := by decide +kernel
theorem dL_act_285 : decode cL_act 285 = .ok (.iconst 0, 1) := by decide +kernel
theorem dL_act_286 : decode cL_act 286 = .ok (.iaload, 1) := by decide +kernel
theorem dL_act_287 : decode cL_act 287 = .ok (.ifCond .eq 10, 3) := by decide +kernel
theorem dL_act_290 : decode cL_act 290 = .ok (.iload 9, 2) := by decide +kernel
theorem dL_act_292 : decode cL_act 292 = .ok (.iload 6, 2) := by decide +kernel
theorem dL_act_294 : decode cL_act 294 = .ok (.if_icmp .ne 5, 3) := by decide +kernel
theorem dL_act_297 : decode cL_act 297 = .ok (.iconst 1, 1) := by decide +kernel
theorem dL_act_298 : decode cL_act 298 = .ok (.ireturn, 1) := by decide +kernel
theorem dL_act_299 : decode cL_act 299 = .ok (.aload 7, 2) := by decide +kernel
theorem dL_act_301 : decode cL_act 301 = .ok (.iconst 4, 1) := by decide +kernel
theorem dL_act_302 : decode cL_act 302 = .ok (.iload 9, 2) := by decide +kernel
theorem dL_act_304 : decode cL_act 304 = .ok (.iastore, 1) := by decide +kernel
theorem dL_act_305 : decode cL_act 305 = .ok (.aload_n 0, 1) := by decide +kernel
theorem dL_act_306 : decode cL_act 306 = .ok (.iload 6, 2) := by decide +kernel
theorem dL_act_308 : decode cL_act 308 = .ok (.iload 9, 2) := by decide +kernel
theorem dL_act_310 : decode cL_act 310 = .ok (.invokevirtual 37, 3) := by decide +kernel
theorem dL_act_313 : decode cL_act 313 = .ok (.iload 10, 2) := by decide +kernel
theorem dL_act_315 : decode cL_act 315 = .ok (.if_icmp .ne 7, 3) := by decide +kernel
theorem dL_act_318 : decode cL_act 318 = .ok (.iconst 1, 1) := by decide +kernel
theorem dL_act_319 : decode cL_act 319 = .ok (.goto 4, 3) := by decide +kernel
theorem dL_act_322 : decode cL_act 322 = .ok (.iconst 0, 1) := by decide +kernel
theorem dL_act_323 : decode cL_act 323 = .ok (.ireturn, 1) := by decide +kernel
theorem dL_act_324 : decode cL_act 324 = .ok (.aload 7, 2) := by decide +kernel
theorem dL_act_326 : decode cL_act 326 = .ok (.invokestatic 40, 3) := by decide +kernel
theorem dL_act_329 : decode cL_act 329 = .ok (.istore 11, 2) := by decide +kernel
theorem dL_act_331 : decode cL_act 331 = .ok (.aload 7, 2) := by decide +kernel
theorem dL_act_333 : decode cL_act 333 = .ok (.iconst 0, 1) := by decide +kernel
theorem dL_act_334 : decode cL_act 334 = .ok (.iaload, 1) := by decide +kernel
theorem dL_act_335 : decode cL_act 335 = .ok (.ifCond .eq 21, 3) := by decide +kernel
theorem dL_act_338 : decode cL_act 338 = .ok (.aload 7, 2) := by decide +kernel
theorem dL_act_340 : decode cL_act 340 = .ok (.iconst 3, 1) := by decide +kernel
theorem dL_act_341 : decode cL_act 341 = .ok (.iaload, 1) := by decide +kernel
theorem dL_act_342 : decode cL_act 342 = .ok (.bipush 9, 2) := by decide +kernel
theorem dL_act_344 : decode cL_act 344 = .ok (.if_icmp .eq 12, 3) := by decide +kernel
theorem dL_act_347 : decode cL_act 347 = .ok (.aload 7, 2) := by decide +kernel
theorem dL_act_349 : decode cL_act 349 = .ok (.iconst 2, 1) := by decide +kernel
theorem dL_act_350 : decode cL_act 350 = .ok (.iaload, 1) := by decide +kernel
theorem dL_act_351 : decode cL_act 351 = .ok (.iload 11, 2) := by decide +kernel
theorem dL_act_353 : decode cL_act 353 = .ok (.if_icmp .ge 5, 3) := by decide +kernel
theorem dL_act_356 : decode cL_act 356 = .ok (.iconst 1, 1) := by decide +kernel
theorem dL_act_357 : decode cL_act 357 = .ok (.ireturn, 1) := by decide +kernel
theorem dL_act_358 : decode cL_act 358 = .ok (.aload 7, 2) := by decide +kernel
theorem dL_act_360 : decode cL_act 360 = .ok (.iconst 2, 1) := by decide +kernel
theorem dL_act_361 : decode cL_act 361 = .ok (.dup2, 1) := by decide +kernel
theorem dL_act_362 : decode cL_act 362 = .ok (.iaload, 1) := by decide +kernel
theorem dL_act_363 : decode cL_act 363 = .ok (.iload 11, 2) := by decide +kernel
theorem dL_act_365 : decode cL_act 365 = .ok (.isub, 1) := by decide +kernel
theorem dL_act_366 : decode cL_act 366 = .ok (.iastore, 1) := by decide +kernel
theorem dL_act_367 : decode cL_act 367 = .ok (.aload 7, 2) := by decide +kernel
theorem dL_act_369 : decode cL_act 369 = .ok (.iconst 3, 1) := by decide +kernel
theorem dL_act_370 : decode cL_act 370 = .ok (.dup2, 1) := by decide +kernel
theorem dL_act_371 : decode cL_act 371 = .ok (.iaload, 1) := by decide +kernel
theorem dL_act_372 : decode cL_act 372 = .ok (.iconst 1, 1) := by decide +kernel
theorem dL_act_373 : decode cL_act 373 = .ok (.iadd, 1) := by decide +kernel
theorem dL_act_374 : decode cL_act 374 = .ok (.iastore, 1) := by decide +kernel
theorem dL_act_375 : decode cL_act 375 = .ok (.aload_n 1, 1) := by decide +kernel
theorem dL_act_376 : decode cL_act 376 = .ok (.dup, 1) := by decide +kernel
theorem dL_act_377 : decode cL_act 377 = .ok (.getfield 44, 3) := by decide +kernel
theorem dL_act_380 : decode cL_act 380 = .ok (.iload 11, 2) := by decide +kernel
theorem dL_act_382 : decode cL_act 382 = .ok (.iadd, 1) := by decide +kernel
theorem dL_act_383 : decode cL_act 383 = .ok (.putfield 44, 3) := by decide +kernel
theorem dL_act_386 : decode cL_act 386 = .ok (.aload_n 0, 1) := by decide +kernel
theorem dL_act_387 : decode cL_act 387 = .ok (.iload 6, 2) := by decide +kernel
theorem dL_act_389 : decode cL_act 389 = .ok (.invokevirtual 48, 3) := by decide +kernel
theorem dL_act_392 : decode cL_act 392 = .ok (.iload 11, 2) := by decide +kernel
theorem dL_act_394 : decode cL_act 394 = .ok (.if_icmp .ne 7, 3) := by decide +kernel
theorem dL_act_397 : decode cL_act 397 = .ok (.iconst 1, 1) := by decide +kernel
theorem dL_act_398 : decode cL_act 398 = .ok (.goto 4, 3) := by decide +kernel
theorem dL_act_401 : decode cL_act 401 = .ok (.iconst 0, 1) := by decide +kernel
theorem dL_act_402 : decode cL_act 402 = .ok (.ireturn, 1) := by decide +kernel
theorem dL_act_403 : decode cL_act 403 = .ok (.aload_n 1, 1) := by decide +kernel
theorem dL_act_404 : decode cL_act 404 = .ok (.getfield 15, 3) := by decide +kernel
theorem dL_act_407 : decode cL_act 407 = .ok (.iload 8, 2) := by decide +kernel
theorem dL_act_409 : decode cL_act 409 = .ok (.aaload, 1) := by decide +kernel
theorem dL_act_410 : decode cL_act 410 = .ok (.iconst 1, 1) := by decide +kernel
theorem dL_act_411 : decode cL_act 411 = .ok (.iconst 1, 1) := by decide +kernel
theorem dL_act_412 : decode cL_act 412 = .ok (.aload_n 1, 1) := by decide +kernel
theorem dL_act_413 : decode cL_act 413 = .ok (.getfield 15, 3) := by decide +kernel
theorem dL_act_416 : decode cL_act 416 = .ok (.iload 8, 2) := by decide +kernel
theorem dL_act_418 : decode cL_act 418 = .ok (.aaload, 1) := by decide +kernel
theorem dL_act_419 : decode cL_act 419 = .ok (.iconst 1, 1) := by decide +kernel
theorem dL_act_420 : decode cL_act 420 = .ok (.iaload, 1) := by decide +kernel
theorem dL_act_421 : decode cL_act 421 = .ok (.isub, 1) := by decide +kernel
theorem dL_act_422 : decode cL_act 422 = .ok (.iastore, 1) := by decide +kernel
theorem dL_act_423 : decode cL_act 423 = .ok (.aload_n 0, 1) := by decide +kernel
theorem dL_act_424 : decode cL_act 424 = .ok (.iload 8, 2) := by decide +kernel
theorem dL_act_426 : decode cL_act 426 = .ok (.invokevirtual 51, 3) := by decide +kernel
theorem dL_act_429 : decode cL_act 429 = .ok (.aload_n 1, 1) := by decide +kernel
theorem dL_act_430 : decode cL_act 430 = .ok (.getfield 15, 3) := by decide +kernel
theorem dL_act_433 : decode cL_act 433 = .ok (.iload 8, 2) := by decide +kernel
theorem dL_act_435 : decode cL_act 435 = .ok (.aaload, 1) := by decide +kernel
theorem dL_act_436 : decode cL_act 436 = .ok (.iconst 1, 1) := by decide +kernel
theorem dL_act_437 : decode cL_act 437 = .ok (.iaload, 1) := by decide +kernel
theorem dL_act_438 : decode cL_act 438 = .ok (.iconst 1, 1) := by decide +kernel
theorem dL_act_439 : decode cL_act 439 = .ok (.if_icmp .ne 7, 3) := by decide +kernel
theorem dL_act_442 : decode cL_act 442 = .ok (.iconst 1, 1) := by decide +kernel
theorem dL_act_443 : decode cL_act 443 = .ok (.goto 4, 3) := by decide +kernel
theorem dL_act_446 : decode cL_act 446 = .ok (.iconst 0, 1) := by decide +kernel
theorem dL_act_447 : decode cL_act 447 = .ok (.if_icmp .ne 7, 3) := by decide +kernel
theorem dL_act_450 : decode cL_act 450 = .ok (.iconst 1, 1) := by decide +kernel
theorem dL_act_451 : decode cL_act 451 = .ok (.goto 4, 3) := by decide +kernel
theorem dL_act_454 : decode cL_act 454 = .ok (.iconst 0, 1) := by decide +kernel
theorem dL_act_455 : decode cL_act 455 = .ok (.ireturn, 1) := by decide +kernel
theorem dL_act_456 : decode cL_act 456 = .ok (.aload 7, 2) := by decide +kernel
theorem dL_act_458 : decode cL_act 458 = .ok (.iconst 0, 1) := by decide +kernel
theorem dL_act_459 : decode cL_act 459 = .ok (.iaload, 1) := by decide +kernel
theorem dL_act_460 : decode cL_act 460 = .ok (.ifCond .eq 11, 3) := by decide +kernel
theorem dL_act_463 : decode cL_act 463 = .ok (.iload_n 2, 1) := by decide +kernel
theorem dL_act_464 : decode cL_act 464 = .ok (.iconst 3, 1) := by decide +kernel
theorem dL_act_465 : decode cL_act 465 = .ok (.invokestatic 18, 3) := by decide +kernel
theorem dL_act_468 : decode cL_act 468 = .ok (.ifCond .le 5, 3) := by decide +kernel
theorem dL_act_471 : decode cL_act 471 = .ok (.iconst 1, 1) := by decide +kernel
theorem dL_act_472 : decode cL_act 472 = .ok (.ireturn, 1) := by decide +kernel
theorem dL_act_473 : decode cL_act 473 = .ok (.aload_n 0, 1) := by decide +kernel
theorem dL_act_474 : decode cL_act 474 = .ok (.iload 6, 2) := by decide +kernel
theorem dL_act_476 : decode cL_act 476 = .ok (.invokevirtual 55, 3) := by decide +kernel
theorem dL_act_479 : decode cL_act 479 = .ok (.aload_n 1, 1) := by decide +kernel
theorem dL_act_480 : decode cL_act 480 = .ok (.iload 6, 2) := by decide +kernel
theorem dL_act_482 : decode cL_act 482 = .ok (.invokevirtual 58, 3) := by decide +kernel
theorem dL_act_485 : decode cL_act 485 = .ok (.if_icmp .ne 7, 3) := by decide +kernel
theorem dL_act_488 : decode cL_act 488 = .ok (.iconst 1, 1) := by decide +kernel
theorem dL_act_489 : decode cL_act 489 = .ok (.goto 4, 3) := by decide +kernel
theorem dL_act_492 : decode cL_act 492 = .ok (.iconst 0, 1) := by decide +kernel
theorem dL_act_493 : decode cL_act 493 = .ok (.ireturn, 1) := by decide +kernel
theorem dL_act_494 : decode cL_act 494 = .ok (.iconst 1, 1) := by decide +kernel
theorem dL_act_495 : decode cL_act 495 = .ok (.iload_n 2, 1) := by decide +kernel
theorem dL_act_496 : decode cL_act 496 = .ok (.iconst 2, 1) := by decide +kernel
theorem dL_act_497 : decode cL_act 497 = .ok (.ishr, 1) := by decide +kernel
theorem dL_act_498 : decode cL_act 498 = .ok (.iload_n 2, 1) := by decide +kernel
theorem dL_act_499 : decode cL_act 499 = .ok (.bipush 8, 2) := by decide +kernel
theorem dL_act_501 : decode cL_act 501 = .ok (.invokestatic 18, 3) := by decide +kernel
theorem dL_act_504 : decode cL_act 504 = .ok (.ifCond .ne 8, 3) := by decide +kernel
theorem dL_act_507 : decode cL_act 507 = .ok (.bipush 30, 2) := by decide +kernel
theorem dL_act_509 : decode cL_act 509 = .ok (.goto 4, 3) := by decide +kernel
theorem dL_act_512 : decode cL_act 512 = .ok (.iconst 3, 1) := by decide +kernel
theorem dL_act_513 : decode cL_act 513 = .ok (.invokestatic 18, 3) := by decide +kernel
