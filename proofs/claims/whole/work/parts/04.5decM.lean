theorem dX12_copied_225 : decode cX12_copied 225 = .ok (.goto 5, 3) := by decide +kernel
theorem dX12_copied_228 : decode cX12_copied 228 = .ok (.iload 9, 2) := by decide +kernel
theorem dX12_copied_230 : decode cX12_copied 230 = .ok (.istore 10, 2) := by decide +kernel
theorem dX12_copied_232 : decode cX12_copied 232 = .ok (.aload_n 0, 1) := by decide +kernel
theorem dX12_copied_233 : decode cX12_copied 233 = .ok (.iload 6, 2) := by decide +kernel
theorem dX12_copied_235 : decode cX12_copied 235 = .ok (.iload_n 3, 1) := by decide +kernel
theorem dX12_copied_236 : decode cX12_copied 236 = .ok (.iload 10, 2) := by decide +kernel
theorem dX12_copied_238 : decode cX12_copied 238 = .ok (.iadd, 1) := by decide +kernel
theorem dX12_copied_239 : decode cX12_copied 239 = .ok (.invokevirtual 140, 3) := by decide +kernel
theorem dX12_copied_242 : decode cX12_copied 242 = .ok (.lstore 11, 2) := by decide +kernel
theorem dX12_copied_244 : decode cX12_copied 244 = .ok (.aload_n 0, 1) := by decide +kernel
theorem dX12_copied_245 : decode cX12_copied 245 = .ok (.getfield 7, 3) := by decide +kernel
theorem dX12_copied_248 : decode cX12_copied 248 = .ok (.iload 7, 2) := by decide +kernel
theorem dX12_copied_250 : decode cX12_copied 250 = .ok (.iaload, 1) := by decide +kernel
theorem dX12_copied_251 : decode cX12_copied 251 = .ok (.bipush 8, 2) := by decide +kernel
theorem dX12_copied_253 : decode cX12_copied 253 = .ok (.if_icmp .lt 83, 3) := by decide +kernel
theorem dX12_copied_256 : decode cX12_copied 256 = .ok (.lload 11, 2) := by decide +kernel
theorem dX12_copied_258 : decode cX12_copied 258 = .ok (.lconst 0, 1) := by decide +kernel
theorem dX12_copied_259 : decode cX12_copied 259 = .ok (.lcmp, 1) := by decide +kernel
theorem dX12_copied_260 : decode cX12_copied 260 = .ok (.ifCond .eq 76, 3) := by decide +kernel
theorem dX12_copied_263 : decode cX12_copied 263 = .ok (.aload_n 0, 1) := by decide +kernel
theorem dX12_copied_264 : decode cX12_copied 264 = .ok (.lload 11, 2) := by decide +kernel
theorem dX12_copied_266 : decode cX12_copied 266 = .ok (.l2i, 1) := by decide +kernel
theorem dX12_copied_267 : decode cX12_copied 267 = .ok (.aload_n 0, 1) := by decide +kernel
theorem dX12_copied_268 : decode cX12_copied 268 = .ok (.getfield 7, 3) := by decide +kernel
theorem dX12_copied_271 : decode cX12_copied 271 = .ok (.iload 7, 2) := by decide +kernel
theorem dX12_copied_273 : decode cX12_copied 273 = .ok (.iaload, 1) := by decide +kernel
theorem dX12_copied_274 : decode cX12_copied 274 = .ok (.bipush 8, 2) := by decide +kernel
theorem dX12_copied_276 : decode cX12_copied 276 = .ok (.if_icmp .ne 7, 3) := by decide +kernel
theorem dX12_copied_279 : decode cX12_copied 279 = .ok (.iconst 0, 1) := by decide +kernel
theorem dX12_copied_280 : decode cX12_copied 280 = .ok (.goto 39, 3) := by decide +kernel
theorem dX12_copied_283 : decode cX12_copied 283 = .ok (.aload_n 0, 1) := by decide +kernel
theorem dX12_copied_284 : decode cX12_copied 284 = .ok (.getfield 7, 3) := by decide +kernel
theorem dX12_copied_287 : decode cX12_copied 287 = .ok (.iload 7, 2) := by decide +kernel
theorem dX12_copied_289 : decode cX12_copied 289 = .ok (.iaload, 1) := by decide +kernel
theorem dX12_copied_290 : decode cX12_copied 290 = .ok (.bipush 9, 2) := by decide +kernel
theorem dX12_copied_292 : decode cX12_copied 292 = .ok (.if_icmp .ne 8, 3) := by decide +kernel
theorem dX12_copied_295 : decode cX12_copied 295 = .ok (.bipush 12, 2) := by decide +kernel
theorem dX12_copied_297 : decode cX12_copied 297 = .ok (.goto 22, 3) := by decide +kernel
theorem dX12_copied_300 : decode cX12_copied 300 = .ok (.aload_n 0, 1) := by decide +kernel
theorem dX12_copied_301 : decode cX12_copied 301 = .ok (.getfield 7, 3) := by decide +kernel
theorem dX12_copied_304 : decode cX12_copied 304 = .ok (.iload 7, 2) := by decide +kernel
theorem dX12_copied_306 : decode cX12_copied 306 = .ok (.iaload, 1) := by decide +kernel
theorem dX12_copied_307 : decode cX12_copied 307 = .ok (.bipush 10, 2) := by decide +kernel
theorem dX12_copied_309 : decode cX12_copied 309 = .ok (.if_icmp .ne 8, 3) := by decide +kernel
theorem dX12_copied_312 : decode cX12_copied 312 = .ok (.bipush 13, 2) := by decide +kernel
theorem dX12_copied_314 : decode cX12_copied 314 = .ok (.goto 5, 3) := by decide +kernel
theorem dX12_copied_317 : decode cX12_copied 317 = .ok (.bipush 14, 2) := by decide +kernel
theorem dX12_copied_319 : decode cX12_copied 319 = .ok (.invokevirtual 86, 3) := by decide +kernel
theorem dX12_copied_322 : decode cX12_copied 322 = .ok (.ifCond .ne 14, 3) := by decide +kernel
theorem dX12_copied_325 : decode cX12_copied 325 = .ok (.aload_n 0, 1) := by decide +kernel
theorem dX12_copied_326 : decode cX12_copied 326 = .ok (.iconst 5, 1) := by decide +kernel
theorem dX12_copied_327 : decode cX12_copied 327 = .ok (.invokevirtual 79, 3) := by decide +kernel
theorem dX12_copied_330 : decode cX12_copied 330 = .ok (.pop, 1) := by decide +kernel
theorem dX12_copied_331 : decode cX12_copied 331 = .ok (.aload_n 0, 1) := by decide +kernel
theorem dX12_copied_332 : decode cX12_copied 332 = .ok (.invokevirtual 107, 3) := by decide +kernel
theorem dX12_copied_335 : decode cX12_copied 335 = .ok (.lreturn, 1) := by decide +kernel
theorem dX12_copied_336 : decode cX12_copied 336 = .ok (.aload_n 0, 1) := by decide +kernel
theorem dX12_copied_337 : decode cX12_copied 337 = .ok (.iload 7, 2) := by decide +kernel
theorem dX12_copied_339 : decode cX12_copied 339 = .ok (.iload 4, 2) := by decide +kernel
theorem dX12_copied_341 : decode cX12_copied 341 = .ok (.iload 10, 2) := by decide +kernel
theorem dX12_copied_343 : decode cX12_copied 343 = .ok (.iadd, 1) := by decide +kernel
theorem dX12_copied_344 : decode cX12_copied 344 = .ok (.lload 11, 2) := by decide +kernel
theorem dX12_copied_346 : decode cX12_copied 346 = .ok (.invokevirtual 151, 3) := by decide +kernel
theorem dX12_copied_349 : decode cX12_copied 349 = .ok (.iinc 9 1, 3) := by decide +kernel
theorem dX12_copied_352 : decode cX12_copied 352 = .ok (.goto (-146), 3) := by decide +kernel
theorem dX12_copied_355 : decode cX12_copied 355 = .ok (.lconst 0, 1) := by decide +kernel
theorem dX12_copied_356 : decode cX12_copied 356 = .ok (.lreturn, 1) := by decide +kernel
theorem dX12_op_0 : decode cX12_op 0 = .ok (.aload_n 0, 1) := by decide +kernel
theorem dX12_op_1 : decode cX12_op 1 = .ok (.iconst 0, 1) := by decide +kernel
theorem dX12_op_2 : decode cX12_op 2 = .ok (.putfield 55, 3) := by decide +kernel
theorem dX12_op_5 : decode cX12_op 5 = .ok (.aload_n 0, 1) := by decide +kernel
theorem dX12_op_6 : decode cX12_op 6 = .ok (.iload_n 1, 1) := by decide +kernel
theorem dX12_op_7 : decode cX12_op 7 = .ok (.iload_n 2, 1) := by decide +kernel
theorem dX12_op_8 : decode cX12_op 8 = .ok (.iload_n 3, 1) := by decide +kernel
theorem dX12_op_9 : decode cX12_op 9 = .ok (.iload 4, 2) := by decide +kernel
theorem dX12_op_11 : decode cX12_op 11 = .ok (.invokevirtual 162, 3) := by decide +kernel
theorem dX12_op_14 : decode cX12_op 14 = .ok (.lstore 5, 2) := by decide +kernel
theorem dX12_op_16 : decode cX12_op 16 = .ok (.aload_n 0, 1) := by decide +kernel
theorem dX12_op_17 : decode cX12_op 17 = .ok (.getfield 101, 3) := by decide +kernel
theorem dX12_op_20 : decode cX12_op 20 = .ok (.ifCond .eq 25, 3) := by decide +kernel
theorem dX12_op_23 : decode cX12_op 23 = .ok (.aload_n 0, 1) := by decide +kernel
theorem dX12_op_24 : decode cX12_op 24 = .ok (.getfield 49, 3) := by decide +kernel
theorem dX12_op_27 : decode cX12_op 27 = .ok (.iconst 3, 1) := by decide +kernel
theorem dX12_op_28 : decode cX12_op 28 = .ok (.dup2, 1) := by decide +kernel
theorem dX12_op_29 : decode cX12_op 29 = .ok (.iaload, 1) := by decide +kernel
theorem dX12_op_30 : decode cX12_op 30 = .ok (.iconst 1, 1) := by decide +kernel
theorem dX12_op_31 : decode cX12_op 31 = .ok (.iadd, 1) := by decide +kernel
theorem dX12_op_32 : decode cX12_op 32 = .ok (.iastore, 1) := by decide +kernel
theorem dX12_op_33 : decode cX12_op 33 = .ok (.aload_n 0, 1) := by decide +kernel
theorem dX12_op_34 : decode cX12_op 34 = .ok (.aload_n 0, 1) := by decide +kernel
theorem dX12_op_35 : decode cX12_op 35 = .ok (.getfield 76, 3) := by decide +kernel
theorem dX12_op_38 : decode cX12_op 38 = .ok (.iconst 1, 1) := by decide +kernel
theorem dX12_op_39 : decode cX12_op 39 = .ok (.iadd, 1) := by decide +kernel
theorem dX12_op_40 : decode cX12_op 40 = .ok (.putfield 55, 3) := by decide +kernel
theorem dX12_op_43 : decode cX12_op 43 = .ok (.lconst 0, 1) := by decide +kernel
theorem dX12_op_44 : decode cX12_op 44 = .ok (.lreturn, 1) := by decide +kernel
theorem dX12_op_45 : decode cX12_op 45 = .ok (.aload_n 0, 1) := by decide +kernel
theorem dX12_op_46 : decode cX12_op 46 = .ok (.getfield 49, 3) := by decide +kernel
theorem dX12_op_49 : decode cX12_op 49 = .ok (.iconst 0, 1) := by decide +kernel
theorem dX12_op_50 : decode cX12_op 50 = .ok (.dup2, 1) := by decide +kernel
theorem dX12_op_51 : decode cX12_op 51 = .ok (.iaload, 1) := by decide +kernel
theorem dX12_op_52 : decode cX12_op 52 = .ok (.iconst 1, 1) := by decide +kernel
theorem dX12_op_53 : decode cX12_op 53 = .ok (.iadd, 1) := by decide +kernel
theorem dX12_op_54 : decode cX12_op 54 = .ok (.iastore, 1) := by decide +kernel
theorem dX12_op_55 : decode cX12_op 55 = .ok (.lload 5, 2) := by decide +kernel
theorem dX12_op_57 : decode cX12_op 57 = .ok (.lreturn, 1) := by decide +kernel
theorem dX12_load_0 : decode cX12_load 0 = .ok (.aload_n 0, 1) := by decide +kernel
theorem dX12_load_1 : decode cX12_load 1 = .ok (.iconst 0, 1) := by decide +kernel
theorem dX12_load_2 : decode cX12_load 2 = .ok (.putfield 55, 3) := by decide +kernel
theorem dX12_load_5 : decode cX12_load 5 = .ok (.iload_n 1, 1) := by decide +kernel
theorem dX12_load_6 : decode cX12_load 6 = .ok (.ifCond .lt 10, 3) := by decide +kernel
theorem dX12_load_9 : decode cX12_load 9 = .ok (.iload_n 1, 1) := by decide +kernel
theorem dX12_load_10 : decode cX12_load 10 = .ok (.sipush 255, 3) := by decide +kernel
theorem dX12_load_13 : decode cX12_load 13 = .ok (.if_icmp .le 10, 3) := by decide +kernel
theorem dX12_load_16 : decode cX12_load 16 = .ok (.aload_n 0, 1) := by decide +kernel
theorem dX12_load_17 : decode cX12_load 17 = .ok (.iconst 1, 1) := by decide +kernel
theorem dX12_load_18 : decode cX12_load 18 = .ok (.putfield 55, 3) := by decide +kernel
theorem dX12_load_21 : decode cX12_load 21 = .ok (.iconst 0, 1) := by decide +kernel
theorem dX12_load_22 : decode cX12_load 22 = .ok (.ireturn, 1) := by decide +kernel
theorem dX12_load_23 : decode cX12_load 23 = .ok (.aload_n 0, 1) := by decide +kernel
theorem dX12_load_24 : decode cX12_load 24 = .ok (.getfield 37, 3) := by decide +kernel
theorem dX12_load_27 : decode cX12_load 27 = .ok (.iload_n 1, 1) := by decide +kernel
theorem dX12_load_28 : decode cX12_load 28 = .ok (.iload_n 2, 1) := by decide +kernel
theorem dX12_load_29 : decode cX12_load 29 = .ok (.iastore, 1) := by decide +kernel
theorem dX12_load_30 : decode cX12_load 30 = .ok (.aload_n 0, 1) := by decide +kernel
theorem dX12_load_31 : decode cX12_load 31 = .ok (.getfield 40, 3) := by decide +kernel
theorem dX12_load_34 : decode cX12_load 34 = .ok (.iload_n 1, 1) := by decide +kernel
theorem dX12_load_35 : decode cX12_load 35 = .ok (.iload_n 3, 1) := by decide +kernel
theorem dX12_load_36 : decode cX12_load 36 = .ok (.iastore, 1) := by decide +kernel
theorem dX12_load_37 : decode cX12_load 37 = .ok (.aload_n 0, 1) := by decide +kernel
theorem dX12_load_38 : decode cX12_load 38 = .ok (.getfield 43, 3) := by decide +kernel
theorem dX12_load_41 : decode cX12_load 41 = .ok (.iload_n 1, 1) := by decide +kernel
theorem dX12_load_42 : decode cX12_load 42 = .ok (.iload 4, 2) := by decide +kernel
theorem dX12_load_44 : decode cX12_load 44 = .ok (.iastore, 1) := by decide +kernel
theorem dX12_load_45 : decode cX12_load 45 = .ok (.aload_n 0, 1) := by decide +kernel
theorem dX12_load_46 : decode cX12_load 46 = .ok (.getfield 46, 3) := by decide +kernel
theorem dX12_load_49 : decode cX12_load 49 = .ok (.iload_n 1, 1) := by decide +kernel
theorem dX12_load_50 : decode cX12_load 50 = .ok (.iload 5, 2) := by decide +kernel
theorem dX12_load_52 : decode cX12_load 52 = .ok (.iastore, 1) := by decide +kernel
theorem dX12_load_53 : decode cX12_load 53 = .ok (.iload_n 1, 1) := by decide +kernel
theorem dX12_load_54 : decode cX12_load 54 = .ok (.ireturn, 1) := by decide +kernel
theorem dX12_takes_0 : decode cX12_takes 0 = .ok (.iload_n 0, 1) := by decide +kernel
theorem dX12_takes_1 : decode cX12_takes 1 = .ok (.iconst 4, 1) := by decide +kernel
theorem dX12_takes_2 : decode cX12_takes 2 = .ok (.if_icmp .eq 40, 3) := by decide +kernel
theorem dX12_takes_5 : decode cX12_takes 5 = .ok (.iload_n 0, 1) := by decide +kernel
theorem dX12_takes_6 : decode cX12_takes 6 = .ok (.bipush 7, 2) := by decide +kernel
theorem dX12_takes_8 : decode cX12_takes 8 = .ok (.if_icmp .ne 9, 3) := by decide +kernel
theorem dX12_takes_11 : decode cX12_takes 11 = .ok (.iload_n 1, 1) := by decide +kernel
theorem dX12_takes_12 : decode cX12_takes 12 = .ok (.bipush 6, 2) := by decide +kernel
theorem dX12_takes_14 : decode cX12_takes 14 = .ok (.if_icmp .eq 28, 3) := by decide +kernel
theorem dX12_takes_17 : decode cX12_takes 17 = .ok (.iload_n 0, 1) := by decide +kernel
theorem dX12_takes_18 : decode cX12_takes 18 = .ok (.iconst 3, 1) := by decide +kernel
theorem dX12_takes_19 : decode cX12_takes 19 = .ok (.if_icmp .ne 13, 3) := by decide +kernel
theorem dX12_takes_22 : decode cX12_takes 22 = .ok (.iload_n 1, 1) := by decide +kernel
theorem dX12_takes_23 : decode cX12_takes 23 = .ok (.iconst 3, 1) := by decide +kernel
theorem dX12_takes_24 : decode cX12_takes 24 = .ok (.if_icmp .eq 18, 3) := by decide +kernel
theorem dX12_takes_27 : decode cX12_takes 27 = .ok (.iload_n 1, 1) := by decide +kernel
theorem dX12_takes_28 : decode cX12_takes 28 = .ok (.iconst 5, 1) := by decide +kernel
theorem dX12_takes_29 : decode cX12_takes 29 = .ok (.if_icmp .eq 13, 3) := by decide +kernel
theorem dX12_takes_32 : decode cX12_takes 32 = .ok (.iload_n 0, 1) := by decide +kernel
theorem dX12_takes_33 : decode cX12_takes 33 = .ok (.iconst 2, 1) := by decide +kernel
theorem dX12_takes_34 : decode cX12_takes 34 = .ok (.if_icmp .gt 12, 3) := by decide +kernel
theorem dX12_takes_37 : decode cX12_takes 37 = .ok (.iload_n 0, 1) := by decide +kernel
theorem dX12_takes_38 : decode cX12_takes 38 = .ok (.iload_n 1, 1) := by decide +kernel
theorem dX12_takes_39 : decode cX12_takes 39 = .ok (.if_icmp .ne 7, 3) := by decide +kernel
theorem dX12_takes_42 : decode cX12_takes 42 = .ok (.iconst 1, 1) := by decide +kernel
theorem dX12_takes_43 : decode cX12_takes 43 = .ok (.goto 4, 3) := by decide +kernel
theorem dX12_takes_46 : decode cX12_takes 46 = .ok (.iconst 0, 1) := by decide +kernel
theorem dX12_takes_47 : decode cX12_takes 47 = .ok (.ireturn, 1) := by decide +kernel
theorem dX12_block_0 : decode cX12_block 0 = .ok (.iload_n 1, 1) := by decide +kernel
theorem dX12_block_1 : decode cX12_block 1 = .ok (.istore_n 3, 1) := by decide +kernel
theorem dX12_block_2 : decode cX12_block 2 = .ok (.iload_n 3, 1) := by decide +kernel
theorem dX12_block_3 : decode cX12_block 3 = .ok (.iload_n 2, 1) := by decide +kernel
theorem dX12_block_4 : decode cX12_block 4 = .ok (.if_icmp .ge 425, 3) := by decide +kernel
theorem dX12_block_7 : decode cX12_block 7 = .ok (.aload_n 0, 1) := by decide +kernel
theorem dX12_block_8 : decode cX12_block 8 = .ok (.getfield 165, 3) := by decide +kernel
theorem dX12_block_11 : decode cX12_block 11 = .ok (.ifCond .ne 5, 3) := by decide +kernel
theorem dX12_block_14 : decode cX12_block 14 = .ok (.iconst 2, 1) := by decide +kernel
theorem dX12_block_15 : decode cX12_block 15 = .ok (.ireturn, 1) := by decide +kernel
theorem dX12_block_16 : decode cX12_block 16 = .ok (.aload_n 0, 1) := by decide +kernel
theorem dX12_block_17 : decode cX12_block 17 = .ok (.dup, 1) := by decide +kernel
theorem dX12_block_18 : decode cX12_block 18 = .ok (.getfield 165, 3) := by decide +kernel
theorem dX12_block_21 : decode cX12_block 21 = .ok (.iconst 1, 1) := by decide +kernel
theorem dX12_block_22 : decode cX12_block 22 = .ok (.isub, 1) := by decide +kernel
theorem dX12_block_23 : decode cX12_block 23 = .ok (.putfield 165, 3) := by decide +kernel
theorem dX12_block_26 : decode cX12_block 26 = .ok (.aload_n 0, 1) := by decide +kernel
theorem dX12_block_27 : decode cX12_block 27 = .ok (.getfield 37, 3) := by decide +kernel
theorem dX12_block_30 : decode cX12_block 30 = .ok (.iload_n 3, 1) := by decide +kernel
theorem dX12_block_31 : decode cX12_block 31 = .ok (.iaload, 1) := by decide +kernel
theorem dX12_block_32 : decode cX12_block 32 = .ok (.istore 4, 2) := by decide +kernel
theorem dX12_block_34 : decode cX12_block 34 = .ok (.aload_n 0, 1) := by decide +kernel
theorem dX12_block_35 : decode cX12_block 35 = .ok (.getfield 40, 3) := by decide +kernel
theorem dX12_block_38 : decode cX12_block 38 = .ok (.iload_n 3, 1) := by decide +kernel
theorem dX12_block_39 : decode cX12_block 39 = .ok (.iaload, 1) := by decide +kernel
theorem dX12_block_40 : decode cX12_block 40 = .ok (.ifCond .ge 7, 3) := by decide +kernel
theorem dX12_block_43 : decode cX12_block 43 = .ok (.iconst 0, 1) := by decide +kernel
theorem dX12_block_44 : decode cX12_block 44 = .ok (.goto 9, 3) := by decide +kernel
theorem dX12_block_47 : decode cX12_block 47 = .ok (.aload_n 0, 1) := by decide +kernel
theorem dX12_block_48 : decode cX12_block 48 = .ok (.getfield 40, 3) := by decide +kernel
theorem dX12_block_51 : decode cX12_block 51 = .ok (.iload_n 3, 1) := by decide +kernel
theorem dX12_block_52 : decode cX12_block 52 = .ok (.iaload, 1) := by decide +kernel
theorem dX12_block_53 : decode cX12_block 53 = .ok (.istore 5, 2) := by decide +kernel
theorem dX12_block_55 : decode cX12_block 55 = .ok (.iload_n 3, 1) := by decide +kernel
theorem dX12_block_56 : decode cX12_block 56 = .ok (.iconst 1, 1) := by decide +kernel
theorem dX12_block_57 : decode cX12_block 57 = .ok (.iadd, 1) := by decide +kernel
theorem dX12_block_58 : decode cX12_block 58 = .ok (.istore 6, 2) := by decide +kernel
theorem dX12_block_60 : decode cX12_block 60 = .ok (.iload 5, 2) := by decide +kernel
theorem dX12_block_62 : decode cX12_block 62 = .ok (.iload_n 2, 1) := by decide +kernel
theorem dX12_block_63 : decode cX12_block 63 = .ok (.iload 6, 2) := by decide +kernel
theorem dX12_block_65 : decode cX12_block 65 = .ok (.isub, 1) := by decide +kernel
theorem dX12_block_66 : decode cX12_block 66 = .ok (.if_icmp .le 7, 3) := by decide +kernel
theorem dX12_block_69 : decode cX12_block 69 = .ok (.iload_n 2, 1) := by decide +kernel
theorem dX12_block_70 : decode cX12_block 70 = .ok (.goto 8, 3) := by decide +kernel
theorem dX12_block_73 : decode cX12_block 73 = .ok (.iload 6, 2) := by decide +kernel
theorem dX12_block_75 : decode cX12_block 75 = .ok (.iload 5, 2) := by decide +kernel
theorem dX12_block_77 : decode cX12_block 77 = .ok (.iadd, 1) := by decide +kernel
theorem dX12_block_78 : decode cX12_block 78 = .ok (.istore 7, 2) := by decide +kernel
theorem dX12_block_80 : decode cX12_block 80 = .ok (.iload 4, 2) := by decide +kernel
theorem dX12_block_82 : decode cX12_block 82 = .ok (.bipush 40, 2) := by decide +kernel
theorem dX12_block_84 : decode cX12_block 84 = .ok (.if_icmp .ne 15, 3) := by decide +kernel
theorem dX12_block_87 : decode cX12_block 87 = .ok (.aload_n 0, 1) := by decide +kernel
theorem dX12_block_88 : decode cX12_block 88 = .ok (.getfield 49, 3) := by decide +kernel
theorem dX12_block_91 : decode cX12_block 91 = .ok (.iconst 0, 1) := by decide +kernel
theorem dX12_block_92 : decode cX12_block 92 = .ok (.dup2, 1) := by decide +kernel
theorem dX12_block_93 : decode cX12_block 93 = .ok (.iaload, 1) := by decide +kernel
theorem dX12_block_94 : decode cX12_block 94 = .ok (.iconst 1, 1) := by decide +kernel
theorem dX12_block_95 : decode cX12_block 95 = .ok (.iadd, 1) := by decide +kernel
theorem dX12_block_96 : decode cX12_block 96 = .ok (.iastore, 1) := by decide +kernel
theorem dX12_block_97 : decode cX12_block 97 = .ok (.iconst 1, 1) := by decide +kernel
theorem dX12_block_98 : decode cX12_block 98 = .ok (.ireturn, 1) := by decide +kernel
theorem dX12_block_99 : decode cX12_block 99 = .ok (.iload 4, 2) := by decide +kernel
theorem dX12_block_101 : decode cX12_block 101 = .ok (.bipush 41, 2) := by decide +kernel
theorem dX12_block_103 : decode cX12_block 103 = .ok (.if_icmp .ne 17, 3) := by decide +kernel
theorem dX12_block_106 : decode cX12_block 106 = .ok (.aload_n 0, 1) := by decide +kernel
theorem dX12_block_107 : decode cX12_block 107 = .ok (.aload_n 0, 1) := by decide +kernel
theorem dX12_block_108 : decode cX12_block 108 = .ok (.getfield 40, 3) := by decide +kernel
theorem dX12_block_111 : decode cX12_block 111 = .ok (.iload_n 3, 1) := by decide +kernel
theorem dX12_block_112 : decode cX12_block 112 = .ok (.iaload, 1) := by decide +kernel
theorem dX12_block_113 : decode cX12_block 113 = .ok (.i2l, 1) := by decide +kernel
theorem dX12_block_114 : decode cX12_block 114 = .ok (.putfield 143, 3) := by decide +kernel
theorem dX12_block_117 : decode cX12_block 117 = .ok (.goto 296, 3) := by decide +kernel
theorem dX12_block_120 : decode cX12_block 120 = .ok (.iload 4, 2) := by decide +kernel
theorem dX12_block_122 : decode cX12_block 122 = .ok (.bipush 42, 2) := by decide +kernel
theorem dX12_block_124 : decode cX12_block 124 = .ok (.if_icmp .ne 22, 3) := by decide +kernel
theorem dX12_block_127 : decode cX12_block 127 = .ok (.aload_n 0, 1) := by decide +kernel
theorem dX12_block_128 : decode cX12_block 128 = .ok (.dup, 1) := by decide +kernel
theorem dX12_block_129 : decode cX12_block 129 = .ok (.getfield 143, 3) := by decide +kernel
theorem dX12_block_132 : decode cX12_block 132 = .ok (.aload_n 0, 1) := by decide +kernel
theorem dX12_block_133 : decode cX12_block 133 = .ok (.getfield 40, 3) := by decide +kernel
theorem dX12_block_136 : decode cX12_block 136 = .ok (.iload_n 3, 1) := by decide +kernel
theorem dX12_block_137 : decode cX12_block 137 = .ok (.iaload, 1) := by decide +kernel
theorem dX12_block_138 : decode cX12_block 138 = .ok (.i2l, 1) := by decide +kernel
theorem dX12_block_139 : decode cX12_block 139 = .ok (.ladd, 1) := by decide +kernel
theorem dX12_block_140 : decode cX12_block 140 = .ok (.putfield 143, 3) := by decide +kernel
theorem dX12_block_143 : decode cX12_block 143 = .ok (.goto 270, 3) := by decide +kernel
theorem dX12_block_146 : decode cX12_block 146 = .ok (.iload 4, 2) := by decide +kernel
theorem dX12_block_148 : decode cX12_block 148 = .ok (.bipush 43, 2) := by decide +kernel
theorem dX12_block_150 : decode cX12_block 150 = .ok (.if_icmp .ne 19, 3) := by decide +kernel
theorem dX12_block_153 : decode cX12_block 153 = .ok (.aload_n 0, 1) := by decide +kernel
theorem dX12_block_154 : decode cX12_block 154 = .ok (.getfield 143, 3) := by decide +kernel
theorem dX12_block_157 : decode cX12_block 157 = .ok (.lconst 0, 1) := by decide +kernel
theorem dX12_block_158 : decode cX12_block 158 = .ok (.lcmp, 1) := by decide +kernel
theorem dX12_block_159 : decode cX12_block 159 = .ok (.ifCond .ge 254, 3) := by decide +kernel
theorem dX12_block_162 : decode cX12_block 162 = .ok (.iload 7, 2) := by decide +kernel
theorem dX12_block_164 : decode cX12_block 164 = .ok (.istore 6, 2) := by decide +kernel
theorem dX12_block_166 : decode cX12_block 166 = .ok (.goto 247, 3) := by decide +kernel
theorem dX12_block_169 : decode cX12_block 169 = .ok (.iload 4, 2) := by decide +kernel
theorem dX12_block_171 : decode cX12_block 171 = .ok (.bipush 44, 2) := by decide +kernel
theorem dX12_block_173 : decode cX12_block 173 = .ok (.if_icmp .ne 82, 3) := by decide +kernel
theorem dX12_block_176 : decode cX12_block 176 = .ok (.iconst 0, 1) := by decide +kernel
theorem dX12_block_177 : decode cX12_block 177 = .ok (.istore 8, 2) := by decide +kernel
theorem dX12_block_179 : decode cX12_block 179 = .ok (.iconst 0, 1) := by decide +kernel
theorem dX12_block_180 : decode cX12_block 180 = .ok (.istore 9, 2) := by decide +kernel
theorem dX12_block_182 : decode cX12_block 182 = .ok (.iload 6, 2) := by decide +kernel
theorem dX12_block_184 : decode cX12_block 184 = .ok (.iload 7, 2) := by decide +kernel
theorem dX12_block_186 : decode cX12_block 186 = .ok (.if_icmp .ge 35, 3) := by decide +kernel
theorem dX12_block_189 : decode cX12_block 189 = .ok (.iload 9, 2) := by decide +kernel
theorem dX12_block_191 : decode cX12_block 191 = .ok (.aload_n 0, 1) := by decide +kernel
theorem dX12_block_192 : decode cX12_block 192 = .ok (.getfield 43, 3) := by decide +kernel
theorem dX12_block_195 : decode cX12_block 195 = .ok (.iload_n 3, 1) := by decide +kernel
theorem dX12_block_196 : decode cX12_block 196 = .ok (.iaload, 1) := by decide +kernel
theorem dX12_block_197 : decode cX12_block 197 = .ok (.if_icmp .ge 24, 3) := by decide +kernel
theorem dX12_block_200 : decode cX12_block 200 = .ok (.iload 8, 2) := by decide +kernel
theorem dX12_block_202 : decode cX12_block 202 = .ok (.ifCond .ne 19, 3) := by decide +kernel
theorem dX12_block_205 : decode cX12_block 205 = .ok (.aload_n 0, 1) := by decide +kernel
theorem dX12_block_206 : decode cX12_block 206 = .ok (.iload 6, 2) := by decide +kernel
theorem dX12_block_208 : decode cX12_block 208 = .ok (.iload 7, 2) := by decide +kernel
theorem dX12_block_210 : decode cX12_block 210 = .ok (.invokevirtual 168, 3) := by decide +kernel
theorem dX12_block_213 : decode cX12_block 213 = .ok (.istore 8, 2) := by decide +kernel
theorem dX12_block_215 : decode cX12_block 215 = .ok (.iinc 9 1, 3) := by decide +kernel
theorem dX12_block_218 : decode cX12_block 218 = .ok (.goto (-36), 3) := by decide +kernel
theorem dX12_block_221 : decode cX12_block 221 = .ok (.iload 8, 2) := by decide +kernel
theorem dX12_block_223 : decode cX12_block 223 = .ok (.iconst 3, 1) := by decide +kernel
theorem dX12_block_224 : decode cX12_block 224 = .ok (.if_icmp .ne 6, 3) := by decide +kernel
theorem dX12_block_227 : decode cX12_block 227 = .ok (.iload 8, 2) := by decide +kernel
theorem dX12_block_229 : decode cX12_block 229 = .ok (.ireturn, 1) := by decide +kernel
theorem dX12_block_230 : decode cX12_block 230 = .ok (.iload 8, 2) := by decide +kernel
theorem dX12_block_232 : decode cX12_block 232 = .ok (.ifCond .eq 16, 3) := by decide +kernel
theorem dX12_block_235 : decode cX12_block 235 = .ok (.aload_n 0, 1) := by decide +kernel
theorem dX12_block_236 : decode cX12_block 236 = .ok (.getfield 49, 3) := by decide +kernel
theorem dX12_block_239 : decode cX12_block 239 = .ok (.iconst 0, 1) := by decide +kernel
theorem dX12_block_240 : decode cX12_block 240 = .ok (.dup2, 1) := by decide +kernel
theorem dX12_block_241 : decode cX12_block 241 = .ok (.iaload, 1) := by decide +kernel
theorem dX12_block_242 : decode cX12_block 242 = .ok (.iconst 1, 1) := by decide +kernel
theorem dX12_block_243 : decode cX12_block 243 = .ok (.iadd, 1) := by decide +kernel
theorem dX12_block_244 : decode cX12_block 244 = .ok (.iastore, 1) := by decide +kernel
theorem dX12_block_245 : decode cX12_block 245 = .ok (.iload 8, 2) := by decide +kernel
theorem dX12_block_247 : decode cX12_block 247 = .ok (.ireturn, 1) := by decide +kernel
theorem dX12_block_248 : decode cX12_block 248 = .ok (.iload 7, 2) := by decide +kernel
theorem dX12_block_250 : decode cX12_block 250 = .ok (.istore 6, 2) := by decide +kernel
theorem dX12_block_252 : decode cX12_block 252 = .ok (.goto 161, 3) := by decide +kernel
theorem dX12_block_255 : decode cX12_block 255 = .ok (.iload 4, 2) := by decide +kernel
theorem dX12_block_257 : decode cX12_block 257 = .ok (.bipush 45, 2) := by decide +kernel
theorem dX12_block_259 : decode cX12_block 259 = .ok (.if_icmp .ne 113, 3) := by decide +kernel
theorem dX12_block_262 : decode cX12_block 262 = .ok (.aload_n 0, 1) := by decide +kernel
theorem dX12_block_263 : decode cX12_block 263 = .ok (.getfield 43, 3) := by decide +kernel
theorem dX12_block_266 : decode cX12_block 266 = .ok (.iload_n 3, 1) := by decide +kernel
theorem dX12_block_267 : decode cX12_block 267 = .ok (.iaload, 1) := by decide +kernel
theorem dX12_block_268 : decode cX12_block 268 = .ok (.bipush 7, 2) := by decide +kernel
theorem dX12_block_270 : decode cX12_block 270 = .ok (.iand, 1) := by decide +kernel
theorem dX12_block_271 : decode cX12_block 271 = .ok (.istore 8, 2) := by decide +kernel
theorem dX12_block_273 : decode cX12_block 273 = .ok (.aload_n 0, 1) := by decide +kernel
theorem dX12_block_274 : decode cX12_block 274 = .ok (.iload 6, 2) := by decide +kernel
theorem dX12_block_276 : decode cX12_block 276 = .ok (.iload 7, 2) := by decide +kernel
theorem dX12_block_278 : decode cX12_block 278 = .ok (.invokevirtual 168, 3) := by decide +kernel
theorem dX12_block_281 : decode cX12_block 281 = .ok (.istore 9, 2) := by decide +kernel
theorem dX12_block_283 : decode cX12_block 283 = .ok (.iload 8, 2) := by decide +kernel
theorem dX12_block_285 : decode cX12_block 285 = .ok (.bipush 6, 2) := by decide +kernel
theorem dX12_block_287 : decode cX12_block 287 = .ok (.if_icmp .ne 13, 3) := by decide +kernel
theorem dX12_block_290 : decode cX12_block 290 = .ok (.aload_n 0, 1) := by decide +kernel
theorem dX12_block_291 : decode cX12_block 291 = .ok (.getfield 49, 3) := by decide +kernel
theorem dX12_block_294 : decode cX12_block 294 = .ok (.iconst 2, 1) := by decide +kernel
theorem dX12_block_295 : decode cX12_block 295 = .ok (.dup2, 1) := by decide +kernel
theorem dX12_block_296 : decode cX12_block 296 = .ok (.iaload, 1) := by decide +kernel
theorem dX12_block_297 : decode cX12_block 297 = .ok (.iconst 1, 1) := by decide +kernel
theorem dX12_block_298 : decode cX12_block 298 = .ok (.iadd, 1) := by decide +kernel
theorem dX12_block_299 : decode cX12_block 299 = .ok (.iastore, 1) := by decide +kernel
theorem dX12_block_300 : decode cX12_block 300 = .ok (.iload 9, 2) := by decide +kernel
theorem dX12_block_302 : decode cX12_block 302 = .ok (.iconst 3, 1) := by decide +kernel
theorem dX12_block_303 : decode cX12_block 303 = .ok (.if_icmp .ne 44, 3) := by decide +kernel
theorem dX12_block_306 : decode cX12_block 306 = .ok (.iload 8, 2) := by decide +kernel
theorem dX12_block_308 : decode cX12_block 308 = .ok (.aload_n 0, 1) := by decide +kernel
theorem dX12_block_309 : decode cX12_block 309 = .ok (.getfield 76, 3) := by decide +kernel
theorem dX12_block_312 : decode cX12_block 312 = .ok (.invokestatic 171, 3) := by decide +kernel
theorem dX12_block_315 : decode cX12_block 315 = .ok (.ifCond .ne 6, 3) := by decide +kernel
theorem dX12_block_318 : decode cX12_block 318 = .ok (.iload 9, 2) := by decide +kernel
theorem dX12_block_320 : decode cX12_block 320 = .ok (.ireturn, 1) := by decide +kernel
theorem dX12_block_321 : decode cX12_block 321 = .ok (.aload_n 0, 1) := by decide +kernel
theorem dX12_block_322 : decode cX12_block 322 = .ok (.getfield 49, 3) := by decide +kernel
theorem dX12_block_325 : decode cX12_block 325 = .ok (.iconst 1, 1) := by decide +kernel
theorem dX12_block_326 : decode cX12_block 326 = .ok (.dup2, 1) := by decide +kernel
theorem dX12_block_327 : decode cX12_block 327 = .ok (.iaload, 1) := by decide +kernel
theorem dX12_block_328 : decode cX12_block 328 = .ok (.iconst 1, 1) := by decide +kernel
theorem dX12_block_329 : decode cX12_block 329 = .ok (.iadd, 1) := by decide +kernel
theorem dX12_block_330 : decode cX12_block 330 = .ok (.iastore, 1) := by decide +kernel
theorem dX12_block_331 : decode cX12_block 331 = .ok (.aload_n 0, 1) := by decide +kernel
theorem dX12_block_332 : decode cX12_block 332 = .ok (.ldc2_w 105, 3) := by decide +kernel
theorem dX12_block_335 : decode cX12_block 335 = .ok (.aload_n 0, 1) := by decide +kernel
theorem dX12_block_336 : decode cX12_block 336 = .ok (.getfield 76, 3) := by decide +kernel
theorem dX12_block_339 : decode cX12_block 339 = .ok (.i2l, 1) := by decide +kernel
theorem dX12_block_340 : decode cX12_block 340 = .ok (.lsub, 1) := by decide +kernel
theorem dX12_block_341 : decode cX12_block 341 = .ok (.putfield 143, 3) := by decide +kernel
theorem dX12_block_344 : decode cX12_block 344 = .ok (.iconst 0, 1) := by decide +kernel
theorem dX12_block_345 : decode cX12_block 345 = .ok (.istore 9, 2) := by decide +kernel
theorem dX12_block_347 : decode cX12_block 347 = .ok (.iload 9, 2) := by decide +kernel
theorem dX12_block_349 : decode cX12_block 349 = .ok (.ifCond .eq 16, 3) := by decide +kernel
theorem dX12_block_352 : decode cX12_block 352 = .ok (.aload_n 0, 1) := by decide +kernel
theorem dX12_block_353 : decode cX12_block 353 = .ok (.getfield 49, 3) := by decide +kernel
theorem dX12_block_356 : decode cX12_block 356 = .ok (.iconst 0, 1) := by decide +kernel
theorem dX12_block_357 : decode cX12_block 357 = .ok (.dup2, 1) := by decide +kernel
theorem dX12_block_358 : decode cX12_block 358 = .ok (.iaload, 1) := by decide +kernel
theorem dX12_block_359 : decode cX12_block 359 = .ok (.iconst 1, 1) := by decide +kernel
theorem dX12_block_360 : decode cX12_block 360 = .ok (.iadd, 1) := by decide +kernel
theorem dX12_block_361 : decode cX12_block 361 = .ok (.iastore, 1) := by decide +kernel
theorem dX12_block_362 : decode cX12_block 362 = .ok (.iload 9, 2) := by decide +kernel
theorem dX12_block_364 : decode cX12_block 364 = .ok (.ireturn, 1) := by decide +kernel
theorem dX12_block_365 : decode cX12_block 365 = .ok (.iload 7, 2) := by decide +kernel
theorem dX12_block_367 : decode cX12_block 367 = .ok (.istore 6, 2) := by decide +kernel
theorem dX12_block_369 : decode cX12_block 369 = .ok (.goto 44, 3) := by decide +kernel
theorem dX12_block_372 : decode cX12_block 372 = .ok (.aload_n 0, 1) := by decide +kernel
theorem dX12_block_373 : decode cX12_block 373 = .ok (.iload 4, 2) := by decide +kernel
theorem dX12_block_375 : decode cX12_block 375 = .ok (.aload_n 0, 1) := by decide +kernel
theorem dX12_block_376 : decode cX12_block 376 = .ok (.getfield 40, 3) := by decide +kernel
theorem dX12_block_379 : decode cX12_block 379 = .ok (.iload_n 3, 1) := by decide +kernel
theorem dX12_block_380 : decode cX12_block 380 = .ok (.iaload, 1) := by decide +kernel
theorem dX12_block_381 : decode cX12_block 381 = .ok (.aload_n 0, 1) := by decide +kernel
theorem dX12_block_382 : decode cX12_block 382 = .ok (.getfield 43, 3) := by decide +kernel
theorem dX12_block_385 : decode cX12_block 385 = .ok (.iload_n 3, 1) := by decide +kernel
theorem dX12_block_386 : decode cX12_block 386 = .ok (.iaload, 1) := by decide +kernel
theorem dX12_block_387 : decode cX12_block 387 = .ok (.aload_n 0, 1) := by decide +kernel
theorem dX12_block_388 : decode cX12_block 388 = .ok (.getfield 46, 3) := by decide +kernel
theorem dX12_block_391 : decode cX12_block 391 = .ok (.iload_n 3, 1) := by decide +kernel
theorem dX12_block_392 : decode cX12_block 392 = .ok (.iaload, 1) := by decide +kernel
theorem dX12_block_393 : decode cX12_block 393 = .ok (.invokevirtual 162, 3) := by decide +kernel
theorem dX12_block_396 : decode cX12_block 396 = .ok (.lstore 8, 2) := by decide +kernel
theorem dX12_block_398 : decode cX12_block 398 = .ok (.aload_n 0, 1) := by decide +kernel
theorem dX12_block_399 : decode cX12_block 399 = .ok (.getfield 101, 3) := by decide +kernel
theorem dX12_block_402 : decode cX12_block 402 = .ok (.ifCond .eq 5, 3) := by decide +kernel
theorem dX12_block_405 : decode cX12_block 405 = .ok (.iconst 3, 1) := by decide +kernel
theorem dX12_block_406 : decode cX12_block 406 = .ok (.ireturn, 1) := by decide +kernel
theorem dX12_block_407 : decode cX12_block 407 = .ok (.aload_n 0, 1) := by decide +kernel
theorem dX12_block_408 : decode cX12_block 408 = .ok (.lload 8, 2) := by decide +kernel
theorem dX12_block_410 : decode cX12_block 410 = .ok (.putfield 143, 3) := by decide +kernel
theorem dX12_block_413 : decode cX12_block 413 = .ok (.aload_n 0, 1) := by decide +kernel
theorem dX12_block_414 : decode cX12_block 414 = .ok (.getfield 49, 3) := by decide +kernel
theorem dX12_block_417 : decode cX12_block 417 = .ok (.iconst 0, 1) := by decide +kernel
theorem dX12_block_418 : decode cX12_block 418 = .ok (.dup2, 1) := by decide +kernel
theorem dX12_block_419 : decode cX12_block 419 = .ok (.iaload, 1) := by decide +kernel
theorem dX12_block_420 : decode cX12_block 420 = .ok (.iconst 1, 1) := by decide +kernel
theorem dX12_block_421 : decode cX12_block 421 = .ok (.iadd, 1) := by decide +kernel
theorem dX12_block_422 : decode cX12_block 422 = .ok (.iastore, 1) := by decide +kernel
theorem dX12_block_423 : decode cX12_block 423 = .ok (.iload 6, 2) := by decide +kernel
theorem dX12_block_425 : decode cX12_block 425 = .ok (.istore_n 3, 1) := by decide +kernel
theorem dX12_block_426 : decode cX12_block 426 = .ok (.goto (-424), 3) := by decide +kernel
theorem dX12_block_429 : decode cX12_block 429 = .ok (.iconst 0, 1) := by decide +kernel
theorem dX12_block_430 : decode cX12_block 430 = .ok (.ireturn, 1) := by decide +kernel
theorem dX12_run_0 : decode cX12_run 0 = .ok (.aload_n 0, 1) := by decide +kernel
theorem dX12_run_1 : decode cX12_run 1 = .ok (.iconst 0, 1) := by decide +kernel
theorem dX12_run_2 : decode cX12_run 2 = .ok (.putfield 55, 3) := by decide +kernel
theorem dX12_run_5 : decode cX12_run 5 = .ok (.aload_n 0, 1) := by decide +kernel
theorem dX12_run_6 : decode cX12_run 6 = .ok (.iload_n 2, 1) := by decide +kernel
theorem dX12_run_7 : decode cX12_run 7 = .ok (.ifCond .ge 7, 3) := by decide +kernel
theorem dX12_run_10 : decode cX12_run 10 = .ok (.iconst 0, 1) := by decide +kernel
theorem dX12_run_11 : decode cX12_run 11 = .ok (.goto 17, 3) := by decide +kernel
theorem dX12_run_14 : decode cX12_run 14 = .ok (.iload_n 2, 1) := by decide +kernel
theorem dX12_run_15 : decode cX12_run 15 = .ok (.sipush 200, 3) := by decide +kernel
theorem dX12_run_18 : decode cX12_run 18 = .ok (.if_icmp .le 9, 3) := by decide +kernel
theorem dX12_run_21 : decode cX12_run 21 = .ok (.sipush 200, 3) := by decide +kernel
theorem dX12_run_24 : decode cX12_run 24 = .ok (.goto 4, 3) := by decide +kernel
theorem dX12_run_27 : decode cX12_run 27 = .ok (.iload_n 2, 1) := by decide +kernel
theorem dX12_run_28 : decode cX12_run 28 = .ok (.putfield 165, 3) := by decide +kernel
theorem dX12_run_31 : decode cX12_run 31 = .ok (.iload_n 1, 1) := by decide +kernel
theorem dX12_run_32 : decode cX12_run 32 = .ok (.ifCond .lt 10, 3) := by decide +kernel
theorem dX12_run_35 : decode cX12_run 35 = .ok (.iload_n 1, 1) := by decide +kernel
theorem dX12_run_36 : decode cX12_run 36 = .ok (.sipush 255, 3) := by decide +kernel
theorem dX12_run_39 : decode cX12_run 39 = .ok (.if_icmp .le 7, 3) := by decide +kernel
theorem dX12_run_42 : decode cX12_run 42 = .ok (.iconst 0, 1) := by decide +kernel
theorem dX12_run_43 : decode cX12_run 43 = .ok (.goto 11, 3) := by decide +kernel
theorem dX12_run_46 : decode cX12_run 46 = .ok (.aload_n 0, 1) := by decide +kernel
theorem dX12_run_47 : decode cX12_run 47 = .ok (.iload_n 1, 1) := by decide +kernel
theorem dX12_run_48 : decode cX12_run 48 = .ok (.sipush 256, 3) := by decide +kernel
theorem dX12_run_51 : decode cX12_run 51 = .ok (.invokevirtual 168, 3) := by decide +kernel
theorem dX12_run_54 : decode cX12_run 54 = .ok (.istore_n 3, 1) := by decide +kernel
theorem dX12_run_55 : decode cX12_run 55 = .ok (.aload_n 0, 1) := by decide +kernel
theorem dX12_run_56 : decode cX12_run 56 = .ok (.getfield 49, 3) := by decide +kernel
theorem dX12_run_59 : decode cX12_run 59 = .ok (.iconst 4, 1) := by decide +kernel
theorem dX12_run_60 : decode cX12_run 60 = .ok (.aload_n 0, 1) := by decide +kernel
theorem dX12_run_61 : decode cX12_run 61 = .ok (.getfield 165, 3) := by decide +kernel
theorem dX12_run_64 : decode cX12_run 64 = .ok (.iastore, 1) := by decide +kernel
theorem dX12_run_65 : decode cX12_run 65 = .ok (.iload_n 3, 1) := by decide +kernel
theorem dX12_run_66 : decode cX12_run 66 = .ok (.iconst 3, 1) := by decide +kernel
theorem dX12_run_67 : decode cX12_run 67 = .ok (.if_icmp .ne 25, 3) := by decide +kernel
theorem dX12_run_70 : decode cX12_run 70 = .ok (.aload_n 0, 1) := by decide +kernel
theorem dX12_run_71 : decode cX12_run 71 = .ok (.getfield 49, 3) := by decide +kernel
theorem dX12_run_74 : decode cX12_run 74 = .ok (.iconst 3, 1) := by decide +kernel
theorem dX12_run_75 : decode cX12_run 75 = .ok (.dup2, 1) := by decide +kernel
theorem dX12_run_76 : decode cX12_run 76 = .ok (.iaload, 1) := by decide +kernel
theorem dX12_run_77 : decode cX12_run 77 = .ok (.iconst 1, 1) := by decide +kernel
theorem dX12_run_78 : decode cX12_run 78 = .ok (.iadd, 1) := by decide +kernel
theorem dX12_run_79 : decode cX12_run 79 = .ok (.iastore, 1) := by decide +kernel
theorem dX12_run_80 : decode cX12_run 80 = .ok (.aload_n 0, 1) := by decide +kernel
theorem dX12_run_81 : decode cX12_run 81 = .ok (.aload_n 0, 1) := by decide +kernel
theorem dX12_run_82 : decode cX12_run 82 = .ok (.getfield 76, 3) := by decide +kernel
theorem dX12_run_85 : decode cX12_run 85 = .ok (.iconst 1, 1) := by decide +kernel
theorem dX12_run_86 : decode cX12_run 86 = .ok (.iadd, 1) := by decide +kernel
theorem dX12_run_87 : decode cX12_run 87 = .ok (.putfield 55, 3) := by decide +kernel
theorem dX12_run_90 : decode cX12_run 90 = .ok (.iconst 0, 1) := by decide +kernel
theorem dX12_run_91 : decode cX12_run 91 = .ok (.ireturn, 1) := by decide +kernel
theorem dX12_run_92 : decode cX12_run 92 = .ok (.iload_n 3, 1) := by decide +kernel
theorem dX12_run_93 : decode cX12_run 93 = .ok (.iconst 2, 1) := by decide +kernel
theorem dX12_run_94 : decode cX12_run 94 = .ok (.if_icmp .ne 7, 3) := by decide +kernel
theorem dX12_run_97 : decode cX12_run 97 = .ok (.iconst 1, 1) := by decide +kernel
theorem dX12_run_98 : decode cX12_run 98 = .ok (.goto 4, 3) := by decide +kernel
theorem dX12_run_101 : decode cX12_run 101 = .ok (.iconst 0, 1) := by decide +kernel
theorem dX12_run_102 : decode cX12_run 102 = .ok (.ireturn, 1) := by decide +kernel
theorem dX12_acc_0 : decode cX12_acc 0 = .ok (.aload_n 0, 1) := by decide +kernel
theorem dX12_acc_1 : decode cX12_acc 1 = .ok (.iconst 0, 1) := by decide +kernel
theorem dX12_acc_2 : decode cX12_acc 2 = .ok (.putfield 55, 3) := by decide +kernel
theorem dX12_acc_5 : decode cX12_acc 5 = .ok (.aload_n 0, 1) := by decide +kernel
theorem dX12_acc_6 : decode cX12_acc 6 = .ok (.getfield 143, 3) := by decide +kernel
theorem dX12_acc_9 : decode cX12_acc 9 = .ok (.lreturn, 1) := by decide +kernel
theorem dX12_count_0 : decode cX12_count 0 = .ok (.aload_n 0, 1) := by decide +kernel
theorem dX12_count_1 : decode cX12_count 1 = .ok (.iconst 0, 1) := by decide +kernel
theorem dX12_count_2 : decode cX12_count 2 = .ok (.putfield 55, 3) := by decide +kernel
theorem dX12_count_5 : decode cX12_count 5 = .ok (.iload_n 1, 1) := by decide +kernel
theorem dX12_count_6 : decode cX12_count 6 = .ok (.ifCond .lt 8, 3) := by decide +kernel
theorem dX12_count_9 : decode cX12_count 9 = .ok (.iload_n 1, 1) := by decide +kernel
theorem dX12_count_10 : decode cX12_count 10 = .ok (.iconst 5, 1) := by decide +kernel
theorem dX12_count_11 : decode cX12_count 11 = .ok (.if_icmp .le 7, 3) := by decide +kernel
theorem dX12_count_14 : decode cX12_count 14 = .ok (.iconst (-1), 1) := by decide +kernel
theorem dX12_count_15 : decode cX12_count 15 = .ok (.goto 9, 3) := by decide +kernel
theorem dX12_count_18 : decode cX12_count 18 = .ok (.aload_n 0, 1) := by decide +kernel
theorem dX12_count_19 : decode cX12_count 19 = .ok (.getfield 49, 3) := by decide +kernel
theorem dX12_count_22 : decode cX12_count 22 = .ok (.iload_n 1, 1) := by decide +kernel
theorem dX12_count_23 : decode cX12_count 23 = .ok (.iaload, 1) := by decide +kernel
theorem dX12_count_24 : decode cX12_count 24 = .ok (.ireturn, 1) := by decide +kernel
