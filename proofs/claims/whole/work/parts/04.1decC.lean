theorem dX11_answerOf_326 : decode cX11_answerOf 326 = .ok (.iload_n 2, 1) := by decide +kernel
theorem dX11_answerOf_327 : decode cX11_answerOf 327 = .ok (.iload_n 3, 1) := by decide +kernel
theorem dX11_answerOf_328 : decode cX11_answerOf 328 = .ok (.invokevirtual 215, 3) := by decide +kernel
theorem dX11_answerOf_331 : decode cX11_answerOf 331 = .ok (.lreturn, 1) := by decide +kernel
theorem dX11_answerOf_332 : decode cX11_answerOf 332 = .ok (.aload_n 0, 1) := by decide +kernel
theorem dX11_answerOf_333 : decode cX11_answerOf 333 = .ok (.iload_n 2, 1) := by decide +kernel
theorem dX11_answerOf_334 : decode cX11_answerOf 334 = .ok (.iload_n 3, 1) := by decide +kernel
theorem dX11_answerOf_335 : decode cX11_answerOf 335 = .ok (.invokevirtual 218, 3) := by decide +kernel
theorem dX11_answerOf_338 : decode cX11_answerOf 338 = .ok (.lreturn, 1) := by decide +kernel
theorem dX11_answerOf_339 : decode cX11_answerOf 339 = .ok (.aload_n 0, 1) := by decide +kernel
theorem dX11_answerOf_340 : decode cX11_answerOf 340 = .ok (.iload_n 2, 1) := by decide +kernel
theorem dX11_answerOf_341 : decode cX11_answerOf 341 = .ok (.invokevirtual 221, 3) := by decide +kernel
theorem dX11_answerOf_344 : decode cX11_answerOf 344 = .ok (.lreturn, 1) := by decide +kernel
theorem dX11_answerOf_345 : decode cX11_answerOf 345 = .ok (.aload_n 0, 1) := by decide +kernel
theorem dX11_answerOf_346 : decode cX11_answerOf 346 = .ok (.iload_n 3, 1) := by decide +kernel
theorem dX11_answerOf_347 : decode cX11_answerOf 347 = .ok (.invokevirtual 224, 3) := by decide +kernel
theorem dX11_answerOf_350 : decode cX11_answerOf 350 = .ok (.ifCond .eq 14, 3) := by decide +kernel
theorem dX11_answerOf_353 : decode cX11_answerOf 353 = .ok (.aload_n 0, 1) := by decide +kernel
theorem dX11_answerOf_354 : decode cX11_answerOf 354 = .ok (.getfield 68, 3) := by decide +kernel
theorem dX11_answerOf_357 : decode cX11_answerOf 357 = .ok (.l2i, 1) := by decide +kernel
theorem dX11_answerOf_358 : decode cX11_answerOf 358 = .ok (.iload_n 3, 1) := by decide +kernel
theorem dX11_answerOf_359 : decode cX11_answerOf 359 = .ok (.idiv, 1) := by decide +kernel
theorem dX11_answerOf_360 : decode cX11_answerOf 360 = .ok (.i2l, 1) := by decide +kernel
theorem dX11_answerOf_361 : decode cX11_answerOf 361 = .ok (.goto 4, 3) := by decide +kernel
theorem dX11_answerOf_364 : decode cX11_answerOf 364 = .ok (.lconst 0, 1) := by decide +kernel
theorem dX11_answerOf_365 : decode cX11_answerOf 365 = .ok (.lreturn, 1) := by decide +kernel
theorem dX11_answerOf_366 : decode cX11_answerOf 366 = .ok (.aload_n 0, 1) := by decide +kernel
theorem dX11_answerOf_367 : decode cX11_answerOf 367 = .ok (.iload_n 3, 1) := by decide +kernel
theorem dX11_answerOf_368 : decode cX11_answerOf 368 = .ok (.invokevirtual 224, 3) := by decide +kernel
theorem dX11_answerOf_371 : decode cX11_answerOf 371 = .ok (.ifCond .eq 14, 3) := by decide +kernel
theorem dX11_answerOf_374 : decode cX11_answerOf 374 = .ok (.aload_n 0, 1) := by decide +kernel
theorem dX11_answerOf_375 : decode cX11_answerOf 375 = .ok (.getfield 68, 3) := by decide +kernel
theorem dX11_answerOf_378 : decode cX11_answerOf 378 = .ok (.l2i, 1) := by decide +kernel
theorem dX11_answerOf_379 : decode cX11_answerOf 379 = .ok (.iload_n 3, 1) := by decide +kernel
theorem dX11_answerOf_380 : decode cX11_answerOf 380 = .ok (.irem, 1) := by decide +kernel
theorem dX11_answerOf_381 : decode cX11_answerOf 381 = .ok (.i2l, 1) := by decide +kernel
theorem dX11_answerOf_382 : decode cX11_answerOf 382 = .ok (.goto 4, 3) := by decide +kernel
theorem dX11_answerOf_385 : decode cX11_answerOf 385 = .ok (.lconst 0, 1) := by decide +kernel
theorem dX11_answerOf_386 : decode cX11_answerOf 386 = .ok (.lreturn, 1) := by decide +kernel
theorem dX11_answerOf_387 : decode cX11_answerOf 387 = .ok (.aload_n 0, 1) := by decide +kernel
theorem dX11_answerOf_388 : decode cX11_answerOf 388 = .ok (.iload_n 3, 1) := by decide +kernel
theorem dX11_answerOf_389 : decode cX11_answerOf 389 = .ok (.invokevirtual 224, 3) := by decide +kernel
theorem dX11_answerOf_392 : decode cX11_answerOf 392 = .ok (.ifCond .eq 13, 3) := by decide +kernel
theorem dX11_answerOf_395 : decode cX11_answerOf 395 = .ok (.aload_n 0, 1) := by decide +kernel
theorem dX11_answerOf_396 : decode cX11_answerOf 396 = .ok (.getfield 68, 3) := by decide +kernel
theorem dX11_answerOf_399 : decode cX11_answerOf 399 = .ok (.iload_n 3, 1) := by decide +kernel
theorem dX11_answerOf_400 : decode cX11_answerOf 400 = .ok (.i2l, 1) := by decide +kernel
theorem dX11_answerOf_401 : decode cX11_answerOf 401 = .ok (.ldiv, 1) := by decide +kernel
theorem dX11_answerOf_402 : decode cX11_answerOf 402 = .ok (.goto 4, 3) := by decide +kernel
theorem dX11_answerOf_405 : decode cX11_answerOf 405 = .ok (.lconst 0, 1) := by decide +kernel
theorem dX11_answerOf_406 : decode cX11_answerOf 406 = .ok (.lreturn, 1) := by decide +kernel
theorem dX11_answerOf_407 : decode cX11_answerOf 407 = .ok (.aload_n 0, 1) := by decide +kernel
theorem dX11_answerOf_408 : decode cX11_answerOf 408 = .ok (.iload_n 3, 1) := by decide +kernel
theorem dX11_answerOf_409 : decode cX11_answerOf 409 = .ok (.invokevirtual 224, 3) := by decide +kernel
theorem dX11_answerOf_412 : decode cX11_answerOf 412 = .ok (.ifCond .eq 13, 3) := by decide +kernel
theorem dX11_answerOf_415 : decode cX11_answerOf 415 = .ok (.aload_n 0, 1) := by decide +kernel
theorem dX11_answerOf_416 : decode cX11_answerOf 416 = .ok (.getfield 68, 3) := by decide +kernel
theorem dX11_answerOf_419 : decode cX11_answerOf 419 = .ok (.iload_n 3, 1) := by decide +kernel
theorem dX11_answerOf_420 : decode cX11_answerOf 420 = .ok (.i2l, 1) := by decide +kernel
theorem dX11_answerOf_421 : decode cX11_answerOf 421 = .ok (.lrem, 1) := by decide +kernel
theorem dX11_answerOf_422 : decode cX11_answerOf 422 = .ok (.goto 4, 3) := by decide +kernel
theorem dX11_answerOf_425 : decode cX11_answerOf 425 = .ok (.lconst 0, 1) := by decide +kernel
theorem dX11_answerOf_426 : decode cX11_answerOf 426 = .ok (.lreturn, 1) := by decide +kernel
theorem dX11_answerOf_427 : decode cX11_answerOf 427 = .ok (.aload_n 0, 1) := by decide +kernel
theorem dX11_answerOf_428 : decode cX11_answerOf 428 = .ok (.iload_n 2, 1) := by decide +kernel
theorem dX11_answerOf_429 : decode cX11_answerOf 429 = .ok (.invokevirtual 227, 3) := by decide +kernel
theorem dX11_answerOf_432 : decode cX11_answerOf 432 = .ok (.lreturn, 1) := by decide +kernel
theorem dX11_answerOf_433 : decode cX11_answerOf 433 = .ok (.aload_n 0, 1) := by decide +kernel
theorem dX11_answerOf_434 : decode cX11_answerOf 434 = .ok (.iload_n 2, 1) := by decide +kernel
theorem dX11_answerOf_435 : decode cX11_answerOf 435 = .ok (.iload_n 3, 1) := by decide +kernel
theorem dX11_answerOf_436 : decode cX11_answerOf 436 = .ok (.invokevirtual 230, 3) := by decide +kernel
theorem dX11_answerOf_439 : decode cX11_answerOf 439 = .ok (.lreturn, 1) := by decide +kernel
theorem dX11_answerOf_440 : decode cX11_answerOf 440 = .ok (.aload_n 0, 1) := by decide +kernel
theorem dX11_answerOf_441 : decode cX11_answerOf 441 = .ok (.iload_n 2, 1) := by decide +kernel
theorem dX11_answerOf_442 : decode cX11_answerOf 442 = .ok (.invokevirtual 233, 3) := by decide +kernel
theorem dX11_answerOf_445 : decode cX11_answerOf 445 = .ok (.lreturn, 1) := by decide +kernel
theorem dX11_answerOf_446 : decode cX11_answerOf 446 = .ok (.aload_n 0, 1) := by decide +kernel
theorem dX11_answerOf_447 : decode cX11_answerOf 447 = .ok (.iload_n 2, 1) := by decide +kernel
theorem dX11_answerOf_448 : decode cX11_answerOf 448 = .ok (.iload_n 3, 1) := by decide +kernel
theorem dX11_answerOf_449 : decode cX11_answerOf 449 = .ok (.invokevirtual 236, 3) := by decide +kernel
theorem dX11_answerOf_452 : decode cX11_answerOf 452 = .ok (.lreturn, 1) := by decide +kernel
theorem dX11_answerOf_453 : decode cX11_answerOf 453 = .ok (.aload_n 0, 1) := by decide +kernel
theorem dX11_answerOf_454 : decode cX11_answerOf 454 = .ok (.iload_n 2, 1) := by decide +kernel
theorem dX11_answerOf_455 : decode cX11_answerOf 455 = .ok (.iload_n 3, 1) := by decide +kernel
theorem dX11_answerOf_456 : decode cX11_answerOf 456 = .ok (.invokevirtual 239, 3) := by decide +kernel
theorem dX11_answerOf_459 : decode cX11_answerOf 459 = .ok (.lreturn, 1) := by decide +kernel
theorem dX11_answerOf_460 : decode cX11_answerOf 460 = .ok (.aload_n 0, 1) := by decide +kernel
theorem dX11_answerOf_461 : decode cX11_answerOf 461 = .ok (.iload_n 2, 1) := by decide +kernel
theorem dX11_answerOf_462 : decode cX11_answerOf 462 = .ok (.iload_n 3, 1) := by decide +kernel
theorem dX11_answerOf_463 : decode cX11_answerOf 463 = .ok (.iload 4, 2) := by decide +kernel
theorem dX11_answerOf_465 : decode cX11_answerOf 465 = .ok (.invokevirtual 242, 3) := by decide +kernel
theorem dX11_answerOf_468 : decode cX11_answerOf 468 = .ok (.lreturn, 1) := by decide +kernel
theorem dX11_answerOf_469 : decode cX11_answerOf 469 = .ok (.ldc2_w 156, 3) := by decide +kernel
theorem dX11_answerOf_472 : decode cX11_answerOf 472 = .ok (.lreturn, 1) := by decide +kernel
theorem dX11_tell_0 : decode cX11_tell 0 = .ok (.aload_n 0, 1) := by decide +kernel
theorem dX11_tell_1 : decode cX11_tell 1 = .ok (.iload_n 1, 1) := by decide +kernel
theorem dX11_tell_2 : decode cX11_tell 2 = .ok (.putfield 26, 3) := by decide +kernel
theorem dX11_tell_5 : decode cX11_tell 5 = .ok (.iconst 0, 1) := by decide +kernel
theorem dX11_tell_6 : decode cX11_tell 6 = .ok (.ireturn, 1) := by decide +kernel
theorem dX11_isPlace_0 : decode cX11_isPlace 0 = .ok (.iload_n 1, 1) := by decide +kernel
theorem dX11_isPlace_1 : decode cX11_isPlace 1 = .ok (.ifCond .lt 9, 3) := by decide +kernel
theorem dX11_isPlace_4 : decode cX11_isPlace 4 = .ok (.iload_n 1, 1) := by decide +kernel
theorem dX11_isPlace_5 : decode cX11_isPlace 5 = .ok (.bipush 32, 2) := by decide +kernel
theorem dX11_isPlace_7 : decode cX11_isPlace 7 = .ok (.if_icmp .lt 11, 3) := by decide +kernel
theorem dX11_isPlace_10 : decode cX11_isPlace 10 = .ok (.aload_n 0, 1) := by decide +kernel
theorem dX11_isPlace_11 : decode cX11_isPlace 11 = .ok (.iconst 2, 1) := by decide +kernel
theorem dX11_isPlace_12 : decode cX11_isPlace 12 = .ok (.invokevirtual 245, 3) := by decide +kernel
theorem dX11_isPlace_15 : decode cX11_isPlace 15 = .ok (.ifCond .eq 7, 3) := by decide +kernel
theorem dX11_isPlace_18 : decode cX11_isPlace 18 = .ok (.iconst 1, 1) := by decide +kernel
theorem dX11_isPlace_19 : decode cX11_isPlace 19 = .ok (.goto 4, 3) := by decide +kernel
theorem dX11_isPlace_22 : decode cX11_isPlace 22 = .ok (.iconst 0, 1) := by decide +kernel
theorem dX11_isPlace_23 : decode cX11_isPlace 23 = .ok (.ireturn, 1) := by decide +kernel
theorem dX11_isCell_0 : decode cX11_isCell 0 = .ok (.iload_n 1, 1) := by decide +kernel
theorem dX11_isCell_1 : decode cX11_isCell 1 = .ok (.ifCond .lt 8, 3) := by decide +kernel
theorem dX11_isCell_4 : decode cX11_isCell 4 = .ok (.iload_n 1, 1) := by decide +kernel
theorem dX11_isCell_5 : decode cX11_isCell 5 = .ok (.iload_n 2, 1) := by decide +kernel
theorem dX11_isCell_6 : decode cX11_isCell 6 = .ok (.if_icmp .lt 11, 3) := by decide +kernel
theorem dX11_isCell_9 : decode cX11_isCell 9 = .ok (.aload_n 0, 1) := by decide +kernel
theorem dX11_isCell_10 : decode cX11_isCell 10 = .ok (.iconst 2, 1) := by decide +kernel
theorem dX11_isCell_11 : decode cX11_isCell 11 = .ok (.invokevirtual 245, 3) := by decide +kernel
theorem dX11_isCell_14 : decode cX11_isCell 14 = .ok (.ifCond .eq 7, 3) := by decide +kernel
theorem dX11_isCell_17 : decode cX11_isCell 17 = .ok (.iconst 1, 1) := by decide +kernel
theorem dX11_isCell_18 : decode cX11_isCell 18 = .ok (.goto 4, 3) := by decide +kernel
theorem dX11_isCell_21 : decode cX11_isCell 21 = .ok (.iconst 0, 1) := by decide +kernel
theorem dX11_isCell_22 : decode cX11_isCell 22 = .ok (.ireturn, 1) := by decide +kernel
theorem dX11_isSpan_0 : decode cX11_isSpan 0 = .ok (.iload_n 1, 1) := by decide +kernel
theorem dX11_isSpan_1 : decode cX11_isSpan 1 = .ok (.ifCond .lt 14, 3) := by decide +kernel
theorem dX11_isSpan_4 : decode cX11_isSpan 4 = .ok (.iload_n 2, 1) := by decide +kernel
theorem dX11_isSpan_5 : decode cX11_isSpan 5 = .ok (.ifCond .lt 10, 3) := by decide +kernel
theorem dX11_isSpan_8 : decode cX11_isSpan 8 = .ok (.iload_n 2, 1) := by decide +kernel
theorem dX11_isSpan_9 : decode cX11_isSpan 9 = .ok (.iload_n 3, 1) := by decide +kernel
theorem dX11_isSpan_10 : decode cX11_isSpan 10 = .ok (.iload_n 1, 1) := by decide +kernel
theorem dX11_isSpan_11 : decode cX11_isSpan 11 = .ok (.isub, 1) := by decide +kernel
theorem dX11_isSpan_12 : decode cX11_isSpan 12 = .ok (.if_icmp .le 11, 3) := by decide +kernel
theorem dX11_isSpan_15 : decode cX11_isSpan 15 = .ok (.aload_n 0, 1) := by decide +kernel
theorem dX11_isSpan_16 : decode cX11_isSpan 16 = .ok (.iconst 2, 1) := by decide +kernel
theorem dX11_isSpan_17 : decode cX11_isSpan 17 = .ok (.invokevirtual 245, 3) := by decide +kernel
theorem dX11_isSpan_20 : decode cX11_isSpan 20 = .ok (.ifCond .eq 7, 3) := by decide +kernel
theorem dX11_isSpan_23 : decode cX11_isSpan 23 = .ok (.iconst 1, 1) := by decide +kernel
theorem dX11_isSpan_24 : decode cX11_isSpan 24 = .ok (.goto 4, 3) := by decide +kernel
theorem dX11_isSpan_27 : decode cX11_isSpan 27 = .ok (.iconst 0, 1) := by decide +kernel
theorem dX11_isSpan_28 : decode cX11_isSpan 28 = .ok (.ireturn, 1) := by decide +kernel
theorem dX11_isSize_0 : decode cX11_isSize 0 = .ok (.iload_n 1, 1) := by decide +kernel
theorem dX11_isSize_1 : decode cX11_isSize 1 = .ok (.ifCond .ge 11, 3) := by decide +kernel
theorem dX11_isSize_4 : decode cX11_isSize 4 = .ok (.aload_n 0, 1) := by decide +kernel
theorem dX11_isSize_5 : decode cX11_isSize 5 = .ok (.iconst 4, 1) := by decide +kernel
theorem dX11_isSize_6 : decode cX11_isSize 6 = .ok (.invokevirtual 245, 3) := by decide +kernel
theorem dX11_isSize_9 : decode cX11_isSize 9 = .ok (.ifCond .eq 7, 3) := by decide +kernel
theorem dX11_isSize_12 : decode cX11_isSize 12 = .ok (.iconst 1, 1) := by decide +kernel
theorem dX11_isSize_13 : decode cX11_isSize 13 = .ok (.goto 4, 3) := by decide +kernel
theorem dX11_isSize_16 : decode cX11_isSize 16 = .ok (.iconst 0, 1) := by decide +kernel
theorem dX11_isSize_17 : decode cX11_isSize 17 = .ok (.ireturn, 1) := by decide +kernel
theorem dX11_isDivisor_0 : decode cX11_isDivisor 0 = .ok (.iload_n 1, 1) := by decide +kernel
theorem dX11_isDivisor_1 : decode cX11_isDivisor 1 = .ok (.ifCond .ne 11, 3) := by decide +kernel
theorem dX11_isDivisor_4 : decode cX11_isDivisor 4 = .ok (.aload_n 0, 1) := by decide +kernel
theorem dX11_isDivisor_5 : decode cX11_isDivisor 5 = .ok (.iconst 0, 1) := by decide +kernel
theorem dX11_isDivisor_6 : decode cX11_isDivisor 6 = .ok (.invokevirtual 245, 3) := by decide +kernel
theorem dX11_isDivisor_9 : decode cX11_isDivisor 9 = .ok (.ifCond .eq 7, 3) := by decide +kernel
theorem dX11_isDivisor_12 : decode cX11_isDivisor 12 = .ok (.iconst 1, 1) := by decide +kernel
theorem dX11_isDivisor_13 : decode cX11_isDivisor 13 = .ok (.goto 4, 3) := by decide +kernel
theorem dX11_isDivisor_16 : decode cX11_isDivisor 16 = .ok (.iconst 0, 1) := by decide +kernel
theorem dX11_isDivisor_17 : decode cX11_isDivisor 17 = .ok (.ireturn, 1) := by decide +kernel
theorem dX11_isThere_0 : decode cX11_isThere 0 = .ok (.aload_n 1, 1) := by decide +kernel
theorem dX11_isThere_1 : decode cX11_isThere 1 = .ok (.ifnonnull 11, 3) := by decide +kernel
theorem dX11_isThere_4 : decode cX11_isThere 4 = .ok (.aload_n 0, 1) := by decide +kernel
theorem dX11_isThere_5 : decode cX11_isThere 5 = .ok (.iconst 1, 1) := by decide +kernel
theorem dX11_isThere_6 : decode cX11_isThere 6 = .ok (.invokevirtual 245, 3) := by decide +kernel
theorem dX11_isThere_9 : decode cX11_isThere 9 = .ok (.ifCond .eq 7, 3) := by decide +kernel
theorem dX11_isThere_12 : decode cX11_isThere 12 = .ok (.iconst 1, 1) := by decide +kernel
theorem dX11_isThere_13 : decode cX11_isThere 13 = .ok (.goto 4, 3) := by decide +kernel
theorem dX11_isThere_16 : decode cX11_isThere 16 = .ok (.iconst 0, 1) := by decide +kernel
theorem dX11_isThere_17 : decode cX11_isThere 17 = .ok (.ireturn, 1) := by decide +kernel
theorem dX11_mayMake_0 : decode cX11_mayMake 0 = .ok (.aload_n 0, 1) := by decide +kernel
theorem dX11_mayMake_1 : decode cX11_mayMake 1 = .ok (.getfield 81, 3) := by decide +kernel
theorem dX11_mayMake_4 : decode cX11_mayMake 4 = .ok (.sipush 6000, 3) := by decide +kernel
theorem dX11_mayMake_7 : decode cX11_mayMake 7 = .ok (.if_icmp .lt 12, 3) := by decide +kernel
theorem dX11_mayMake_10 : decode cX11_mayMake 10 = .ok (.aload_n 0, 1) := by decide +kernel
theorem dX11_mayMake_11 : decode cX11_mayMake 11 = .ok (.bipush 6, 2) := by decide +kernel
theorem dX11_mayMake_13 : decode cX11_mayMake 13 = .ok (.invokevirtual 245, 3) := by decide +kernel
theorem dX11_mayMake_16 : decode cX11_mayMake 16 = .ok (.ifCond .eq 7, 3) := by decide +kernel
theorem dX11_mayMake_19 : decode cX11_mayMake 19 = .ok (.iconst 1, 1) := by decide +kernel
theorem dX11_mayMake_20 : decode cX11_mayMake 20 = .ok (.goto 4, 3) := by decide +kernel
theorem dX11_mayMake_23 : decode cX11_mayMake 23 = .ok (.iconst 0, 1) := by decide +kernel
theorem dX11_mayMake_24 : decode cX11_mayMake 24 = .ok (.ireturn, 1) := by decide +kernel
theorem dX11_fits_0 : decode cX11_fits 0 = .ok (.aload_n 0, 1) := by decide +kernel
theorem dX11_fits_1 : decode cX11_fits 1 = .ok (.iload_n 1, 1) := by decide +kernel
theorem dX11_fits_2 : decode cX11_fits 2 = .ok (.invokevirtual 248, 3) := by decide +kernel
theorem dX11_fits_5 : decode cX11_fits 5 = .ok (.ifCond .ne 5, 3) := by decide +kernel
theorem dX11_fits_8 : decode cX11_fits 8 = .ok (.iconst 0, 1) := by decide +kernel
theorem dX11_fits_9 : decode cX11_fits 9 = .ok (.ireturn, 1) := by decide +kernel
theorem dX11_fits_10 : decode cX11_fits 10 = .ok (.aload_n 0, 1) := by decide +kernel
theorem dX11_fits_11 : decode cX11_fits 11 = .ok (.getfield 11, 3) := by decide +kernel
theorem dX11_fits_14 : decode cX11_fits 14 = .ok (.iload_n 1, 1) := by decide +kernel
theorem dX11_fits_15 : decode cX11_fits 15 = .ok (.aaload, 1) := by decide +kernel
theorem dX11_fits_16 : decode cX11_fits 16 = .ok (.astore_n 3, 1) := by decide +kernel
theorem dX11_fits_17 : decode cX11_fits 17 = .ok (.aload_n 3, 1) := by decide +kernel
theorem dX11_fits_18 : decode cX11_fits 18 = .ok (.ifnull 19, 3) := by decide +kernel
theorem dX11_fits_21 : decode cX11_fits 21 = .ok (.aload_n 3, 1) := by decide +kernel
theorem dX11_fits_22 : decode cX11_fits 22 = .ok (.iload_n 2, 1) := by decide +kernel
theorem dX11_fits_23 : decode cX11_fits 23 = .ok (.invokevirtual 251, 3) := by decide +kernel
theorem dX11_fits_26 : decode cX11_fits 26 = .ok (.ifCond .ne 11, 3) := by decide +kernel
theorem dX11_fits_29 : decode cX11_fits 29 = .ok (.aload_n 0, 1) := by decide +kernel
theorem dX11_fits_30 : decode cX11_fits 30 = .ok (.iconst 3, 1) := by decide +kernel
theorem dX11_fits_31 : decode cX11_fits 31 = .ok (.invokevirtual 245, 3) := by decide +kernel
theorem dX11_fits_34 : decode cX11_fits 34 = .ok (.ifCond .eq 7, 3) := by decide +kernel
theorem dX11_fits_37 : decode cX11_fits 37 = .ok (.iconst 1, 1) := by decide +kernel
theorem dX11_fits_38 : decode cX11_fits 38 = .ok (.goto 4, 3) := by decide +kernel
theorem dX11_fits_41 : decode cX11_fits 41 = .ok (.iconst 0, 1) := by decide +kernel
theorem dX11_fits_42 : decode cX11_fits 42 = .ok (.ireturn, 1) := by decide +kernel
theorem dX11_needed_0 : decode cX11_needed 0 = .ok (.aload_n 0, 1) := by decide +kernel
theorem dX11_needed_1 : decode cX11_needed 1 = .ok (.iload_n 1, 1) := by decide +kernel
theorem dX11_needed_2 : decode cX11_needed 2 = .ok (.iload_n 2, 1) := by decide +kernel
theorem dX11_needed_3 : decode cX11_needed 3 = .ok (.invokevirtual 254, 3) := by decide +kernel
theorem dX11_needed_6 : decode cX11_needed 6 = .ok (.ifCond .eq 25, 3) := by decide +kernel
theorem dX11_needed_9 : decode cX11_needed 9 = .ok (.aload_n 0, 1) := by decide +kernel
theorem dX11_needed_10 : decode cX11_needed 10 = .ok (.aload_n 0, 1) := by decide +kernel
theorem dX11_needed_11 : decode cX11_needed 11 = .ok (.getfield 11, 3) := by decide +kernel
theorem dX11_needed_14 : decode cX11_needed 14 = .ok (.iload_n 1, 1) := by decide +kernel
theorem dX11_needed_15 : decode cX11_needed 15 = .ok (.aaload, 1) := by decide +kernel
theorem dX11_needed_16 : decode cX11_needed 16 = .ok (.invokevirtual 258, 3) := by decide +kernel
theorem dX11_needed_19 : decode cX11_needed 19 = .ok (.ifCond .eq 12, 3) := by decide +kernel
theorem dX11_needed_22 : decode cX11_needed 22 = .ok (.aload_n 0, 1) := by decide +kernel
theorem dX11_needed_23 : decode cX11_needed 23 = .ok (.getfield 11, 3) := by decide +kernel
theorem dX11_needed_26 : decode cX11_needed 26 = .ok (.iload_n 1, 1) := by decide +kernel
theorem dX11_needed_27 : decode cX11_needed 27 = .ok (.aaload, 1) := by decide +kernel
theorem dX11_needed_28 : decode cX11_needed 28 = .ok (.goto 4, 3) := by decide +kernel
theorem dX11_needed_31 : decode cX11_needed 31 = .ok (.aconst_null, 1) := by decide +kernel
theorem dX11_needed_32 : decode cX11_needed 32 = .ok (.areturn, 1) := by decide +kernel
theorem dX11_putNew_0 : decode cX11_putNew 0 = .ok (.aload_n 0, 1) := by decide +kernel
theorem dX11_putNew_1 : decode cX11_putNew 1 = .ok (.getfield 11, 3) := by decide +kernel
theorem dX11_putNew_4 : decode cX11_putNew 4 = .ok (.iload_n 1, 1) := by decide +kernel
theorem dX11_putNew_5 : decode cX11_putNew 5 = .ok (.aload_n 2, 1) := by decide +kernel
theorem dX11_putNew_6 : decode cX11_putNew 6 = .ok (.aastore, 1) := by decide +kernel
theorem dX11_putNew_7 : decode cX11_putNew 7 = .ok (.aload_n 0, 1) := by decide +kernel
theorem dX11_putNew_8 : decode cX11_putNew 8 = .ok (.dup, 1) := by decide +kernel
theorem dX11_putNew_9 : decode cX11_putNew 9 = .ok (.getfield 81, 3) := by decide +kernel
theorem dX11_putNew_12 : decode cX11_putNew 12 = .ok (.iconst 1, 1) := by decide +kernel
theorem dX11_putNew_13 : decode cX11_putNew 13 = .ok (.iadd, 1) := by decide +kernel
theorem dX11_putNew_14 : decode cX11_putNew 14 = .ok (.putfield 81, 3) := by decide +kernel
theorem dX11_putNew_17 : decode cX11_putNew 17 = .ok (.return_, 1) := by decide +kernel
theorem dX11_makeRow_0 : decode cX11_makeRow 0 = .ok (.iload_n 3, 1) := by decide +kernel
theorem dX11_makeRow_1 : decode cX11_makeRow 1 = .ok (.bipush 100, 2) := by decide +kernel
theorem dX11_makeRow_3 : decode cX11_makeRow 3 = .ok (.irem, 1) := by decide +kernel
theorem dX11_makeRow_4 : decode cX11_makeRow 4 = .ok (.istore 4, 2) := by decide +kernel
theorem dX11_makeRow_6 : decode cX11_makeRow 6 = .ok (.aload_n 0, 1) := by decide +kernel
theorem dX11_makeRow_7 : decode cX11_makeRow 7 = .ok (.invokevirtual 262, 3) := by decide +kernel
theorem dX11_makeRow_10 : decode cX11_makeRow 10 = .ok (.ifCond .eq 20, 3) := by decide +kernel
theorem dX11_makeRow_13 : decode cX11_makeRow 13 = .ok (.aload_n 0, 1) := by decide +kernel
theorem dX11_makeRow_14 : decode cX11_makeRow 14 = .ok (.iload_n 1, 1) := by decide +kernel
theorem dX11_makeRow_15 : decode cX11_makeRow 15 = .ok (.invokevirtual 248, 3) := by decide +kernel
theorem dX11_makeRow_18 : decode cX11_makeRow 18 = .ok (.ifCond .eq 12, 3) := by decide +kernel
theorem dX11_makeRow_21 : decode cX11_makeRow 21 = .ok (.aload_n 0, 1) := by decide +kernel
theorem dX11_makeRow_22 : decode cX11_makeRow 22 = .ok (.iload 4, 2) := by decide +kernel
theorem dX11_makeRow_24 : decode cX11_makeRow 24 = .ok (.invokevirtual 265, 3) := by decide +kernel
theorem dX11_makeRow_27 : decode cX11_makeRow 27 = .ok (.ifCond .ne 5, 3) := by decide +kernel
theorem dX11_makeRow_30 : decode cX11_makeRow 30 = .ok (.lconst 0, 1) := by decide +kernel
theorem dX11_makeRow_31 : decode cX11_makeRow 31 = .ok (.lreturn, 1) := by decide +kernel
theorem dX11_makeRow_32 : decode cX11_makeRow 32 = .ok (.aload_n 0, 1) := by decide +kernel
theorem dX11_makeRow_33 : decode cX11_makeRow 33 = .ok (.iload_n 1, 1) := by decide +kernel
theorem dX11_makeRow_34 : decode cX11_makeRow 34 = .ok (.new 268, 3) := by decide +kernel
theorem dX11_makeRow_37 : decode cX11_makeRow 37 = .ok (.dup, 1) := by decide +kernel
theorem dX11_makeRow_38 : decode cX11_makeRow 38 = .ok (.iload_n 2, 1) := by decide +kernel
theorem dX11_makeRow_39 : decode cX11_makeRow 39 = .ok (.bipush 7, 2) := by decide +kernel
theorem dX11_makeRow_41 : decode cX11_makeRow 41 = .ok (.iand, 1) := by decide +kernel
theorem dX11_makeRow_42 : decode cX11_makeRow 42 = .ok (.iload 4, 2) := by decide +kernel
theorem dX11_makeRow_44 : decode cX11_makeRow 44 = .ok (.invokespecial 270, 3) := by decide +kernel
theorem dX11_makeRow_47 : decode cX11_makeRow 47 = .ok (.invokevirtual 272, 3) := by decide +kernel
theorem dX11_makeRow_50 : decode cX11_makeRow 50 = .ok (.iload 4, 2) := by decide +kernel
theorem dX11_makeRow_52 : decode cX11_makeRow 52 = .ok (.i2l, 1) := by decide +kernel
theorem dX11_makeRow_53 : decode cX11_makeRow 53 = .ok (.lreturn, 1) := by decide +kernel
theorem dX11_rowCell_0 : decode cX11_rowCell 0 = .ok (.aload_n 0, 1) := by decide +kernel
theorem dX11_rowCell_1 : decode cX11_rowCell 1 = .ok (.iload_n 1, 1) := by decide +kernel
theorem dX11_rowCell_2 : decode cX11_rowCell 2 = .ok (.iload_n 2, 1) := by decide +kernel
theorem dX11_rowCell_3 : decode cX11_rowCell 3 = .ok (.bipush 7, 2) := by decide +kernel
theorem dX11_rowCell_5 : decode cX11_rowCell 5 = .ok (.iand, 1) := by decide +kernel
theorem dX11_rowCell_6 : decode cX11_rowCell 6 = .ok (.invokevirtual 276, 3) := by decide +kernel
theorem dX11_rowCell_9 : decode cX11_rowCell 9 = .ok (.astore 5, 2) := by decide +kernel
theorem dX11_rowCell_11 : decode cX11_rowCell 11 = .ok (.aload 5, 2) := by decide +kernel
theorem dX11_rowCell_13 : decode cX11_rowCell 13 = .ok (.instanceof 268, 3) := by decide +kernel
theorem dX11_rowCell_16 : decode cX11_rowCell 16 = .ok (.ifCond .eq 32, 3) := by decide +kernel
theorem dX11_rowCell_19 : decode cX11_rowCell 19 = .ok (.aload 5, 2) := by decide +kernel
theorem dX11_rowCell_21 : decode cX11_rowCell 21 = .ok (.checkcast 268, 3) := by decide +kernel
theorem dX11_rowCell_24 : decode cX11_rowCell 24 = .ok (.astore 4, 2) := by decide +kernel
theorem dX11_rowCell_26 : decode cX11_rowCell 26 = .ok (.aload_n 0, 1) := by decide +kernel
theorem dX11_rowCell_27 : decode cX11_rowCell 27 = .ok (.iload_n 3, 1) := by decide +kernel
theorem dX11_rowCell_28 : decode cX11_rowCell 28 = .ok (.aload 4, 2) := by decide +kernel
theorem dX11_rowCell_30 : decode cX11_rowCell 30 = .ok (.getfield 280, 3) := by decide +kernel
theorem dX11_rowCell_33 : decode cX11_rowCell 33 = .ok (.arraylength, 1) := by decide +kernel
theorem dX11_rowCell_34 : decode cX11_rowCell 34 = .ok (.invokevirtual 284, 3) := by decide +kernel
theorem dX11_rowCell_37 : decode cX11_rowCell 37 = .ok (.ifCond .eq 11, 3) := by decide +kernel
theorem dX11_rowCell_40 : decode cX11_rowCell 40 = .ok (.aload 4, 2) := by decide +kernel
theorem dX11_rowCell_42 : decode cX11_rowCell 42 = .ok (.getfield 280, 3) := by decide +kernel
theorem dX11_rowCell_45 : decode cX11_rowCell 45 = .ok (.iload_n 3, 1) := by decide +kernel
theorem dX11_rowCell_46 : decode cX11_rowCell 46 = .ok (.laload, 1) := by decide +kernel
theorem dX11_rowCell_47 : decode cX11_rowCell 47 = .ok (.lreturn, 1) := by decide +kernel
theorem dX11_rowCell_48 : decode cX11_rowCell 48 = .ok (.lconst 0, 1) := by decide +kernel
theorem dX11_rowCell_49 : decode cX11_rowCell 49 = .ok (.lreturn, 1) := by decide +kernel
theorem dX11_setRowCell_0 : decode cX11_setRowCell 0 = .ok (.aload_n 0, 1) := by decide +kernel
theorem dX11_setRowCell_1 : decode cX11_setRowCell 1 = .ok (.iload_n 1, 1) := by decide +kernel
theorem dX11_setRowCell_2 : decode cX11_setRowCell 2 = .ok (.iload_n 2, 1) := by decide +kernel
theorem dX11_setRowCell_3 : decode cX11_setRowCell 3 = .ok (.bipush 7, 2) := by decide +kernel
theorem dX11_setRowCell_5 : decode cX11_setRowCell 5 = .ok (.iand, 1) := by decide +kernel
theorem dX11_setRowCell_6 : decode cX11_setRowCell 6 = .ok (.invokevirtual 276, 3) := by decide +kernel
theorem dX11_setRowCell_9 : decode cX11_setRowCell 9 = .ok (.astore 5, 2) := by decide +kernel
theorem dX11_setRowCell_11 : decode cX11_setRowCell 11 = .ok (.aload 5, 2) := by decide +kernel
theorem dX11_setRowCell_13 : decode cX11_setRowCell 13 = .ok (.instanceof 268, 3) := by decide +kernel
theorem dX11_setRowCell_16 : decode cX11_setRowCell 16 = .ok (.ifCond .eq 45, 3) := by decide +kernel
theorem dX11_setRowCell_19 : decode cX11_setRowCell 19 = .ok (.aload 5, 2) := by decide +kernel
theorem dX11_setRowCell_21 : decode cX11_setRowCell 21 = .ok (.checkcast 268, 3) := by decide +kernel
theorem dX11_setRowCell_24 : decode cX11_setRowCell 24 = .ok (.astore 4, 2) := by decide +kernel
theorem dX11_setRowCell_26 : decode cX11_setRowCell 26 = .ok (.aload_n 0, 1) := by decide +kernel
theorem dX11_setRowCell_27 : decode cX11_setRowCell 27 = .ok (.iload_n 3, 1) := by decide +kernel
theorem dX11_setRowCell_28 : decode cX11_setRowCell 28 = .ok (.aload 4, 2) := by decide +kernel
theorem dX11_setRowCell_30 : decode cX11_setRowCell 30 = .ok (.getfield 280, 3) := by decide +kernel
theorem dX11_setRowCell_33 : decode cX11_setRowCell 33 = .ok (.arraylength, 1) := by decide +kernel
theorem dX11_setRowCell_34 : decode cX11_setRowCell 34 = .ok (.invokevirtual 284, 3) := by decide +kernel
theorem dX11_setRowCell_37 : decode cX11_setRowCell 37 = .ok (.ifCond .eq 24, 3) := by decide +kernel
theorem dX11_setRowCell_40 : decode cX11_setRowCell 40 = .ok (.aload 4, 2) := by decide +kernel
theorem dX11_setRowCell_42 : decode cX11_setRowCell 42 = .ok (.getfield 280, 3) := by decide +kernel
theorem dX11_setRowCell_45 : decode cX11_setRowCell 45 = .ok (.iload_n 3, 1) := by decide +kernel
theorem dX11_setRowCell_46 : decode cX11_setRowCell 46 = .ok (.aload 4, 2) := by decide +kernel
theorem dX11_setRowCell_48 : decode cX11_setRowCell 48 = .ok (.aload_n 0, 1) := by decide +kernel
theorem dX11_setRowCell_49 : decode cX11_setRowCell 49 = .ok (.getfield 68, 3) := by decide +kernel
theorem dX11_setRowCell_52 : decode cX11_setRowCell 52 = .ok (.invokevirtual 287, 3) := by decide +kernel
theorem dX11_setRowCell_55 : decode cX11_setRowCell 55 = .ok (.lastore, 1) := by decide +kernel
theorem dX11_setRowCell_56 : decode cX11_setRowCell 56 = .ok (.aload_n 0, 1) := by decide +kernel
theorem dX11_setRowCell_57 : decode cX11_setRowCell 57 = .ok (.getfield 68, 3) := by decide +kernel
theorem dX11_setRowCell_60 : decode cX11_setRowCell 60 = .ok (.lreturn, 1) := by decide +kernel
theorem dX11_setRowCell_61 : decode cX11_setRowCell 61 = .ok (.lconst 0, 1) := by decide +kernel
theorem dX11_setRowCell_62 : decode cX11_setRowCell 62 = .ok (.lreturn, 1) := by decide +kernel
theorem dX11_rowLength_0 : decode cX11_rowLength 0 = .ok (.aload_n 0, 1) := by decide +kernel
theorem dX11_rowLength_1 : decode cX11_rowLength 1 = .ok (.iload_n 1, 1) := by decide +kernel
theorem dX11_rowLength_2 : decode cX11_rowLength 2 = .ok (.iload_n 2, 1) := by decide +kernel
theorem dX11_rowLength_3 : decode cX11_rowLength 3 = .ok (.bipush 7, 2) := by decide +kernel
theorem dX11_rowLength_5 : decode cX11_rowLength 5 = .ok (.iand, 1) := by decide +kernel
theorem dX11_rowLength_6 : decode cX11_rowLength 6 = .ok (.invokevirtual 276, 3) := by decide +kernel
theorem dX11_rowLength_9 : decode cX11_rowLength 9 = .ok (.astore 4, 2) := by decide +kernel
theorem dX11_rowLength_11 : decode cX11_rowLength 11 = .ok (.aload 4, 2) := by decide +kernel
theorem dX11_rowLength_13 : decode cX11_rowLength 13 = .ok (.instanceof 268, 3) := by decide +kernel
theorem dX11_rowLength_16 : decode cX11_rowLength 16 = .ok (.ifCond .eq 18, 3) := by decide +kernel
theorem dX11_rowLength_19 : decode cX11_rowLength 19 = .ok (.aload 4, 2) := by decide +kernel
theorem dX11_rowLength_21 : decode cX11_rowLength 21 = .ok (.checkcast 268, 3) := by decide +kernel
theorem dX11_rowLength_24 : decode cX11_rowLength 24 = .ok (.astore_n 3, 1) := by decide +kernel
theorem dX11_rowLength_25 : decode cX11_rowLength 25 = .ok (.aload_n 3, 1) := by decide +kernel
theorem dX11_rowLength_26 : decode cX11_rowLength 26 = .ok (.getfield 280, 3) := by decide +kernel
theorem dX11_rowLength_29 : decode cX11_rowLength 29 = .ok (.arraylength, 1) := by decide +kernel
theorem dX11_rowLength_30 : decode cX11_rowLength 30 = .ok (.i2l, 1) := by decide +kernel
theorem dX11_rowLength_31 : decode cX11_rowLength 31 = .ok (.goto 4, 3) := by decide +kernel
theorem dX11_rowLength_34 : decode cX11_rowLength 34 = .ok (.lconst 0, 1) := by decide +kernel
theorem dX11_rowLength_35 : decode cX11_rowLength 35 = .ok (.lreturn, 1) := by decide +kernel
theorem dX11_makeSheet_0 : decode cX11_makeSheet 0 = .ok (.iload_n 2, 1) := by decide +kernel
theorem dX11_makeSheet_1 : decode cX11_makeSheet 1 = .ok (.bipush 9, 2) := by decide +kernel
theorem dX11_makeSheet_3 : decode cX11_makeSheet 3 = .ok (.irem, 1) := by decide +kernel
theorem dX11_makeSheet_4 : decode cX11_makeSheet 4 = .ok (.istore 4, 2) := by decide +kernel
theorem dX11_makeSheet_6 : decode cX11_makeSheet 6 = .ok (.iload_n 3, 1) := by decide +kernel
theorem dX11_makeSheet_7 : decode cX11_makeSheet 7 = .ok (.bipush 9, 2) := by decide +kernel
theorem dX11_makeSheet_9 : decode cX11_makeSheet 9 = .ok (.irem, 1) := by decide +kernel
theorem dX11_makeSheet_10 : decode cX11_makeSheet 10 = .ok (.istore 5, 2) := by decide +kernel
theorem dX11_makeSheet_12 : decode cX11_makeSheet 12 = .ok (.aload_n 0, 1) := by decide +kernel
theorem dX11_makeSheet_13 : decode cX11_makeSheet 13 = .ok (.invokevirtual 262, 3) := by decide +kernel
theorem dX11_makeSheet_16 : decode cX11_makeSheet 16 = .ok (.ifCond .eq 29, 3) := by decide +kernel
theorem dX11_makeSheet_19 : decode cX11_makeSheet 19 = .ok (.aload_n 0, 1) := by decide +kernel
theorem dX11_makeSheet_20 : decode cX11_makeSheet 20 = .ok (.iload_n 1, 1) := by decide +kernel
theorem dX11_makeSheet_21 : decode cX11_makeSheet 21 = .ok (.invokevirtual 248, 3) := by decide +kernel
theorem dX11_makeSheet_24 : decode cX11_makeSheet 24 = .ok (.ifCond .eq 21, 3) := by decide +kernel
theorem dX11_makeSheet_27 : decode cX11_makeSheet 27 = .ok (.aload_n 0, 1) := by decide +kernel
theorem dX11_makeSheet_28 : decode cX11_makeSheet 28 = .ok (.iload 4, 2) := by decide +kernel
theorem dX11_makeSheet_30 : decode cX11_makeSheet 30 = .ok (.invokevirtual 265, 3) := by decide +kernel
theorem dX11_makeSheet_33 : decode cX11_makeSheet 33 = .ok (.ifCond .eq 12, 3) := by decide +kernel
theorem dX11_makeSheet_36 : decode cX11_makeSheet 36 = .ok (.aload_n 0, 1) := by decide +kernel
theorem dX11_makeSheet_37 : decode cX11_makeSheet 37 = .ok (.iload 5, 2) := by decide +kernel
theorem dX11_makeSheet_39 : decode cX11_makeSheet 39 = .ok (.invokevirtual 265, 3) := by decide +kernel
theorem dX11_makeSheet_42 : decode cX11_makeSheet 42 = .ok (.ifCond .ne 5, 3) := by decide +kernel
theorem dX11_makeSheet_45 : decode cX11_makeSheet 45 = .ok (.lconst 0, 1) := by decide +kernel
theorem dX11_makeSheet_46 : decode cX11_makeSheet 46 = .ok (.lreturn, 1) := by decide +kernel
theorem dX11_makeSheet_47 : decode cX11_makeSheet 47 = .ok (.new 291, 3) := by decide +kernel
theorem dX11_makeSheet_50 : decode cX11_makeSheet 50 = .ok (.dup, 1) := by decide +kernel
theorem dX11_makeSheet_51 : decode cX11_makeSheet 51 = .ok (.bipush 8, 2) := by decide +kernel
theorem dX11_makeSheet_53 : decode cX11_makeSheet 53 = .ok (.iconst 0, 1) := by decide +kernel
theorem dX11_makeSheet_54 : decode cX11_makeSheet 54 = .ok (.iload 4, 2) := by decide +kernel
theorem dX11_makeSheet_56 : decode cX11_makeSheet 56 = .ok (.invokespecial 293, 3) := by decide +kernel
theorem dX11_makeSheet_59 : decode cX11_makeSheet 59 = .ok (.astore 6, 2) := by decide +kernel
theorem dX11_makeSheet_61 : decode cX11_makeSheet 61 = .ok (.iconst 0, 1) := by decide +kernel
theorem dX11_makeSheet_62 : decode cX11_makeSheet 62 = .ok (.istore 7, 2) := by decide +kernel
theorem dX11_makeSheet_64 : decode cX11_makeSheet 64 = .ok (.iload 7, 2) := by decide +kernel
theorem dX11_makeSheet_66 : decode cX11_makeSheet 66 = .ok (.iload 4, 2) := by decide +kernel
theorem dX11_makeSheet_68 : decode cX11_makeSheet 68 = .ok (.if_icmp .ge 27, 3) := by decide +kernel
theorem dX11_makeSheet_71 : decode cX11_makeSheet 71 = .ok (.aload 6, 2) := by decide +kernel
theorem dX11_makeSheet_73 : decode cX11_makeSheet 73 = .ok (.getfield 295, 3) := by decide +kernel
theorem dX11_makeSheet_76 : decode cX11_makeSheet 76 = .ok (.iload 7, 2) := by decide +kernel
theorem dX11_makeSheet_78 : decode cX11_makeSheet 78 = .ok (.new 268, 3) := by decide +kernel
theorem dX11_makeSheet_81 : decode cX11_makeSheet 81 = .ok (.dup, 1) := by decide +kernel
theorem dX11_makeSheet_82 : decode cX11_makeSheet 82 = .ok (.iconst 0, 1) := by decide +kernel
theorem dX11_makeSheet_83 : decode cX11_makeSheet 83 = .ok (.iload 5, 2) := by decide +kernel
theorem dX11_makeSheet_85 : decode cX11_makeSheet 85 = .ok (.invokespecial 270, 3) := by decide +kernel
theorem dX11_makeSheet_88 : decode cX11_makeSheet 88 = .ok (.aastore, 1) := by decide +kernel
theorem dX11_makeSheet_89 : decode cX11_makeSheet 89 = .ok (.iinc 7 1, 3) := by decide +kernel
theorem dX11_makeSheet_92 : decode cX11_makeSheet 92 = .ok (.goto (-28), 3) := by decide +kernel
theorem dX11_makeSheet_95 : decode cX11_makeSheet 95 = .ok (.aload_n 0, 1) := by decide +kernel
theorem dX11_makeSheet_96 : decode cX11_makeSheet 96 = .ok (.iload_n 1, 1) := by decide +kernel
theorem dX11_makeSheet_97 : decode cX11_makeSheet 97 = .ok (.aload 6, 2) := by decide +kernel
theorem dX11_makeSheet_99 : decode cX11_makeSheet 99 = .ok (.invokevirtual 272, 3) := by decide +kernel
theorem dX11_makeSheet_102 : decode cX11_makeSheet 102 = .ok (.lconst 0, 1) := by decide +kernel
theorem dX11_makeSheet_103 : decode cX11_makeSheet 103 = .ok (.lreturn, 1) := by decide +kernel
theorem dX11_sheetRow_0 : decode cX11_sheetRow 0 = .ok (.aload_n 0, 1) := by decide +kernel
theorem dX11_sheetRow_1 : decode cX11_sheetRow 1 = .ok (.iload_n 1, 1) := by decide +kernel
theorem dX11_sheetRow_2 : decode cX11_sheetRow 2 = .ok (.bipush 8, 2) := by decide +kernel
theorem dX11_sheetRow_4 : decode cX11_sheetRow 4 = .ok (.invokevirtual 276, 3) := by decide +kernel
theorem dX11_sheetRow_7 : decode cX11_sheetRow 7 = .ok (.astore 6, 2) := by decide +kernel
theorem dX11_sheetRow_9 : decode cX11_sheetRow 9 = .ok (.aload 6, 2) := by decide +kernel
theorem dX11_sheetRow_11 : decode cX11_sheetRow 11 = .ok (.instanceof 291, 3) := by decide +kernel
theorem dX11_sheetRow_14 : decode cX11_sheetRow 14 = .ok (.ifCond .eq 79, 3) := by decide +kernel
theorem dX11_sheetRow_17 : decode cX11_sheetRow 17 = .ok (.aload 6, 2) := by decide +kernel
theorem dX11_sheetRow_19 : decode cX11_sheetRow 19 = .ok (.checkcast 291, 3) := by decide +kernel
theorem dX11_sheetRow_22 : decode cX11_sheetRow 22 = .ok (.astore 4, 2) := by decide +kernel
theorem dX11_sheetRow_24 : decode cX11_sheetRow 24 = .ok (.aload_n 0, 1) := by decide +kernel
theorem dX11_sheetRow_25 : decode cX11_sheetRow 25 = .ok (.iload_n 2, 1) := by decide +kernel
theorem dX11_sheetRow_26 : decode cX11_sheetRow 26 = .ok (.aload 4, 2) := by decide +kernel
theorem dX11_sheetRow_28 : decode cX11_sheetRow 28 = .ok (.getfield 295, 3) := by decide +kernel
theorem dX11_sheetRow_31 : decode cX11_sheetRow 31 = .ok (.arraylength, 1) := by decide +kernel
theorem dX11_sheetRow_32 : decode cX11_sheetRow 32 = .ok (.invokevirtual 284, 3) := by decide +kernel
theorem dX11_sheetRow_35 : decode cX11_sheetRow 35 = .ok (.ifCond .eq 58, 3) := by decide +kernel
theorem dX11_sheetRow_38 : decode cX11_sheetRow 38 = .ok (.aload_n 0, 1) := by decide +kernel
theorem dX11_sheetRow_39 : decode cX11_sheetRow 39 = .ok (.aload 4, 2) := by decide +kernel
theorem dX11_sheetRow_41 : decode cX11_sheetRow 41 = .ok (.getfield 295, 3) := by decide +kernel
theorem dX11_sheetRow_44 : decode cX11_sheetRow 44 = .ok (.iload_n 2, 1) := by decide +kernel
theorem dX11_sheetRow_45 : decode cX11_sheetRow 45 = .ok (.aaload, 1) := by decide +kernel
theorem dX11_sheetRow_46 : decode cX11_sheetRow 46 = .ok (.invokevirtual 258, 3) := by decide +kernel
theorem dX11_sheetRow_49 : decode cX11_sheetRow 49 = .ok (.ifCond .eq 44, 3) := by decide +kernel
theorem dX11_sheetRow_52 : decode cX11_sheetRow 52 = .ok (.aload 4, 2) := by decide +kernel
theorem dX11_sheetRow_54 : decode cX11_sheetRow 54 = .ok (.getfield 295, 3) := by decide +kernel
theorem dX11_sheetRow_57 : decode cX11_sheetRow 57 = .ok (.iload_n 2, 1) := by decide +kernel
theorem dX11_sheetRow_58 : decode cX11_sheetRow 58 = .ok (.aaload, 1) := by decide +kernel
theorem dX11_sheetRow_59 : decode cX11_sheetRow 59 = .ok (.astore 6, 2) := by decide +kernel
theorem dX11_sheetRow_61 : decode cX11_sheetRow 61 = .ok (.aload 6, 2) := by decide +kernel
theorem dX11_sheetRow_63 : decode cX11_sheetRow 63 = .ok (.instanceof 268, 3) := by decide +kernel
theorem dX11_sheetRow_66 : decode cX11_sheetRow 66 = .ok (.ifCond .eq 27, 3) := by decide +kernel
theorem dX11_sheetRow_69 : decode cX11_sheetRow 69 = .ok (.aload 6, 2) := by decide +kernel
theorem dX11_sheetRow_71 : decode cX11_sheetRow 71 = .ok (.checkcast 268, 3) := by decide +kernel
theorem dX11_sheetRow_74 : decode cX11_sheetRow 74 = .ok (.astore 5, 2) := by decide +kernel
theorem dX11_sheetRow_76 : decode cX11_sheetRow 76 = .ok (.aload_n 0, 1) := by decide +kernel
theorem dX11_sheetRow_77 : decode cX11_sheetRow 77 = .ok (.iload_n 3, 1) := by decide +kernel
theorem dX11_sheetRow_78 : decode cX11_sheetRow 78 = .ok (.aload 5, 2) := by decide +kernel
theorem dX11_sheetRow_80 : decode cX11_sheetRow 80 = .ok (.getfield 280, 3) := by decide +kernel
theorem dX11_sheetRow_83 : decode cX11_sheetRow 83 = .ok (.arraylength, 1) := by decide +kernel
theorem dX11_sheetRow_84 : decode cX11_sheetRow 84 = .ok (.invokevirtual 284, 3) := by decide +kernel
theorem dX11_sheetRow_87 : decode cX11_sheetRow 87 = .ok (.ifCond .eq 6, 3) := by decide +kernel
theorem dX11_sheetRow_90 : decode cX11_sheetRow 90 = .ok (.aload 5, 2) := by decide +kernel
theorem dX11_sheetRow_92 : decode cX11_sheetRow 92 = .ok (.areturn, 1) := by decide +kernel
theorem dX11_sheetRow_93 : decode cX11_sheetRow 93 = .ok (.aconst_null, 1) := by decide +kernel
theorem dX11_sheetRow_94 : decode cX11_sheetRow 94 = .ok (.areturn, 1) := by decide +kernel
theorem dX11_readCell_0 : decode cX11_readCell 0 = .ok (.aload_n 0, 1) := by decide +kernel
theorem dX11_readCell_1 : decode cX11_readCell 1 = .ok (.ifnull 25, 3) := by decide +kernel
theorem dX11_readCell_4 : decode cX11_readCell 4 = .ok (.iload_n 1, 1) := by decide +kernel
theorem dX11_readCell_5 : decode cX11_readCell 5 = .ok (.ifCond .lt 21, 3) := by decide +kernel
theorem dX11_readCell_8 : decode cX11_readCell 8 = .ok (.iload_n 1, 1) := by decide +kernel
theorem dX11_readCell_9 : decode cX11_readCell 9 = .ok (.aload_n 0, 1) := by decide +kernel
theorem dX11_readCell_10 : decode cX11_readCell 10 = .ok (.getfield 280, 3) := by decide +kernel
theorem dX11_readCell_13 : decode cX11_readCell 13 = .ok (.arraylength, 1) := by decide +kernel
theorem dX11_readCell_14 : decode cX11_readCell 14 = .ok (.if_icmp .ge 12, 3) := by decide +kernel
theorem dX11_readCell_17 : decode cX11_readCell 17 = .ok (.aload_n 0, 1) := by decide +kernel
theorem dX11_readCell_18 : decode cX11_readCell 18 = .ok (.getfield 280, 3) := by decide +kernel
theorem dX11_readCell_21 : decode cX11_readCell 21 = .ok (.iload_n 1, 1) := by decide +kernel
theorem dX11_readCell_22 : decode cX11_readCell 22 = .ok (.laload, 1) := by decide +kernel
theorem dX11_readCell_23 : decode cX11_readCell 23 = .ok (.goto 4, 3) := by decide +kernel
theorem dX11_readCell_26 : decode cX11_readCell 26 = .ok (.lconst 0, 1) := by decide +kernel
theorem dX11_readCell_27 : decode cX11_readCell 27 = .ok (.lreturn, 1) := by decide +kernel
theorem dX11_markCell_0 : decode cX11_markCell 0 = .ok (.aload_n 1, 1) := by decide +kernel
theorem dX11_markCell_1 : decode cX11_markCell 1 = .ok (.ifnull 30, 3) := by decide +kernel
theorem dX11_markCell_4 : decode cX11_markCell 4 = .ok (.iload_n 2, 1) := by decide +kernel
theorem dX11_markCell_5 : decode cX11_markCell 5 = .ok (.ifCond .lt 26, 3) := by decide +kernel
theorem dX11_markCell_8 : decode cX11_markCell 8 = .ok (.iload_n 2, 1) := by decide +kernel
theorem dX11_markCell_9 : decode cX11_markCell 9 = .ok (.aload_n 1, 1) := by decide +kernel
theorem dX11_markCell_10 : decode cX11_markCell 10 = .ok (.getfield 280, 3) := by decide +kernel
theorem dX11_markCell_13 : decode cX11_markCell 13 = .ok (.arraylength, 1) := by decide +kernel
theorem dX11_markCell_14 : decode cX11_markCell 14 = .ok (.if_icmp .ge 17, 3) := by decide +kernel
theorem dX11_markCell_17 : decode cX11_markCell 17 = .ok (.aload_n 1, 1) := by decide +kernel
theorem dX11_markCell_18 : decode cX11_markCell 18 = .ok (.getfield 280, 3) := by decide +kernel
theorem dX11_markCell_21 : decode cX11_markCell 21 = .ok (.iload_n 2, 1) := by decide +kernel
theorem dX11_markCell_22 : decode cX11_markCell 22 = .ok (.aload_n 1, 1) := by decide +kernel
theorem dX11_markCell_23 : decode cX11_markCell 23 = .ok (.aload_n 0, 1) := by decide +kernel
theorem dX11_markCell_24 : decode cX11_markCell 24 = .ok (.getfield 68, 3) := by decide +kernel
theorem dX11_markCell_27 : decode cX11_markCell 27 = .ok (.invokevirtual 287, 3) := by decide +kernel
theorem dX11_markCell_30 : decode cX11_markCell 30 = .ok (.lastore, 1) := by decide +kernel
theorem dX11_markCell_31 : decode cX11_markCell 31 = .ok (.lconst 0, 1) := by decide +kernel
theorem dX11_markCell_32 : decode cX11_markCell 32 = .ok (.lreturn, 1) := by decide +kernel
theorem dX11_makeCase_0 : decode cX11_makeCase 0 = .ok (.iload_n 3, 1) := by decide +kernel
theorem dX11_makeCase_1 : decode cX11_makeCase 1 = .ok (.bipush 40, 2) := by decide +kernel
theorem dX11_makeCase_3 : decode cX11_makeCase 3 = .ok (.irem, 1) := by decide +kernel
theorem dX11_makeCase_4 : decode cX11_makeCase 4 = .ok (.istore 4, 2) := by decide +kernel
theorem dX11_makeCase_6 : decode cX11_makeCase 6 = .ok (.aload_n 0, 1) := by decide +kernel
theorem dX11_makeCase_7 : decode cX11_makeCase 7 = .ok (.invokevirtual 262, 3) := by decide +kernel
theorem dX11_makeCase_10 : decode cX11_makeCase 10 = .ok (.ifCond .eq 20, 3) := by decide +kernel
theorem dX11_makeCase_13 : decode cX11_makeCase 13 = .ok (.aload_n 0, 1) := by decide +kernel
theorem dX11_makeCase_14 : decode cX11_makeCase 14 = .ok (.iload_n 1, 1) := by decide +kernel
theorem dX11_makeCase_15 : decode cX11_makeCase 15 = .ok (.invokevirtual 248, 3) := by decide +kernel
theorem dX11_makeCase_18 : decode cX11_makeCase 18 = .ok (.ifCond .eq 12, 3) := by decide +kernel
theorem dX11_makeCase_21 : decode cX11_makeCase 21 = .ok (.aload_n 0, 1) := by decide +kernel
theorem dX11_makeCase_22 : decode cX11_makeCase 22 = .ok (.iload 4, 2) := by decide +kernel
theorem dX11_makeCase_24 : decode cX11_makeCase 24 = .ok (.invokevirtual 265, 3) := by decide +kernel
theorem dX11_makeCase_27 : decode cX11_makeCase 27 = .ok (.ifCond .ne 5, 3) := by decide +kernel
theorem dX11_makeCase_30 : decode cX11_makeCase 30 = .ok (.lconst 0, 1) := by decide +kernel
theorem dX11_makeCase_31 : decode cX11_makeCase 31 = .ok (.lreturn, 1) := by decide +kernel
theorem dX11_makeCase_32 : decode cX11_makeCase 32 = .ok (.aload_n 0, 1) := by decide +kernel
theorem dX11_makeCase_33 : decode cX11_makeCase 33 = .ok (.iload_n 1, 1) := by decide +kernel
theorem dX11_makeCase_34 : decode cX11_makeCase 34 = .ok (.iload_n 2, 1) := by decide +kernel
theorem dX11_makeCase_35 : decode cX11_makeCase 35 = .ok (.iconst 3, 1) := by decide +kernel
theorem dX11_makeCase_36 : decode cX11_makeCase 36 = .ok (.iand, 1) := by decide +kernel
theorem dX11_makeCase_37 : decode cX11_makeCase 37 = .ok (.iload 4, 2) := by decide +kernel
theorem dX11_makeCase_39 : decode cX11_makeCase 39 = .ok (.invokestatic 297, 3) := by decide +kernel
theorem dX11_makeCase_42 : decode cX11_makeCase 42 = .ok (.invokevirtual 272, 3) := by decide +kernel
theorem dX11_makeCase_45 : decode cX11_makeCase 45 = .ok (.iload 4, 2) := by decide +kernel
theorem dX11_makeCase_47 : decode cX11_makeCase 47 = .ok (.i2l, 1) := by decide +kernel
theorem dX11_makeCase_48 : decode cX11_makeCase 48 = .ok (.lreturn, 1) := by decide +kernel
theorem dX11_newCase_0 : decode cX11_newCase 0 = .ok (.iload_n 0, 1) := by decide +kernel
theorem dX11_newCase_1 : decode cX11_newCase 1 = .ok (.lookupswitch 53 #[(0, 27), (1, 40)], 27) := by decide +kernel
theorem dX11_newCase_28 : decode cX11_newCase 28 = .ok (.new 291, 3) := by decide +kernel
theorem dX11_newCase_31 : decode cX11_newCase 31 = .ok (.dup, 1) := by decide +kernel
theorem dX11_newCase_32 : decode cX11_newCase 32 = .ok (.bipush 9, 2) := by decide +kernel
theorem dX11_newCase_34 : decode cX11_newCase 34 = .ok (.bipush 12, 2) := by decide +kernel
theorem dX11_newCase_36 : decode cX11_newCase 36 = .ok (.iload_n 1, 1) := by decide +kernel
theorem dX11_newCase_37 : decode cX11_newCase 37 = .ok (.invokespecial 293, 3) := by decide +kernel
theorem dX11_newCase_40 : decode cX11_newCase 40 = .ok (.areturn, 1) := by decide +kernel
theorem dX11_newCase_41 : decode cX11_newCase 41 = .ok (.new 291, 3) := by decide +kernel
theorem dX11_newCase_44 : decode cX11_newCase 44 = .ok (.dup, 1) := by decide +kernel
theorem dX11_newCase_45 : decode cX11_newCase 45 = .ok (.bipush 10, 2) := by decide +kernel
theorem dX11_newCase_47 : decode cX11_newCase 47 = .ok (.bipush 13, 2) := by decide +kernel
theorem dX11_newCase_49 : decode cX11_newCase 49 = .ok (.iload_n 1, 1) := by decide +kernel
theorem dX11_newCase_50 : decode cX11_newCase 50 = .ok (.invokespecial 293, 3) := by decide +kernel
theorem dX11_newCase_53 : decode cX11_newCase 53 = .ok (.areturn, 1) := by decide +kernel
theorem dX11_newCase_54 : decode cX11_newCase 54 = .ok (.new 291, 3) := by decide +kernel
theorem dX11_newCase_57 : decode cX11_newCase 57 = .ok (.dup, 1) := by decide +kernel
theorem dX11_newCase_58 : decode cX11_newCase 58 = .ok (.bipush 11, 2) := by decide +kernel
theorem dX11_newCase_60 : decode cX11_newCase 60 = .ok (.bipush 14, 2) := by decide +kernel
theorem dX11_newCase_62 : decode cX11_newCase 62 = .ok (.iload_n 1, 1) := by decide +kernel
theorem dX11_newCase_63 : decode cX11_newCase 63 = .ok (.invokespecial 293, 3) := by decide +kernel
theorem dX11_newCase_66 : decode cX11_newCase 66 = .ok (.areturn, 1) := by decide +kernel
theorem dX11_putIn_0 : decode cX11_putIn 0 = .ok (.aload_n 0, 1) := by decide +kernel
theorem dX11_putIn_1 : decode cX11_putIn 1 = .ok (.iload_n 3, 1) := by decide +kernel
theorem dX11_putIn_2 : decode cX11_putIn 2 = .ok (.iload_n 1, 1) := by decide +kernel
theorem dX11_putIn_3 : decode cX11_putIn 3 = .ok (.invokevirtual 254, 3) := by decide +kernel
theorem dX11_putIn_6 : decode cX11_putIn 6 = .ok (.ifCond .eq 89, 3) := by decide +kernel
theorem dX11_putIn_9 : decode cX11_putIn 9 = .ok (.aload_n 0, 1) := by decide +kernel
theorem dX11_putIn_10 : decode cX11_putIn 10 = .ok (.iload 5, 2) := by decide +kernel
theorem dX11_putIn_12 : decode cX11_putIn 12 = .ok (.iload_n 2, 1) := by decide +kernel
theorem dX11_putIn_13 : decode cX11_putIn 13 = .ok (.invokevirtual 254, 3) := by decide +kernel
theorem dX11_putIn_16 : decode cX11_putIn 16 = .ok (.ifCond .eq 79, 3) := by decide +kernel
theorem dX11_putIn_19 : decode cX11_putIn 19 = .ok (.aload_n 0, 1) := by decide +kernel
theorem dX11_putIn_20 : decode cX11_putIn 20 = .ok (.iload_n 3, 1) := by decide +kernel
theorem dX11_putIn_21 : decode cX11_putIn 21 = .ok (.iload_n 1, 1) := by decide +kernel
theorem dX11_putIn_22 : decode cX11_putIn 22 = .ok (.invokevirtual 276, 3) := by decide +kernel
theorem dX11_putIn_25 : decode cX11_putIn 25 = .ok (.astore 7, 2) := by decide +kernel
theorem dX11_putIn_27 : decode cX11_putIn 27 = .ok (.aload 7, 2) := by decide +kernel
theorem dX11_putIn_29 : decode cX11_putIn 29 = .ok (.instanceof 291, 3) := by decide +kernel
theorem dX11_putIn_32 : decode cX11_putIn 32 = .ok (.ifCond .eq 63, 3) := by decide +kernel
theorem dX11_putIn_35 : decode cX11_putIn 35 = .ok (.aload 7, 2) := by decide +kernel
theorem dX11_putIn_37 : decode cX11_putIn 37 = .ok (.checkcast 291, 3) := by decide +kernel
theorem dX11_putIn_40 : decode cX11_putIn 40 = .ok (.astore 6, 2) := by decide +kernel
theorem dX11_putIn_42 : decode cX11_putIn 42 = .ok (.aload_n 0, 1) := by decide +kernel
theorem dX11_putIn_43 : decode cX11_putIn 43 = .ok (.iload 4, 2) := by decide +kernel
theorem dX11_putIn_45 : decode cX11_putIn 45 = .ok (.aload 6, 2) := by decide +kernel
theorem dX11_putIn_47 : decode cX11_putIn 47 = .ok (.getfield 295, 3) := by decide +kernel
theorem dX11_putIn_50 : decode cX11_putIn 50 = .ok (.arraylength, 1) := by decide +kernel
theorem dX11_putIn_51 : decode cX11_putIn 51 = .ok (.invokevirtual 284, 3) := by decide +kernel
theorem dX11_putIn_54 : decode cX11_putIn 54 = .ok (.ifCond .eq 41, 3) := by decide +kernel
theorem dX11_putIn_57 : decode cX11_putIn 57 = .ok (.aload 6, 2) := by decide +kernel
theorem dX11_putIn_59 : decode cX11_putIn 59 = .ok (.aload_n 0, 1) := by decide +kernel
theorem dX11_putIn_60 : decode cX11_putIn 60 = .ok (.getfield 11, 3) := by decide +kernel
theorem dX11_putIn_63 : decode cX11_putIn 63 = .ok (.iload 5, 2) := by decide +kernel
theorem dX11_putIn_65 : decode cX11_putIn 65 = .ok (.aaload, 1) := by decide +kernel
theorem dX11_putIn_66 : decode cX11_putIn 66 = .ok (.invokevirtual 301, 3) := by decide +kernel
theorem dX11_putIn_69 : decode cX11_putIn 69 = .ok (.ifCond .ne 11, 3) := by decide +kernel
theorem dX11_putIn_72 : decode cX11_putIn 72 = .ok (.aload_n 0, 1) := by decide +kernel
theorem dX11_putIn_73 : decode cX11_putIn 73 = .ok (.iconst 5, 1) := by decide +kernel
theorem dX11_putIn_74 : decode cX11_putIn 74 = .ok (.invokevirtual 245, 3) := by decide +kernel
theorem dX11_putIn_77 : decode cX11_putIn 77 = .ok (.ifCond .eq 18, 3) := by decide +kernel
theorem dX11_putIn_80 : decode cX11_putIn 80 = .ok (.aload 6, 2) := by decide +kernel
theorem dX11_putIn_82 : decode cX11_putIn 82 = .ok (.getfield 295, 3) := by decide +kernel
theorem dX11_putIn_85 : decode cX11_putIn 85 = .ok (.iload 4, 2) := by decide +kernel
theorem dX11_putIn_87 : decode cX11_putIn 87 = .ok (.aload_n 0, 1) := by decide +kernel
theorem dX11_putIn_88 : decode cX11_putIn 88 = .ok (.getfield 11, 3) := by decide +kernel
theorem dX11_putIn_91 : decode cX11_putIn 91 = .ok (.iload 5, 2) := by decide +kernel
theorem dX11_putIn_93 : decode cX11_putIn 93 = .ok (.aaload, 1) := by decide +kernel
theorem dX11_putIn_94 : decode cX11_putIn 94 = .ok (.aastore, 1) := by decide +kernel
theorem dX11_putIn_95 : decode cX11_putIn 95 = .ok (.lconst 0, 1) := by decide +kernel
theorem dX11_putIn_96 : decode cX11_putIn 96 = .ok (.lreturn, 1) := by decide +kernel
theorem dX11_takeOut_0 : decode cX11_takeOut 0 = .ok (.aload_n 0, 1) := by decide +kernel
theorem dX11_takeOut_1 : decode cX11_takeOut 1 = .ok (.iload 4, 2) := by decide +kernel
theorem dX11_takeOut_3 : decode cX11_takeOut 3 = .ok (.invokevirtual 248, 3) := by decide +kernel
theorem dX11_takeOut_6 : decode cX11_takeOut 6 = .ok (.ifCond .eq 54, 3) := by decide +kernel
theorem dX11_takeOut_9 : decode cX11_takeOut 9 = .ok (.aload_n 0, 1) := by decide +kernel
theorem dX11_takeOut_10 : decode cX11_takeOut 10 = .ok (.iload_n 2, 1) := by decide +kernel
theorem dX11_takeOut_11 : decode cX11_takeOut 11 = .ok (.iload_n 1, 1) := by decide +kernel
theorem dX11_takeOut_12 : decode cX11_takeOut 12 = .ok (.invokevirtual 276, 3) := by decide +kernel
theorem dX11_takeOut_15 : decode cX11_takeOut 15 = .ok (.astore 6, 2) := by decide +kernel
theorem dX11_takeOut_17 : decode cX11_takeOut 17 = .ok (.aload 6, 2) := by decide +kernel
theorem dX11_takeOut_19 : decode cX11_takeOut 19 = .ok (.instanceof 291, 3) := by decide +kernel
theorem dX11_takeOut_22 : decode cX11_takeOut 22 = .ok (.ifCond .eq 38, 3) := by decide +kernel
theorem dX11_takeOut_25 : decode cX11_takeOut 25 = .ok (.aload 6, 2) := by decide +kernel
theorem dX11_takeOut_27 : decode cX11_takeOut 27 = .ok (.checkcast 291, 3) := by decide +kernel
theorem dX11_takeOut_30 : decode cX11_takeOut 30 = .ok (.astore 5, 2) := by decide +kernel
theorem dX11_takeOut_32 : decode cX11_takeOut 32 = .ok (.aload_n 0, 1) := by decide +kernel
theorem dX11_takeOut_33 : decode cX11_takeOut 33 = .ok (.iload_n 3, 1) := by decide +kernel
theorem dX11_takeOut_34 : decode cX11_takeOut 34 = .ok (.aload 5, 2) := by decide +kernel
theorem dX11_takeOut_36 : decode cX11_takeOut 36 = .ok (.getfield 295, 3) := by decide +kernel
theorem dX11_takeOut_39 : decode cX11_takeOut 39 = .ok (.arraylength, 1) := by decide +kernel
theorem dX11_takeOut_40 : decode cX11_takeOut 40 = .ok (.invokevirtual 284, 3) := by decide +kernel
theorem dX11_takeOut_43 : decode cX11_takeOut 43 = .ok (.ifCond .eq 17, 3) := by decide +kernel
theorem dX11_takeOut_46 : decode cX11_takeOut 46 = .ok (.aload_n 0, 1) := by decide +kernel
theorem dX11_takeOut_47 : decode cX11_takeOut 47 = .ok (.getfield 11, 3) := by decide +kernel
theorem dX11_takeOut_50 : decode cX11_takeOut 50 = .ok (.iload 4, 2) := by decide +kernel
theorem dX11_takeOut_52 : decode cX11_takeOut 52 = .ok (.aload 5, 2) := by decide +kernel
theorem dX11_takeOut_54 : decode cX11_takeOut 54 = .ok (.getfield 295, 3) := by decide +kernel
theorem dX11_takeOut_57 : decode cX11_takeOut 57 = .ok (.iload_n 3, 1) := by decide +kernel
theorem dX11_takeOut_58 : decode cX11_takeOut 58 = .ok (.aaload, 1) := by decide +kernel
theorem dX11_takeOut_59 : decode cX11_takeOut 59 = .ok (.aastore, 1) := by decide +kernel
theorem dX11_takeOut_60 : decode cX11_takeOut 60 = .ok (.lconst 0, 1) := by decide +kernel
theorem dX11_takeOut_61 : decode cX11_takeOut 61 = .ok (.lreturn, 1) := by decide +kernel
theorem dX11_makeBox_0 : decode cX11_makeBox 0 = .ok (.aload_n 0, 1) := by decide +kernel
theorem dX11_makeBox_1 : decode cX11_makeBox 1 = .ok (.invokevirtual 262, 3) := by decide +kernel
theorem dX11_makeBox_4 : decode cX11_makeBox 4 = .ok (.ifCond .eq 11, 3) := by decide +kernel
theorem dX11_makeBox_7 : decode cX11_makeBox 7 = .ok (.aload_n 0, 1) := by decide +kernel
theorem dX11_makeBox_8 : decode cX11_makeBox 8 = .ok (.iload_n 1, 1) := by decide +kernel
theorem dX11_makeBox_9 : decode cX11_makeBox 9 = .ok (.invokevirtual 248, 3) := by decide +kernel
theorem dX11_makeBox_12 : decode cX11_makeBox 12 = .ok (.ifCond .ne 5, 3) := by decide +kernel
theorem dX11_makeBox_15 : decode cX11_makeBox 15 = .ok (.lconst 0, 1) := by decide +kernel
theorem dX11_makeBox_16 : decode cX11_makeBox 16 = .ok (.lreturn, 1) := by decide +kernel
theorem dX11_makeBox_17 : decode cX11_makeBox 17 = .ok (.aload_n 0, 1) := by decide +kernel
theorem dX11_makeBox_18 : decode cX11_makeBox 18 = .ok (.getfield 68, 3) := by decide +kernel
theorem dX11_makeBox_21 : decode cX11_makeBox 21 = .ok (.l2i, 1) := by decide +kernel
theorem dX11_makeBox_22 : decode cX11_makeBox 22 = .ok (.istore_n 3, 1) := by decide +kernel
theorem dX11_makeBox_23 : decode cX11_makeBox 23 = .ok (.iload_n 2, 1) := by decide +kernel
theorem dX11_makeBox_24 : decode cX11_makeBox 24 = .ok (.iconst 3, 1) := by decide +kernel
theorem dX11_makeBox_25 : decode cX11_makeBox 25 = .ok (.iand, 1) := by decide +kernel
theorem dX11_makeBox_26 : decode cX11_makeBox 26 = .ok (.tableswitch 74 0 2 #[26, 42, 58], 26) := by decide +kernel
theorem dX11_makeBox_52 : decode cX11_makeBox 52 = .ok (.aload_n 0, 1) := by decide +kernel
theorem dX11_makeBox_53 : decode cX11_makeBox 53 = .ok (.iload_n 1, 1) := by decide +kernel
theorem dX11_makeBox_54 : decode cX11_makeBox 54 = .ok (.new 304, 3) := by decide +kernel
theorem dX11_makeBox_57 : decode cX11_makeBox 57 = .ok (.dup, 1) := by decide +kernel
theorem dX11_makeBox_58 : decode cX11_makeBox 58 = .ok (.iload_n 3, 1) := by decide +kernel
theorem dX11_makeBox_59 : decode cX11_makeBox 59 = .ok (.invokespecial 306, 3) := by decide +kernel
theorem dX11_makeBox_62 : decode cX11_makeBox 62 = .ok (.invokevirtual 272, 3) := by decide +kernel
theorem dX11_makeBox_65 : decode cX11_makeBox 65 = .ok (.goto 48, 3) := by decide +kernel
theorem dX11_makeBox_68 : decode cX11_makeBox 68 = .ok (.aload_n 0, 1) := by decide +kernel
theorem dX11_makeBox_69 : decode cX11_makeBox 69 = .ok (.iload_n 1, 1) := by decide +kernel
theorem dX11_makeBox_70 : decode cX11_makeBox 70 = .ok (.new 308, 3) := by decide +kernel
theorem dX11_makeBox_73 : decode cX11_makeBox 73 = .ok (.dup, 1) := by decide +kernel
theorem dX11_makeBox_74 : decode cX11_makeBox 74 = .ok (.iload_n 3, 1) := by decide +kernel
theorem dX11_makeBox_75 : decode cX11_makeBox 75 = .ok (.invokespecial 310, 3) := by decide +kernel
theorem dX11_makeBox_78 : decode cX11_makeBox 78 = .ok (.invokevirtual 272, 3) := by decide +kernel
theorem dX11_makeBox_81 : decode cX11_makeBox 81 = .ok (.goto 32, 3) := by decide +kernel
theorem dX11_makeBox_84 : decode cX11_makeBox 84 = .ok (.aload_n 0, 1) := by decide +kernel
theorem dX11_makeBox_85 : decode cX11_makeBox 85 = .ok (.iload_n 1, 1) := by decide +kernel
theorem dX11_makeBox_86 : decode cX11_makeBox 86 = .ok (.new 311, 3) := by decide +kernel
theorem dX11_makeBox_89 : decode cX11_makeBox 89 = .ok (.dup, 1) := by decide +kernel
theorem dX11_makeBox_90 : decode cX11_makeBox 90 = .ok (.iload_n 3, 1) := by decide +kernel
theorem dX11_makeBox_91 : decode cX11_makeBox 91 = .ok (.invokespecial 313, 3) := by decide +kernel
theorem dX11_makeBox_94 : decode cX11_makeBox 94 = .ok (.invokevirtual 272, 3) := by decide +kernel
theorem dX11_makeBox_97 : decode cX11_makeBox 97 = .ok (.goto 16, 3) := by decide +kernel
theorem dX11_makeBox_100 : decode cX11_makeBox 100 = .ok (.aload_n 0, 1) := by decide +kernel
theorem dX11_makeBox_101 : decode cX11_makeBox 101 = .ok (.iload_n 1, 1) := by decide +kernel
theorem dX11_makeBox_102 : decode cX11_makeBox 102 = .ok (.new 314, 3) := by decide +kernel
theorem dX11_makeBox_105 : decode cX11_makeBox 105 = .ok (.dup, 1) := by decide +kernel
theorem dX11_makeBox_106 : decode cX11_makeBox 106 = .ok (.iload_n 3, 1) := by decide +kernel
theorem dX11_makeBox_107 : decode cX11_makeBox 107 = .ok (.invokespecial 316, 3) := by decide +kernel
theorem dX11_makeBox_110 : decode cX11_makeBox 110 = .ok (.invokevirtual 272, 3) := by decide +kernel
theorem dX11_makeBox_113 : decode cX11_makeBox 113 = .ok (.lconst 0, 1) := by decide +kernel
theorem dX11_makeBox_114 : decode cX11_makeBox 114 = .ok (.lreturn, 1) := by decide +kernel
theorem dX11_makeLetter_0 : decode cX11_makeLetter 0 = .ok (.aload_n 0, 1) := by decide +kernel
theorem dX11_makeLetter_1 : decode cX11_makeLetter 1 = .ok (.invokevirtual 262, 3) := by decide +kernel
theorem dX11_makeLetter_4 : decode cX11_makeLetter 4 = .ok (.ifCond .eq 43, 3) := by decide +kernel
theorem dX11_makeLetter_7 : decode cX11_makeLetter 7 = .ok (.aload_n 0, 1) := by decide +kernel
theorem dX11_makeLetter_8 : decode cX11_makeLetter 8 = .ok (.iload_n 1, 1) := by decide +kernel
theorem dX11_makeLetter_9 : decode cX11_makeLetter 9 = .ok (.invokevirtual 248, 3) := by decide +kernel
theorem dX11_makeLetter_12 : decode cX11_makeLetter 12 = .ok (.ifCond .eq 35, 3) := by decide +kernel
theorem dX11_makeLetter_15 : decode cX11_makeLetter 15 = .ok (.iload_n 2, 1) := by decide +kernel
theorem dX11_makeLetter_16 : decode cX11_makeLetter 16 = .ok (.ldc_w 319, 3) := by decide +kernel
theorem dX11_makeLetter_19 : decode cX11_makeLetter 19 = .ok (.if_icmp .ne 7, 3) := by decide +kernel
theorem dX11_makeLetter_22 : decode cX11_makeLetter 22 = .ok (.iconst 0, 1) := by decide +kernel
theorem dX11_makeLetter_23 : decode cX11_makeLetter 23 = .ok (.goto 10, 3) := by decide +kernel
theorem dX11_makeLetter_26 : decode cX11_makeLetter 26 = .ok (.iload_n 2, 1) := by decide +kernel
theorem dX11_makeLetter_27 : decode cX11_makeLetter 27 = .ok (.invokestatic 320, 3) := by decide +kernel
theorem dX11_makeLetter_30 : decode cX11_makeLetter 30 = .ok (.bipush 7, 2) := by decide +kernel
theorem dX11_makeLetter_32 : decode cX11_makeLetter 32 = .ok (.irem, 1) := by decide +kernel
theorem dX11_makeLetter_33 : decode cX11_makeLetter 33 = .ok (.istore_n 3, 1) := by decide +kernel
theorem dX11_makeLetter_34 : decode cX11_makeLetter 34 = .ok (.aload_n 0, 1) := by decide +kernel
theorem dX11_makeLetter_35 : decode cX11_makeLetter 35 = .ok (.iload_n 1, 1) := by decide +kernel
theorem dX11_makeLetter_36 : decode cX11_makeLetter 36 = .ok (.new 323, 3) := by decide +kernel
theorem dX11_makeLetter_39 : decode cX11_makeLetter 39 = .ok (.dup, 1) := by decide +kernel
theorem dX11_makeLetter_40 : decode cX11_makeLetter 40 = .ok (.iload_n 3, 1) := by decide +kernel
theorem dX11_makeLetter_41 : decode cX11_makeLetter 41 = .ok (.invokespecial 325, 3) := by decide +kernel
theorem dX11_makeLetter_44 : decode cX11_makeLetter 44 = .ok (.invokevirtual 272, 3) := by decide +kernel
theorem dX11_makeLetter_47 : decode cX11_makeLetter 47 = .ok (.lconst 0, 1) := by decide +kernel
theorem dX11_makeLetter_48 : decode cX11_makeLetter 48 = .ok (.lreturn, 1) := by decide +kernel
theorem dX11_boxValue_0 : decode cX11_boxValue 0 = .ok (.aload_n 0, 1) := by decide +kernel
theorem dX11_boxValue_1 : decode cX11_boxValue 1 = .ok (.iload_n 1, 1) := by decide +kernel
theorem dX11_boxValue_2 : decode cX11_boxValue 2 = .ok (.bipush 12, 2) := by decide +kernel
theorem dX11_boxValue_4 : decode cX11_boxValue 4 = .ok (.invokevirtual 276, 3) := by decide +kernel
theorem dX11_boxValue_7 : decode cX11_boxValue 7 = .ok (.astore_n 3, 1) := by decide +kernel
theorem dX11_boxValue_8 : decode cX11_boxValue 8 = .ok (.aload_n 3, 1) := by decide +kernel
theorem dX11_boxValue_9 : decode cX11_boxValue 9 = .ok (.instanceof 326, 3) := by decide +kernel
theorem dX11_boxValue_12 : decode cX11_boxValue 12 = .ok (.ifCond .eq 16, 3) := by decide +kernel
theorem dX11_boxValue_15 : decode cX11_boxValue 15 = .ok (.aload_n 3, 1) := by decide +kernel
theorem dX11_boxValue_16 : decode cX11_boxValue 16 = .ok (.checkcast 326, 3) := by decide +kernel
theorem dX11_boxValue_19 : decode cX11_boxValue 19 = .ok (.astore_n 2, 1) := by decide +kernel
theorem dX11_boxValue_20 : decode cX11_boxValue 20 = .ok (.aload_n 2, 1) := by decide +kernel
theorem dX11_boxValue_21 : decode cX11_boxValue 21 = .ok (.getfield 328, 3) := by decide +kernel
theorem dX11_boxValue_24 : decode cX11_boxValue 24 = .ok (.i2l, 1) := by decide +kernel
theorem dX11_boxValue_25 : decode cX11_boxValue 25 = .ok (.goto 4, 3) := by decide +kernel
theorem dX11_boxValue_28 : decode cX11_boxValue 28 = .ok (.lconst 0, 1) := by decide +kernel
theorem dX11_boxValue_29 : decode cX11_boxValue 29 = .ok (.lreturn, 1) := by decide +kernel
theorem dX11_changeBox_0 : decode cX11_changeBox 0 = .ok (.aload_n 0, 1) := by decide +kernel
theorem dX11_changeBox_1 : decode cX11_changeBox 1 = .ok (.iload_n 1, 1) := by decide +kernel
theorem dX11_changeBox_2 : decode cX11_changeBox 2 = .ok (.bipush 12, 2) := by decide +kernel
theorem dX11_changeBox_4 : decode cX11_changeBox 4 = .ok (.invokevirtual 276, 3) := by decide +kernel
theorem dX11_changeBox_7 : decode cX11_changeBox 7 = .ok (.astore_n 3, 1) := by decide +kernel
theorem dX11_changeBox_8 : decode cX11_changeBox 8 = .ok (.aload_n 3, 1) := by decide +kernel
theorem dX11_changeBox_9 : decode cX11_changeBox 9 = .ok (.instanceof 326, 3) := by decide +kernel
theorem dX11_changeBox_12 : decode cX11_changeBox 12 = .ok (.ifCond .eq 25, 3) := by decide +kernel
theorem dX11_changeBox_15 : decode cX11_changeBox 15 = .ok (.aload_n 3, 1) := by decide +kernel
theorem dX11_changeBox_16 : decode cX11_changeBox 16 = .ok (.checkcast 326, 3) := by decide +kernel
theorem dX11_changeBox_19 : decode cX11_changeBox 19 = .ok (.astore_n 2, 1) := by decide +kernel
theorem dX11_changeBox_20 : decode cX11_changeBox 20 = .ok (.aload_n 2, 1) := by decide +kernel
theorem dX11_changeBox_21 : decode cX11_changeBox 21 = .ok (.getfield 328, 3) := by decide +kernel
theorem dX11_changeBox_24 : decode cX11_changeBox 24 = .ok (.istore_n 3, 1) := by decide +kernel
theorem dX11_changeBox_25 : decode cX11_changeBox 25 = .ok (.aload_n 2, 1) := by decide +kernel
theorem dX11_changeBox_26 : decode cX11_changeBox 26 = .ok (.aload_n 0, 1) := by decide +kernel
theorem dX11_changeBox_27 : decode cX11_changeBox 27 = .ok (.getfield 68, 3) := by decide +kernel
theorem dX11_changeBox_30 : decode cX11_changeBox 30 = .ok (.l2i, 1) := by decide +kernel
theorem dX11_changeBox_31 : decode cX11_changeBox 31 = .ok (.putfield 328, 3) := by decide +kernel
theorem dX11_changeBox_34 : decode cX11_changeBox 34 = .ok (.iload_n 3, 1) := by decide +kernel
theorem dX11_changeBox_35 : decode cX11_changeBox 35 = .ok (.i2l, 1) := by decide +kernel
theorem dX11_changeBox_36 : decode cX11_changeBox 36 = .ok (.lreturn, 1) := by decide +kernel
theorem dX11_changeBox_37 : decode cX11_changeBox 37 = .ok (.lconst 0, 1) := by decide +kernel
theorem dX11_changeBox_38 : decode cX11_changeBox 38 = .ok (.lreturn, 1) := by decide +kernel
theorem dX11_linkBox_0 : decode cX11_linkBox 0 = .ok (.aload_n 0, 1) := by decide +kernel
theorem dX11_linkBox_1 : decode cX11_linkBox 1 = .ok (.iload_n 1, 1) := by decide +kernel
theorem dX11_linkBox_2 : decode cX11_linkBox 2 = .ok (.bipush 12, 2) := by decide +kernel
theorem dX11_linkBox_4 : decode cX11_linkBox 4 = .ok (.invokevirtual 254, 3) := by decide +kernel
theorem dX11_linkBox_7 : decode cX11_linkBox 7 = .ok (.ifCond .eq 69, 3) := by decide +kernel
theorem dX11_linkBox_10 : decode cX11_linkBox 10 = .ok (.aload_n 0, 1) := by decide +kernel
theorem dX11_linkBox_11 : decode cX11_linkBox 11 = .ok (.iload_n 2, 1) := by decide +kernel
theorem dX11_linkBox_12 : decode cX11_linkBox 12 = .ok (.bipush 12, 2) := by decide +kernel
theorem dX11_linkBox_14 : decode cX11_linkBox 14 = .ok (.invokevirtual 254, 3) := by decide +kernel
theorem dX11_linkBox_17 : decode cX11_linkBox 17 = .ok (.ifCond .eq 59, 3) := by decide +kernel
theorem dX11_linkBox_20 : decode cX11_linkBox 20 = .ok (.aload_n 0, 1) := by decide +kernel
theorem dX11_linkBox_21 : decode cX11_linkBox 21 = .ok (.iload_n 1, 1) := by decide +kernel
theorem dX11_linkBox_22 : decode cX11_linkBox 22 = .ok (.bipush 12, 2) := by decide +kernel
theorem dX11_linkBox_24 : decode cX11_linkBox 24 = .ok (.invokevirtual 276, 3) := by decide +kernel
theorem dX11_linkBox_27 : decode cX11_linkBox 27 = .ok (.astore 4, 2) := by decide +kernel
theorem dX11_linkBox_29 : decode cX11_linkBox 29 = .ok (.aload 4, 2) := by decide +kernel
theorem dX11_linkBox_31 : decode cX11_linkBox 31 = .ok (.instanceof 326, 3) := by decide +kernel
theorem dX11_linkBox_34 : decode cX11_linkBox 34 = .ok (.ifCond .eq 42, 3) := by decide +kernel
theorem dX11_linkBox_37 : decode cX11_linkBox 37 = .ok (.aload 4, 2) := by decide +kernel
theorem dX11_linkBox_39 : decode cX11_linkBox 39 = .ok (.checkcast 326, 3) := by decide +kernel
theorem dX11_linkBox_42 : decode cX11_linkBox 42 = .ok (.astore_n 3, 1) := by decide +kernel
theorem dX11_linkBox_43 : decode cX11_linkBox 43 = .ok (.aload_n 3, 1) := by decide +kernel
theorem dX11_linkBox_44 : decode cX11_linkBox 44 = .ok (.aload_n 0, 1) := by decide +kernel
theorem dX11_linkBox_45 : decode cX11_linkBox 45 = .ok (.getfield 11, 3) := by decide +kernel
theorem dX11_linkBox_48 : decode cX11_linkBox 48 = .ok (.iload_n 2, 1) := by decide +kernel
theorem dX11_linkBox_49 : decode cX11_linkBox 49 = .ok (.aaload, 1) := by decide +kernel
theorem dX11_linkBox_50 : decode cX11_linkBox 50 = .ok (.astore 5, 2) := by decide +kernel
theorem dX11_linkBox_52 : decode cX11_linkBox 52 = .ok (.aload 5, 2) := by decide +kernel
theorem dX11_linkBox_54 : decode cX11_linkBox 54 = .ok (.instanceof 326, 3) := by decide +kernel
theorem dX11_linkBox_57 : decode cX11_linkBox 57 = .ok (.ifCond .eq 15, 3) := by decide +kernel
theorem dX11_linkBox_60 : decode cX11_linkBox 60 = .ok (.aload 5, 2) := by decide +kernel
theorem dX11_linkBox_62 : decode cX11_linkBox 62 = .ok (.checkcast 326, 3) := by decide +kernel
theorem dX11_linkBox_65 : decode cX11_linkBox 65 = .ok (.astore 4, 2) := by decide +kernel
theorem dX11_linkBox_67 : decode cX11_linkBox 67 = .ok (.aload 4, 2) := by decide +kernel
theorem dX11_linkBox_69 : decode cX11_linkBox 69 = .ok (.goto 4, 3) := by decide +kernel
theorem dX11_linkBox_72 : decode cX11_linkBox 72 = .ok (.aconst_null, 1) := by decide +kernel
theorem dX11_linkBox_73 : decode cX11_linkBox 73 = .ok (.putfield 331, 3) := by decide +kernel
theorem dX11_linkBox_76 : decode cX11_linkBox 76 = .ok (.lconst 0, 1) := by decide +kernel
theorem dX11_linkBox_77 : decode cX11_linkBox 77 = .ok (.lreturn, 1) := by decide +kernel
theorem dX11_followBox_0 : decode cX11_followBox 0 = .ok (.aload_n 0, 1) := by decide +kernel
theorem dX11_followBox_1 : decode cX11_followBox 1 = .ok (.iload_n 2, 1) := by decide +kernel
theorem dX11_followBox_2 : decode cX11_followBox 2 = .ok (.invokevirtual 248, 3) := by decide +kernel
theorem dX11_followBox_5 : decode cX11_followBox 5 = .ok (.ifCond .eq 36, 3) := by decide +kernel
theorem dX11_followBox_8 : decode cX11_followBox 8 = .ok (.aload_n 0, 1) := by decide +kernel
theorem dX11_followBox_9 : decode cX11_followBox 9 = .ok (.iload_n 1, 1) := by decide +kernel
theorem dX11_followBox_10 : decode cX11_followBox 10 = .ok (.bipush 12, 2) := by decide +kernel
theorem dX11_followBox_12 : decode cX11_followBox 12 = .ok (.invokevirtual 276, 3) := by decide +kernel
theorem dX11_followBox_15 : decode cX11_followBox 15 = .ok (.astore 4, 2) := by decide +kernel
theorem dX11_followBox_17 : decode cX11_followBox 17 = .ok (.aload 4, 2) := by decide +kernel
theorem dX11_followBox_19 : decode cX11_followBox 19 = .ok (.instanceof 326, 3) := by decide +kernel
theorem dX11_followBox_22 : decode cX11_followBox 22 = .ok (.ifCond .eq 19, 3) := by decide +kernel
theorem dX11_followBox_25 : decode cX11_followBox 25 = .ok (.aload 4, 2) := by decide +kernel
theorem dX11_followBox_27 : decode cX11_followBox 27 = .ok (.checkcast 326, 3) := by decide +kernel
theorem dX11_followBox_30 : decode cX11_followBox 30 = .ok (.astore_n 3, 1) := by decide +kernel
theorem dX11_followBox_31 : decode cX11_followBox 31 = .ok (.aload_n 0, 1) := by decide +kernel
theorem dX11_followBox_32 : decode cX11_followBox 32 = .ok (.getfield 11, 3) := by decide +kernel
theorem dX11_followBox_35 : decode cX11_followBox 35 = .ok (.iload_n 2, 1) := by decide +kernel
theorem dX11_followBox_36 : decode cX11_followBox 36 = .ok (.aload_n 3, 1) := by decide +kernel
theorem dX11_followBox_37 : decode cX11_followBox 37 = .ok (.getfield 331, 3) := by decide +kernel
theorem dX11_followBox_40 : decode cX11_followBox 40 = .ok (.aastore, 1) := by decide +kernel
theorem dX11_followBox_41 : decode cX11_followBox 41 = .ok (.lconst 0, 1) := by decide +kernel
theorem dX11_followBox_42 : decode cX11_followBox 42 = .ok (.lreturn, 1) := by decide +kernel
theorem dX11_weigh_0 : decode cX11_weigh 0 = .ok (.aload_n 0, 1) := by decide +kernel
theorem dX11_weigh_1 : decode cX11_weigh 1 = .ok (.iload_n 1, 1) := by decide +kernel
theorem dX11_weigh_2 : decode cX11_weigh 2 = .ok (.bipush 12, 2) := by decide +kernel
theorem dX11_weigh_4 : decode cX11_weigh 4 = .ok (.invokevirtual 276, 3) := by decide +kernel
theorem dX11_weigh_7 : decode cX11_weigh 7 = .ok (.astore 4, 2) := by decide +kernel
theorem dX11_weigh_9 : decode cX11_weigh 9 = .ok (.aload 4, 2) := by decide +kernel
theorem dX11_weigh_11 : decode cX11_weigh 11 = .ok (.instanceof 326, 3) := by decide +kernel
theorem dX11_weigh_14 : decode cX11_weigh 14 = .ok (.ifCond .eq 18, 3) := by decide +kernel
theorem dX11_weigh_17 : decode cX11_weigh 17 = .ok (.aload 4, 2) := by decide +kernel
theorem dX11_weigh_19 : decode cX11_weigh 19 = .ok (.checkcast 326, 3) := by decide +kernel
theorem dX11_weigh_22 : decode cX11_weigh 22 = .ok (.astore_n 3, 1) := by decide +kernel
theorem dX11_weigh_23 : decode cX11_weigh 23 = .ok (.aload_n 3, 1) := by decide +kernel
theorem dX11_weigh_24 : decode cX11_weigh 24 = .ok (.iload_n 2, 1) := by decide +kernel
theorem dX11_weigh_25 : decode cX11_weigh 25 = .ok (.invokevirtual 335, 3) := by decide +kernel
theorem dX11_weigh_28 : decode cX11_weigh 28 = .ok (.i2l, 1) := by decide +kernel
theorem dX11_weigh_29 : decode cX11_weigh 29 = .ok (.goto 4, 3) := by decide +kernel
theorem dX11_weigh_32 : decode cX11_weigh 32 = .ok (.lconst 0, 1) := by decide +kernel
theorem dX11_weigh_33 : decode cX11_weigh 33 = .ok (.lreturn, 1) := by decide +kernel
theorem dX11_roll_0 : decode cX11_roll 0 = .ok (.aload_n 0, 1) := by decide +kernel
theorem dX11_roll_1 : decode cX11_roll 1 = .ok (.iload_n 1, 1) := by decide +kernel
theorem dX11_roll_2 : decode cX11_roll 2 = .ok (.bipush 14, 2) := by decide +kernel
theorem dX11_roll_4 : decode cX11_roll 4 = .ok (.invokevirtual 276, 3) := by decide +kernel
theorem dX11_roll_7 : decode cX11_roll 7 = .ok (.astore 4, 2) := by decide +kernel
theorem dX11_roll_9 : decode cX11_roll 9 = .ok (.aload 4, 2) := by decide +kernel
theorem dX11_roll_11 : decode cX11_roll 11 = .ok (.instanceof 338, 3) := by decide +kernel
theorem dX11_roll_14 : decode cX11_roll 14 = .ok (.ifCond .eq 20, 3) := by decide +kernel
theorem dX11_roll_17 : decode cX11_roll 17 = .ok (.aload 4, 2) := by decide +kernel
theorem dX11_roll_19 : decode cX11_roll 19 = .ok (.checkcast 338, 3) := by decide +kernel
theorem dX11_roll_22 : decode cX11_roll 22 = .ok (.astore_n 3, 1) := by decide +kernel
theorem dX11_roll_23 : decode cX11_roll 23 = .ok (.aload_n 3, 1) := by decide +kernel
theorem dX11_roll_24 : decode cX11_roll 24 = .ok (.iload_n 2, 1) := by decide +kernel
theorem dX11_roll_25 : decode cX11_roll 25 = .ok (.invokeinterface 340 2, 5) := by decide +kernel
theorem dX11_roll_30 : decode cX11_roll 30 = .ok (.i2l, 1) := by decide +kernel
theorem dX11_roll_31 : decode cX11_roll 31 = .ok (.goto 4, 3) := by decide +kernel
theorem dX11_roll_34 : decode cX11_roll 34 = .ok (.lconst 0, 1) := by decide +kernel
theorem dX11_roll_35 : decode cX11_roll 35 = .ok (.lreturn, 1) := by decide +kernel
theorem dX11_rim_0 : decode cX11_rim 0 = .ok (.aload_n 0, 1) := by decide +kernel
theorem dX11_rim_1 : decode cX11_rim 1 = .ok (.iload_n 1, 1) := by decide +kernel
theorem dX11_rim_2 : decode cX11_rim 2 = .ok (.bipush 13, 2) := by decide +kernel
theorem dX11_rim_4 : decode cX11_rim 4 = .ok (.invokevirtual 276, 3) := by decide +kernel
theorem dX11_rim_7 : decode cX11_rim 7 = .ok (.astore_n 3, 1) := by decide +kernel
theorem dX11_rim_8 : decode cX11_rim 8 = .ok (.aload_n 3, 1) := by decide +kernel
theorem dX11_rim_9 : decode cX11_rim 9 = .ok (.instanceof 308, 3) := by decide +kernel
theorem dX11_rim_12 : decode cX11_rim 12 = .ok (.ifCond .eq 16, 3) := by decide +kernel
theorem dX11_rim_15 : decode cX11_rim 15 = .ok (.aload_n 3, 1) := by decide +kernel
theorem dX11_rim_16 : decode cX11_rim 16 = .ok (.checkcast 308, 3) := by decide +kernel
theorem dX11_rim_19 : decode cX11_rim 19 = .ok (.astore_n 2, 1) := by decide +kernel
theorem dX11_rim_20 : decode cX11_rim 20 = .ok (.aload_n 2, 1) := by decide +kernel
theorem dX11_rim_21 : decode cX11_rim 21 = .ok (.getfield 343, 3) := by decide +kernel
theorem dX11_rim_24 : decode cX11_rim 24 = .ok (.i2l, 1) := by decide +kernel
theorem dX11_rim_25 : decode cX11_rim 25 = .ok (.goto 4, 3) := by decide +kernel
theorem dX11_rim_28 : decode cX11_rim 28 = .ok (.lconst 0, 1) := by decide +kernel
theorem dX11_rim_29 : decode cX11_rim 29 = .ok (.lreturn, 1) := by decide +kernel
theorem dX11_raise_0 : decode cX11_raise 0 = .ok (.aload_n 0, 1) := by decide +kernel
theorem dX11_raise_1 : decode cX11_raise 1 = .ok (.iload_n 1, 1) := by decide +kernel
theorem dX11_raise_2 : decode cX11_raise 2 = .ok (.bipush 15, 2) := by decide +kernel
theorem dX11_raise_4 : decode cX11_raise 4 = .ok (.invokevirtual 276, 3) := by decide +kernel
theorem dX11_raise_7 : decode cX11_raise 7 = .ok (.astore_n 3, 1) := by decide +kernel
theorem dX11_raise_8 : decode cX11_raise 8 = .ok (.aload_n 3, 1) := by decide +kernel
theorem dX11_raise_9 : decode cX11_raise 9 = .ok (.instanceof 323, 3) := by decide +kernel
theorem dX11_raise_12 : decode cX11_raise 12 = .ok (.ifCond .eq 17, 3) := by decide +kernel
theorem dX11_raise_15 : decode cX11_raise 15 = .ok (.aload_n 3, 1) := by decide +kernel
theorem dX11_raise_16 : decode cX11_raise 16 = .ok (.checkcast 323, 3) := by decide +kernel
theorem dX11_raise_19 : decode cX11_raise 19 = .ok (.astore_n 2, 1) := by decide +kernel
theorem dX11_raise_20 : decode cX11_raise 20 = .ok (.aload_n 0, 1) := by decide +kernel
theorem dX11_raise_21 : decode cX11_raise 21 = .ok (.aload_n 2, 1) := by decide +kernel
theorem dX11_raise_22 : decode cX11_raise 22 = .ok (.getfield 345, 3) := by decide +kernel
theorem dX11_raise_25 : decode cX11_raise 25 = .ok (.invokevirtual 245, 3) := by decide +kernel
theorem dX11_raise_28 : decode cX11_raise 28 = .ok (.pop, 1) := by decide +kernel
theorem dX11_raise_29 : decode cX11_raise 29 = .ok (.lconst 0, 1) := by decide +kernel
theorem dX11_raise_30 : decode cX11_raise 30 = .ok (.lreturn, 1) := by decide +kernel
theorem dX11_holdsSort_0 : decode cX11_holdsSort 0 = .ok (.aload_n 0, 1) := by decide +kernel
theorem dX11_holdsSort_1 : decode cX11_holdsSort 1 = .ok (.iload_n 1, 1) := by decide +kernel
theorem dX11_holdsSort_2 : decode cX11_holdsSort 2 = .ok (.invokevirtual 248, 3) := by decide +kernel
theorem dX11_holdsSort_5 : decode cX11_holdsSort 5 = .ok (.ifCond .eq 32, 3) := by decide +kernel
theorem dX11_holdsSort_8 : decode cX11_holdsSort 8 = .ok (.aload_n 0, 1) := by decide +kernel
theorem dX11_holdsSort_9 : decode cX11_holdsSort 9 = .ok (.getfield 11, 3) := by decide +kernel
theorem dX11_holdsSort_12 : decode cX11_holdsSort 12 = .ok (.iload_n 1, 1) := by decide +kernel
theorem dX11_holdsSort_13 : decode cX11_holdsSort 13 = .ok (.aaload, 1) := by decide +kernel
theorem dX11_holdsSort_14 : decode cX11_holdsSort 14 = .ok (.ifnull 23, 3) := by decide +kernel
theorem dX11_holdsSort_17 : decode cX11_holdsSort 17 = .ok (.aload_n 0, 1) := by decide +kernel
theorem dX11_holdsSort_18 : decode cX11_holdsSort 18 = .ok (.getfield 11, 3) := by decide +kernel
theorem dX11_holdsSort_21 : decode cX11_holdsSort 21 = .ok (.iload_n 1, 1) := by decide +kernel
theorem dX11_holdsSort_22 : decode cX11_holdsSort 22 = .ok (.aaload, 1) := by decide +kernel
theorem dX11_holdsSort_23 : decode cX11_holdsSort 23 = .ok (.iload_n 2, 1) := by decide +kernel
theorem dX11_holdsSort_24 : decode cX11_holdsSort 24 = .ok (.bipush 15, 2) := by decide +kernel
theorem dX11_holdsSort_26 : decode cX11_holdsSort 26 = .ok (.iand, 1) := by decide +kernel
theorem dX11_holdsSort_27 : decode cX11_holdsSort 27 = .ok (.invokevirtual 251, 3) := by decide +kernel
theorem dX11_holdsSort_30 : decode cX11_holdsSort 30 = .ok (.ifCond .eq 7, 3) := by decide +kernel
theorem dX11_holdsSort_33 : decode cX11_holdsSort 33 = .ok (.lconst 1, 1) := by decide +kernel
theorem dX11_holdsSort_34 : decode cX11_holdsSort 34 = .ok (.goto 4, 3) := by decide +kernel
theorem dX11_holdsSort_37 : decode cX11_holdsSort 37 = .ok (.lconst 0, 1) := by decide +kernel
theorem dX11_holdsSort_38 : decode cX11_holdsSort 38 = .ok (.lreturn, 1) := by decide +kernel
theorem dX11_clear_0 : decode cX11_clear 0 = .ok (.aload_n 0, 1) := by decide +kernel
theorem dX11_clear_1 : decode cX11_clear 1 = .ok (.iload_n 1, 1) := by decide +kernel
theorem dX11_clear_2 : decode cX11_clear 2 = .ok (.invokevirtual 248, 3) := by decide +kernel
theorem dX11_clear_5 : decode cX11_clear 5 = .ok (.ifCond .eq 10, 3) := by decide +kernel
theorem dX11_clear_8 : decode cX11_clear 8 = .ok (.aload_n 0, 1) := by decide +kernel
theorem dX11_clear_9 : decode cX11_clear 9 = .ok (.getfield 11, 3) := by decide +kernel
theorem dX11_clear_12 : decode cX11_clear 12 = .ok (.iload_n 1, 1) := by decide +kernel
theorem dX11_clear_13 : decode cX11_clear 13 = .ok (.aconst_null, 1) := by decide +kernel
theorem dX11_clear_14 : decode cX11_clear 14 = .ok (.aastore, 1) := by decide +kernel
theorem dX11_clear_15 : decode cX11_clear 15 = .ok (.lconst 0, 1) := by decide +kernel
theorem dX11_clear_16 : decode cX11_clear 16 = .ok (.lreturn, 1) := by decide +kernel
theorem dX11_move_0 : decode cX11_move 0 = .ok (.aload_n 0, 1) := by decide +kernel
theorem dX11_move_1 : decode cX11_move 1 = .ok (.iload_n 2, 1) := by decide +kernel
theorem dX11_move_2 : decode cX11_move 2 = .ok (.invokevirtual 248, 3) := by decide +kernel
theorem dX11_move_5 : decode cX11_move 5 = .ok (.ifCond .eq 23, 3) := by decide +kernel
theorem dX11_move_8 : decode cX11_move 8 = .ok (.aload_n 0, 1) := by decide +kernel
theorem dX11_move_9 : decode cX11_move 9 = .ok (.iload_n 1, 1) := by decide +kernel
theorem dX11_move_10 : decode cX11_move 10 = .ok (.invokevirtual 248, 3) := by decide +kernel
theorem dX11_move_13 : decode cX11_move 13 = .ok (.ifCond .eq 15, 3) := by decide +kernel
theorem dX11_move_16 : decode cX11_move 16 = .ok (.aload_n 0, 1) := by decide +kernel
theorem dX11_move_17 : decode cX11_move 17 = .ok (.getfield 11, 3) := by decide +kernel
theorem dX11_move_20 : decode cX11_move 20 = .ok (.iload_n 2, 1) := by decide +kernel
theorem dX11_move_21 : decode cX11_move 21 = .ok (.aload_n 0, 1) := by decide +kernel
theorem dX11_move_22 : decode cX11_move 22 = .ok (.getfield 11, 3) := by decide +kernel
theorem dX11_move_25 : decode cX11_move 25 = .ok (.iload_n 1, 1) := by decide +kernel
theorem dX11_move_26 : decode cX11_move 26 = .ok (.aaload, 1) := by decide +kernel
theorem dX11_move_27 : decode cX11_move 27 = .ok (.aastore, 1) := by decide +kernel
theorem dX11_move_28 : decode cX11_move 28 = .ok (.lconst 0, 1) := by decide +kernel
theorem dX11_move_29 : decode cX11_move 29 = .ok (.lreturn, 1) := by decide +kernel
theorem dX11_holdSame_0 : decode cX11_holdSame 0 = .ok (.aload_n 0, 1) := by decide +kernel
theorem dX11_holdSame_1 : decode cX11_holdSame 1 = .ok (.iload_n 1, 1) := by decide +kernel
theorem dX11_holdSame_2 : decode cX11_holdSame 2 = .ok (.invokevirtual 248, 3) := by decide +kernel
theorem dX11_holdSame_5 : decode cX11_holdSame 5 = .ok (.ifCond .eq 30, 3) := by decide +kernel
theorem dX11_holdSame_8 : decode cX11_holdSame 8 = .ok (.aload_n 0, 1) := by decide +kernel
theorem dX11_holdSame_9 : decode cX11_holdSame 9 = .ok (.iload_n 2, 1) := by decide +kernel
theorem dX11_holdSame_10 : decode cX11_holdSame 10 = .ok (.invokevirtual 248, 3) := by decide +kernel
theorem dX11_holdSame_13 : decode cX11_holdSame 13 = .ok (.ifCond .eq 22, 3) := by decide +kernel
theorem dX11_holdSame_16 : decode cX11_holdSame 16 = .ok (.aload_n 0, 1) := by decide +kernel
theorem dX11_holdSame_17 : decode cX11_holdSame 17 = .ok (.getfield 11, 3) := by decide +kernel
theorem dX11_holdSame_20 : decode cX11_holdSame 20 = .ok (.iload_n 1, 1) := by decide +kernel
theorem dX11_holdSame_21 : decode cX11_holdSame 21 = .ok (.aaload, 1) := by decide +kernel
theorem dX11_holdSame_22 : decode cX11_holdSame 22 = .ok (.aload_n 0, 1) := by decide +kernel
theorem dX11_holdSame_23 : decode cX11_holdSame 23 = .ok (.getfield 11, 3) := by decide +kernel
theorem dX11_holdSame_26 : decode cX11_holdSame 26 = .ok (.iload_n 2, 1) := by decide +kernel
theorem dX11_holdSame_27 : decode cX11_holdSame 27 = .ok (.aaload, 1) := by decide +kernel
theorem dX11_holdSame_28 : decode cX11_holdSame 28 = .ok (.if_acmp .ne 7, 3) := by decide +kernel
theorem dX11_holdSame_31 : decode cX11_holdSame 31 = .ok (.lconst 1, 1) := by decide +kernel
theorem dX11_holdSame_32 : decode cX11_holdSame 32 = .ok (.goto 4, 3) := by decide +kernel
theorem dX11_holdSame_35 : decode cX11_holdSame 35 = .ok (.lconst 0, 1) := by decide +kernel
theorem dX11_holdSame_36 : decode cX11_holdSame 36 = .ok (.lreturn, 1) := by decide +kernel
theorem dX11_copy_0 : decode cX11_copy 0 = .ok (.aload_n 0, 1) := by decide +kernel
theorem dX11_copy_1 : decode cX11_copy 1 = .ok (.iload_n 1, 1) := by decide +kernel
theorem dX11_copy_2 : decode cX11_copy 2 = .ok (.invokevirtual 248, 3) := by decide +kernel
theorem dX11_copy_5 : decode cX11_copy 5 = .ok (.ifCond .eq 37, 3) := by decide +kernel
theorem dX11_copy_8 : decode cX11_copy 8 = .ok (.aload_n 0, 1) := by decide +kernel
theorem dX11_copy_9 : decode cX11_copy 9 = .ok (.iload_n 2, 1) := by decide +kernel
theorem dX11_copy_10 : decode cX11_copy 10 = .ok (.invokevirtual 248, 3) := by decide +kernel
theorem dX11_copy_13 : decode cX11_copy 13 = .ok (.ifCond .eq 29, 3) := by decide +kernel
theorem dX11_copy_16 : decode cX11_copy 16 = .ok (.aload_n 0, 1) := by decide +kernel
theorem dX11_copy_17 : decode cX11_copy 17 = .ok (.aload_n 0, 1) := by decide +kernel
theorem dX11_copy_18 : decode cX11_copy 18 = .ok (.getfield 11, 3) := by decide +kernel
theorem dX11_copy_21 : decode cX11_copy 21 = .ok (.iload_n 1, 1) := by decide +kernel
theorem dX11_copy_22 : decode cX11_copy 22 = .ok (.aaload, 1) := by decide +kernel
theorem dX11_copy_23 : decode cX11_copy 23 = .ok (.invokevirtual 258, 3) := by decide +kernel
theorem dX11_copy_26 : decode cX11_copy 26 = .ok (.ifCond .eq 16, 3) := by decide +kernel
theorem dX11_copy_29 : decode cX11_copy 29 = .ok (.aload_n 0, 1) := by decide +kernel
theorem dX11_copy_30 : decode cX11_copy 30 = .ok (.aload_n 0, 1) := by decide +kernel
theorem dX11_copy_31 : decode cX11_copy 31 = .ok (.getfield 11, 3) := by decide +kernel
theorem dX11_copy_34 : decode cX11_copy 34 = .ok (.iload_n 2, 1) := by decide +kernel
theorem dX11_copy_35 : decode cX11_copy 35 = .ok (.aaload, 1) := by decide +kernel
theorem dX11_copy_36 : decode cX11_copy 36 = .ok (.invokevirtual 258, 3) := by decide +kernel
theorem dX11_copy_39 : decode cX11_copy 39 = .ok (.ifCond .ne 5, 3) := by decide +kernel
theorem dX11_copy_42 : decode cX11_copy 42 = .ok (.lconst 0, 1) := by decide +kernel
theorem dX11_copy_43 : decode cX11_copy 43 = .ok (.lreturn, 1) := by decide +kernel
theorem dX11_copy_44 : decode cX11_copy 44 = .ok (.iload_n 3, 1) := by decide +kernel
theorem dX11_copy_45 : decode cX11_copy 45 = .ok (.bipush 16, 2) := by decide +kernel
theorem dX11_copy_47 : decode cX11_copy 47 = .ok (.ishr, 1) := by decide +kernel
theorem dX11_copy_48 : decode cX11_copy 48 = .ok (.i2b, 1) := by decide +kernel
theorem dX11_copy_49 : decode cX11_copy 49 = .ok (.istore 4, 2) := by decide +kernel
theorem dX11_copy_51 : decode cX11_copy 51 = .ok (.iload_n 3, 1) := by decide +kernel
theorem dX11_copy_52 : decode cX11_copy 52 = .ok (.bipush 8, 2) := by decide +kernel
theorem dX11_copy_54 : decode cX11_copy 54 = .ok (.ishr, 1) := by decide +kernel
theorem dX11_copy_55 : decode cX11_copy 55 = .ok (.i2b, 1) := by decide +kernel
theorem dX11_copy_56 : decode cX11_copy 56 = .ok (.istore 5, 2) := by decide +kernel
theorem dX11_copy_58 : decode cX11_copy 58 = .ok (.iload_n 3, 1) := by decide +kernel
theorem dX11_copy_59 : decode cX11_copy 59 = .ok (.i2b, 1) := by decide +kernel
theorem dX11_copy_60 : decode cX11_copy 60 = .ok (.istore 6, 2) := by decide +kernel
theorem dX11_copy_62 : decode cX11_copy 62 = .ok (.aload_n 0, 1) := by decide +kernel
theorem dX11_copy_63 : decode cX11_copy 63 = .ok (.getfield 11, 3) := by decide +kernel
theorem dX11_copy_66 : decode cX11_copy 66 = .ok (.iload_n 1, 1) := by decide +kernel
theorem dX11_copy_67 : decode cX11_copy 67 = .ok (.aaload, 1) := by decide +kernel
theorem dX11_copy_68 : decode cX11_copy 68 = .ok (.astore 7, 2) := by decide +kernel
theorem dX11_copy_70 : decode cX11_copy 70 = .ok (.aload_n 0, 1) := by decide +kernel
theorem dX11_copy_71 : decode cX11_copy 71 = .ok (.getfield 11, 3) := by decide +kernel
theorem dX11_copy_74 : decode cX11_copy 74 = .ok (.iload_n 2, 1) := by decide +kernel
theorem dX11_copy_75 : decode cX11_copy 75 = .ok (.aaload, 1) := by decide +kernel
theorem dX11_copy_76 : decode cX11_copy 76 = .ok (.astore 8, 2) := by decide +kernel
theorem dX11_copy_78 : decode cX11_copy 78 = .ok (.aload 7, 2) := by decide +kernel
theorem dX11_copy_80 : decode cX11_copy 80 = .ok (.instanceof 268, 3) := by decide +kernel
theorem dX11_copy_83 : decode cX11_copy 83 = .ok (.ifCond .eq 55, 3) := by decide +kernel
theorem dX11_copy_86 : decode cX11_copy 86 = .ok (.aload 7, 2) := by decide +kernel
theorem dX11_copy_88 : decode cX11_copy 88 = .ok (.checkcast 268, 3) := by decide +kernel
theorem dX11_copy_91 : decode cX11_copy 91 = .ok (.astore 9, 2) := by decide +kernel
theorem dX11_copy_93 : decode cX11_copy 93 = .ok (.aload 8, 2) := by decide +kernel
theorem dX11_copy_95 : decode cX11_copy 95 = .ok (.instanceof 268, 3) := by decide +kernel
theorem dX11_copy_98 : decode cX11_copy 98 = .ok (.ifCond .eq 40, 3) := by decide +kernel
theorem dX11_copy_101 : decode cX11_copy 101 = .ok (.aload 8, 2) := by decide +kernel
theorem dX11_copy_103 : decode cX11_copy 103 = .ok (.checkcast 268, 3) := by decide +kernel
theorem dX11_copy_106 : decode cX11_copy 106 = .ok (.astore 10, 2) := by decide +kernel
theorem dX11_copy_108 : decode cX11_copy 108 = .ok (.aload 9, 2) := by decide +kernel
