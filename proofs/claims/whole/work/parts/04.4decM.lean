theorem dX12_rows_166 : decode cX12_rows 166 = .ok (.iaload, 1) := by decide +kernel
theorem dX12_rows_167 : decode cX12_rows 167 = .ok (.iload 4, 2) := by decide +kernel
theorem dX12_rows_169 : decode cX12_rows 169 = .ok (.invokevirtual 140, 3) := by decide +kernel
theorem dX12_rows_172 : decode cX12_rows 172 = .ok (.lreturn, 1) := by decide +kernel
theorem dX12_rows_173 : decode cX12_rows 173 = .ok (.aload_n 0, 1) := by decide +kernel
theorem dX12_rows_174 : decode cX12_rows 174 = .ok (.aload_n 0, 1) := by decide +kernel
theorem dX12_rows_175 : decode cX12_rows 175 = .ok (.getfield 34, 3) := by decide +kernel
theorem dX12_rows_178 : decode cX12_rows 178 = .ok (.iload_n 2, 1) := by decide +kernel
theorem dX12_rows_179 : decode cX12_rows 179 = .ok (.iaload, 1) := by decide +kernel
theorem dX12_rows_180 : decode cX12_rows 180 = .ok (.iload 4, 2) := by decide +kernel
theorem dX12_rows_182 : decode cX12_rows 182 = .ok (.iload 5, 2) := by decide +kernel
theorem dX12_rows_184 : decode cX12_rows 184 = .ok (.aload_n 0, 1) := by decide +kernel
theorem dX12_rows_185 : decode cX12_rows 185 = .ok (.getfield 143, 3) := by decide +kernel
theorem dX12_rows_188 : decode cX12_rows 188 = .ok (.invokestatic 147, 3) := by decide +kernel
theorem dX12_rows_191 : decode cX12_rows 191 = .ok (.invokevirtual 151, 3) := by decide +kernel
theorem dX12_rows_194 : decode cX12_rows 194 = .ok (.aload_n 0, 1) := by decide +kernel
theorem dX12_rows_195 : decode cX12_rows 195 = .ok (.getfield 143, 3) := by decide +kernel
theorem dX12_rows_198 : decode cX12_rows 198 = .ok (.lreturn, 1) := by decide +kernel
theorem dX12_rows_199 : decode cX12_rows 199 = .ok (.aload_n 0, 1) := by decide +kernel
theorem dX12_rows_200 : decode cX12_rows 200 = .ok (.iload_n 2, 1) := by decide +kernel
theorem dX12_rows_201 : decode cX12_rows 201 = .ok (.iload 5, 2) := by decide +kernel
theorem dX12_rows_203 : decode cX12_rows 203 = .ok (.invokevirtual 131, 3) := by decide +kernel
theorem dX12_rows_206 : decode cX12_rows 206 = .ok (.ifCond .eq 11, 3) := by decide +kernel
theorem dX12_rows_209 : decode cX12_rows 209 = .ok (.aload_n 0, 1) := by decide +kernel
theorem dX12_rows_210 : decode cX12_rows 210 = .ok (.iload_n 2, 1) := by decide +kernel
theorem dX12_rows_211 : decode cX12_rows 211 = .ok (.invokevirtual 134, 3) := by decide +kernel
theorem dX12_rows_214 : decode cX12_rows 214 = .ok (.ifCond .ne 8, 3) := by decide +kernel
theorem dX12_rows_217 : decode cX12_rows 217 = .ok (.aload_n 0, 1) := by decide +kernel
theorem dX12_rows_218 : decode cX12_rows 218 = .ok (.invokevirtual 107, 3) := by decide +kernel
theorem dX12_rows_221 : decode cX12_rows 221 = .ok (.lreturn, 1) := by decide +kernel
theorem dX12_rows_222 : decode cX12_rows 222 = .ok (.aload_n 0, 1) := by decide +kernel
theorem dX12_rows_223 : decode cX12_rows 223 = .ok (.getfield 16, 3) := by decide +kernel
theorem dX12_rows_226 : decode cX12_rows 226 = .ok (.aload_n 0, 1) := by decide +kernel
theorem dX12_rows_227 : decode cX12_rows 227 = .ok (.getfield 34, 3) := by decide +kernel
theorem dX12_rows_230 : decode cX12_rows 230 = .ok (.iload_n 2, 1) := by decide +kernel
theorem dX12_rows_231 : decode cX12_rows 231 = .ok (.iaload, 1) := by decide +kernel
theorem dX12_rows_232 : decode cX12_rows 232 = .ok (.iaload, 1) := by decide +kernel
theorem dX12_rows_233 : decode cX12_rows 233 = .ok (.i2l, 1) := by decide +kernel
theorem dX12_rows_234 : decode cX12_rows 234 = .ok (.lreturn, 1) := by decide +kernel
theorem dX12_rows_235 : decode cX12_rows 235 = .ok (.aload_n 0, 1) := by decide +kernel
theorem dX12_rows_236 : decode cX12_rows 236 = .ok (.iload_n 2, 1) := by decide +kernel
theorem dX12_rows_237 : decode cX12_rows 237 = .ok (.invokevirtual 83, 3) := by decide +kernel
theorem dX12_rows_240 : decode cX12_rows 240 = .ok (.ifCond .eq 26, 3) := by decide +kernel
theorem dX12_rows_243 : decode cX12_rows 243 = .ok (.aload_n 0, 1) := by decide +kernel
theorem dX12_rows_244 : decode cX12_rows 244 = .ok (.iload_n 3, 1) := by decide +kernel
theorem dX12_rows_245 : decode cX12_rows 245 = .ok (.bipush 9, 2) := by decide +kernel
theorem dX12_rows_247 : decode cX12_rows 247 = .ok (.irem, 1) := by decide +kernel
theorem dX12_rows_248 : decode cX12_rows 248 = .ok (.invokevirtual 125, 3) := by decide +kernel
theorem dX12_rows_251 : decode cX12_rows 251 = .ok (.ifCond .eq 15, 3) := by decide +kernel
theorem dX12_rows_254 : decode cX12_rows 254 = .ok (.aload_n 0, 1) := by decide +kernel
theorem dX12_rows_255 : decode cX12_rows 255 = .ok (.iload 4, 2) := by decide +kernel
theorem dX12_rows_257 : decode cX12_rows 257 = .ok (.bipush 9, 2) := by decide +kernel
theorem dX12_rows_259 : decode cX12_rows 259 = .ok (.irem, 1) := by decide +kernel
theorem dX12_rows_260 : decode cX12_rows 260 = .ok (.invokevirtual 125, 3) := by decide +kernel
theorem dX12_rows_263 : decode cX12_rows 263 = .ok (.ifCond .ne 8, 3) := by decide +kernel
theorem dX12_rows_266 : decode cX12_rows 266 = .ok (.aload_n 0, 1) := by decide +kernel
theorem dX12_rows_267 : decode cX12_rows 267 = .ok (.invokevirtual 107, 3) := by decide +kernel
theorem dX12_rows_270 : decode cX12_rows 270 = .ok (.lreturn, 1) := by decide +kernel
theorem dX12_rows_271 : decode cX12_rows 271 = .ok (.aload_n 0, 1) := by decide +kernel
theorem dX12_rows_272 : decode cX12_rows 272 = .ok (.getfield 52, 3) := by decide +kernel
theorem dX12_rows_275 : decode cX12_rows 275 = .ok (.iconst 0, 1) := by decide +kernel
theorem dX12_rows_276 : decode cX12_rows 276 = .ok (.aload_n 0, 1) := by decide +kernel
theorem dX12_rows_277 : decode cX12_rows 277 = .ok (.bipush 8, 2) := by decide +kernel
theorem dX12_rows_279 : decode cX12_rows 279 = .ok (.iload_n 3, 1) := by decide +kernel
theorem dX12_rows_280 : decode cX12_rows 280 = .ok (.bipush 9, 2) := by decide +kernel
theorem dX12_rows_282 : decode cX12_rows 282 = .ok (.irem, 1) := by decide +kernel
theorem dX12_rows_283 : decode cX12_rows 283 = .ok (.invokevirtual 128, 3) := by decide +kernel
theorem dX12_rows_286 : decode cX12_rows 286 = .ok (.iastore, 1) := by decide +kernel
theorem dX12_rows_287 : decode cX12_rows 287 = .ok (.aload_n 0, 1) := by decide +kernel
theorem dX12_rows_288 : decode cX12_rows 288 = .ok (.iconst 1, 1) := by decide +kernel
theorem dX12_rows_289 : decode cX12_rows 289 = .ok (.putfield 69, 3) := by decide +kernel
theorem dX12_rows_292 : decode cX12_rows 292 = .ok (.iconst 0, 1) := by decide +kernel
theorem dX12_rows_293 : decode cX12_rows 293 = .ok (.istore 6, 2) := by decide +kernel
theorem dX12_rows_295 : decode cX12_rows 295 = .ok (.iload 6, 2) := by decide +kernel
theorem dX12_rows_297 : decode cX12_rows 297 = .ok (.iload_n 3, 1) := by decide +kernel
theorem dX12_rows_298 : decode cX12_rows 298 = .ok (.bipush 9, 2) := by decide +kernel
theorem dX12_rows_300 : decode cX12_rows 300 = .ok (.irem, 1) := by decide +kernel
theorem dX12_rows_301 : decode cX12_rows 301 = .ok (.if_icmp .ge 36, 3) := by decide +kernel
theorem dX12_rows_304 : decode cX12_rows 304 = .ok (.aload_n 0, 1) := by decide +kernel
theorem dX12_rows_305 : decode cX12_rows 305 = .ok (.iconst 0, 1) := by decide +kernel
theorem dX12_rows_306 : decode cX12_rows 306 = .ok (.iload 4, 2) := by decide +kernel
theorem dX12_rows_308 : decode cX12_rows 308 = .ok (.bipush 9, 2) := by decide +kernel
theorem dX12_rows_310 : decode cX12_rows 310 = .ok (.irem, 1) := by decide +kernel
theorem dX12_rows_311 : decode cX12_rows 311 = .ok (.invokevirtual 128, 3) := by decide +kernel
theorem dX12_rows_314 : decode cX12_rows 314 = .ok (.istore 7, 2) := by decide +kernel
theorem dX12_rows_316 : decode cX12_rows 316 = .ok (.aload_n 0, 1) := by decide +kernel
theorem dX12_rows_317 : decode cX12_rows 317 = .ok (.aload_n 0, 1) := by decide +kernel
theorem dX12_rows_318 : decode cX12_rows 318 = .ok (.getfield 52, 3) := by decide +kernel
theorem dX12_rows_321 : decode cX12_rows 321 = .ok (.iconst 0, 1) := by decide +kernel
theorem dX12_rows_322 : decode cX12_rows 322 = .ok (.iaload, 1) := by decide +kernel
theorem dX12_rows_323 : decode cX12_rows 323 = .ok (.iload 6, 2) := by decide +kernel
theorem dX12_rows_325 : decode cX12_rows 325 = .ok (.iload 7, 2) := by decide +kernel
theorem dX12_rows_327 : decode cX12_rows 327 = .ok (.i2l, 1) := by decide +kernel
theorem dX12_rows_328 : decode cX12_rows 328 = .ok (.invokevirtual 151, 3) := by decide +kernel
theorem dX12_rows_331 : decode cX12_rows 331 = .ok (.iinc 6 1, 3) := by decide +kernel
theorem dX12_rows_334 : decode cX12_rows 334 = .ok (.goto (-39), 3) := by decide +kernel
theorem dX12_rows_337 : decode cX12_rows 337 = .ok (.aload_n 0, 1) := by decide +kernel
theorem dX12_rows_338 : decode cX12_rows 338 = .ok (.getfield 34, 3) := by decide +kernel
theorem dX12_rows_341 : decode cX12_rows 341 = .ok (.iload_n 2, 1) := by decide +kernel
theorem dX12_rows_342 : decode cX12_rows 342 = .ok (.aload_n 0, 1) := by decide +kernel
theorem dX12_rows_343 : decode cX12_rows 343 = .ok (.getfield 52, 3) := by decide +kernel
theorem dX12_rows_346 : decode cX12_rows 346 = .ok (.iconst 0, 1) := by decide +kernel
theorem dX12_rows_347 : decode cX12_rows 347 = .ok (.iaload, 1) := by decide +kernel
theorem dX12_rows_348 : decode cX12_rows 348 = .ok (.iastore, 1) := by decide +kernel
theorem dX12_rows_349 : decode cX12_rows 349 = .ok (.aload_n 0, 1) := by decide +kernel
theorem dX12_rows_350 : decode cX12_rows 350 = .ok (.iconst 0, 1) := by decide +kernel
theorem dX12_rows_351 : decode cX12_rows 351 = .ok (.putfield 69, 3) := by decide +kernel
theorem dX12_rows_354 : decode cX12_rows 354 = .ok (.aload_n 0, 1) := by decide +kernel
theorem dX12_rows_355 : decode cX12_rows 355 = .ok (.getfield 49, 3) := by decide +kernel
theorem dX12_rows_358 : decode cX12_rows 358 = .ok (.iconst 5, 1) := by decide +kernel
theorem dX12_rows_359 : decode cX12_rows 359 = .ok (.dup2, 1) := by decide +kernel
theorem dX12_rows_360 : decode cX12_rows 360 = .ok (.iaload, 1) := by decide +kernel
theorem dX12_rows_361 : decode cX12_rows 361 = .ok (.iconst 1, 1) := by decide +kernel
theorem dX12_rows_362 : decode cX12_rows 362 = .ok (.iadd, 1) := by decide +kernel
theorem dX12_rows_363 : decode cX12_rows 363 = .ok (.iastore, 1) := by decide +kernel
theorem dX12_rows_364 : decode cX12_rows 364 = .ok (.lconst 0, 1) := by decide +kernel
theorem dX12_rows_365 : decode cX12_rows 365 = .ok (.lreturn, 1) := by decide +kernel
theorem dX12_rows_366 : decode cX12_rows 366 = .ok (.aload_n 0, 1) := by decide +kernel
theorem dX12_rows_367 : decode cX12_rows 367 = .ok (.iload_n 2, 1) := by decide +kernel
theorem dX12_rows_368 : decode cX12_rows 368 = .ok (.bipush 8, 2) := by decide +kernel
theorem dX12_rows_370 : decode cX12_rows 370 = .ok (.invokevirtual 131, 3) := by decide +kernel
theorem dX12_rows_373 : decode cX12_rows 373 = .ok (.ifCond .eq 25, 3) := by decide +kernel
theorem dX12_rows_376 : decode cX12_rows 376 = .ok (.aload_n 0, 1) := by decide +kernel
theorem dX12_rows_377 : decode cX12_rows 377 = .ok (.iload_n 2, 1) := by decide +kernel
theorem dX12_rows_378 : decode cX12_rows 378 = .ok (.invokevirtual 134, 3) := by decide +kernel
theorem dX12_rows_381 : decode cX12_rows 381 = .ok (.ifCond .eq 17, 3) := by decide +kernel
theorem dX12_rows_384 : decode cX12_rows 384 = .ok (.aload_n 0, 1) := by decide +kernel
theorem dX12_rows_385 : decode cX12_rows 385 = .ok (.aload_n 0, 1) := by decide +kernel
theorem dX12_rows_386 : decode cX12_rows 386 = .ok (.getfield 34, 3) := by decide +kernel
theorem dX12_rows_389 : decode cX12_rows 389 = .ok (.iload_n 2, 1) := by decide +kernel
theorem dX12_rows_390 : decode cX12_rows 390 = .ok (.iaload, 1) := by decide +kernel
theorem dX12_rows_391 : decode cX12_rows 391 = .ok (.iload_n 3, 1) := by decide +kernel
theorem dX12_rows_392 : decode cX12_rows 392 = .ok (.invokevirtual 137, 3) := by decide +kernel
theorem dX12_rows_395 : decode cX12_rows 395 = .ok (.ifCond .ne 8, 3) := by decide +kernel
theorem dX12_rows_398 : decode cX12_rows 398 = .ok (.aload_n 0, 1) := by decide +kernel
theorem dX12_rows_399 : decode cX12_rows 399 = .ok (.invokevirtual 107, 3) := by decide +kernel
theorem dX12_rows_402 : decode cX12_rows 402 = .ok (.lreturn, 1) := by decide +kernel
theorem dX12_rows_403 : decode cX12_rows 403 = .ok (.aload_n 0, 1) := by decide +kernel
theorem dX12_rows_404 : decode cX12_rows 404 = .ok (.aload_n 0, 1) := by decide +kernel
theorem dX12_rows_405 : decode cX12_rows 405 = .ok (.getfield 34, 3) := by decide +kernel
theorem dX12_rows_408 : decode cX12_rows 408 = .ok (.iload_n 2, 1) := by decide +kernel
theorem dX12_rows_409 : decode cX12_rows 409 = .ok (.iaload, 1) := by decide +kernel
theorem dX12_rows_410 : decode cX12_rows 410 = .ok (.iload_n 3, 1) := by decide +kernel
theorem dX12_rows_411 : decode cX12_rows 411 = .ok (.invokevirtual 140, 3) := by decide +kernel
theorem dX12_rows_414 : decode cX12_rows 414 = .ok (.l2i, 1) := by decide +kernel
theorem dX12_rows_415 : decode cX12_rows 415 = .ok (.istore 6, 2) := by decide +kernel
theorem dX12_rows_417 : decode cX12_rows 417 = .ok (.iload 6, 2) := by decide +kernel
theorem dX12_rows_419 : decode cX12_rows 419 = .ok (.ifCond .ne 14, 3) := by decide +kernel
theorem dX12_rows_422 : decode cX12_rows 422 = .ok (.aload_n 0, 1) := by decide +kernel
theorem dX12_rows_423 : decode cX12_rows 423 = .ok (.iconst 1, 1) := by decide +kernel
theorem dX12_rows_424 : decode cX12_rows 424 = .ok (.invokevirtual 79, 3) := by decide +kernel
theorem dX12_rows_427 : decode cX12_rows 427 = .ok (.pop, 1) := by decide +kernel
theorem dX12_rows_428 : decode cX12_rows 428 = .ok (.aload_n 0, 1) := by decide +kernel
theorem dX12_rows_429 : decode cX12_rows 429 = .ok (.invokevirtual 107, 3) := by decide +kernel
theorem dX12_rows_432 : decode cX12_rows 432 = .ok (.lreturn, 1) := by decide +kernel
theorem dX12_rows_433 : decode cX12_rows 433 = .ok (.aload_n 0, 1) := by decide +kernel
theorem dX12_rows_434 : decode cX12_rows 434 = .ok (.iload 6, 2) := by decide +kernel
theorem dX12_rows_436 : decode cX12_rows 436 = .ok (.iload 4, 2) := by decide +kernel
theorem dX12_rows_438 : decode cX12_rows 438 = .ok (.invokevirtual 137, 3) := by decide +kernel
theorem dX12_rows_441 : decode cX12_rows 441 = .ok (.ifCond .ne 8, 3) := by decide +kernel
theorem dX12_rows_444 : decode cX12_rows 444 = .ok (.aload_n 0, 1) := by decide +kernel
theorem dX12_rows_445 : decode cX12_rows 445 = .ok (.invokevirtual 107, 3) := by decide +kernel
theorem dX12_rows_448 : decode cX12_rows 448 = .ok (.lreturn, 1) := by decide +kernel
theorem dX12_rows_449 : decode cX12_rows 449 = .ok (.iload_n 1, 1) := by decide +kernel
theorem dX12_rows_450 : decode cX12_rows 450 = .ok (.iconst 5, 1) := by decide +kernel
theorem dX12_rows_451 : decode cX12_rows 451 = .ok (.if_icmp .ne 12, 3) := by decide +kernel
theorem dX12_rows_454 : decode cX12_rows 454 = .ok (.aload_n 0, 1) := by decide +kernel
theorem dX12_rows_455 : decode cX12_rows 455 = .ok (.iload 6, 2) := by decide +kernel
theorem dX12_rows_457 : decode cX12_rows 457 = .ok (.iload 4, 2) := by decide +kernel
theorem dX12_rows_459 : decode cX12_rows 459 = .ok (.invokevirtual 140, 3) := by decide +kernel
theorem dX12_rows_462 : decode cX12_rows 462 = .ok (.lreturn, 1) := by decide +kernel
theorem dX12_rows_463 : decode cX12_rows 463 = .ok (.aload_n 0, 1) := by decide +kernel
theorem dX12_rows_464 : decode cX12_rows 464 = .ok (.iload 6, 2) := by decide +kernel
theorem dX12_rows_466 : decode cX12_rows 466 = .ok (.iload 4, 2) := by decide +kernel
theorem dX12_rows_468 : decode cX12_rows 468 = .ok (.aload_n 0, 1) := by decide +kernel
theorem dX12_rows_469 : decode cX12_rows 469 = .ok (.getfield 143, 3) := by decide +kernel
theorem dX12_rows_472 : decode cX12_rows 472 = .ok (.l2i, 1) := by decide +kernel
theorem dX12_rows_473 : decode cX12_rows 473 = .ok (.i2l, 1) := by decide +kernel
theorem dX12_rows_474 : decode cX12_rows 474 = .ok (.invokevirtual 151, 3) := by decide +kernel
theorem dX12_rows_477 : decode cX12_rows 477 = .ok (.lconst 0, 1) := by decide +kernel
theorem dX12_rows_478 : decode cX12_rows 478 = .ok (.lreturn, 1) := by decide +kernel
theorem dX12_rows_479 : decode cX12_rows 479 = .ok (.aload_n 0, 1) := by decide +kernel
theorem dX12_rows_480 : decode cX12_rows 480 = .ok (.iload 4, 2) := by decide +kernel
theorem dX12_rows_482 : decode cX12_rows 482 = .ok (.invokevirtual 83, 3) := by decide +kernel
theorem dX12_rows_485 : decode cX12_rows 485 = .ok (.ifCond .eq 35, 3) := by decide +kernel
theorem dX12_rows_488 : decode cX12_rows 488 = .ok (.aload_n 0, 1) := by decide +kernel
theorem dX12_rows_489 : decode cX12_rows 489 = .ok (.iload_n 2, 1) := by decide +kernel
theorem dX12_rows_490 : decode cX12_rows 490 = .ok (.bipush 8, 2) := by decide +kernel
theorem dX12_rows_492 : decode cX12_rows 492 = .ok (.invokevirtual 131, 3) := by decide +kernel
theorem dX12_rows_495 : decode cX12_rows 495 = .ok (.ifCond .eq 25, 3) := by decide +kernel
theorem dX12_rows_498 : decode cX12_rows 498 = .ok (.aload_n 0, 1) := by decide +kernel
theorem dX12_rows_499 : decode cX12_rows 499 = .ok (.iload_n 2, 1) := by decide +kernel
theorem dX12_rows_500 : decode cX12_rows 500 = .ok (.invokevirtual 134, 3) := by decide +kernel
theorem dX12_rows_503 : decode cX12_rows 503 = .ok (.ifCond .eq 17, 3) := by decide +kernel
theorem dX12_rows_506 : decode cX12_rows 506 = .ok (.aload_n 0, 1) := by decide +kernel
theorem dX12_rows_507 : decode cX12_rows 507 = .ok (.aload_n 0, 1) := by decide +kernel
theorem dX12_rows_508 : decode cX12_rows 508 = .ok (.getfield 34, 3) := by decide +kernel
theorem dX12_rows_511 : decode cX12_rows 511 = .ok (.iload_n 2, 1) := by decide +kernel
theorem dX12_rows_512 : decode cX12_rows 512 = .ok (.iaload, 1) := by decide +kernel
theorem dX12_rows_513 : decode cX12_rows 513 = .ok (.iload_n 3, 1) := by decide +kernel
theorem dX12_rows_514 : decode cX12_rows 514 = .ok (.invokevirtual 137, 3) := by decide +kernel
theorem dX12_rows_517 : decode cX12_rows 517 = .ok (.ifCond .ne 8, 3) := by decide +kernel
theorem dX12_rows_520 : decode cX12_rows 520 = .ok (.aload_n 0, 1) := by decide +kernel
theorem dX12_rows_521 : decode cX12_rows 521 = .ok (.invokevirtual 107, 3) := by decide +kernel
theorem dX12_rows_524 : decode cX12_rows 524 = .ok (.lreturn, 1) := by decide +kernel
theorem dX12_rows_525 : decode cX12_rows 525 = .ok (.aload_n 0, 1) := by decide +kernel
theorem dX12_rows_526 : decode cX12_rows 526 = .ok (.getfield 34, 3) := by decide +kernel
theorem dX12_rows_529 : decode cX12_rows 529 = .ok (.iload 4, 2) := by decide +kernel
theorem dX12_rows_531 : decode cX12_rows 531 = .ok (.aload_n 0, 1) := by decide +kernel
theorem dX12_rows_532 : decode cX12_rows 532 = .ok (.aload_n 0, 1) := by decide +kernel
theorem dX12_rows_533 : decode cX12_rows 533 = .ok (.getfield 34, 3) := by decide +kernel
theorem dX12_rows_536 : decode cX12_rows 536 = .ok (.iload_n 2, 1) := by decide +kernel
theorem dX12_rows_537 : decode cX12_rows 537 = .ok (.iaload, 1) := by decide +kernel
theorem dX12_rows_538 : decode cX12_rows 538 = .ok (.iload_n 3, 1) := by decide +kernel
theorem dX12_rows_539 : decode cX12_rows 539 = .ok (.invokevirtual 140, 3) := by decide +kernel
theorem dX12_rows_542 : decode cX12_rows 542 = .ok (.l2i, 1) := by decide +kernel
theorem dX12_rows_543 : decode cX12_rows 543 = .ok (.iastore, 1) := by decide +kernel
theorem dX12_rows_544 : decode cX12_rows 544 = .ok (.lconst 0, 1) := by decide +kernel
theorem dX12_rows_545 : decode cX12_rows 545 = .ok (.lreturn, 1) := by decide +kernel
theorem dX12_rows_546 : decode cX12_rows 546 = .ok (.aload_n 0, 1) := by decide +kernel
theorem dX12_rows_547 : decode cX12_rows 547 = .ok (.iload_n 2, 1) := by decide +kernel
theorem dX12_rows_548 : decode cX12_rows 548 = .ok (.bipush 8, 2) := by decide +kernel
theorem dX12_rows_550 : decode cX12_rows 550 = .ok (.invokevirtual 131, 3) := by decide +kernel
theorem dX12_rows_553 : decode cX12_rows 553 = .ok (.ifCond .eq 35, 3) := by decide +kernel
theorem dX12_rows_556 : decode cX12_rows 556 = .ok (.aload_n 0, 1) := by decide +kernel
theorem dX12_rows_557 : decode cX12_rows 557 = .ok (.iload 4, 2) := by decide +kernel
theorem dX12_rows_559 : decode cX12_rows 559 = .ok (.iconst 0, 1) := by decide +kernel
theorem dX12_rows_560 : decode cX12_rows 560 = .ok (.invokevirtual 131, 3) := by decide +kernel
theorem dX12_rows_563 : decode cX12_rows 563 = .ok (.ifCond .eq 25, 3) := by decide +kernel
theorem dX12_rows_566 : decode cX12_rows 566 = .ok (.aload_n 0, 1) := by decide +kernel
theorem dX12_rows_567 : decode cX12_rows 567 = .ok (.iload_n 2, 1) := by decide +kernel
theorem dX12_rows_568 : decode cX12_rows 568 = .ok (.invokevirtual 134, 3) := by decide +kernel
theorem dX12_rows_571 : decode cX12_rows 571 = .ok (.ifCond .eq 17, 3) := by decide +kernel
theorem dX12_rows_574 : decode cX12_rows 574 = .ok (.aload_n 0, 1) := by decide +kernel
theorem dX12_rows_575 : decode cX12_rows 575 = .ok (.aload_n 0, 1) := by decide +kernel
theorem dX12_rows_576 : decode cX12_rows 576 = .ok (.getfield 34, 3) := by decide +kernel
theorem dX12_rows_579 : decode cX12_rows 579 = .ok (.iload_n 2, 1) := by decide +kernel
theorem dX12_rows_580 : decode cX12_rows 580 = .ok (.iaload, 1) := by decide +kernel
theorem dX12_rows_581 : decode cX12_rows 581 = .ok (.iload_n 3, 1) := by decide +kernel
theorem dX12_rows_582 : decode cX12_rows 582 = .ok (.invokevirtual 137, 3) := by decide +kernel
theorem dX12_rows_585 : decode cX12_rows 585 = .ok (.ifCond .ne 8, 3) := by decide +kernel
theorem dX12_rows_588 : decode cX12_rows 588 = .ok (.aload_n 0, 1) := by decide +kernel
theorem dX12_rows_589 : decode cX12_rows 589 = .ok (.invokevirtual 107, 3) := by decide +kernel
theorem dX12_rows_592 : decode cX12_rows 592 = .ok (.lreturn, 1) := by decide +kernel
theorem dX12_rows_593 : decode cX12_rows 593 = .ok (.aload_n 0, 1) := by decide +kernel
theorem dX12_rows_594 : decode cX12_rows 594 = .ok (.aload_n 0, 1) := by decide +kernel
theorem dX12_rows_595 : decode cX12_rows 595 = .ok (.getfield 34, 3) := by decide +kernel
theorem dX12_rows_598 : decode cX12_rows 598 = .ok (.iload_n 2, 1) := by decide +kernel
theorem dX12_rows_599 : decode cX12_rows 599 = .ok (.iaload, 1) := by decide +kernel
theorem dX12_rows_600 : decode cX12_rows 600 = .ok (.iload_n 3, 1) := by decide +kernel
theorem dX12_rows_601 : decode cX12_rows 601 = .ok (.aload_n 0, 1) := by decide +kernel
theorem dX12_rows_602 : decode cX12_rows 602 = .ok (.getfield 34, 3) := by decide +kernel
theorem dX12_rows_605 : decode cX12_rows 605 = .ok (.iload 4, 2) := by decide +kernel
theorem dX12_rows_607 : decode cX12_rows 607 = .ok (.iaload, 1) := by decide +kernel
theorem dX12_rows_608 : decode cX12_rows 608 = .ok (.i2l, 1) := by decide +kernel
theorem dX12_rows_609 : decode cX12_rows 609 = .ok (.invokevirtual 151, 3) := by decide +kernel
theorem dX12_rows_612 : decode cX12_rows 612 = .ok (.lconst 0, 1) := by decide +kernel
theorem dX12_rows_613 : decode cX12_rows 613 = .ok (.lreturn, 1) := by decide +kernel
theorem dX12_boxes_0 : decode cX12_boxes 0 = .ok (.iload_n 1, 1) := by decide +kernel
theorem dX12_boxes_1 : decode cX12_boxes 1 = .ok (.tableswitch 592 9 18 #[55, 143, 143, 287, 354, 426, 592, 592, 488, 541], 55) := by decide +kernel
theorem dX12_boxes_56 : decode cX12_boxes 56 = .ok (.aload_n 0, 1) := by decide +kernel
theorem dX12_boxes_57 : decode cX12_boxes 57 = .ok (.iload_n 2, 1) := by decide +kernel
theorem dX12_boxes_58 : decode cX12_boxes 58 = .ok (.invokevirtual 83, 3) := by decide +kernel
theorem dX12_boxes_61 : decode cX12_boxes 61 = .ok (.ifCond .eq 15, 3) := by decide +kernel
theorem dX12_boxes_64 : decode cX12_boxes 64 = .ok (.aload_n 0, 1) := by decide +kernel
theorem dX12_boxes_65 : decode cX12_boxes 65 = .ok (.iload 4, 2) := by decide +kernel
theorem dX12_boxes_67 : decode cX12_boxes 67 = .ok (.bipush 40, 2) := by decide +kernel
theorem dX12_boxes_69 : decode cX12_boxes 69 = .ok (.irem, 1) := by decide +kernel
theorem dX12_boxes_70 : decode cX12_boxes 70 = .ok (.invokevirtual 125, 3) := by decide +kernel
theorem dX12_boxes_73 : decode cX12_boxes 73 = .ok (.ifCond .ne 8, 3) := by decide +kernel
theorem dX12_boxes_76 : decode cX12_boxes 76 = .ok (.aload_n 0, 1) := by decide +kernel
theorem dX12_boxes_77 : decode cX12_boxes 77 = .ok (.invokevirtual 107, 3) := by decide +kernel
theorem dX12_boxes_80 : decode cX12_boxes 80 = .ok (.lreturn, 1) := by decide +kernel
theorem dX12_boxes_81 : decode cX12_boxes 81 = .ok (.aload_n 0, 1) := by decide +kernel
theorem dX12_boxes_82 : decode cX12_boxes 82 = .ok (.getfield 34, 3) := by decide +kernel
theorem dX12_boxes_85 : decode cX12_boxes 85 = .ok (.iload_n 2, 1) := by decide +kernel
theorem dX12_boxes_86 : decode cX12_boxes 86 = .ok (.aload_n 0, 1) := by decide +kernel
theorem dX12_boxes_87 : decode cX12_boxes 87 = .ok (.iload_n 3, 1) := by decide +kernel
theorem dX12_boxes_88 : decode cX12_boxes 88 = .ok (.iconst 3, 1) := by decide +kernel
theorem dX12_boxes_89 : decode cX12_boxes 89 = .ok (.iand, 1) := by decide +kernel
theorem dX12_boxes_90 : decode cX12_boxes 90 = .ok (.ifCond .ne 8, 3) := by decide +kernel
theorem dX12_boxes_93 : decode cX12_boxes 93 = .ok (.bipush 9, 2) := by decide +kernel
theorem dX12_boxes_95 : decode cX12_boxes 95 = .ok (.goto 17, 3) := by decide +kernel
theorem dX12_boxes_98 : decode cX12_boxes 98 = .ok (.iload_n 3, 1) := by decide +kernel
theorem dX12_boxes_99 : decode cX12_boxes 99 = .ok (.iconst 3, 1) := by decide +kernel
theorem dX12_boxes_100 : decode cX12_boxes 100 = .ok (.iand, 1) := by decide +kernel
theorem dX12_boxes_101 : decode cX12_boxes 101 = .ok (.iconst 1, 1) := by decide +kernel
theorem dX12_boxes_102 : decode cX12_boxes 102 = .ok (.if_icmp .ne 8, 3) := by decide +kernel
theorem dX12_boxes_105 : decode cX12_boxes 105 = .ok (.bipush 10, 2) := by decide +kernel
theorem dX12_boxes_107 : decode cX12_boxes 107 = .ok (.goto 5, 3) := by decide +kernel
theorem dX12_boxes_110 : decode cX12_boxes 110 = .ok (.bipush 11, 2) := by decide +kernel
theorem dX12_boxes_112 : decode cX12_boxes 112 = .ok (.iload 4, 2) := by decide +kernel
theorem dX12_boxes_114 : decode cX12_boxes 114 = .ok (.bipush 40, 2) := by decide +kernel
theorem dX12_boxes_116 : decode cX12_boxes 116 = .ok (.irem, 1) := by decide +kernel
theorem dX12_boxes_117 : decode cX12_boxes 117 = .ok (.invokevirtual 128, 3) := by decide +kernel
theorem dX12_boxes_120 : decode cX12_boxes 120 = .ok (.iastore, 1) := by decide +kernel
theorem dX12_boxes_121 : decode cX12_boxes 121 = .ok (.aload_n 0, 1) := by decide +kernel
theorem dX12_boxes_122 : decode cX12_boxes 122 = .ok (.getfield 49, 3) := by decide +kernel
theorem dX12_boxes_125 : decode cX12_boxes 125 = .ok (.iconst 5, 1) := by decide +kernel
theorem dX12_boxes_126 : decode cX12_boxes 126 = .ok (.dup2, 1) := by decide +kernel
theorem dX12_boxes_127 : decode cX12_boxes 127 = .ok (.iaload, 1) := by decide +kernel
theorem dX12_boxes_128 : decode cX12_boxes 128 = .ok (.iconst 1, 1) := by decide +kernel
theorem dX12_boxes_129 : decode cX12_boxes 129 = .ok (.iadd, 1) := by decide +kernel
theorem dX12_boxes_130 : decode cX12_boxes 130 = .ok (.iastore, 1) := by decide +kernel
theorem dX12_boxes_131 : decode cX12_boxes 131 = .ok (.aload_n 0, 1) := by decide +kernel
theorem dX12_boxes_132 : decode cX12_boxes 132 = .ok (.getfield 16, 3) := by decide +kernel
theorem dX12_boxes_135 : decode cX12_boxes 135 = .ok (.aload_n 0, 1) := by decide +kernel
theorem dX12_boxes_136 : decode cX12_boxes 136 = .ok (.getfield 34, 3) := by decide +kernel
theorem dX12_boxes_139 : decode cX12_boxes 139 = .ok (.iload_n 2, 1) := by decide +kernel
theorem dX12_boxes_140 : decode cX12_boxes 140 = .ok (.iaload, 1) := by decide +kernel
theorem dX12_boxes_141 : decode cX12_boxes 141 = .ok (.iaload, 1) := by decide +kernel
theorem dX12_boxes_142 : decode cX12_boxes 142 = .ok (.i2l, 1) := by decide +kernel
theorem dX12_boxes_143 : decode cX12_boxes 143 = .ok (.lreturn, 1) := by decide +kernel
theorem dX12_boxes_144 : decode cX12_boxes 144 = .ok (.aload_n 0, 1) := by decide +kernel
theorem dX12_boxes_145 : decode cX12_boxes 145 = .ok (.iload_n 2, 1) := by decide +kernel
theorem dX12_boxes_146 : decode cX12_boxes 146 = .ok (.iload_n 1, 1) := by decide +kernel
theorem dX12_boxes_147 : decode cX12_boxes 147 = .ok (.bipush 10, 2) := by decide +kernel
theorem dX12_boxes_149 : decode cX12_boxes 149 = .ok (.if_icmp .ne 8, 3) := by decide +kernel
theorem dX12_boxes_152 : decode cX12_boxes 152 = .ok (.bipush 9, 2) := by decide +kernel
theorem dX12_boxes_154 : decode cX12_boxes 154 = .ok (.goto 5, 3) := by decide +kernel
theorem dX12_boxes_157 : decode cX12_boxes 157 = .ok (.bipush 11, 2) := by decide +kernel
theorem dX12_boxes_159 : decode cX12_boxes 159 = .ok (.invokevirtual 131, 3) := by decide +kernel
theorem dX12_boxes_162 : decode cX12_boxes 162 = .ok (.ifCond .eq 47, 3) := by decide +kernel
theorem dX12_boxes_165 : decode cX12_boxes 165 = .ok (.aload_n 0, 1) := by decide +kernel
theorem dX12_boxes_166 : decode cX12_boxes 166 = .ok (.iload 4, 2) := by decide +kernel
theorem dX12_boxes_168 : decode cX12_boxes 168 = .ok (.iload_n 1, 1) := by decide +kernel
theorem dX12_boxes_169 : decode cX12_boxes 169 = .ok (.bipush 10, 2) := by decide +kernel
theorem dX12_boxes_171 : decode cX12_boxes 171 = .ok (.if_icmp .ne 8, 3) := by decide +kernel
theorem dX12_boxes_174 : decode cX12_boxes 174 = .ok (.bipush 12, 2) := by decide +kernel
theorem dX12_boxes_176 : decode cX12_boxes 176 = .ok (.goto 5, 3) := by decide +kernel
theorem dX12_boxes_179 : decode cX12_boxes 179 = .ok (.bipush 14, 2) := by decide +kernel
theorem dX12_boxes_181 : decode cX12_boxes 181 = .ok (.invokevirtual 131, 3) := by decide +kernel
theorem dX12_boxes_184 : decode cX12_boxes 184 = .ok (.ifCond .eq 25, 3) := by decide +kernel
theorem dX12_boxes_187 : decode cX12_boxes 187 = .ok (.aload_n 0, 1) := by decide +kernel
theorem dX12_boxes_188 : decode cX12_boxes 188 = .ok (.iload_n 2, 1) := by decide +kernel
theorem dX12_boxes_189 : decode cX12_boxes 189 = .ok (.invokevirtual 134, 3) := by decide +kernel
theorem dX12_boxes_192 : decode cX12_boxes 192 = .ok (.ifCond .eq 17, 3) := by decide +kernel
theorem dX12_boxes_195 : decode cX12_boxes 195 = .ok (.aload_n 0, 1) := by decide +kernel
theorem dX12_boxes_196 : decode cX12_boxes 196 = .ok (.aload_n 0, 1) := by decide +kernel
theorem dX12_boxes_197 : decode cX12_boxes 197 = .ok (.getfield 34, 3) := by decide +kernel
theorem dX12_boxes_200 : decode cX12_boxes 200 = .ok (.iload_n 2, 1) := by decide +kernel
theorem dX12_boxes_201 : decode cX12_boxes 201 = .ok (.iaload, 1) := by decide +kernel
theorem dX12_boxes_202 : decode cX12_boxes 202 = .ok (.iload_n 3, 1) := by decide +kernel
theorem dX12_boxes_203 : decode cX12_boxes 203 = .ok (.invokevirtual 137, 3) := by decide +kernel
theorem dX12_boxes_206 : decode cX12_boxes 206 = .ok (.ifCond .ne 8, 3) := by decide +kernel
theorem dX12_boxes_209 : decode cX12_boxes 209 = .ok (.aload_n 0, 1) := by decide +kernel
theorem dX12_boxes_210 : decode cX12_boxes 210 = .ok (.invokevirtual 107, 3) := by decide +kernel
theorem dX12_boxes_213 : decode cX12_boxes 213 = .ok (.lreturn, 1) := by decide +kernel
theorem dX12_boxes_214 : decode cX12_boxes 214 = .ok (.aload_n 0, 1) := by decide +kernel
theorem dX12_boxes_215 : decode cX12_boxes 215 = .ok (.getfield 7, 3) := by decide +kernel
theorem dX12_boxes_218 : decode cX12_boxes 218 = .ok (.aload_n 0, 1) := by decide +kernel
theorem dX12_boxes_219 : decode cX12_boxes 219 = .ok (.getfield 34, 3) := by decide +kernel
theorem dX12_boxes_222 : decode cX12_boxes 222 = .ok (.iload_n 2, 1) := by decide +kernel
theorem dX12_boxes_223 : decode cX12_boxes 223 = .ok (.iaload, 1) := by decide +kernel
theorem dX12_boxes_224 : decode cX12_boxes 224 = .ok (.iaload, 1) := by decide +kernel
theorem dX12_boxes_225 : decode cX12_boxes 225 = .ok (.bipush 10, 2) := by decide +kernel
theorem dX12_boxes_227 : decode cX12_boxes 227 = .ok (.if_icmp .ne 40, 3) := by decide +kernel
theorem dX12_boxes_230 : decode cX12_boxes 230 = .ok (.aload_n 0, 1) := by decide +kernel
theorem dX12_boxes_231 : decode cX12_boxes 231 = .ok (.getfield 34, 3) := by decide +kernel
theorem dX12_boxes_234 : decode cX12_boxes 234 = .ok (.iload 4, 2) := by decide +kernel
theorem dX12_boxes_236 : decode cX12_boxes 236 = .ok (.iaload, 1) := by decide +kernel
theorem dX12_boxes_237 : decode cX12_boxes 237 = .ok (.ifCond .eq 30, 3) := by decide +kernel
theorem dX12_boxes_240 : decode cX12_boxes 240 = .ok (.aload_n 0, 1) := by decide +kernel
theorem dX12_boxes_241 : decode cX12_boxes 241 = .ok (.aload_n 0, 1) := by decide +kernel
theorem dX12_boxes_242 : decode cX12_boxes 242 = .ok (.getfield 34, 3) := by decide +kernel
theorem dX12_boxes_245 : decode cX12_boxes 245 = .ok (.iload 4, 2) := by decide +kernel
theorem dX12_boxes_247 : decode cX12_boxes 247 = .ok (.iaload, 1) := by decide +kernel
theorem dX12_boxes_248 : decode cX12_boxes 248 = .ok (.bipush 13, 2) := by decide +kernel
theorem dX12_boxes_250 : decode cX12_boxes 250 = .ok (.invokevirtual 86, 3) := by decide +kernel
theorem dX12_boxes_253 : decode cX12_boxes 253 = .ok (.ifCond .ne 14, 3) := by decide +kernel
theorem dX12_boxes_256 : decode cX12_boxes 256 = .ok (.aload_n 0, 1) := by decide +kernel
theorem dX12_boxes_257 : decode cX12_boxes 257 = .ok (.iconst 5, 1) := by decide +kernel
theorem dX12_boxes_258 : decode cX12_boxes 258 = .ok (.invokevirtual 79, 3) := by decide +kernel
theorem dX12_boxes_261 : decode cX12_boxes 261 = .ok (.pop, 1) := by decide +kernel
theorem dX12_boxes_262 : decode cX12_boxes 262 = .ok (.aload_n 0, 1) := by decide +kernel
theorem dX12_boxes_263 : decode cX12_boxes 263 = .ok (.invokevirtual 107, 3) := by decide +kernel
theorem dX12_boxes_266 : decode cX12_boxes 266 = .ok (.lreturn, 1) := by decide +kernel
theorem dX12_boxes_267 : decode cX12_boxes 267 = .ok (.aload_n 0, 1) := by decide +kernel
theorem dX12_boxes_268 : decode cX12_boxes 268 = .ok (.aload_n 0, 1) := by decide +kernel
theorem dX12_boxes_269 : decode cX12_boxes 269 = .ok (.getfield 34, 3) := by decide +kernel
theorem dX12_boxes_272 : decode cX12_boxes 272 = .ok (.iload_n 2, 1) := by decide +kernel
theorem dX12_boxes_273 : decode cX12_boxes 273 = .ok (.iaload, 1) := by decide +kernel
theorem dX12_boxes_274 : decode cX12_boxes 274 = .ok (.iload_n 3, 1) := by decide +kernel
theorem dX12_boxes_275 : decode cX12_boxes 275 = .ok (.aload_n 0, 1) := by decide +kernel
theorem dX12_boxes_276 : decode cX12_boxes 276 = .ok (.getfield 34, 3) := by decide +kernel
theorem dX12_boxes_279 : decode cX12_boxes 279 = .ok (.iload 4, 2) := by decide +kernel
theorem dX12_boxes_281 : decode cX12_boxes 281 = .ok (.iaload, 1) := by decide +kernel
theorem dX12_boxes_282 : decode cX12_boxes 282 = .ok (.i2l, 1) := by decide +kernel
theorem dX12_boxes_283 : decode cX12_boxes 283 = .ok (.invokevirtual 151, 3) := by decide +kernel
theorem dX12_boxes_286 : decode cX12_boxes 286 = .ok (.lconst 0, 1) := by decide +kernel
theorem dX12_boxes_287 : decode cX12_boxes 287 = .ok (.lreturn, 1) := by decide +kernel
theorem dX12_boxes_288 : decode cX12_boxes 288 = .ok (.aload_n 0, 1) := by decide +kernel
theorem dX12_boxes_289 : decode cX12_boxes 289 = .ok (.iload 4, 2) := by decide +kernel
theorem dX12_boxes_291 : decode cX12_boxes 291 = .ok (.invokevirtual 83, 3) := by decide +kernel
theorem dX12_boxes_294 : decode cX12_boxes 294 = .ok (.ifCond .eq 35, 3) := by decide +kernel
theorem dX12_boxes_297 : decode cX12_boxes 297 = .ok (.aload_n 0, 1) := by decide +kernel
theorem dX12_boxes_298 : decode cX12_boxes 298 = .ok (.iload_n 2, 1) := by decide +kernel
theorem dX12_boxes_299 : decode cX12_boxes 299 = .ok (.bipush 9, 2) := by decide +kernel
theorem dX12_boxes_301 : decode cX12_boxes 301 = .ok (.invokevirtual 131, 3) := by decide +kernel
theorem dX12_boxes_304 : decode cX12_boxes 304 = .ok (.ifCond .eq 25, 3) := by decide +kernel
theorem dX12_boxes_307 : decode cX12_boxes 307 = .ok (.aload_n 0, 1) := by decide +kernel
theorem dX12_boxes_308 : decode cX12_boxes 308 = .ok (.iload_n 2, 1) := by decide +kernel
theorem dX12_boxes_309 : decode cX12_boxes 309 = .ok (.invokevirtual 134, 3) := by decide +kernel
theorem dX12_boxes_312 : decode cX12_boxes 312 = .ok (.ifCond .eq 17, 3) := by decide +kernel
theorem dX12_boxes_315 : decode cX12_boxes 315 = .ok (.aload_n 0, 1) := by decide +kernel
theorem dX12_boxes_316 : decode cX12_boxes 316 = .ok (.aload_n 0, 1) := by decide +kernel
theorem dX12_boxes_317 : decode cX12_boxes 317 = .ok (.getfield 34, 3) := by decide +kernel
theorem dX12_boxes_320 : decode cX12_boxes 320 = .ok (.iload_n 2, 1) := by decide +kernel
theorem dX12_boxes_321 : decode cX12_boxes 321 = .ok (.iaload, 1) := by decide +kernel
theorem dX12_boxes_322 : decode cX12_boxes 322 = .ok (.iload_n 3, 1) := by decide +kernel
theorem dX12_boxes_323 : decode cX12_boxes 323 = .ok (.invokevirtual 137, 3) := by decide +kernel
theorem dX12_boxes_326 : decode cX12_boxes 326 = .ok (.ifCond .ne 8, 3) := by decide +kernel
theorem dX12_boxes_329 : decode cX12_boxes 329 = .ok (.aload_n 0, 1) := by decide +kernel
theorem dX12_boxes_330 : decode cX12_boxes 330 = .ok (.invokevirtual 107, 3) := by decide +kernel
theorem dX12_boxes_333 : decode cX12_boxes 333 = .ok (.lreturn, 1) := by decide +kernel
theorem dX12_boxes_334 : decode cX12_boxes 334 = .ok (.aload_n 0, 1) := by decide +kernel
theorem dX12_boxes_335 : decode cX12_boxes 335 = .ok (.getfield 34, 3) := by decide +kernel
theorem dX12_boxes_338 : decode cX12_boxes 338 = .ok (.iload 4, 2) := by decide +kernel
theorem dX12_boxes_340 : decode cX12_boxes 340 = .ok (.aload_n 0, 1) := by decide +kernel
theorem dX12_boxes_341 : decode cX12_boxes 341 = .ok (.aload_n 0, 1) := by decide +kernel
theorem dX12_boxes_342 : decode cX12_boxes 342 = .ok (.getfield 34, 3) := by decide +kernel
theorem dX12_boxes_345 : decode cX12_boxes 345 = .ok (.iload_n 2, 1) := by decide +kernel
theorem dX12_boxes_346 : decode cX12_boxes 346 = .ok (.iaload, 1) := by decide +kernel
theorem dX12_boxes_347 : decode cX12_boxes 347 = .ok (.iload_n 3, 1) := by decide +kernel
theorem dX12_boxes_348 : decode cX12_boxes 348 = .ok (.invokevirtual 140, 3) := by decide +kernel
theorem dX12_boxes_351 : decode cX12_boxes 351 = .ok (.l2i, 1) := by decide +kernel
theorem dX12_boxes_352 : decode cX12_boxes 352 = .ok (.iastore, 1) := by decide +kernel
theorem dX12_boxes_353 : decode cX12_boxes 353 = .ok (.lconst 0, 1) := by decide +kernel
theorem dX12_boxes_354 : decode cX12_boxes 354 = .ok (.lreturn, 1) := by decide +kernel
theorem dX12_boxes_355 : decode cX12_boxes 355 = .ok (.aload_n 0, 1) := by decide +kernel
theorem dX12_boxes_356 : decode cX12_boxes 356 = .ok (.iload_n 2, 1) := by decide +kernel
theorem dX12_boxes_357 : decode cX12_boxes 357 = .ok (.invokevirtual 83, 3) := by decide +kernel
theorem dX12_boxes_360 : decode cX12_boxes 360 = .ok (.ifCond .ne 8, 3) := by decide +kernel
theorem dX12_boxes_363 : decode cX12_boxes 363 = .ok (.aload_n 0, 1) := by decide +kernel
theorem dX12_boxes_364 : decode cX12_boxes 364 = .ok (.invokevirtual 107, 3) := by decide +kernel
theorem dX12_boxes_367 : decode cX12_boxes 367 = .ok (.lreturn, 1) := by decide +kernel
theorem dX12_boxes_368 : decode cX12_boxes 368 = .ok (.aload_n 0, 1) := by decide +kernel
theorem dX12_boxes_369 : decode cX12_boxes 369 = .ok (.bipush 12, 2) := by decide +kernel
theorem dX12_boxes_371 : decode cX12_boxes 371 = .ok (.iload_n 3, 1) := by decide +kernel
theorem dX12_boxes_372 : decode cX12_boxes 372 = .ok (.iconst 3, 1) := by decide +kernel
theorem dX12_boxes_373 : decode cX12_boxes 373 = .ok (.iand, 1) := by decide +kernel
theorem dX12_boxes_374 : decode cX12_boxes 374 = .ok (.iadd, 1) := by decide +kernel
theorem dX12_boxes_375 : decode cX12_boxes 375 = .ok (.iconst 3, 1) := by decide +kernel
theorem dX12_boxes_376 : decode cX12_boxes 376 = .ok (.invokevirtual 128, 3) := by decide +kernel
theorem dX12_boxes_379 : decode cX12_boxes 379 = .ok (.istore 5, 2) := by decide +kernel
theorem dX12_boxes_381 : decode cX12_boxes 381 = .ok (.aload_n 0, 1) := by decide +kernel
theorem dX12_boxes_382 : decode cX12_boxes 382 = .ok (.iload 5, 2) := by decide +kernel
theorem dX12_boxes_384 : decode cX12_boxes 384 = .ok (.iconst 0, 1) := by decide +kernel
theorem dX12_boxes_385 : decode cX12_boxes 385 = .ok (.aload_n 0, 1) := by decide +kernel
theorem dX12_boxes_386 : decode cX12_boxes 386 = .ok (.getfield 143, 3) := by decide +kernel
theorem dX12_boxes_389 : decode cX12_boxes 389 = .ok (.l2i, 1) := by decide +kernel
theorem dX12_boxes_390 : decode cX12_boxes 390 = .ok (.i2l, 1) := by decide +kernel
theorem dX12_boxes_391 : decode cX12_boxes 391 = .ok (.invokevirtual 151, 3) := by decide +kernel
theorem dX12_boxes_394 : decode cX12_boxes 394 = .ok (.aload_n 0, 1) := by decide +kernel
theorem dX12_boxes_395 : decode cX12_boxes 395 = .ok (.iload 5, 2) := by decide +kernel
theorem dX12_boxes_397 : decode cX12_boxes 397 = .ok (.iconst 2, 1) := by decide +kernel
theorem dX12_boxes_398 : decode cX12_boxes 398 = .ok (.aload_n 0, 1) := by decide +kernel
theorem dX12_boxes_399 : decode cX12_boxes 399 = .ok (.getfield 143, 3) := by decide +kernel
theorem dX12_boxes_402 : decode cX12_boxes 402 = .ok (.l2i, 1) := by decide +kernel
theorem dX12_boxes_403 : decode cX12_boxes 403 = .ok (.i2l, 1) := by decide +kernel
theorem dX12_boxes_404 : decode cX12_boxes 404 = .ok (.invokevirtual 151, 3) := by decide +kernel
theorem dX12_boxes_407 : decode cX12_boxes 407 = .ok (.aload_n 0, 1) := by decide +kernel
theorem dX12_boxes_408 : decode cX12_boxes 408 = .ok (.getfield 34, 3) := by decide +kernel
theorem dX12_boxes_411 : decode cX12_boxes 411 = .ok (.iload_n 2, 1) := by decide +kernel
theorem dX12_boxes_412 : decode cX12_boxes 412 = .ok (.iload 5, 2) := by decide +kernel
theorem dX12_boxes_414 : decode cX12_boxes 414 = .ok (.iastore, 1) := by decide +kernel
theorem dX12_boxes_415 : decode cX12_boxes 415 = .ok (.aload_n 0, 1) := by decide +kernel
theorem dX12_boxes_416 : decode cX12_boxes 416 = .ok (.getfield 49, 3) := by decide +kernel
theorem dX12_boxes_419 : decode cX12_boxes 419 = .ok (.iconst 5, 1) := by decide +kernel
theorem dX12_boxes_420 : decode cX12_boxes 420 = .ok (.dup2, 1) := by decide +kernel
theorem dX12_boxes_421 : decode cX12_boxes 421 = .ok (.iaload, 1) := by decide +kernel
theorem dX12_boxes_422 : decode cX12_boxes 422 = .ok (.iconst 1, 1) := by decide +kernel
theorem dX12_boxes_423 : decode cX12_boxes 423 = .ok (.iadd, 1) := by decide +kernel
theorem dX12_boxes_424 : decode cX12_boxes 424 = .ok (.iastore, 1) := by decide +kernel
theorem dX12_boxes_425 : decode cX12_boxes 425 = .ok (.lconst 0, 1) := by decide +kernel
theorem dX12_boxes_426 : decode cX12_boxes 426 = .ok (.lreturn, 1) := by decide +kernel
theorem dX12_boxes_427 : decode cX12_boxes 427 = .ok (.aload_n 0, 1) := by decide +kernel
theorem dX12_boxes_428 : decode cX12_boxes 428 = .ok (.iload_n 2, 1) := by decide +kernel
theorem dX12_boxes_429 : decode cX12_boxes 429 = .ok (.invokevirtual 83, 3) := by decide +kernel
theorem dX12_boxes_432 : decode cX12_boxes 432 = .ok (.ifCond .ne 8, 3) := by decide +kernel
theorem dX12_boxes_435 : decode cX12_boxes 435 = .ok (.aload_n 0, 1) := by decide +kernel
theorem dX12_boxes_436 : decode cX12_boxes 436 = .ok (.invokevirtual 107, 3) := by decide +kernel
theorem dX12_boxes_439 : decode cX12_boxes 439 = .ok (.lreturn, 1) := by decide +kernel
theorem dX12_boxes_440 : decode cX12_boxes 440 = .ok (.aload_n 0, 1) := by decide +kernel
theorem dX12_boxes_441 : decode cX12_boxes 441 = .ok (.getfield 34, 3) := by decide +kernel
theorem dX12_boxes_444 : decode cX12_boxes 444 = .ok (.iload_n 2, 1) := by decide +kernel
theorem dX12_boxes_445 : decode cX12_boxes 445 = .ok (.aload_n 0, 1) := by decide +kernel
theorem dX12_boxes_446 : decode cX12_boxes 446 = .ok (.bipush 16, 2) := by decide +kernel
theorem dX12_boxes_448 : decode cX12_boxes 448 = .ok (.iload_n 3, 1) := by decide +kernel
theorem dX12_boxes_449 : decode cX12_boxes 449 = .ok (.ldc 157, 2) := by decide +kernel
theorem dX12_boxes_451 : decode cX12_boxes 451 = .ok (.if_icmp .ne 7, 3) := by decide +kernel
theorem dX12_boxes_454 : decode cX12_boxes 454 = .ok (.iconst 0, 1) := by decide +kernel
theorem dX12_boxes_455 : decode cX12_boxes 455 = .ok (.goto 16, 3) := by decide +kernel
theorem dX12_boxes_458 : decode cX12_boxes 458 = .ok (.iload_n 3, 1) := by decide +kernel
theorem dX12_boxes_459 : decode cX12_boxes 459 = .ok (.ifCond .ge 8, 3) := by decide +kernel
theorem dX12_boxes_462 : decode cX12_boxes 462 = .ok (.iload_n 3, 1) := by decide +kernel
theorem dX12_boxes_463 : decode cX12_boxes 463 = .ok (.ineg, 1) := by decide +kernel
theorem dX12_boxes_464 : decode cX12_boxes 464 = .ok (.goto 4, 3) := by decide +kernel
theorem dX12_boxes_467 : decode cX12_boxes 467 = .ok (.iload_n 3, 1) := by decide +kernel
theorem dX12_boxes_468 : decode cX12_boxes 468 = .ok (.bipush 7, 2) := by decide +kernel
theorem dX12_boxes_470 : decode cX12_boxes 470 = .ok (.irem, 1) := by decide +kernel
theorem dX12_boxes_471 : decode cX12_boxes 471 = .ok (.iadd, 1) := by decide +kernel
theorem dX12_boxes_472 : decode cX12_boxes 472 = .ok (.iconst 0, 1) := by decide +kernel
theorem dX12_boxes_473 : decode cX12_boxes 473 = .ok (.invokevirtual 128, 3) := by decide +kernel
theorem dX12_boxes_476 : decode cX12_boxes 476 = .ok (.iastore, 1) := by decide +kernel
theorem dX12_boxes_477 : decode cX12_boxes 477 = .ok (.aload_n 0, 1) := by decide +kernel
theorem dX12_boxes_478 : decode cX12_boxes 478 = .ok (.getfield 49, 3) := by decide +kernel
theorem dX12_boxes_481 : decode cX12_boxes 481 = .ok (.iconst 5, 1) := by decide +kernel
theorem dX12_boxes_482 : decode cX12_boxes 482 = .ok (.dup2, 1) := by decide +kernel
theorem dX12_boxes_483 : decode cX12_boxes 483 = .ok (.iaload, 1) := by decide +kernel
theorem dX12_boxes_484 : decode cX12_boxes 484 = .ok (.iconst 1, 1) := by decide +kernel
theorem dX12_boxes_485 : decode cX12_boxes 485 = .ok (.iadd, 1) := by decide +kernel
theorem dX12_boxes_486 : decode cX12_boxes 486 = .ok (.iastore, 1) := by decide +kernel
theorem dX12_boxes_487 : decode cX12_boxes 487 = .ok (.lconst 0, 1) := by decide +kernel
theorem dX12_boxes_488 : decode cX12_boxes 488 = .ok (.lreturn, 1) := by decide +kernel
theorem dX12_boxes_489 : decode cX12_boxes 489 = .ok (.aload_n 0, 1) := by decide +kernel
theorem dX12_boxes_490 : decode cX12_boxes 490 = .ok (.iload_n 2, 1) := by decide +kernel
theorem dX12_boxes_491 : decode cX12_boxes 491 = .ok (.bipush 12, 2) := by decide +kernel
theorem dX12_boxes_493 : decode cX12_boxes 493 = .ok (.invokevirtual 131, 3) := by decide +kernel
theorem dX12_boxes_496 : decode cX12_boxes 496 = .ok (.ifCond .eq 21, 3) := by decide +kernel
theorem dX12_boxes_499 : decode cX12_boxes 499 = .ok (.aload_n 0, 1) := by decide +kernel
theorem dX12_boxes_500 : decode cX12_boxes 500 = .ok (.iload_n 3, 1) := by decide +kernel
theorem dX12_boxes_501 : decode cX12_boxes 501 = .ok (.bipush 12, 2) := by decide +kernel
theorem dX12_boxes_503 : decode cX12_boxes 503 = .ok (.invokevirtual 131, 3) := by decide +kernel
theorem dX12_boxes_506 : decode cX12_boxes 506 = .ok (.ifCond .eq 11, 3) := by decide +kernel
theorem dX12_boxes_509 : decode cX12_boxes 509 = .ok (.aload_n 0, 1) := by decide +kernel
theorem dX12_boxes_510 : decode cX12_boxes 510 = .ok (.iload_n 2, 1) := by decide +kernel
theorem dX12_boxes_511 : decode cX12_boxes 511 = .ok (.invokevirtual 134, 3) := by decide +kernel
theorem dX12_boxes_514 : decode cX12_boxes 514 = .ok (.ifCond .ne 8, 3) := by decide +kernel
theorem dX12_boxes_517 : decode cX12_boxes 517 = .ok (.aload_n 0, 1) := by decide +kernel
theorem dX12_boxes_518 : decode cX12_boxes 518 = .ok (.invokevirtual 107, 3) := by decide +kernel
theorem dX12_boxes_521 : decode cX12_boxes 521 = .ok (.lreturn, 1) := by decide +kernel
theorem dX12_boxes_522 : decode cX12_boxes 522 = .ok (.aload_n 0, 1) := by decide +kernel
theorem dX12_boxes_523 : decode cX12_boxes 523 = .ok (.aload_n 0, 1) := by decide +kernel
theorem dX12_boxes_524 : decode cX12_boxes 524 = .ok (.getfield 34, 3) := by decide +kernel
theorem dX12_boxes_527 : decode cX12_boxes 527 = .ok (.iload_n 2, 1) := by decide +kernel
theorem dX12_boxes_528 : decode cX12_boxes 528 = .ok (.iaload, 1) := by decide +kernel
theorem dX12_boxes_529 : decode cX12_boxes 529 = .ok (.iconst 1, 1) := by decide +kernel
theorem dX12_boxes_530 : decode cX12_boxes 530 = .ok (.aload_n 0, 1) := by decide +kernel
theorem dX12_boxes_531 : decode cX12_boxes 531 = .ok (.getfield 34, 3) := by decide +kernel
theorem dX12_boxes_534 : decode cX12_boxes 534 = .ok (.iload_n 3, 1) := by decide +kernel
theorem dX12_boxes_535 : decode cX12_boxes 535 = .ok (.iaload, 1) := by decide +kernel
theorem dX12_boxes_536 : decode cX12_boxes 536 = .ok (.i2l, 1) := by decide +kernel
theorem dX12_boxes_537 : decode cX12_boxes 537 = .ok (.invokevirtual 151, 3) := by decide +kernel
theorem dX12_boxes_540 : decode cX12_boxes 540 = .ok (.lconst 0, 1) := by decide +kernel
theorem dX12_boxes_541 : decode cX12_boxes 541 = .ok (.lreturn, 1) := by decide +kernel
theorem dX12_boxes_542 : decode cX12_boxes 542 = .ok (.aload_n 0, 1) := by decide +kernel
theorem dX12_boxes_543 : decode cX12_boxes 543 = .ok (.iload_n 3, 1) := by decide +kernel
theorem dX12_boxes_544 : decode cX12_boxes 544 = .ok (.invokevirtual 83, 3) := by decide +kernel
theorem dX12_boxes_547 : decode cX12_boxes 547 = .ok (.ifCond .eq 21, 3) := by decide +kernel
theorem dX12_boxes_550 : decode cX12_boxes 550 = .ok (.aload_n 0, 1) := by decide +kernel
theorem dX12_boxes_551 : decode cX12_boxes 551 = .ok (.iload_n 2, 1) := by decide +kernel
theorem dX12_boxes_552 : decode cX12_boxes 552 = .ok (.bipush 12, 2) := by decide +kernel
theorem dX12_boxes_554 : decode cX12_boxes 554 = .ok (.invokevirtual 131, 3) := by decide +kernel
theorem dX12_boxes_557 : decode cX12_boxes 557 = .ok (.ifCond .eq 11, 3) := by decide +kernel
theorem dX12_boxes_560 : decode cX12_boxes 560 = .ok (.aload_n 0, 1) := by decide +kernel
theorem dX12_boxes_561 : decode cX12_boxes 561 = .ok (.iload_n 2, 1) := by decide +kernel
theorem dX12_boxes_562 : decode cX12_boxes 562 = .ok (.invokevirtual 134, 3) := by decide +kernel
theorem dX12_boxes_565 : decode cX12_boxes 565 = .ok (.ifCond .ne 8, 3) := by decide +kernel
theorem dX12_boxes_568 : decode cX12_boxes 568 = .ok (.aload_n 0, 1) := by decide +kernel
theorem dX12_boxes_569 : decode cX12_boxes 569 = .ok (.invokevirtual 107, 3) := by decide +kernel
theorem dX12_boxes_572 : decode cX12_boxes 572 = .ok (.lreturn, 1) := by decide +kernel
theorem dX12_boxes_573 : decode cX12_boxes 573 = .ok (.aload_n 0, 1) := by decide +kernel
theorem dX12_boxes_574 : decode cX12_boxes 574 = .ok (.getfield 34, 3) := by decide +kernel
theorem dX12_boxes_577 : decode cX12_boxes 577 = .ok (.iload_n 3, 1) := by decide +kernel
theorem dX12_boxes_578 : decode cX12_boxes 578 = .ok (.aload_n 0, 1) := by decide +kernel
theorem dX12_boxes_579 : decode cX12_boxes 579 = .ok (.aload_n 0, 1) := by decide +kernel
theorem dX12_boxes_580 : decode cX12_boxes 580 = .ok (.getfield 34, 3) := by decide +kernel
theorem dX12_boxes_583 : decode cX12_boxes 583 = .ok (.iload_n 2, 1) := by decide +kernel
theorem dX12_boxes_584 : decode cX12_boxes 584 = .ok (.iaload, 1) := by decide +kernel
theorem dX12_boxes_585 : decode cX12_boxes 585 = .ok (.iconst 1, 1) := by decide +kernel
theorem dX12_boxes_586 : decode cX12_boxes 586 = .ok (.invokevirtual 140, 3) := by decide +kernel
theorem dX12_boxes_589 : decode cX12_boxes 589 = .ok (.l2i, 1) := by decide +kernel
theorem dX12_boxes_590 : decode cX12_boxes 590 = .ok (.iastore, 1) := by decide +kernel
theorem dX12_boxes_591 : decode cX12_boxes 591 = .ok (.lconst 0, 1) := by decide +kernel
theorem dX12_boxes_592 : decode cX12_boxes 592 = .ok (.lreturn, 1) := by decide +kernel
theorem dX12_boxes_593 : decode cX12_boxes 593 = .ok (.aload_n 0, 1) := by decide +kernel
theorem dX12_boxes_594 : decode cX12_boxes 594 = .ok (.iload_n 2, 1) := by decide +kernel
theorem dX12_boxes_595 : decode cX12_boxes 595 = .ok (.iload_n 1, 1) := by decide +kernel
theorem dX12_boxes_596 : decode cX12_boxes 596 = .ok (.bipush 20, 2) := by decide +kernel
theorem dX12_boxes_598 : decode cX12_boxes 598 = .ok (.if_icmp .ne 8, 3) := by decide +kernel
theorem dX12_boxes_601 : decode cX12_boxes 601 = .ok (.bipush 14, 2) := by decide +kernel
theorem dX12_boxes_603 : decode cX12_boxes 603 = .ok (.goto 16, 3) := by decide +kernel
theorem dX12_boxes_606 : decode cX12_boxes 606 = .ok (.iload_n 1, 1) := by decide +kernel
theorem dX12_boxes_607 : decode cX12_boxes 607 = .ok (.bipush 21, 2) := by decide +kernel
theorem dX12_boxes_609 : decode cX12_boxes 609 = .ok (.if_icmp .ne 8, 3) := by decide +kernel
theorem dX12_boxes_612 : decode cX12_boxes 612 = .ok (.bipush 13, 2) := by decide +kernel
theorem dX12_boxes_614 : decode cX12_boxes 614 = .ok (.goto 5, 3) := by decide +kernel
theorem dX12_boxes_617 : decode cX12_boxes 617 = .ok (.bipush 12, 2) := by decide +kernel
theorem dX12_boxes_619 : decode cX12_boxes 619 = .ok (.invokevirtual 131, 3) := by decide +kernel
theorem dX12_boxes_622 : decode cX12_boxes 622 = .ok (.ifCond .eq 11, 3) := by decide +kernel
theorem dX12_boxes_625 : decode cX12_boxes 625 = .ok (.aload_n 0, 1) := by decide +kernel
theorem dX12_boxes_626 : decode cX12_boxes 626 = .ok (.iload_n 2, 1) := by decide +kernel
theorem dX12_boxes_627 : decode cX12_boxes 627 = .ok (.invokevirtual 134, 3) := by decide +kernel
theorem dX12_boxes_630 : decode cX12_boxes 630 = .ok (.ifCond .ne 8, 3) := by decide +kernel
theorem dX12_boxes_633 : decode cX12_boxes 633 = .ok (.aload_n 0, 1) := by decide +kernel
theorem dX12_boxes_634 : decode cX12_boxes 634 = .ok (.invokevirtual 107, 3) := by decide +kernel
theorem dX12_boxes_637 : decode cX12_boxes 637 = .ok (.lreturn, 1) := by decide +kernel
theorem dX12_boxes_638 : decode cX12_boxes 638 = .ok (.aload_n 0, 1) := by decide +kernel
theorem dX12_boxes_639 : decode cX12_boxes 639 = .ok (.getfield 34, 3) := by decide +kernel
theorem dX12_boxes_642 : decode cX12_boxes 642 = .ok (.iload_n 2, 1) := by decide +kernel
theorem dX12_boxes_643 : decode cX12_boxes 643 = .ok (.iaload, 1) := by decide +kernel
theorem dX12_boxes_644 : decode cX12_boxes 644 = .ok (.istore 5, 2) := by decide +kernel
theorem dX12_boxes_646 : decode cX12_boxes 646 = .ok (.aload_n 0, 1) := by decide +kernel
theorem dX12_boxes_647 : decode cX12_boxes 647 = .ok (.iload 5, 2) := by decide +kernel
theorem dX12_boxes_649 : decode cX12_boxes 649 = .ok (.iconst 0, 1) := by decide +kernel
theorem dX12_boxes_650 : decode cX12_boxes 650 = .ok (.invokevirtual 140, 3) := by decide +kernel
theorem dX12_boxes_653 : decode cX12_boxes 653 = .ok (.l2i, 1) := by decide +kernel
theorem dX12_boxes_654 : decode cX12_boxes 654 = .ok (.istore 6, 2) := by decide +kernel
theorem dX12_boxes_656 : decode cX12_boxes 656 = .ok (.iload_n 1, 1) := by decide +kernel
theorem dX12_boxes_657 : decode cX12_boxes 657 = .ok (.bipush 15, 2) := by decide +kernel
theorem dX12_boxes_659 : decode cX12_boxes 659 = .ok (.if_icmp .ne 7, 3) := by decide +kernel
theorem dX12_boxes_662 : decode cX12_boxes 662 = .ok (.iload 6, 2) := by decide +kernel
theorem dX12_boxes_664 : decode cX12_boxes 664 = .ok (.i2l, 1) := by decide +kernel
theorem dX12_boxes_665 : decode cX12_boxes 665 = .ok (.lreturn, 1) := by decide +kernel
theorem dX12_boxes_666 : decode cX12_boxes 666 = .ok (.iload_n 1, 1) := by decide +kernel
theorem dX12_boxes_667 : decode cX12_boxes 667 = .ok (.bipush 16, 2) := by decide +kernel
theorem dX12_boxes_669 : decode cX12_boxes 669 = .ok (.if_icmp .ne 20, 3) := by decide +kernel
theorem dX12_boxes_672 : decode cX12_boxes 672 = .ok (.aload_n 0, 1) := by decide +kernel
theorem dX12_boxes_673 : decode cX12_boxes 673 = .ok (.iload 5, 2) := by decide +kernel
theorem dX12_boxes_675 : decode cX12_boxes 675 = .ok (.iconst 0, 1) := by decide +kernel
theorem dX12_boxes_676 : decode cX12_boxes 676 = .ok (.aload_n 0, 1) := by decide +kernel
theorem dX12_boxes_677 : decode cX12_boxes 677 = .ok (.getfield 143, 3) := by decide +kernel
theorem dX12_boxes_680 : decode cX12_boxes 680 = .ok (.l2i, 1) := by decide +kernel
theorem dX12_boxes_681 : decode cX12_boxes 681 = .ok (.i2l, 1) := by decide +kernel
theorem dX12_boxes_682 : decode cX12_boxes 682 = .ok (.invokevirtual 151, 3) := by decide +kernel
theorem dX12_boxes_685 : decode cX12_boxes 685 = .ok (.iload 6, 2) := by decide +kernel
theorem dX12_boxes_687 : decode cX12_boxes 687 = .ok (.i2l, 1) := by decide +kernel
theorem dX12_boxes_688 : decode cX12_boxes 688 = .ok (.lreturn, 1) := by decide +kernel
theorem dX12_boxes_689 : decode cX12_boxes 689 = .ok (.iload_n 1, 1) := by decide +kernel
theorem dX12_boxes_690 : decode cX12_boxes 690 = .ok (.bipush 19, 2) := by decide +kernel
theorem dX12_boxes_692 : decode cX12_boxes 692 = .ok (.if_icmp .ne 57, 3) := by decide +kernel
theorem dX12_boxes_695 : decode cX12_boxes 695 = .ok (.aload_n 0, 1) := by decide +kernel
theorem dX12_boxes_696 : decode cX12_boxes 696 = .ok (.getfield 7, 3) := by decide +kernel
theorem dX12_boxes_699 : decode cX12_boxes 699 = .ok (.iload 5, 2) := by decide +kernel
theorem dX12_boxes_701 : decode cX12_boxes 701 = .ok (.iaload, 1) := by decide +kernel
theorem dX12_boxes_702 : decode cX12_boxes 702 = .ok (.bipush 12, 2) := by decide +kernel
theorem dX12_boxes_704 : decode cX12_boxes 704 = .ok (.if_icmp .ne 13, 3) := by decide +kernel
theorem dX12_boxes_707 : decode cX12_boxes 707 = .ok (.iload 6, 2) := by decide +kernel
theorem dX12_boxes_709 : decode cX12_boxes 709 = .ok (.iconst 3, 1) := by decide +kernel
theorem dX12_boxes_710 : decode cX12_boxes 710 = .ok (.imul, 1) := by decide +kernel
theorem dX12_boxes_711 : decode cX12_boxes 711 = .ok (.iload_n 3, 1) := by decide +kernel
theorem dX12_boxes_712 : decode cX12_boxes 712 = .ok (.iadd, 1) := by decide +kernel
theorem dX12_boxes_713 : decode cX12_boxes 713 = .ok (.i2l, 1) := by decide +kernel
theorem dX12_boxes_714 : decode cX12_boxes 714 = .ok (.goto 34, 3) := by decide +kernel
theorem dX12_boxes_717 : decode cX12_boxes 717 = .ok (.aload_n 0, 1) := by decide +kernel
theorem dX12_boxes_718 : decode cX12_boxes 718 = .ok (.getfield 7, 3) := by decide +kernel
theorem dX12_boxes_721 : decode cX12_boxes 721 = .ok (.iload 5, 2) := by decide +kernel
theorem dX12_boxes_723 : decode cX12_boxes 723 = .ok (.iaload, 1) := by decide +kernel
theorem dX12_boxes_724 : decode cX12_boxes 724 = .ok (.bipush 13, 2) := by decide +kernel
theorem dX12_boxes_726 : decode cX12_boxes 726 = .ok (.if_icmp .ne 13, 3) := by decide +kernel
theorem dX12_boxes_729 : decode cX12_boxes 729 = .ok (.iload 6, 2) := by decide +kernel
theorem dX12_boxes_731 : decode cX12_boxes 731 = .ok (.iconst 5, 1) := by decide +kernel
theorem dX12_boxes_732 : decode cX12_boxes 732 = .ok (.imul, 1) := by decide +kernel
theorem dX12_boxes_733 : decode cX12_boxes 733 = .ok (.iload_n 3, 1) := by decide +kernel
theorem dX12_boxes_734 : decode cX12_boxes 734 = .ok (.isub, 1) := by decide +kernel
theorem dX12_boxes_735 : decode cX12_boxes 735 = .ok (.i2l, 1) := by decide +kernel
theorem dX12_boxes_736 : decode cX12_boxes 736 = .ok (.goto 12, 3) := by decide +kernel
theorem dX12_boxes_739 : decode cX12_boxes 739 = .ok (.iload 6, 2) := by decide +kernel
theorem dX12_boxes_741 : decode cX12_boxes 741 = .ok (.iconst 5, 1) := by decide +kernel
theorem dX12_boxes_742 : decode cX12_boxes 742 = .ok (.imul, 1) := by decide +kernel
theorem dX12_boxes_743 : decode cX12_boxes 743 = .ok (.iload_n 3, 1) := by decide +kernel
theorem dX12_boxes_744 : decode cX12_boxes 744 = .ok (.isub, 1) := by decide +kernel
theorem dX12_boxes_745 : decode cX12_boxes 745 = .ok (.iconst 1, 1) := by decide +kernel
theorem dX12_boxes_746 : decode cX12_boxes 746 = .ok (.iadd, 1) := by decide +kernel
theorem dX12_boxes_747 : decode cX12_boxes 747 = .ok (.i2l, 1) := by decide +kernel
theorem dX12_boxes_748 : decode cX12_boxes 748 = .ok (.lreturn, 1) := by decide +kernel
theorem dX12_boxes_749 : decode cX12_boxes 749 = .ok (.iload_n 1, 1) := by decide +kernel
theorem dX12_boxes_750 : decode cX12_boxes 750 = .ok (.bipush 20, 2) := by decide +kernel
theorem dX12_boxes_752 : decode cX12_boxes 752 = .ok (.if_icmp .ne 49, 3) := by decide +kernel
theorem dX12_boxes_755 : decode cX12_boxes 755 = .ok (.aload_n 0, 1) := by decide +kernel
theorem dX12_boxes_756 : decode cX12_boxes 756 = .ok (.getfield 7, 3) := by decide +kernel
theorem dX12_boxes_759 : decode cX12_boxes 759 = .ok (.iload 5, 2) := by decide +kernel
theorem dX12_boxes_761 : decode cX12_boxes 761 = .ok (.iaload, 1) := by decide +kernel
theorem dX12_boxes_762 : decode cX12_boxes 762 = .ok (.bipush 13, 2) := by decide +kernel
theorem dX12_boxes_764 : decode cX12_boxes 764 = .ok (.if_icmp .ne 11, 3) := by decide +kernel
theorem dX12_boxes_767 : decode cX12_boxes 767 = .ok (.iload 6, 2) := by decide +kernel
theorem dX12_boxes_769 : decode cX12_boxes 769 = .ok (.iload_n 3, 1) := by decide +kernel
theorem dX12_boxes_770 : decode cX12_boxes 770 = .ok (.ixor, 1) := by decide +kernel
theorem dX12_boxes_771 : decode cX12_boxes 771 = .ok (.i2l, 1) := by decide +kernel
theorem dX12_boxes_772 : decode cX12_boxes 772 = .ok (.goto 28, 3) := by decide +kernel
theorem dX12_boxes_775 : decode cX12_boxes 775 = .ok (.aload_n 0, 1) := by decide +kernel
theorem dX12_boxes_776 : decode cX12_boxes 776 = .ok (.getfield 7, 3) := by decide +kernel
theorem dX12_boxes_779 : decode cX12_boxes 779 = .ok (.iload 5, 2) := by decide +kernel
theorem dX12_boxes_781 : decode cX12_boxes 781 = .ok (.iaload, 1) := by decide +kernel
theorem dX12_boxes_782 : decode cX12_boxes 782 = .ok (.bipush 14, 2) := by decide +kernel
theorem dX12_boxes_784 : decode cX12_boxes 784 = .ok (.if_icmp .ne 11, 3) := by decide +kernel
theorem dX12_boxes_787 : decode cX12_boxes 787 = .ok (.iload 6, 2) := by decide +kernel
theorem dX12_boxes_789 : decode cX12_boxes 789 = .ok (.iload_n 3, 1) := by decide +kernel
theorem dX12_boxes_790 : decode cX12_boxes 790 = .ok (.ior, 1) := by decide +kernel
theorem dX12_boxes_791 : decode cX12_boxes 791 = .ok (.i2l, 1) := by decide +kernel
theorem dX12_boxes_792 : decode cX12_boxes 792 = .ok (.goto 8, 3) := by decide +kernel
theorem dX12_boxes_795 : decode cX12_boxes 795 = .ok (.iload 6, 2) := by decide +kernel
theorem dX12_boxes_797 : decode cX12_boxes 797 = .ok (.iload_n 3, 1) := by decide +kernel
theorem dX12_boxes_798 : decode cX12_boxes 798 = .ok (.iand, 1) := by decide +kernel
theorem dX12_boxes_799 : decode cX12_boxes 799 = .ok (.i2l, 1) := by decide +kernel
theorem dX12_boxes_800 : decode cX12_boxes 800 = .ok (.lreturn, 1) := by decide +kernel
theorem dX12_boxes_801 : decode cX12_boxes 801 = .ok (.aload_n 0, 1) := by decide +kernel
theorem dX12_boxes_802 : decode cX12_boxes 802 = .ok (.iload 5, 2) := by decide +kernel
theorem dX12_boxes_804 : decode cX12_boxes 804 = .ok (.iconst 2, 1) := by decide +kernel
theorem dX12_boxes_805 : decode cX12_boxes 805 = .ok (.invokevirtual 140, 3) := by decide +kernel
theorem dX12_boxes_808 : decode cX12_boxes 808 = .ok (.l2i, 1) := by decide +kernel
theorem dX12_boxes_809 : decode cX12_boxes 809 = .ok (.i2l, 1) := by decide +kernel
theorem dX12_boxes_810 : decode cX12_boxes 810 = .ok (.lreturn, 1) := by decide +kernel
theorem dX12_divides_0 : decode cX12_divides 0 = .ok (.iload_n 2, 1) := by decide +kernel
theorem dX12_divides_1 : decode cX12_divides 1 = .ok (.ifCond .ne 14, 3) := by decide +kernel
theorem dX12_divides_4 : decode cX12_divides 4 = .ok (.aload_n 0, 1) := by decide +kernel
theorem dX12_divides_5 : decode cX12_divides 5 = .ok (.iconst 0, 1) := by decide +kernel
theorem dX12_divides_6 : decode cX12_divides 6 = .ok (.invokevirtual 79, 3) := by decide +kernel
theorem dX12_divides_9 : decode cX12_divides 9 = .ok (.pop, 1) := by decide +kernel
theorem dX12_divides_10 : decode cX12_divides 10 = .ok (.aload_n 0, 1) := by decide +kernel
theorem dX12_divides_11 : decode cX12_divides 11 = .ok (.invokevirtual 107, 3) := by decide +kernel
theorem dX12_divides_14 : decode cX12_divides 14 = .ok (.lreturn, 1) := by decide +kernel
theorem dX12_divides_15 : decode cX12_divides 15 = .ok (.iload_n 1, 1) := by decide +kernel
theorem dX12_divides_16 : decode cX12_divides 16 = .ok (.bipush 23, 2) := by decide +kernel
theorem dX12_divides_18 : decode cX12_divides 18 = .ok (.if_icmp .gt 12, 3) := by decide +kernel
theorem dX12_divides_21 : decode cX12_divides 21 = .ok (.aload_n 0, 1) := by decide +kernel
theorem dX12_divides_22 : decode cX12_divides 22 = .ok (.getfield 143, 3) := by decide +kernel
theorem dX12_divides_25 : decode cX12_divides 25 = .ok (.l2i, 1) := by decide +kernel
theorem dX12_divides_26 : decode cX12_divides 26 = .ok (.i2l, 1) := by decide +kernel
theorem dX12_divides_27 : decode cX12_divides 27 = .ok (.goto 7, 3) := by decide +kernel
theorem dX12_divides_30 : decode cX12_divides 30 = .ok (.aload_n 0, 1) := by decide +kernel
theorem dX12_divides_31 : decode cX12_divides 31 = .ok (.getfield 143, 3) := by decide +kernel
theorem dX12_divides_34 : decode cX12_divides 34 = .ok (.lstore_n 3, 1) := by decide +kernel
theorem dX12_divides_35 : decode cX12_divides 35 = .ok (.iload_n 2, 1) := by decide +kernel
theorem dX12_divides_36 : decode cX12_divides 36 = .ok (.iconst (-1), 1) := by decide +kernel
theorem dX12_divides_37 : decode cX12_divides 37 = .ok (.if_icmp .ne 8, 3) := by decide +kernel
theorem dX12_divides_40 : decode cX12_divides 40 = .ok (.lload_n 3, 1) := by decide +kernel
theorem dX12_divides_41 : decode cX12_divides 41 = .ok (.lneg, 1) := by decide +kernel
theorem dX12_divides_42 : decode cX12_divides 42 = .ok (.goto 7, 3) := by decide +kernel
theorem dX12_divides_45 : decode cX12_divides 45 = .ok (.lload_n 3, 1) := by decide +kernel
theorem dX12_divides_46 : decode cX12_divides 46 = .ok (.iload_n 2, 1) := by decide +kernel
theorem dX12_divides_47 : decode cX12_divides 47 = .ok (.i2l, 1) := by decide +kernel
theorem dX12_divides_48 : decode cX12_divides 48 = .ok (.ldiv, 1) := by decide +kernel
theorem dX12_divides_49 : decode cX12_divides 49 = .ok (.lstore 5, 2) := by decide +kernel
theorem dX12_divides_51 : decode cX12_divides 51 = .ok (.iload_n 1, 1) := by decide +kernel
theorem dX12_divides_52 : decode cX12_divides 52 = .ok (.iconst 1, 1) := by decide +kernel
theorem dX12_divides_53 : decode cX12_divides 53 = .ok (.iand, 1) := by decide +kernel
theorem dX12_divides_54 : decode cX12_divides 54 = .ok (.iconst 1, 1) := by decide +kernel
theorem dX12_divides_55 : decode cX12_divides 55 = .ok (.if_icmp .ne 11, 3) := by decide +kernel
theorem dX12_divides_58 : decode cX12_divides 58 = .ok (.lload_n 3, 1) := by decide +kernel
theorem dX12_divides_59 : decode cX12_divides 59 = .ok (.lload 5, 2) := by decide +kernel
theorem dX12_divides_61 : decode cX12_divides 61 = .ok (.iload_n 2, 1) := by decide +kernel
theorem dX12_divides_62 : decode cX12_divides 62 = .ok (.i2l, 1) := by decide +kernel
theorem dX12_divides_63 : decode cX12_divides 63 = .ok (.lmul, 1) := by decide +kernel
theorem dX12_divides_64 : decode cX12_divides 64 = .ok (.lsub, 1) := by decide +kernel
theorem dX12_divides_65 : decode cX12_divides 65 = .ok (.lreturn, 1) := by decide +kernel
theorem dX12_divides_66 : decode cX12_divides 66 = .ok (.iload_n 1, 1) := by decide +kernel
theorem dX12_divides_67 : decode cX12_divides 67 = .ok (.bipush 22, 2) := by decide +kernel
theorem dX12_divides_69 : decode cX12_divides 69 = .ok (.if_icmp .ne 10, 3) := by decide +kernel
theorem dX12_divides_72 : decode cX12_divides 72 = .ok (.lload 5, 2) := by decide +kernel
theorem dX12_divides_74 : decode cX12_divides 74 = .ok (.l2i, 1) := by decide +kernel
theorem dX12_divides_75 : decode cX12_divides 75 = .ok (.i2l, 1) := by decide +kernel
theorem dX12_divides_76 : decode cX12_divides 76 = .ok (.goto 5, 3) := by decide +kernel
theorem dX12_divides_79 : decode cX12_divides 79 = .ok (.lload 5, 2) := by decide +kernel
theorem dX12_divides_81 : decode cX12_divides 81 = .ok (.lreturn, 1) := by decide +kernel
theorem dX12_others_0 : decode cX12_others 0 = .ok (.iload_n 1, 1) := by decide +kernel
theorem dX12_others_1 : decode cX12_others 1 = .ok (.tableswitch 217 26 30 #[35, 82, 118, 140, 175], 35) := by decide +kernel
theorem dX12_others_36 : decode cX12_others 36 = .ok (.aload_n 0, 1) := by decide +kernel
theorem dX12_others_37 : decode cX12_others 37 = .ok (.iload_n 2, 1) := by decide +kernel
theorem dX12_others_38 : decode cX12_others 38 = .ok (.bipush 15, 2) := by decide +kernel
theorem dX12_others_40 : decode cX12_others 40 = .ok (.invokevirtual 131, 3) := by decide +kernel
theorem dX12_others_43 : decode cX12_others 43 = .ok (.ifCond .eq 11, 3) := by decide +kernel
theorem dX12_others_46 : decode cX12_others 46 = .ok (.aload_n 0, 1) := by decide +kernel
theorem dX12_others_47 : decode cX12_others 47 = .ok (.iload_n 2, 1) := by decide +kernel
theorem dX12_others_48 : decode cX12_others 48 = .ok (.invokevirtual 134, 3) := by decide +kernel
theorem dX12_others_51 : decode cX12_others 51 = .ok (.ifCond .ne 8, 3) := by decide +kernel
theorem dX12_others_54 : decode cX12_others 54 = .ok (.aload_n 0, 1) := by decide +kernel
theorem dX12_others_55 : decode cX12_others 55 = .ok (.invokevirtual 107, 3) := by decide +kernel
theorem dX12_others_58 : decode cX12_others 58 = .ok (.lreturn, 1) := by decide +kernel
theorem dX12_others_59 : decode cX12_others 59 = .ok (.aload_n 0, 1) := by decide +kernel
theorem dX12_others_60 : decode cX12_others 60 = .ok (.aload_n 0, 1) := by decide +kernel
theorem dX12_others_61 : decode cX12_others 61 = .ok (.getfield 7, 3) := by decide +kernel
theorem dX12_others_64 : decode cX12_others 64 = .ok (.aload_n 0, 1) := by decide +kernel
theorem dX12_others_65 : decode cX12_others 65 = .ok (.getfield 34, 3) := by decide +kernel
theorem dX12_others_68 : decode cX12_others 68 = .ok (.iload_n 2, 1) := by decide +kernel
theorem dX12_others_69 : decode cX12_others 69 = .ok (.iaload, 1) := by decide +kernel
theorem dX12_others_70 : decode cX12_others 70 = .ok (.iaload, 1) := by decide +kernel
theorem dX12_others_71 : decode cX12_others 71 = .ok (.bipush 16, 2) := by decide +kernel
theorem dX12_others_73 : decode cX12_others 73 = .ok (.isub, 1) := by decide +kernel
theorem dX12_others_74 : decode cX12_others 74 = .ok (.invokevirtual 79, 3) := by decide +kernel
theorem dX12_others_77 : decode cX12_others 77 = .ok (.pop, 1) := by decide +kernel
theorem dX12_others_78 : decode cX12_others 78 = .ok (.aload_n 0, 1) := by decide +kernel
theorem dX12_others_79 : decode cX12_others 79 = .ok (.invokevirtual 107, 3) := by decide +kernel
theorem dX12_others_82 : decode cX12_others 82 = .ok (.lreturn, 1) := by decide +kernel
theorem dX12_others_83 : decode cX12_others 83 = .ok (.aload_n 0, 1) := by decide +kernel
theorem dX12_others_84 : decode cX12_others 84 = .ok (.iload_n 2, 1) := by decide +kernel
theorem dX12_others_85 : decode cX12_others 85 = .ok (.invokevirtual 83, 3) := by decide +kernel
theorem dX12_others_88 : decode cX12_others 88 = .ok (.ifCond .ne 8, 3) := by decide +kernel
theorem dX12_others_91 : decode cX12_others 91 = .ok (.aload_n 0, 1) := by decide +kernel
theorem dX12_others_92 : decode cX12_others 92 = .ok (.invokevirtual 107, 3) := by decide +kernel
theorem dX12_others_95 : decode cX12_others 95 = .ok (.lreturn, 1) := by decide +kernel
theorem dX12_others_96 : decode cX12_others 96 = .ok (.aload_n 0, 1) := by decide +kernel
theorem dX12_others_97 : decode cX12_others 97 = .ok (.aload_n 0, 1) := by decide +kernel
theorem dX12_others_98 : decode cX12_others 98 = .ok (.getfield 34, 3) := by decide +kernel
theorem dX12_others_101 : decode cX12_others 101 = .ok (.iload_n 2, 1) := by decide +kernel
theorem dX12_others_102 : decode cX12_others 102 = .ok (.iaload, 1) := by decide +kernel
theorem dX12_others_103 : decode cX12_others 103 = .ok (.iload_n 3, 1) := by decide +kernel
theorem dX12_others_104 : decode cX12_others 104 = .ok (.bipush 15, 2) := by decide +kernel
theorem dX12_others_106 : decode cX12_others 106 = .ok (.iand, 1) := by decide +kernel
theorem dX12_others_107 : decode cX12_others 107 = .ok (.invokevirtual 86, 3) := by decide +kernel
theorem dX12_others_110 : decode cX12_others 110 = .ok (.ifCond .eq 7, 3) := by decide +kernel
theorem dX12_others_113 : decode cX12_others 113 = .ok (.lconst 1, 1) := by decide +kernel
theorem dX12_others_114 : decode cX12_others 114 = .ok (.goto 4, 3) := by decide +kernel
theorem dX12_others_117 : decode cX12_others 117 = .ok (.lconst 0, 1) := by decide +kernel
theorem dX12_others_118 : decode cX12_others 118 = .ok (.lreturn, 1) := by decide +kernel
theorem dX12_others_119 : decode cX12_others 119 = .ok (.aload_n 0, 1) := by decide +kernel
theorem dX12_others_120 : decode cX12_others 120 = .ok (.iload_n 2, 1) := by decide +kernel
theorem dX12_others_121 : decode cX12_others 121 = .ok (.invokevirtual 83, 3) := by decide +kernel
theorem dX12_others_124 : decode cX12_others 124 = .ok (.ifCond .ne 8, 3) := by decide +kernel
theorem dX12_others_127 : decode cX12_others 127 = .ok (.aload_n 0, 1) := by decide +kernel
theorem dX12_others_128 : decode cX12_others 128 = .ok (.invokevirtual 107, 3) := by decide +kernel
theorem dX12_others_131 : decode cX12_others 131 = .ok (.lreturn, 1) := by decide +kernel
theorem dX12_others_132 : decode cX12_others 132 = .ok (.aload_n 0, 1) := by decide +kernel
theorem dX12_others_133 : decode cX12_others 133 = .ok (.getfield 34, 3) := by decide +kernel
theorem dX12_others_136 : decode cX12_others 136 = .ok (.iload_n 2, 1) := by decide +kernel
theorem dX12_others_137 : decode cX12_others 137 = .ok (.iconst 0, 1) := by decide +kernel
theorem dX12_others_138 : decode cX12_others 138 = .ok (.iastore, 1) := by decide +kernel
theorem dX12_others_139 : decode cX12_others 139 = .ok (.lconst 0, 1) := by decide +kernel
theorem dX12_others_140 : decode cX12_others 140 = .ok (.lreturn, 1) := by decide +kernel
theorem dX12_others_141 : decode cX12_others 141 = .ok (.aload_n 0, 1) := by decide +kernel
theorem dX12_others_142 : decode cX12_others 142 = .ok (.iload_n 3, 1) := by decide +kernel
theorem dX12_others_143 : decode cX12_others 143 = .ok (.invokevirtual 83, 3) := by decide +kernel
theorem dX12_others_146 : decode cX12_others 146 = .ok (.ifCond .eq 11, 3) := by decide +kernel
theorem dX12_others_149 : decode cX12_others 149 = .ok (.aload_n 0, 1) := by decide +kernel
theorem dX12_others_150 : decode cX12_others 150 = .ok (.iload_n 2, 1) := by decide +kernel
theorem dX12_others_151 : decode cX12_others 151 = .ok (.invokevirtual 83, 3) := by decide +kernel
theorem dX12_others_154 : decode cX12_others 154 = .ok (.ifCond .ne 8, 3) := by decide +kernel
theorem dX12_others_157 : decode cX12_others 157 = .ok (.aload_n 0, 1) := by decide +kernel
theorem dX12_others_158 : decode cX12_others 158 = .ok (.invokevirtual 107, 3) := by decide +kernel
theorem dX12_others_161 : decode cX12_others 161 = .ok (.lreturn, 1) := by decide +kernel
theorem dX12_others_162 : decode cX12_others 162 = .ok (.aload_n 0, 1) := by decide +kernel
theorem dX12_others_163 : decode cX12_others 163 = .ok (.getfield 34, 3) := by decide +kernel
theorem dX12_others_166 : decode cX12_others 166 = .ok (.iload_n 3, 1) := by decide +kernel
theorem dX12_others_167 : decode cX12_others 167 = .ok (.aload_n 0, 1) := by decide +kernel
theorem dX12_others_168 : decode cX12_others 168 = .ok (.getfield 34, 3) := by decide +kernel
theorem dX12_others_171 : decode cX12_others 171 = .ok (.iload_n 2, 1) := by decide +kernel
theorem dX12_others_172 : decode cX12_others 172 = .ok (.iaload, 1) := by decide +kernel
theorem dX12_others_173 : decode cX12_others 173 = .ok (.iastore, 1) := by decide +kernel
theorem dX12_others_174 : decode cX12_others 174 = .ok (.lconst 0, 1) := by decide +kernel
theorem dX12_others_175 : decode cX12_others 175 = .ok (.lreturn, 1) := by decide +kernel
theorem dX12_others_176 : decode cX12_others 176 = .ok (.aload_n 0, 1) := by decide +kernel
theorem dX12_others_177 : decode cX12_others 177 = .ok (.iload_n 2, 1) := by decide +kernel
theorem dX12_others_178 : decode cX12_others 178 = .ok (.invokevirtual 83, 3) := by decide +kernel
theorem dX12_others_181 : decode cX12_others 181 = .ok (.ifCond .eq 11, 3) := by decide +kernel
theorem dX12_others_184 : decode cX12_others 184 = .ok (.aload_n 0, 1) := by decide +kernel
theorem dX12_others_185 : decode cX12_others 185 = .ok (.iload_n 3, 1) := by decide +kernel
theorem dX12_others_186 : decode cX12_others 186 = .ok (.invokevirtual 83, 3) := by decide +kernel
theorem dX12_others_189 : decode cX12_others 189 = .ok (.ifCond .ne 8, 3) := by decide +kernel
theorem dX12_others_192 : decode cX12_others 192 = .ok (.aload_n 0, 1) := by decide +kernel
theorem dX12_others_193 : decode cX12_others 193 = .ok (.invokevirtual 107, 3) := by decide +kernel
theorem dX12_others_196 : decode cX12_others 196 = .ok (.lreturn, 1) := by decide +kernel
theorem dX12_others_197 : decode cX12_others 197 = .ok (.aload_n 0, 1) := by decide +kernel
theorem dX12_others_198 : decode cX12_others 198 = .ok (.getfield 34, 3) := by decide +kernel
theorem dX12_others_201 : decode cX12_others 201 = .ok (.iload_n 2, 1) := by decide +kernel
theorem dX12_others_202 : decode cX12_others 202 = .ok (.iaload, 1) := by decide +kernel
theorem dX12_others_203 : decode cX12_others 203 = .ok (.aload_n 0, 1) := by decide +kernel
theorem dX12_others_204 : decode cX12_others 204 = .ok (.getfield 34, 3) := by decide +kernel
theorem dX12_others_207 : decode cX12_others 207 = .ok (.iload_n 3, 1) := by decide +kernel
theorem dX12_others_208 : decode cX12_others 208 = .ok (.iaload, 1) := by decide +kernel
theorem dX12_others_209 : decode cX12_others 209 = .ok (.if_icmp .ne 7, 3) := by decide +kernel
theorem dX12_others_212 : decode cX12_others 212 = .ok (.lconst 1, 1) := by decide +kernel
theorem dX12_others_213 : decode cX12_others 213 = .ok (.goto 4, 3) := by decide +kernel
theorem dX12_others_216 : decode cX12_others 216 = .ok (.lconst 0, 1) := by decide +kernel
theorem dX12_others_217 : decode cX12_others 217 = .ok (.lreturn, 1) := by decide +kernel
theorem dX12_others_218 : decode cX12_others 218 = .ok (.aload_n 0, 1) := by decide +kernel
theorem dX12_others_219 : decode cX12_others 219 = .ok (.iload_n 2, 1) := by decide +kernel
theorem dX12_others_220 : decode cX12_others 220 = .ok (.iload_n 3, 1) := by decide +kernel
theorem dX12_others_221 : decode cX12_others 221 = .ok (.iload 4, 2) := by decide +kernel
theorem dX12_others_223 : decode cX12_others 223 = .ok (.bipush 16, 2) := by decide +kernel
theorem dX12_others_225 : decode cX12_others 225 = .ok (.ishr, 1) := by decide +kernel
theorem dX12_others_226 : decode cX12_others 226 = .ok (.i2b, 1) := by decide +kernel
theorem dX12_others_227 : decode cX12_others 227 = .ok (.iload 4, 2) := by decide +kernel
theorem dX12_others_229 : decode cX12_others 229 = .ok (.bipush 8, 2) := by decide +kernel
theorem dX12_others_231 : decode cX12_others 231 = .ok (.ishr, 1) := by decide +kernel
theorem dX12_others_232 : decode cX12_others 232 = .ok (.i2b, 1) := by decide +kernel
theorem dX12_others_233 : decode cX12_others 233 = .ok (.iload 4, 2) := by decide +kernel
theorem dX12_others_235 : decode cX12_others 235 = .ok (.i2b, 1) := by decide +kernel
theorem dX12_others_236 : decode cX12_others 236 = .ok (.invokevirtual 158, 3) := by decide +kernel
theorem dX12_others_239 : decode cX12_others 239 = .ok (.lreturn, 1) := by decide +kernel
theorem dX12_copied_0 : decode cX12_copied 0 = .ok (.aload_n 0, 1) := by decide +kernel
theorem dX12_copied_1 : decode cX12_copied 1 = .ok (.iload_n 1, 1) := by decide +kernel
theorem dX12_copied_2 : decode cX12_copied 2 = .ok (.invokevirtual 83, 3) := by decide +kernel
theorem dX12_copied_5 : decode cX12_copied 5 = .ok (.ifCond .eq 27, 3) := by decide +kernel
theorem dX12_copied_8 : decode cX12_copied 8 = .ok (.aload_n 0, 1) := by decide +kernel
theorem dX12_copied_9 : decode cX12_copied 9 = .ok (.iload_n 2, 1) := by decide +kernel
theorem dX12_copied_10 : decode cX12_copied 10 = .ok (.invokevirtual 83, 3) := by decide +kernel
theorem dX12_copied_13 : decode cX12_copied 13 = .ok (.ifCond .eq 19, 3) := by decide +kernel
theorem dX12_copied_16 : decode cX12_copied 16 = .ok (.aload_n 0, 1) := by decide +kernel
theorem dX12_copied_17 : decode cX12_copied 17 = .ok (.iload_n 1, 1) := by decide +kernel
theorem dX12_copied_18 : decode cX12_copied 18 = .ok (.invokevirtual 134, 3) := by decide +kernel
theorem dX12_copied_21 : decode cX12_copied 21 = .ok (.ifCond .eq 11, 3) := by decide +kernel
theorem dX12_copied_24 : decode cX12_copied 24 = .ok (.aload_n 0, 1) := by decide +kernel
theorem dX12_copied_25 : decode cX12_copied 25 = .ok (.iload_n 2, 1) := by decide +kernel
theorem dX12_copied_26 : decode cX12_copied 26 = .ok (.invokevirtual 134, 3) := by decide +kernel
theorem dX12_copied_29 : decode cX12_copied 29 = .ok (.ifCond .ne 8, 3) := by decide +kernel
theorem dX12_copied_32 : decode cX12_copied 32 = .ok (.aload_n 0, 1) := by decide +kernel
theorem dX12_copied_33 : decode cX12_copied 33 = .ok (.invokevirtual 107, 3) := by decide +kernel
theorem dX12_copied_36 : decode cX12_copied 36 = .ok (.lreturn, 1) := by decide +kernel
theorem dX12_copied_37 : decode cX12_copied 37 = .ok (.aload_n 0, 1) := by decide +kernel
theorem dX12_copied_38 : decode cX12_copied 38 = .ok (.getfield 34, 3) := by decide +kernel
theorem dX12_copied_41 : decode cX12_copied 41 = .ok (.iload_n 1, 1) := by decide +kernel
theorem dX12_copied_42 : decode cX12_copied 42 = .ok (.iaload, 1) := by decide +kernel
theorem dX12_copied_43 : decode cX12_copied 43 = .ok (.istore 6, 2) := by decide +kernel
theorem dX12_copied_45 : decode cX12_copied 45 = .ok (.aload_n 0, 1) := by decide +kernel
theorem dX12_copied_46 : decode cX12_copied 46 = .ok (.getfield 34, 3) := by decide +kernel
theorem dX12_copied_49 : decode cX12_copied 49 = .ok (.iload_n 2, 1) := by decide +kernel
theorem dX12_copied_50 : decode cX12_copied 50 = .ok (.iaload, 1) := by decide +kernel
theorem dX12_copied_51 : decode cX12_copied 51 = .ok (.istore 7, 2) := by decide +kernel
theorem dX12_copied_53 : decode cX12_copied 53 = .ok (.aload_n 0, 1) := by decide +kernel
theorem dX12_copied_54 : decode cX12_copied 54 = .ok (.getfield 7, 3) := by decide +kernel
theorem dX12_copied_57 : decode cX12_copied 57 = .ok (.iload 6, 2) := by decide +kernel
theorem dX12_copied_59 : decode cX12_copied 59 = .ok (.iaload, 1) := by decide +kernel
theorem dX12_copied_60 : decode cX12_copied 60 = .ok (.bipush 12, 2) := by decide +kernel
theorem dX12_copied_62 : decode cX12_copied 62 = .ok (.if_icmp .ge 56, 3) := by decide +kernel
theorem dX12_copied_65 : decode cX12_copied 65 = .ok (.aload_n 0, 1) := by decide +kernel
theorem dX12_copied_66 : decode cX12_copied 66 = .ok (.getfield 7, 3) := by decide +kernel
theorem dX12_copied_69 : decode cX12_copied 69 = .ok (.iload 7, 2) := by decide +kernel
theorem dX12_copied_71 : decode cX12_copied 71 = .ok (.iaload, 1) := by decide +kernel
theorem dX12_copied_72 : decode cX12_copied 72 = .ok (.bipush 12, 2) := by decide +kernel
theorem dX12_copied_74 : decode cX12_copied 74 = .ok (.if_icmp .ge 44, 3) := by decide +kernel
theorem dX12_copied_77 : decode cX12_copied 77 = .ok (.aload_n 0, 1) := by decide +kernel
theorem dX12_copied_78 : decode cX12_copied 78 = .ok (.getfield 7, 3) := by decide +kernel
theorem dX12_copied_81 : decode cX12_copied 81 = .ok (.iload 6, 2) := by decide +kernel
theorem dX12_copied_83 : decode cX12_copied 83 = .ok (.iaload, 1) := by decide +kernel
theorem dX12_copied_84 : decode cX12_copied 84 = .ok (.bipush 8, 2) := by decide +kernel
theorem dX12_copied_86 : decode cX12_copied 86 = .ok (.if_icmp .lt 15, 3) := by decide +kernel
theorem dX12_copied_89 : decode cX12_copied 89 = .ok (.aload_n 0, 1) := by decide +kernel
theorem dX12_copied_90 : decode cX12_copied 90 = .ok (.getfield 7, 3) := by decide +kernel
theorem dX12_copied_93 : decode cX12_copied 93 = .ok (.iload 7, 2) := by decide +kernel
theorem dX12_copied_95 : decode cX12_copied 95 = .ok (.iaload, 1) := by decide +kernel
theorem dX12_copied_96 : decode cX12_copied 96 = .ok (.bipush 8, 2) := by decide +kernel
theorem dX12_copied_98 : decode cX12_copied 98 = .ok (.if_icmp .ge 31, 3) := by decide +kernel
theorem dX12_copied_101 : decode cX12_copied 101 = .ok (.aload_n 0, 1) := by decide +kernel
theorem dX12_copied_102 : decode cX12_copied 102 = .ok (.getfield 7, 3) := by decide +kernel
theorem dX12_copied_105 : decode cX12_copied 105 = .ok (.iload 6, 2) := by decide +kernel
theorem dX12_copied_107 : decode cX12_copied 107 = .ok (.iaload, 1) := by decide +kernel
theorem dX12_copied_108 : decode cX12_copied 108 = .ok (.aload_n 0, 1) := by decide +kernel
theorem dX12_copied_109 : decode cX12_copied 109 = .ok (.getfield 7, 3) := by decide +kernel
theorem dX12_copied_112 : decode cX12_copied 112 = .ok (.iload 7, 2) := by decide +kernel
theorem dX12_copied_114 : decode cX12_copied 114 = .ok (.iaload, 1) := by decide +kernel
theorem dX12_copied_115 : decode cX12_copied 115 = .ok (.if_icmp .eq 14, 3) := by decide +kernel
theorem dX12_copied_118 : decode cX12_copied 118 = .ok (.aload_n 0, 1) := by decide +kernel
theorem dX12_copied_119 : decode cX12_copied 119 = .ok (.iconst 5, 1) := by decide +kernel
theorem dX12_copied_120 : decode cX12_copied 120 = .ok (.invokevirtual 79, 3) := by decide +kernel
theorem dX12_copied_123 : decode cX12_copied 123 = .ok (.pop, 1) := by decide +kernel
theorem dX12_copied_124 : decode cX12_copied 124 = .ok (.aload_n 0, 1) := by decide +kernel
theorem dX12_copied_125 : decode cX12_copied 125 = .ok (.invokevirtual 107, 3) := by decide +kernel
theorem dX12_copied_128 : decode cX12_copied 128 = .ok (.lreturn, 1) := by decide +kernel
theorem dX12_copied_129 : decode cX12_copied 129 = .ok (.iload_n 3, 1) := by decide +kernel
theorem dX12_copied_130 : decode cX12_copied 130 = .ok (.ifCond .lt 42, 3) := by decide +kernel
theorem dX12_copied_133 : decode cX12_copied 133 = .ok (.iload 4, 2) := by decide +kernel
theorem dX12_copied_135 : decode cX12_copied 135 = .ok (.ifCond .lt 37, 3) := by decide +kernel
theorem dX12_copied_138 : decode cX12_copied 138 = .ok (.iload 5, 2) := by decide +kernel
theorem dX12_copied_140 : decode cX12_copied 140 = .ok (.ifCond .lt 32, 3) := by decide +kernel
theorem dX12_copied_143 : decode cX12_copied 143 = .ok (.iload_n 3, 1) := by decide +kernel
theorem dX12_copied_144 : decode cX12_copied 144 = .ok (.iload 5, 2) := by decide +kernel
theorem dX12_copied_146 : decode cX12_copied 146 = .ok (.iadd, 1) := by decide +kernel
theorem dX12_copied_147 : decode cX12_copied 147 = .ok (.aload_n 0, 1) := by decide +kernel
theorem dX12_copied_148 : decode cX12_copied 148 = .ok (.getfield 16, 3) := by decide +kernel
theorem dX12_copied_151 : decode cX12_copied 151 = .ok (.iload 6, 2) := by decide +kernel
theorem dX12_copied_153 : decode cX12_copied 153 = .ok (.iaload, 1) := by decide +kernel
theorem dX12_copied_154 : decode cX12_copied 154 = .ok (.if_icmp .gt 18, 3) := by decide +kernel
theorem dX12_copied_157 : decode cX12_copied 157 = .ok (.iload 4, 2) := by decide +kernel
theorem dX12_copied_159 : decode cX12_copied 159 = .ok (.iload 5, 2) := by decide +kernel
theorem dX12_copied_161 : decode cX12_copied 161 = .ok (.iadd, 1) := by decide +kernel
theorem dX12_copied_162 : decode cX12_copied 162 = .ok (.aload_n 0, 1) := by decide +kernel
theorem dX12_copied_163 : decode cX12_copied 163 = .ok (.getfield 16, 3) := by decide +kernel
theorem dX12_copied_166 : decode cX12_copied 166 = .ok (.iload 7, 2) := by decide +kernel
theorem dX12_copied_168 : decode cX12_copied 168 = .ok (.iaload, 1) := by decide +kernel
theorem dX12_copied_169 : decode cX12_copied 169 = .ok (.if_icmp .le 14, 3) := by decide +kernel
theorem dX12_copied_172 : decode cX12_copied 172 = .ok (.aload_n 0, 1) := by decide +kernel
theorem dX12_copied_173 : decode cX12_copied 173 = .ok (.iconst 2, 1) := by decide +kernel
theorem dX12_copied_174 : decode cX12_copied 174 = .ok (.invokevirtual 79, 3) := by decide +kernel
theorem dX12_copied_177 : decode cX12_copied 177 = .ok (.pop, 1) := by decide +kernel
theorem dX12_copied_178 : decode cX12_copied 178 = .ok (.aload_n 0, 1) := by decide +kernel
theorem dX12_copied_179 : decode cX12_copied 179 = .ok (.invokevirtual 107, 3) := by decide +kernel
theorem dX12_copied_182 : decode cX12_copied 182 = .ok (.lreturn, 1) := by decide +kernel
theorem dX12_copied_183 : decode cX12_copied 183 = .ok (.iload 6, 2) := by decide +kernel
theorem dX12_copied_185 : decode cX12_copied 185 = .ok (.iload 7, 2) := by decide +kernel
theorem dX12_copied_187 : decode cX12_copied 187 = .ok (.if_icmp .ne 13, 3) := by decide +kernel
theorem dX12_copied_190 : decode cX12_copied 190 = .ok (.iload_n 3, 1) := by decide +kernel
theorem dX12_copied_191 : decode cX12_copied 191 = .ok (.iload 4, 2) := by decide +kernel
theorem dX12_copied_193 : decode cX12_copied 193 = .ok (.if_icmp .ge 7, 3) := by decide +kernel
theorem dX12_copied_196 : decode cX12_copied 196 = .ok (.iconst 1, 1) := by decide +kernel
theorem dX12_copied_197 : decode cX12_copied 197 = .ok (.goto 4, 3) := by decide +kernel
theorem dX12_copied_200 : decode cX12_copied 200 = .ok (.iconst 0, 1) := by decide +kernel
theorem dX12_copied_201 : decode cX12_copied 201 = .ok (.istore 8, 2) := by decide +kernel
theorem dX12_copied_203 : decode cX12_copied 203 = .ok (.iconst 0, 1) := by decide +kernel
theorem dX12_copied_204 : decode cX12_copied 204 = .ok (.istore 9, 2) := by decide +kernel
theorem dX12_copied_206 : decode cX12_copied 206 = .ok (.iload 9, 2) := by decide +kernel
theorem dX12_copied_208 : decode cX12_copied 208 = .ok (.iload 5, 2) := by decide +kernel
theorem dX12_copied_210 : decode cX12_copied 210 = .ok (.if_icmp .ge 145, 3) := by decide +kernel
theorem dX12_copied_213 : decode cX12_copied 213 = .ok (.iload 8, 2) := by decide +kernel
theorem dX12_copied_215 : decode cX12_copied 215 = .ok (.ifCond .eq 13, 3) := by decide +kernel
theorem dX12_copied_218 : decode cX12_copied 218 = .ok (.iload 5, 2) := by decide +kernel
theorem dX12_copied_220 : decode cX12_copied 220 = .ok (.iconst 1, 1) := by decide +kernel
theorem dX12_copied_221 : decode cX12_copied 221 = .ok (.isub, 1) := by decide +kernel
theorem dX12_copied_222 : decode cX12_copied 222 = .ok (.iload 9, 2) := by decide +kernel
theorem dX12_copied_224 : decode cX12_copied 224 = .ok (.isub, 1) := by decide +kernel
