/-! ===== rows of instructions, and what calls ask ===== -/
theorem at_0_0 : am_at (am_m 0) 0 = some (.new 8, 11) := (am_L0_0 0).trans (by decide +kernel)
theorem at_0_3 : am_at (am_m 0) 3 = some (.dup, 0) := (am_L0_0 3).trans (by decide +kernel)
theorem at_0_4 : am_at (am_m 0) 4 = some (.invokespecial 185, 1) := (am_L0_0 4).trans (by decide +kernel)
theorem at_0_7 : am_at (am_m 0) 7 = some (.astore_n 1, 0) := (am_L0_0 7).trans (by decide +kernel)
theorem at_0_8 : am_at (am_m 0) 8 = some (.new 186, 12) := (am_L0_0 8).trans (by decide +kernel)
theorem at_0_11 : am_at (am_m 0) 11 = some (.dup, 0) := (am_L0_0 11).trans (by decide +kernel)
theorem at_0_12 : am_at (am_m 0) 12 = some (.invokespecial 188, 323) := (am_L0_0 12).trans (by decide +kernel)
theorem at_0_15 : am_at (am_m 0) 15 = some (.astore_n 2, 0) := (am_L0_0 15).trans (by decide +kernel)
theorem at_0_16 : am_at (am_m 0) 16 = some (.iconst 1, 0) := (am_L0_0 16).trans (by decide +kernel)
theorem at_0_17 : am_at (am_m 0) 17 = some (.newarray .long, 1) := (am_L0_0 17).trans (by decide +kernel)
theorem at_0_19 : am_at (am_m 0) 19 = some (.astore_n 3, 0) := (am_L0_0 19).trans (by decide +kernel)
theorem at_0_20 : am_at (am_m 0) 20 = some (.iconst 0, 0) := (am_L0_0 20).trans (by decide +kernel)
theorem at_0_21 : am_at (am_m 0) 21 = some (.istore 4, 0) := (am_L0_0 21).trans (by decide +kernel)
theorem at_0_23 : am_at (am_m 0) 23 = some (.iload 4, 0) := (am_L0_0 23).trans (by decide +kernel)
theorem at_0_25 : am_at (am_m 0) 25 = some (.aload_n 0, 0) := (am_L0_0 25).trans (by decide +kernel)
theorem at_0_26 : am_at (am_m 0) 26 = some (.arraylength, 0) := (am_L0_0 26).trans (by decide +kernel)
theorem at_0_27 : am_at (am_m 0) 27 = some (.bipush 7, 0) := (am_L0_0 27).trans (by decide +kernel)
theorem at_0_29 : am_at (am_m 0) 29 = some (.isub, 0) := (am_L0_0 29).trans (by decide +kernel)
theorem at_0_30 : am_at (am_m 0) 30 = some (.if_icmp .gt 4168, 4198) := (am_L0_0 30).trans (by decide +kernel)
theorem at_0_33 : am_at (am_m 0) 33 = some (.aload_n 0, 0) := (am_L0_0 33).trans (by decide +kernel)
theorem at_0_34 : am_at (am_m 0) 34 = some (.iload 4, 0) := (am_L0_0 34).trans (by decide +kernel)
theorem at_0_36 : am_at (am_m 0) 36 = some (.iaload, 0) := (am_L0_0 36).trans (by decide +kernel)
theorem at_0_37 : am_at (am_m 0) 37 = some (.bipush 63, 0) := (am_L0_0 37).trans (by decide +kernel)
theorem at_0_39 : am_at (am_m 0) 39 = some (.iand, 0) := (am_L0_0 39).trans (by decide +kernel)
theorem at_0_40 : am_at (am_m 0) 40 = some (.tableswitch 4152 0 59 #[256, 313, 369, 425, 493, 506, 574, 629, 709, 784, 839, 939, 994, 1019, 1153, 1209, 1222, 1290, 1358, 1450, 1463, 1476, 1544, 1639, 1706, 1790, 1858, 1926, 1994, 2074, 2186, 2254, 2366, 2504, 2560, 2628, 2696, 2771, 2827, 2895, 2975, 3042, 3109, 3165, 3233, 3300, 3363, 3419, 3475, 3488, 3525, 3600, 3668, 3724, 3780, 3860, 3928, 3984, 4040, 4096], 0) := (am_L0_0 40).trans (by decide +kernel)
theorem at_0_296 : am_at (am_m 0) 296 = some (.aload_n 1, 0) := (am_L0_0 296).trans (by decide +kernel)
theorem at_0_297 : am_at (am_m 0) 297 = some (.aload_n 0, 0) := (am_L0_0 297).trans (by decide +kernel)
theorem at_0_298 : am_at (am_m 0) 298 = some (.iload 4, 0) := (am_L0_0 298).trans (by decide +kernel)
theorem at_0_300 : am_at (am_m 0) 300 = some (.iconst 1, 0) := (am_L0_0 300).trans (by decide +kernel)
theorem at_0_301 : am_at (am_m 0) 301 = some (.iadd, 0) := (am_L0_0 301).trans (by decide +kernel)
theorem at_0_302 : am_at (am_m 0) 302 = some (.iaload, 0) := (am_L0_0 302).trans (by decide +kernel)
theorem at_0_303 : am_at (am_m 0) 303 = some (.i2l, 0) := (am_L0_0 303).trans (by decide +kernel)
theorem at_0_304 : am_at (am_m 0) 304 = some (.bipush 32, 0) := (am_L0_0 304).trans (by decide +kernel)
theorem at_0_306 : am_at (am_m 0) 306 = some (.lshl, 0) := (am_L0_0 306).trans (by decide +kernel)
theorem at_0_307 : am_at (am_m 0) 307 = some (.aload_n 0, 0) := (am_L0_0 307).trans (by decide +kernel)
theorem at_0_308 : am_at (am_m 0) 308 = some (.iload 4, 0) := (am_L0_0 308).trans (by decide +kernel)
theorem at_0_310 : am_at (am_m 0) 310 = some (.iconst 2, 0) := (am_L0_0 310).trans (by decide +kernel)
theorem at_0_311 : am_at (am_m 0) 311 = some (.iadd, 0) := (am_L0_0 311).trans (by decide +kernel)
theorem at_0_312 : am_at (am_m 0) 312 = some (.iaload, 0) := (am_L0_0 312).trans (by decide +kernel)
theorem at_0_313 : am_at (am_m 0) 313 = some (.i2l, 0) := (am_L0_0 313).trans (by decide +kernel)
theorem at_0_314 : am_at (am_m 0) 314 = some (.ldc2_w 189, 0) := (am_L0_1 314 (by decide)).trans (by decide +kernel)
theorem at_0_317 : am_at (am_m 0) 317 = some (.land, 0) := (am_L0_1 317 (by decide)).trans (by decide +kernel)
theorem at_0_318 : am_at (am_m 0) 318 = some (.lor, 0) := (am_L0_1 318 (by decide)).trans (by decide +kernel)
theorem at_0_319 : am_at (am_m 0) 319 = some (.invokevirtual 191, 21) := (am_L0_1 319 (by decide)).trans (by decide +kernel)
theorem at_0_322 : am_at (am_m 0) 322 = some (.aload_n 2, 0) := (am_L0_1 322 (by decide)).trans (by decide +kernel)
theorem at_0_323 : am_at (am_m 0) 323 = some (.aload_n 0, 0) := (am_L0_1 323 (by decide)).trans (by decide +kernel)
theorem at_0_324 : am_at (am_m 0) 324 = some (.iload 4, 0) := (am_L0_1 324 (by decide)).trans (by decide +kernel)
theorem at_0_326 : am_at (am_m 0) 326 = some (.iconst 1, 0) := (am_L0_1 326 (by decide)).trans (by decide +kernel)
theorem at_0_327 : am_at (am_m 0) 327 = some (.iadd, 0) := (am_L0_1 327 (by decide)).trans (by decide +kernel)
theorem at_0_328 : am_at (am_m 0) 328 = some (.iaload, 0) := (am_L0_1 328 (by decide)).trans (by decide +kernel)
theorem at_0_329 : am_at (am_m 0) 329 = some (.i2l, 0) := (am_L0_1 329 (by decide)).trans (by decide +kernel)
theorem at_0_330 : am_at (am_m 0) 330 = some (.bipush 32, 0) := (am_L0_1 330 (by decide)).trans (by decide +kernel)
theorem at_0_332 : am_at (am_m 0) 332 = some (.lshl, 0) := (am_L0_1 332 (by decide)).trans (by decide +kernel)
theorem at_0_333 : am_at (am_m 0) 333 = some (.aload_n 0, 0) := (am_L0_1 333 (by decide)).trans (by decide +kernel)
theorem at_0_334 : am_at (am_m 0) 334 = some (.iload 4, 0) := (am_L0_1 334 (by decide)).trans (by decide +kernel)
theorem at_0_336 : am_at (am_m 0) 336 = some (.iconst 2, 0) := (am_L0_1 336 (by decide)).trans (by decide +kernel)
theorem at_0_337 : am_at (am_m 0) 337 = some (.iadd, 0) := (am_L0_1 337 (by decide)).trans (by decide +kernel)
theorem at_0_338 : am_at (am_m 0) 338 = some (.iaload, 0) := (am_L0_1 338 (by decide)).trans (by decide +kernel)
theorem at_0_339 : am_at (am_m 0) 339 = some (.i2l, 0) := (am_L0_1 339 (by decide)).trans (by decide +kernel)
theorem at_0_340 : am_at (am_m 0) 340 = some (.ldc2_w 189, 0) := (am_L0_1 340 (by decide)).trans (by decide +kernel)
theorem at_0_343 : am_at (am_m 0) 343 = some (.land, 0) := (am_L0_1 343 (by decide)).trans (by decide +kernel)
theorem at_0_344 : am_at (am_m 0) 344 = some (.lor, 0) := (am_L0_1 344 (by decide)).trans (by decide +kernel)
theorem at_0_345 : am_at (am_m 0) 345 = some (.invokevirtual 195, 325) := (am_L0_1 345 (by decide)).trans (by decide +kernel)
theorem at_0_348 : am_at (am_m 0) 348 = some (.if_icmp .eq 3844, 4192) := (am_L0_1 348 (by decide)).trans (by decide +kernel)
theorem at_0_351 : am_at (am_m 0) 351 = some (.iconst 0, 0) := (am_L0_1 351 (by decide)).trans (by decide +kernel)
theorem at_0_352 : am_at (am_m 0) 352 = some (.ireturn, 0) := (am_L0_1 352 (by decide)).trans (by decide +kernel)
theorem at_0_353 : am_at (am_m 0) 353 = some (.aload_n 1, 0) := (am_L0_1 353 (by decide)).trans (by decide +kernel)
theorem at_0_354 : am_at (am_m 0) 354 = some (.aload_n 0, 0) := (am_L0_1 354 (by decide)).trans (by decide +kernel)
theorem at_0_355 : am_at (am_m 0) 355 = some (.iload 4, 0) := (am_L0_1 355 (by decide)).trans (by decide +kernel)
theorem at_0_357 : am_at (am_m 0) 357 = some (.iconst 1, 0) := (am_L0_1 357 (by decide)).trans (by decide +kernel)
theorem at_0_358 : am_at (am_m 0) 358 = some (.iadd, 0) := (am_L0_1 358 (by decide)).trans (by decide +kernel)
theorem at_0_359 : am_at (am_m 0) 359 = some (.iaload, 0) := (am_L0_1 359 (by decide)).trans (by decide +kernel)
theorem at_0_360 : am_at (am_m 0) 360 = some (.aload_n 3, 0) := (am_L0_1 360 (by decide)).trans (by decide +kernel)
theorem at_0_361 : am_at (am_m 0) 361 = some (.invokestatic 196, 30) := (am_L0_1 361 (by decide)).trans (by decide +kernel)
theorem at_0_364 : am_at (am_m 0) 364 = some (.istore 5, 0) := (am_L0_1 364 (by decide)).trans (by decide +kernel)
theorem at_0_366 : am_at (am_m 0) 366 = some (.aload_n 2, 0) := (am_L0_1 366 (by decide)).trans (by decide +kernel)
theorem at_0_367 : am_at (am_m 0) 367 = some (.aload_n 0, 0) := (am_L0_1 367 (by decide)).trans (by decide +kernel)
theorem at_0_368 : am_at (am_m 0) 368 = some (.iload 4, 0) := (am_L0_1 368 (by decide)).trans (by decide +kernel)
theorem at_0_370 : am_at (am_m 0) 370 = some (.iconst 1, 0) := (am_L0_1 370 (by decide)).trans (by decide +kernel)
theorem at_0_371 : am_at (am_m 0) 371 = some (.iadd, 0) := (am_L0_1 371 (by decide)).trans (by decide +kernel)
theorem at_0_372 : am_at (am_m 0) 372 = some (.iaload, 0) := (am_L0_2 372 (by decide)).trans (by decide +kernel)
theorem at_0_373 : am_at (am_m 0) 373 = some (.invokevirtual 201, 326) := (am_L0_2 373 (by decide)).trans (by decide +kernel)
theorem at_0_376 : am_at (am_m 0) 376 = some (.istore 6, 0) := (am_L0_2 376 (by decide)).trans (by decide +kernel)
theorem at_0_378 : am_at (am_m 0) 378 = some (.aload_n 2, 0) := (am_L0_2 378 (by decide)).trans (by decide +kernel)
theorem at_0_379 : am_at (am_m 0) 379 = some (.invokevirtual 202, 324) := (am_L0_2 379 (by decide)).trans (by decide +kernel)
theorem at_0_382 : am_at (am_m 0) 382 = some (.iload 5, 0) := (am_L0_2 382 (by decide)).trans (by decide +kernel)
theorem at_0_384 : am_at (am_m 0) 384 = some (.if_icmp .eq 5, 389) := (am_L0_2 384 (by decide)).trans (by decide +kernel)
theorem at_0_387 : am_at (am_m 0) 387 = some (.iconst 0, 0) := (am_L0_2 387 (by decide)).trans (by decide +kernel)
theorem at_0_388 : am_at (am_m 0) 388 = some (.ireturn, 0) := (am_L0_2 388 (by decide)).trans (by decide +kernel)
theorem at_0_389 : am_at (am_m 0) 389 = some (.iload 5, 0) := (am_L0_2 389 (by decide)).trans (by decide +kernel)
theorem at_0_391 : am_at (am_m 0) 391 = some (.ifCond .ne 15, 406) := (am_L0_2 391 (by decide)).trans (by decide +kernel)
theorem at_0_394 : am_at (am_m 0) 394 = some (.aload_n 3, 0) := (am_L0_2 394 (by decide)).trans (by decide +kernel)
theorem at_0_395 : am_at (am_m 0) 395 = some (.iconst 0, 0) := (am_L0_2 395 (by decide)).trans (by decide +kernel)
theorem at_0_396 : am_at (am_m 0) 396 = some (.laload, 0) := (am_L0_2 396 (by decide)).trans (by decide +kernel)
theorem at_0_397 : am_at (am_m 0) 397 = some (.iload 6, 0) := (am_L0_2 397 (by decide)).trans (by decide +kernel)
theorem at_0_399 : am_at (am_m 0) 399 = some (.i2l, 0) := (am_L0_2 399 (by decide)).trans (by decide +kernel)
theorem at_0_400 : am_at (am_m 0) 400 = some (.lcmp, 0) := (am_L0_2 400 (by decide)).trans (by decide +kernel)
theorem at_0_401 : am_at (am_m 0) 401 = some (.ifCond .eq 5, 406) := (am_L0_2 401 (by decide)).trans (by decide +kernel)
theorem at_0_404 : am_at (am_m 0) 404 = some (.iconst 0, 0) := (am_L0_2 404 (by decide)).trans (by decide +kernel)
theorem at_0_405 : am_at (am_m 0) 405 = some (.ireturn, 0) := (am_L0_2 405 (by decide)).trans (by decide +kernel)
theorem at_0_406 : am_at (am_m 0) 406 = some (.goto 3786, 4192) := (am_L0_2 406 (by decide)).trans (by decide +kernel)
theorem at_0_409 : am_at (am_m 0) 409 = some (.aload_n 1, 0) := (am_L0_2 409 (by decide)).trans (by decide +kernel)
theorem at_0_410 : am_at (am_m 0) 410 = some (.aload_n 0, 0) := (am_L0_2 410 (by decide)).trans (by decide +kernel)
theorem at_0_411 : am_at (am_m 0) 411 = some (.iload 4, 0) := (am_L0_2 411 (by decide)).trans (by decide +kernel)
theorem at_0_413 : am_at (am_m 0) 413 = some (.iconst 1, 0) := (am_L0_2 413 (by decide)).trans (by decide +kernel)
theorem at_0_414 : am_at (am_m 0) 414 = some (.iadd, 0) := (am_L0_2 414 (by decide)).trans (by decide +kernel)
theorem at_0_415 : am_at (am_m 0) 415 = some (.iaload, 0) := (am_L0_2 415 (by decide)).trans (by decide +kernel)
theorem at_0_416 : am_at (am_m 0) 416 = some (.aload_n 3, 0) := (am_L0_2 416 (by decide)).trans (by decide +kernel)
theorem at_0_417 : am_at (am_m 0) 417 = some (.invokestatic 206, 61) := (am_L0_2 417 (by decide)).trans (by decide +kernel)
theorem at_0_420 : am_at (am_m 0) 420 = some (.istore 5, 0) := (am_L0_2 420 (by decide)).trans (by decide +kernel)
theorem at_0_422 : am_at (am_m 0) 422 = some (.aload_n 2, 0) := (am_L0_2 422 (by decide)).trans (by decide +kernel)
theorem at_0_423 : am_at (am_m 0) 423 = some (.aload_n 0, 0) := (am_L0_2 423 (by decide)).trans (by decide +kernel)
theorem at_0_424 : am_at (am_m 0) 424 = some (.iload 4, 0) := (am_L0_2 424 (by decide)).trans (by decide +kernel)
theorem at_0_426 : am_at (am_m 0) 426 = some (.iconst 1, 0) := (am_L0_2 426 (by decide)).trans (by decide +kernel)
theorem at_0_427 : am_at (am_m 0) 427 = some (.iadd, 0) := (am_L0_2 427 (by decide)).trans (by decide +kernel)
theorem at_0_428 : am_at (am_m 0) 428 = some (.iaload, 0) := (am_L0_2 428 (by decide)).trans (by decide +kernel)
theorem at_0_429 : am_at (am_m 0) 429 = some (.invokevirtual 208, 357) := (am_L0_2 429 (by decide)).trans (by decide +kernel)
theorem at_0_432 : am_at (am_m 0) 432 = some (.istore 6, 0) := (am_L0_2 432 (by decide)).trans (by decide +kernel)
theorem at_0_434 : am_at (am_m 0) 434 = some (.aload_n 2, 0) := (am_L0_2 434 (by decide)).trans (by decide +kernel)
theorem at_0_435 : am_at (am_m 0) 435 = some (.invokevirtual 202, 324) := (am_L0_2 435 (by decide)).trans (by decide +kernel)
theorem at_0_438 : am_at (am_m 0) 438 = some (.iload 5, 0) := (am_L0_3 438 (by decide)).trans (by decide +kernel)
theorem at_0_440 : am_at (am_m 0) 440 = some (.if_icmp .eq 5, 445) := (am_L0_3 440 (by decide)).trans (by decide +kernel)
theorem at_0_443 : am_at (am_m 0) 443 = some (.iconst 0, 0) := (am_L0_3 443 (by decide)).trans (by decide +kernel)
theorem at_0_444 : am_at (am_m 0) 444 = some (.ireturn, 0) := (am_L0_3 444 (by decide)).trans (by decide +kernel)
theorem at_0_445 : am_at (am_m 0) 445 = some (.iload 5, 0) := (am_L0_3 445 (by decide)).trans (by decide +kernel)
theorem at_0_447 : am_at (am_m 0) 447 = some (.ifCond .ne 15, 462) := (am_L0_3 447 (by decide)).trans (by decide +kernel)
theorem at_0_450 : am_at (am_m 0) 450 = some (.aload_n 3, 0) := (am_L0_3 450 (by decide)).trans (by decide +kernel)
theorem at_0_451 : am_at (am_m 0) 451 = some (.iconst 0, 0) := (am_L0_3 451 (by decide)).trans (by decide +kernel)
theorem at_0_452 : am_at (am_m 0) 452 = some (.laload, 0) := (am_L0_3 452 (by decide)).trans (by decide +kernel)
theorem at_0_453 : am_at (am_m 0) 453 = some (.iload 6, 0) := (am_L0_3 453 (by decide)).trans (by decide +kernel)
theorem at_0_455 : am_at (am_m 0) 455 = some (.i2l, 0) := (am_L0_3 455 (by decide)).trans (by decide +kernel)
theorem at_0_456 : am_at (am_m 0) 456 = some (.lcmp, 0) := (am_L0_3 456 (by decide)).trans (by decide +kernel)
theorem at_0_457 : am_at (am_m 0) 457 = some (.ifCond .eq 5, 462) := (am_L0_3 457 (by decide)).trans (by decide +kernel)
theorem at_0_460 : am_at (am_m 0) 460 = some (.iconst 0, 0) := (am_L0_3 460 (by decide)).trans (by decide +kernel)
theorem at_0_461 : am_at (am_m 0) 461 = some (.ireturn, 0) := (am_L0_3 461 (by decide)).trans (by decide +kernel)
theorem at_0_462 : am_at (am_m 0) 462 = some (.goto 3730, 4192) := (am_L0_3 462 (by decide)).trans (by decide +kernel)
theorem at_0_465 : am_at (am_m 0) 465 = some (.aload_n 1, 0) := (am_L0_3 465 (by decide)).trans (by decide +kernel)
theorem at_0_466 : am_at (am_m 0) 466 = some (.aload_n 0, 0) := (am_L0_3 466 (by decide)).trans (by decide +kernel)
theorem at_0_467 : am_at (am_m 0) 467 = some (.iload 4, 0) := (am_L0_3 467 (by decide)).trans (by decide +kernel)
theorem at_0_469 : am_at (am_m 0) 469 = some (.iconst 1, 0) := (am_L0_3 469 (by decide)).trans (by decide +kernel)
theorem at_0_470 : am_at (am_m 0) 470 = some (.iadd, 0) := (am_L0_3 470 (by decide)).trans (by decide +kernel)
theorem at_0_471 : am_at (am_m 0) 471 = some (.iaload, 0) := (am_L0_3 471 (by decide)).trans (by decide +kernel)
theorem at_0_472 : am_at (am_m 0) 472 = some (.aload_n 0, 0) := (am_L0_3 472 (by decide)).trans (by decide +kernel)
theorem at_0_473 : am_at (am_m 0) 473 = some (.iload 4, 0) := (am_L0_3 473 (by decide)).trans (by decide +kernel)
theorem at_0_475 : am_at (am_m 0) 475 = some (.iconst 2, 0) := (am_L0_3 475 (by decide)).trans (by decide +kernel)
theorem at_0_476 : am_at (am_m 0) 476 = some (.iadd, 0) := (am_L0_3 476 (by decide)).trans (by decide +kernel)
theorem at_0_477 : am_at (am_m 0) 477 = some (.iaload, 0) := (am_L0_3 477 (by decide)).trans (by decide +kernel)
theorem at_0_478 : am_at (am_m 0) 478 = some (.aload_n 3, 0) := (am_L0_3 478 (by decide)).trans (by decide +kernel)
theorem at_0_479 : am_at (am_m 0) 479 = some (.invokestatic 209, 70) := (am_L0_3 479 (by decide)).trans (by decide +kernel)
theorem at_0_482 : am_at (am_m 0) 482 = some (.istore 5, 0) := (am_L0_3 482 (by decide)).trans (by decide +kernel)
theorem at_0_484 : am_at (am_m 0) 484 = some (.aload_n 2, 0) := (am_L0_3 484 (by decide)).trans (by decide +kernel)
theorem at_0_485 : am_at (am_m 0) 485 = some (.aload_n 0, 0) := (am_L0_3 485 (by decide)).trans (by decide +kernel)
theorem at_0_486 : am_at (am_m 0) 486 = some (.iload 4, 0) := (am_L0_3 486 (by decide)).trans (by decide +kernel)
theorem at_0_488 : am_at (am_m 0) 488 = some (.iconst 1, 0) := (am_L0_3 488 (by decide)).trans (by decide +kernel)
theorem at_0_489 : am_at (am_m 0) 489 = some (.iadd, 0) := (am_L0_3 489 (by decide)).trans (by decide +kernel)
theorem at_0_490 : am_at (am_m 0) 490 = some (.iaload, 0) := (am_L0_3 490 (by decide)).trans (by decide +kernel)
theorem at_0_491 : am_at (am_m 0) 491 = some (.aload_n 0, 0) := (am_L0_3 491 (by decide)).trans (by decide +kernel)
theorem at_0_492 : am_at (am_m 0) 492 = some (.iload 4, 0) := (am_L0_3 492 (by decide)).trans (by decide +kernel)
theorem at_0_494 : am_at (am_m 0) 494 = some (.iconst 2, 0) := (am_L0_3 494 (by decide)).trans (by decide +kernel)
theorem at_0_495 : am_at (am_m 0) 495 = some (.iadd, 0) := (am_L0_3 495 (by decide)).trans (by decide +kernel)
theorem at_0_496 : am_at (am_m 0) 496 = some (.iaload, 0) := (am_L0_4 496 (by decide)).trans (by decide +kernel)
theorem at_0_497 : am_at (am_m 0) 497 = some (.invokevirtual 212, 368) := (am_L0_4 497 (by decide)).trans (by decide +kernel)
theorem at_0_500 : am_at (am_m 0) 500 = some (.istore 6, 0) := (am_L0_4 500 (by decide)).trans (by decide +kernel)
theorem at_0_502 : am_at (am_m 0) 502 = some (.aload_n 2, 0) := (am_L0_4 502 (by decide)).trans (by decide +kernel)
theorem at_0_503 : am_at (am_m 0) 503 = some (.invokevirtual 202, 324) := (am_L0_4 503 (by decide)).trans (by decide +kernel)
theorem at_0_506 : am_at (am_m 0) 506 = some (.iload 5, 0) := (am_L0_4 506 (by decide)).trans (by decide +kernel)
theorem at_0_508 : am_at (am_m 0) 508 = some (.if_icmp .eq 5, 513) := (am_L0_4 508 (by decide)).trans (by decide +kernel)
theorem at_0_511 : am_at (am_m 0) 511 = some (.iconst 0, 0) := (am_L0_4 511 (by decide)).trans (by decide +kernel)
theorem at_0_512 : am_at (am_m 0) 512 = some (.ireturn, 0) := (am_L0_4 512 (by decide)).trans (by decide +kernel)
theorem at_0_513 : am_at (am_m 0) 513 = some (.iload 5, 0) := (am_L0_4 513 (by decide)).trans (by decide +kernel)
theorem at_0_515 : am_at (am_m 0) 515 = some (.ifCond .ne 15, 530) := (am_L0_4 515 (by decide)).trans (by decide +kernel)
theorem at_0_518 : am_at (am_m 0) 518 = some (.aload_n 3, 0) := (am_L0_4 518 (by decide)).trans (by decide +kernel)
theorem at_0_519 : am_at (am_m 0) 519 = some (.iconst 0, 0) := (am_L0_4 519 (by decide)).trans (by decide +kernel)
theorem at_0_520 : am_at (am_m 0) 520 = some (.laload, 0) := (am_L0_4 520 (by decide)).trans (by decide +kernel)
theorem at_0_521 : am_at (am_m 0) 521 = some (.iload 6, 0) := (am_L0_4 521 (by decide)).trans (by decide +kernel)
theorem at_0_523 : am_at (am_m 0) 523 = some (.i2l, 0) := (am_L0_4 523 (by decide)).trans (by decide +kernel)
theorem at_0_524 : am_at (am_m 0) 524 = some (.lcmp, 0) := (am_L0_4 524 (by decide)).trans (by decide +kernel)
theorem at_0_525 : am_at (am_m 0) 525 = some (.ifCond .eq 5, 530) := (am_L0_4 525 (by decide)).trans (by decide +kernel)
theorem at_0_528 : am_at (am_m 0) 528 = some (.iconst 0, 0) := (am_L0_4 528 (by decide)).trans (by decide +kernel)
theorem at_0_529 : am_at (am_m 0) 529 = some (.ireturn, 0) := (am_L0_4 529 (by decide)).trans (by decide +kernel)
theorem at_0_530 : am_at (am_m 0) 530 = some (.goto 3662, 4192) := (am_L0_4 530 (by decide)).trans (by decide +kernel)
theorem at_0_533 : am_at (am_m 0) 533 = some (.aload_n 1, 0) := (am_L0_4 533 (by decide)).trans (by decide +kernel)
theorem at_0_534 : am_at (am_m 0) 534 = some (.invokevirtual 213, 23) := (am_L0_4 534 (by decide)).trans (by decide +kernel)
theorem at_0_537 : am_at (am_m 0) 537 = some (.aload_n 2, 0) := (am_L0_4 537 (by decide)).trans (by decide +kernel)
theorem at_0_538 : am_at (am_m 0) 538 = some (.invokevirtual 216, 369) := (am_L0_4 538 (by decide)).trans (by decide +kernel)
theorem at_0_541 : am_at (am_m 0) 541 = some (.if_icmp .eq 3651, 4192) := (am_L0_4 541 (by decide)).trans (by decide +kernel)
theorem at_0_544 : am_at (am_m 0) 544 = some (.iconst 0, 0) := (am_L0_4 544 (by decide)).trans (by decide +kernel)
theorem at_0_545 : am_at (am_m 0) 545 = some (.ireturn, 0) := (am_L0_4 545 (by decide)).trans (by decide +kernel)
theorem at_0_546 : am_at (am_m 0) 546 = some (.aload_n 1, 0) := (am_L0_4 546 (by decide)).trans (by decide +kernel)
theorem at_0_547 : am_at (am_m 0) 547 = some (.aload_n 0, 0) := (am_L0_4 547 (by decide)).trans (by decide +kernel)
theorem at_0_548 : am_at (am_m 0) 548 = some (.iload 4, 0) := (am_L0_4 548 (by decide)).trans (by decide +kernel)
theorem at_0_550 : am_at (am_m 0) 550 = some (.iconst 1, 0) := (am_L0_4 550 (by decide)).trans (by decide +kernel)
theorem at_0_551 : am_at (am_m 0) 551 = some (.iadd, 0) := (am_L0_4 551 (by decide)).trans (by decide +kernel)
theorem at_0_552 : am_at (am_m 0) 552 = some (.iaload, 0) := (am_L0_4 552 (by decide)).trans (by decide +kernel)
theorem at_0_553 : am_at (am_m 0) 553 = some (.aload_n 0, 0) := (am_L0_4 553 (by decide)).trans (by decide +kernel)
theorem at_0_554 : am_at (am_m 0) 554 = some (.iload 4, 0) := (am_L0_4 554 (by decide)).trans (by decide +kernel)
theorem at_0_556 : am_at (am_m 0) 556 = some (.iconst 2, 0) := (am_L0_4 556 (by decide)).trans (by decide +kernel)
theorem at_0_557 : am_at (am_m 0) 557 = some (.iadd, 0) := (am_L0_4 557 (by decide)).trans (by decide +kernel)
theorem at_0_558 : am_at (am_m 0) 558 = some (.iaload, 0) := (am_L0_4 558 (by decide)).trans (by decide +kernel)
theorem at_0_559 : am_at (am_m 0) 559 = some (.aload_n 3, 0) := (am_L0_4 559 (by decide)).trans (by decide +kernel)
theorem at_0_560 : am_at (am_m 0) 560 = some (.invokestatic 217, 73) := (am_L0_5 560 (by decide)).trans (by decide +kernel)
theorem at_0_563 : am_at (am_m 0) 563 = some (.istore 5, 0) := (am_L0_5 563 (by decide)).trans (by decide +kernel)
theorem at_0_565 : am_at (am_m 0) 565 = some (.aload_n 2, 0) := (am_L0_5 565 (by decide)).trans (by decide +kernel)
theorem at_0_566 : am_at (am_m 0) 566 = some (.aload_n 0, 0) := (am_L0_5 566 (by decide)).trans (by decide +kernel)
theorem at_0_567 : am_at (am_m 0) 567 = some (.iload 4, 0) := (am_L0_5 567 (by decide)).trans (by decide +kernel)
theorem at_0_569 : am_at (am_m 0) 569 = some (.iconst 1, 0) := (am_L0_5 569 (by decide)).trans (by decide +kernel)
theorem at_0_570 : am_at (am_m 0) 570 = some (.iadd, 0) := (am_L0_5 570 (by decide)).trans (by decide +kernel)
theorem at_0_571 : am_at (am_m 0) 571 = some (.iaload, 0) := (am_L0_5 571 (by decide)).trans (by decide +kernel)
theorem at_0_572 : am_at (am_m 0) 572 = some (.aload_n 0, 0) := (am_L0_5 572 (by decide)).trans (by decide +kernel)
theorem at_0_573 : am_at (am_m 0) 573 = some (.iload 4, 0) := (am_L0_5 573 (by decide)).trans (by decide +kernel)
theorem at_0_575 : am_at (am_m 0) 575 = some (.iconst 2, 0) := (am_L0_5 575 (by decide)).trans (by decide +kernel)
theorem at_0_576 : am_at (am_m 0) 576 = some (.iadd, 0) := (am_L0_5 576 (by decide)).trans (by decide +kernel)
theorem at_0_577 : am_at (am_m 0) 577 = some (.iaload, 0) := (am_L0_5 577 (by decide)).trans (by decide +kernel)
theorem at_0_578 : am_at (am_m 0) 578 = some (.invokevirtual 219, 370) := (am_L0_5 578 (by decide)).trans (by decide +kernel)
theorem at_0_581 : am_at (am_m 0) 581 = some (.istore 6, 0) := (am_L0_5 581 (by decide)).trans (by decide +kernel)
theorem at_0_583 : am_at (am_m 0) 583 = some (.aload_n 2, 0) := (am_L0_5 583 (by decide)).trans (by decide +kernel)
theorem at_0_584 : am_at (am_m 0) 584 = some (.invokevirtual 202, 324) := (am_L0_5 584 (by decide)).trans (by decide +kernel)
theorem at_0_587 : am_at (am_m 0) 587 = some (.iload 5, 0) := (am_L0_5 587 (by decide)).trans (by decide +kernel)
theorem at_0_589 : am_at (am_m 0) 589 = some (.if_icmp .eq 5, 594) := (am_L0_5 589 (by decide)).trans (by decide +kernel)
theorem at_0_592 : am_at (am_m 0) 592 = some (.iconst 0, 0) := (am_L0_5 592 (by decide)).trans (by decide +kernel)
theorem at_0_593 : am_at (am_m 0) 593 = some (.ireturn, 0) := (am_L0_5 593 (by decide)).trans (by decide +kernel)
theorem at_0_594 : am_at (am_m 0) 594 = some (.iload 5, 0) := (am_L0_5 594 (by decide)).trans (by decide +kernel)
theorem at_0_596 : am_at (am_m 0) 596 = some (.ifCond .ne 15, 611) := (am_L0_5 596 (by decide)).trans (by decide +kernel)
theorem at_0_599 : am_at (am_m 0) 599 = some (.aload_n 3, 0) := (am_L0_5 599 (by decide)).trans (by decide +kernel)
theorem at_0_600 : am_at (am_m 0) 600 = some (.iconst 0, 0) := (am_L0_5 600 (by decide)).trans (by decide +kernel)
theorem at_0_601 : am_at (am_m 0) 601 = some (.laload, 0) := (am_L0_5 601 (by decide)).trans (by decide +kernel)
theorem at_0_602 : am_at (am_m 0) 602 = some (.iload 6, 0) := (am_L0_5 602 (by decide)).trans (by decide +kernel)
theorem at_0_604 : am_at (am_m 0) 604 = some (.i2l, 0) := (am_L0_5 604 (by decide)).trans (by decide +kernel)
theorem at_0_605 : am_at (am_m 0) 605 = some (.lcmp, 0) := (am_L0_5 605 (by decide)).trans (by decide +kernel)
theorem at_0_606 : am_at (am_m 0) 606 = some (.ifCond .eq 5, 611) := (am_L0_5 606 (by decide)).trans (by decide +kernel)
theorem at_0_609 : am_at (am_m 0) 609 = some (.iconst 0, 0) := (am_L0_5 609 (by decide)).trans (by decide +kernel)
theorem at_0_610 : am_at (am_m 0) 610 = some (.ireturn, 0) := (am_L0_5 610 (by decide)).trans (by decide +kernel)
theorem at_0_611 : am_at (am_m 0) 611 = some (.goto 3581, 4192) := (am_L0_5 611 (by decide)).trans (by decide +kernel)
theorem at_0_614 : am_at (am_m 0) 614 = some (.aload_n 1, 0) := (am_L0_5 614 (by decide)).trans (by decide +kernel)
theorem at_0_615 : am_at (am_m 0) 615 = some (.aload_n 0, 0) := (am_L0_5 615 (by decide)).trans (by decide +kernel)
theorem at_0_616 : am_at (am_m 0) 616 = some (.iload 4, 0) := (am_L0_5 616 (by decide)).trans (by decide +kernel)
theorem at_0_618 : am_at (am_m 0) 618 = some (.iconst 1, 0) := (am_L0_5 618 (by decide)).trans (by decide +kernel)
theorem at_0_619 : am_at (am_m 0) 619 = some (.iadd, 0) := (am_L0_5 619 (by decide)).trans (by decide +kernel)
theorem at_0_620 : am_at (am_m 0) 620 = some (.iaload, 0) := (am_L0_5 620 (by decide)).trans (by decide +kernel)
theorem at_0_621 : am_at (am_m 0) 621 = some (.aload_n 3, 0) := (am_L0_5 621 (by decide)).trans (by decide +kernel)
theorem at_0_622 : am_at (am_m 0) 622 = some (.invokestatic 220, 80) := (am_L0_6 622 (by decide)).trans (by decide +kernel)
theorem at_0_625 : am_at (am_m 0) 625 = some (.istore 5, 0) := (am_L0_6 625 (by decide)).trans (by decide +kernel)
theorem at_0_627 : am_at (am_m 0) 627 = some (.aload_n 2, 0) := (am_L0_6 627 (by decide)).trans (by decide +kernel)
theorem at_0_628 : am_at (am_m 0) 628 = some (.aload_n 0, 0) := (am_L0_6 628 (by decide)).trans (by decide +kernel)
theorem at_0_629 : am_at (am_m 0) 629 = some (.iload 4, 0) := (am_L0_6 629 (by decide)).trans (by decide +kernel)
theorem at_0_631 : am_at (am_m 0) 631 = some (.iconst 1, 0) := (am_L0_6 631 (by decide)).trans (by decide +kernel)
theorem at_0_632 : am_at (am_m 0) 632 = some (.iadd, 0) := (am_L0_6 632 (by decide)).trans (by decide +kernel)
theorem at_0_633 : am_at (am_m 0) 633 = some (.iaload, 0) := (am_L0_6 633 (by decide)).trans (by decide +kernel)
theorem at_0_634 : am_at (am_m 0) 634 = some (.invokevirtual 222, 372) := (am_L0_6 634 (by decide)).trans (by decide +kernel)
theorem at_0_637 : am_at (am_m 0) 637 = some (.lstore 6, 0) := (am_L0_6 637 (by decide)).trans (by decide +kernel)
theorem at_0_639 : am_at (am_m 0) 639 = some (.aload_n 2, 0) := (am_L0_6 639 (by decide)).trans (by decide +kernel)
theorem at_0_640 : am_at (am_m 0) 640 = some (.invokevirtual 202, 324) := (am_L0_6 640 (by decide)).trans (by decide +kernel)
theorem at_0_643 : am_at (am_m 0) 643 = some (.iload 5, 0) := (am_L0_6 643 (by decide)).trans (by decide +kernel)
theorem at_0_645 : am_at (am_m 0) 645 = some (.if_icmp .eq 5, 650) := (am_L0_6 645 (by decide)).trans (by decide +kernel)
theorem at_0_648 : am_at (am_m 0) 648 = some (.iconst 0, 0) := (am_L0_6 648 (by decide)).trans (by decide +kernel)
theorem at_0_649 : am_at (am_m 0) 649 = some (.ireturn, 0) := (am_L0_6 649 (by decide)).trans (by decide +kernel)
theorem at_0_650 : am_at (am_m 0) 650 = some (.iload 5, 0) := (am_L0_6 650 (by decide)).trans (by decide +kernel)
theorem at_0_652 : am_at (am_m 0) 652 = some (.ifCond .ne 14, 666) := (am_L0_6 652 (by decide)).trans (by decide +kernel)
theorem at_0_655 : am_at (am_m 0) 655 = some (.aload_n 3, 0) := (am_L0_6 655 (by decide)).trans (by decide +kernel)
theorem at_0_656 : am_at (am_m 0) 656 = some (.iconst 0, 0) := (am_L0_6 656 (by decide)).trans (by decide +kernel)
theorem at_0_657 : am_at (am_m 0) 657 = some (.laload, 0) := (am_L0_6 657 (by decide)).trans (by decide +kernel)
theorem at_0_658 : am_at (am_m 0) 658 = some (.lload 6, 0) := (am_L0_6 658 (by decide)).trans (by decide +kernel)
theorem at_0_660 : am_at (am_m 0) 660 = some (.lcmp, 0) := (am_L0_6 660 (by decide)).trans (by decide +kernel)
theorem at_0_661 : am_at (am_m 0) 661 = some (.ifCond .eq 5, 666) := (am_L0_6 661 (by decide)).trans (by decide +kernel)
theorem at_0_664 : am_at (am_m 0) 664 = some (.iconst 0, 0) := (am_L0_6 664 (by decide)).trans (by decide +kernel)
theorem at_0_665 : am_at (am_m 0) 665 = some (.ireturn, 0) := (am_L0_6 665 (by decide)).trans (by decide +kernel)
theorem at_0_666 : am_at (am_m 0) 666 = some (.goto 3526, 4192) := (am_L0_6 666 (by decide)).trans (by decide +kernel)
theorem at_0_669 : am_at (am_m 0) 669 = some (.aload_n 1, 0) := (am_L0_6 669 (by decide)).trans (by decide +kernel)
theorem at_0_670 : am_at (am_m 0) 670 = some (.aload_n 0, 0) := (am_L0_6 670 (by decide)).trans (by decide +kernel)
theorem at_0_671 : am_at (am_m 0) 671 = some (.iload 4, 0) := (am_L0_6 671 (by decide)).trans (by decide +kernel)
theorem at_0_673 : am_at (am_m 0) 673 = some (.iconst 1, 0) := (am_L0_6 673 (by decide)).trans (by decide +kernel)
theorem at_0_674 : am_at (am_m 0) 674 = some (.iadd, 0) := (am_L0_6 674 (by decide)).trans (by decide +kernel)
theorem at_0_675 : am_at (am_m 0) 675 = some (.iaload, 0) := (am_L0_6 675 (by decide)).trans (by decide +kernel)
theorem at_0_676 : am_at (am_m 0) 676 = some (.aload_n 0, 0) := (am_L0_6 676 (by decide)).trans (by decide +kernel)
theorem at_0_677 : am_at (am_m 0) 677 = some (.iload 4, 0) := (am_L0_6 677 (by decide)).trans (by decide +kernel)
theorem at_0_679 : am_at (am_m 0) 679 = some (.iconst 2, 0) := (am_L0_6 679 (by decide)).trans (by decide +kernel)
theorem at_0_680 : am_at (am_m 0) 680 = some (.iadd, 0) := (am_L0_6 680 (by decide)).trans (by decide +kernel)
theorem at_0_681 : am_at (am_m 0) 681 = some (.iaload, 0) := (am_L0_6 681 (by decide)).trans (by decide +kernel)
theorem at_0_682 : am_at (am_m 0) 682 = some (.aload_n 0, 0) := (am_L0_6 682 (by decide)).trans (by decide +kernel)
theorem at_0_683 : am_at (am_m 0) 683 = some (.iload 4, 0) := (am_L0_6 683 (by decide)).trans (by decide +kernel)
theorem at_0_685 : am_at (am_m 0) 685 = some (.iconst 3, 0) := (am_L0_7 685 (by decide)).trans (by decide +kernel)
theorem at_0_686 : am_at (am_m 0) 686 = some (.iadd, 0) := (am_L0_7 686 (by decide)).trans (by decide +kernel)
theorem at_0_687 : am_at (am_m 0) 687 = some (.iaload, 0) := (am_L0_7 687 (by decide)).trans (by decide +kernel)
theorem at_0_688 : am_at (am_m 0) 688 = some (.aload_n 3, 0) := (am_L0_7 688 (by decide)).trans (by decide +kernel)
theorem at_0_689 : am_at (am_m 0) 689 = some (.invokestatic 223, 82) := (am_L0_7 689 (by decide)).trans (by decide +kernel)
theorem at_0_692 : am_at (am_m 0) 692 = some (.istore 5, 0) := (am_L0_7 692 (by decide)).trans (by decide +kernel)
theorem at_0_694 : am_at (am_m 0) 694 = some (.aload_n 2, 0) := (am_L0_7 694 (by decide)).trans (by decide +kernel)
theorem at_0_695 : am_at (am_m 0) 695 = some (.aload_n 0, 0) := (am_L0_7 695 (by decide)).trans (by decide +kernel)
theorem at_0_696 : am_at (am_m 0) 696 = some (.iload 4, 0) := (am_L0_7 696 (by decide)).trans (by decide +kernel)
theorem at_0_698 : am_at (am_m 0) 698 = some (.iconst 1, 0) := (am_L0_7 698 (by decide)).trans (by decide +kernel)
theorem at_0_699 : am_at (am_m 0) 699 = some (.iadd, 0) := (am_L0_7 699 (by decide)).trans (by decide +kernel)
theorem at_0_700 : am_at (am_m 0) 700 = some (.iaload, 0) := (am_L0_7 700 (by decide)).trans (by decide +kernel)
theorem at_0_701 : am_at (am_m 0) 701 = some (.aload_n 0, 0) := (am_L0_7 701 (by decide)).trans (by decide +kernel)
theorem at_0_702 : am_at (am_m 0) 702 = some (.iload 4, 0) := (am_L0_7 702 (by decide)).trans (by decide +kernel)
theorem at_0_704 : am_at (am_m 0) 704 = some (.iconst 2, 0) := (am_L0_7 704 (by decide)).trans (by decide +kernel)
theorem at_0_705 : am_at (am_m 0) 705 = some (.iadd, 0) := (am_L0_7 705 (by decide)).trans (by decide +kernel)
theorem at_0_706 : am_at (am_m 0) 706 = some (.iaload, 0) := (am_L0_7 706 (by decide)).trans (by decide +kernel)
theorem at_0_707 : am_at (am_m 0) 707 = some (.aload_n 0, 0) := (am_L0_7 707 (by decide)).trans (by decide +kernel)
theorem at_0_708 : am_at (am_m 0) 708 = some (.iload 4, 0) := (am_L0_7 708 (by decide)).trans (by decide +kernel)
theorem at_0_710 : am_at (am_m 0) 710 = some (.iconst 3, 0) := (am_L0_7 710 (by decide)).trans (by decide +kernel)
theorem at_0_711 : am_at (am_m 0) 711 = some (.iadd, 0) := (am_L0_7 711 (by decide)).trans (by decide +kernel)
theorem at_0_712 : am_at (am_m 0) 712 = some (.iaload, 0) := (am_L0_7 712 (by decide)).trans (by decide +kernel)
theorem at_0_713 : am_at (am_m 0) 713 = some (.invokevirtual 226, 373) := (am_L0_7 713 (by decide)).trans (by decide +kernel)
theorem at_0_716 : am_at (am_m 0) 716 = some (.istore 6, 0) := (am_L0_7 716 (by decide)).trans (by decide +kernel)
theorem at_0_718 : am_at (am_m 0) 718 = some (.aload_n 2, 0) := (am_L0_7 718 (by decide)).trans (by decide +kernel)
theorem at_0_719 : am_at (am_m 0) 719 = some (.invokevirtual 202, 324) := (am_L0_7 719 (by decide)).trans (by decide +kernel)
theorem at_0_722 : am_at (am_m 0) 722 = some (.iload 5, 0) := (am_L0_7 722 (by decide)).trans (by decide +kernel)
theorem at_0_724 : am_at (am_m 0) 724 = some (.if_icmp .eq 5, 729) := (am_L0_7 724 (by decide)).trans (by decide +kernel)
theorem at_0_727 : am_at (am_m 0) 727 = some (.iconst 0, 0) := (am_L0_7 727 (by decide)).trans (by decide +kernel)
theorem at_0_728 : am_at (am_m 0) 728 = some (.ireturn, 0) := (am_L0_7 728 (by decide)).trans (by decide +kernel)
theorem at_0_729 : am_at (am_m 0) 729 = some (.iload 5, 0) := (am_L0_7 729 (by decide)).trans (by decide +kernel)
theorem at_0_731 : am_at (am_m 0) 731 = some (.ifCond .ne 15, 746) := (am_L0_7 731 (by decide)).trans (by decide +kernel)
theorem at_0_734 : am_at (am_m 0) 734 = some (.aload_n 3, 0) := (am_L0_7 734 (by decide)).trans (by decide +kernel)
theorem at_0_735 : am_at (am_m 0) 735 = some (.iconst 0, 0) := (am_L0_7 735 (by decide)).trans (by decide +kernel)
theorem at_0_736 : am_at (am_m 0) 736 = some (.laload, 0) := (am_L0_7 736 (by decide)).trans (by decide +kernel)
theorem at_0_737 : am_at (am_m 0) 737 = some (.iload 6, 0) := (am_L0_7 737 (by decide)).trans (by decide +kernel)
theorem at_0_739 : am_at (am_m 0) 739 = some (.i2l, 0) := (am_L0_7 739 (by decide)).trans (by decide +kernel)
theorem at_0_740 : am_at (am_m 0) 740 = some (.lcmp, 0) := (am_L0_7 740 (by decide)).trans (by decide +kernel)
theorem at_0_741 : am_at (am_m 0) 741 = some (.ifCond .eq 5, 746) := (am_L0_7 741 (by decide)).trans (by decide +kernel)
theorem at_0_744 : am_at (am_m 0) 744 = some (.iconst 0, 0) := (am_L0_7 744 (by decide)).trans (by decide +kernel)
theorem at_0_745 : am_at (am_m 0) 745 = some (.ireturn, 0) := (am_L0_8 745 (by decide)).trans (by decide +kernel)
theorem at_0_746 : am_at (am_m 0) 746 = some (.goto 3446, 4192) := (am_L0_8 746 (by decide)).trans (by decide +kernel)
theorem at_0_749 : am_at (am_m 0) 749 = some (.aload_n 1, 0) := (am_L0_8 749 (by decide)).trans (by decide +kernel)
theorem at_0_750 : am_at (am_m 0) 750 = some (.aload_n 0, 0) := (am_L0_8 750 (by decide)).trans (by decide +kernel)
theorem at_0_751 : am_at (am_m 0) 751 = some (.iload 4, 0) := (am_L0_8 751 (by decide)).trans (by decide +kernel)
theorem at_0_753 : am_at (am_m 0) 753 = some (.iconst 1, 0) := (am_L0_8 753 (by decide)).trans (by decide +kernel)
theorem at_0_754 : am_at (am_m 0) 754 = some (.iadd, 0) := (am_L0_8 754 (by decide)).trans (by decide +kernel)
theorem at_0_755 : am_at (am_m 0) 755 = some (.iaload, 0) := (am_L0_8 755 (by decide)).trans (by decide +kernel)
theorem at_0_756 : am_at (am_m 0) 756 = some (.aload_n 0, 0) := (am_L0_8 756 (by decide)).trans (by decide +kernel)
theorem at_0_757 : am_at (am_m 0) 757 = some (.iload 4, 0) := (am_L0_8 757 (by decide)).trans (by decide +kernel)
theorem at_0_759 : am_at (am_m 0) 759 = some (.iconst 2, 0) := (am_L0_8 759 (by decide)).trans (by decide +kernel)
theorem at_0_760 : am_at (am_m 0) 760 = some (.iadd, 0) := (am_L0_8 760 (by decide)).trans (by decide +kernel)
theorem at_0_761 : am_at (am_m 0) 761 = some (.iaload, 0) := (am_L0_8 761 (by decide)).trans (by decide +kernel)
theorem at_0_762 : am_at (am_m 0) 762 = some (.aload_n 3, 0) := (am_L0_8 762 (by decide)).trans (by decide +kernel)
theorem at_0_763 : am_at (am_m 0) 763 = some (.invokestatic 227, 84) := (am_L0_8 763 (by decide)).trans (by decide +kernel)
theorem at_0_766 : am_at (am_m 0) 766 = some (.istore 5, 0) := (am_L0_8 766 (by decide)).trans (by decide +kernel)
theorem at_0_768 : am_at (am_m 0) 768 = some (.aload_n 2, 0) := (am_L0_8 768 (by decide)).trans (by decide +kernel)
theorem at_0_769 : am_at (am_m 0) 769 = some (.aload_n 0, 0) := (am_L0_8 769 (by decide)).trans (by decide +kernel)
theorem at_0_770 : am_at (am_m 0) 770 = some (.iload 4, 0) := (am_L0_8 770 (by decide)).trans (by decide +kernel)
theorem at_0_772 : am_at (am_m 0) 772 = some (.iconst 1, 0) := (am_L0_8 772 (by decide)).trans (by decide +kernel)
theorem at_0_773 : am_at (am_m 0) 773 = some (.iadd, 0) := (am_L0_8 773 (by decide)).trans (by decide +kernel)
theorem at_0_774 : am_at (am_m 0) 774 = some (.iaload, 0) := (am_L0_8 774 (by decide)).trans (by decide +kernel)
theorem at_0_775 : am_at (am_m 0) 775 = some (.aload_n 0, 0) := (am_L0_8 775 (by decide)).trans (by decide +kernel)
theorem at_0_776 : am_at (am_m 0) 776 = some (.iload 4, 0) := (am_L0_8 776 (by decide)).trans (by decide +kernel)
theorem at_0_778 : am_at (am_m 0) 778 = some (.iconst 2, 0) := (am_L0_8 778 (by decide)).trans (by decide +kernel)
theorem at_0_779 : am_at (am_m 0) 779 = some (.iadd, 0) := (am_L0_8 779 (by decide)).trans (by decide +kernel)
theorem at_0_780 : am_at (am_m 0) 780 = some (.iaload, 0) := (am_L0_8 780 (by decide)).trans (by decide +kernel)
theorem at_0_781 : am_at (am_m 0) 781 = some (.invokevirtual 229, 374) := (am_L0_8 781 (by decide)).trans (by decide +kernel)
theorem at_0_784 : am_at (am_m 0) 784 = some (.istore 6, 0) := (am_L0_8 784 (by decide)).trans (by decide +kernel)
theorem at_0_786 : am_at (am_m 0) 786 = some (.aload_n 2, 0) := (am_L0_8 786 (by decide)).trans (by decide +kernel)
theorem at_0_787 : am_at (am_m 0) 787 = some (.invokevirtual 202, 324) := (am_L0_8 787 (by decide)).trans (by decide +kernel)
theorem at_0_790 : am_at (am_m 0) 790 = some (.iload 5, 0) := (am_L0_8 790 (by decide)).trans (by decide +kernel)
theorem at_0_792 : am_at (am_m 0) 792 = some (.if_icmp .eq 5, 797) := (am_L0_8 792 (by decide)).trans (by decide +kernel)
theorem at_0_795 : am_at (am_m 0) 795 = some (.iconst 0, 0) := (am_L0_8 795 (by decide)).trans (by decide +kernel)
theorem at_0_796 : am_at (am_m 0) 796 = some (.ireturn, 0) := (am_L0_8 796 (by decide)).trans (by decide +kernel)
theorem at_0_797 : am_at (am_m 0) 797 = some (.iload 5, 0) := (am_L0_8 797 (by decide)).trans (by decide +kernel)
theorem at_0_799 : am_at (am_m 0) 799 = some (.ifCond .ne 22, 821) := (am_L0_8 799 (by decide)).trans (by decide +kernel)
theorem at_0_802 : am_at (am_m 0) 802 = some (.aload_n 3, 0) := (am_L0_8 802 (by decide)).trans (by decide +kernel)
theorem at_0_803 : am_at (am_m 0) 803 = some (.iconst 0, 0) := (am_L0_8 803 (by decide)).trans (by decide +kernel)
theorem at_0_804 : am_at (am_m 0) 804 = some (.laload, 0) := (am_L0_8 804 (by decide)).trans (by decide +kernel)
theorem at_0_805 : am_at (am_m 0) 805 = some (.iload 6, 0) := (am_L0_9 805 (by decide)).trans (by decide +kernel)
theorem at_0_807 : am_at (am_m 0) 807 = some (.ifCond .eq 7, 814) := (am_L0_9 807 (by decide)).trans (by decide +kernel)
theorem at_0_810 : am_at (am_m 0) 810 = some (.lconst 1, 0) := (am_L0_9 810 (by decide)).trans (by decide +kernel)
theorem at_0_811 : am_at (am_m 0) 811 = some (.goto 4, 815) := (am_L0_9 811 (by decide)).trans (by decide +kernel)
theorem at_0_814 : am_at (am_m 0) 814 = some (.lconst 0, 0) := (am_L0_9 814 (by decide)).trans (by decide +kernel)
theorem at_0_815 : am_at (am_m 0) 815 = some (.lcmp, 0) := (am_L0_9 815 (by decide)).trans (by decide +kernel)
theorem at_0_816 : am_at (am_m 0) 816 = some (.ifCond .eq 5, 821) := (am_L0_9 816 (by decide)).trans (by decide +kernel)
theorem at_0_819 : am_at (am_m 0) 819 = some (.iconst 0, 0) := (am_L0_9 819 (by decide)).trans (by decide +kernel)
theorem at_0_820 : am_at (am_m 0) 820 = some (.ireturn, 0) := (am_L0_9 820 (by decide)).trans (by decide +kernel)
theorem at_0_821 : am_at (am_m 0) 821 = some (.goto 3371, 4192) := (am_L0_9 821 (by decide)).trans (by decide +kernel)
theorem at_0_824 : am_at (am_m 0) 824 = some (.aload_n 1, 0) := (am_L0_9 824 (by decide)).trans (by decide +kernel)
theorem at_0_825 : am_at (am_m 0) 825 = some (.aload_n 0, 0) := (am_L0_9 825 (by decide)).trans (by decide +kernel)
theorem at_0_826 : am_at (am_m 0) 826 = some (.iload 4, 0) := (am_L0_9 826 (by decide)).trans (by decide +kernel)
theorem at_0_828 : am_at (am_m 0) 828 = some (.iconst 1, 0) := (am_L0_9 828 (by decide)).trans (by decide +kernel)
theorem at_0_829 : am_at (am_m 0) 829 = some (.iadd, 0) := (am_L0_9 829 (by decide)).trans (by decide +kernel)
theorem at_0_830 : am_at (am_m 0) 830 = some (.iaload, 0) := (am_L0_9 830 (by decide)).trans (by decide +kernel)
theorem at_0_831 : am_at (am_m 0) 831 = some (.aload_n 3, 0) := (am_L0_9 831 (by decide)).trans (by decide +kernel)
theorem at_0_832 : am_at (am_m 0) 832 = some (.invokestatic 230, 87) := (am_L0_9 832 (by decide)).trans (by decide +kernel)
theorem at_0_835 : am_at (am_m 0) 835 = some (.istore 5, 0) := (am_L0_9 835 (by decide)).trans (by decide +kernel)
theorem at_0_837 : am_at (am_m 0) 837 = some (.aload_n 2, 0) := (am_L0_9 837 (by decide)).trans (by decide +kernel)
theorem at_0_838 : am_at (am_m 0) 838 = some (.aload_n 0, 0) := (am_L0_9 838 (by decide)).trans (by decide +kernel)
theorem at_0_839 : am_at (am_m 0) 839 = some (.iload 4, 0) := (am_L0_9 839 (by decide)).trans (by decide +kernel)
theorem at_0_841 : am_at (am_m 0) 841 = some (.iconst 1, 0) := (am_L0_9 841 (by decide)).trans (by decide +kernel)
theorem at_0_842 : am_at (am_m 0) 842 = some (.iadd, 0) := (am_L0_9 842 (by decide)).trans (by decide +kernel)
theorem at_0_843 : am_at (am_m 0) 843 = some (.iaload, 0) := (am_L0_9 843 (by decide)).trans (by decide +kernel)
theorem at_0_844 : am_at (am_m 0) 844 = some (.invokevirtual 232, 376) := (am_L0_9 844 (by decide)).trans (by decide +kernel)
theorem at_0_847 : am_at (am_m 0) 847 = some (.lstore 6, 0) := (am_L0_9 847 (by decide)).trans (by decide +kernel)
theorem at_0_849 : am_at (am_m 0) 849 = some (.aload_n 2, 0) := (am_L0_9 849 (by decide)).trans (by decide +kernel)
theorem at_0_850 : am_at (am_m 0) 850 = some (.invokevirtual 202, 324) := (am_L0_9 850 (by decide)).trans (by decide +kernel)
theorem at_0_853 : am_at (am_m 0) 853 = some (.iload 5, 0) := (am_L0_9 853 (by decide)).trans (by decide +kernel)
theorem at_0_855 : am_at (am_m 0) 855 = some (.if_icmp .eq 5, 860) := (am_L0_9 855 (by decide)).trans (by decide +kernel)
theorem at_0_858 : am_at (am_m 0) 858 = some (.iconst 0, 0) := (am_L0_9 858 (by decide)).trans (by decide +kernel)
theorem at_0_859 : am_at (am_m 0) 859 = some (.ireturn, 0) := (am_L0_9 859 (by decide)).trans (by decide +kernel)
theorem at_0_860 : am_at (am_m 0) 860 = some (.iload 5, 0) := (am_L0_9 860 (by decide)).trans (by decide +kernel)
theorem at_0_862 : am_at (am_m 0) 862 = some (.ifCond .ne 14, 876) := (am_L0_9 862 (by decide)).trans (by decide +kernel)
theorem at_0_865 : am_at (am_m 0) 865 = some (.aload_n 3, 0) := (am_L0_9 865 (by decide)).trans (by decide +kernel)
theorem at_0_866 : am_at (am_m 0) 866 = some (.iconst 0, 0) := (am_L0_9 866 (by decide)).trans (by decide +kernel)
theorem at_0_867 : am_at (am_m 0) 867 = some (.laload, 0) := (am_L0_9 867 (by decide)).trans (by decide +kernel)
theorem at_0_868 : am_at (am_m 0) 868 = some (.lload 6, 0) := (am_L0_9 868 (by decide)).trans (by decide +kernel)
theorem at_0_870 : am_at (am_m 0) 870 = some (.lcmp, 0) := (am_L0_9 870 (by decide)).trans (by decide +kernel)
theorem at_0_871 : am_at (am_m 0) 871 = some (.ifCond .eq 5, 876) := (am_L0_10 871 (by decide)).trans (by decide +kernel)
theorem at_0_874 : am_at (am_m 0) 874 = some (.iconst 0, 0) := (am_L0_10 874 (by decide)).trans (by decide +kernel)
theorem at_0_875 : am_at (am_m 0) 875 = some (.ireturn, 0) := (am_L0_10 875 (by decide)).trans (by decide +kernel)
theorem at_0_876 : am_at (am_m 0) 876 = some (.goto 3316, 4192) := (am_L0_10 876 (by decide)).trans (by decide +kernel)
theorem at_0_879 : am_at (am_m 0) 879 = some (.aload_n 1, 0) := (am_L0_10 879 (by decide)).trans (by decide +kernel)
theorem at_0_880 : am_at (am_m 0) 880 = some (.aload_n 0, 0) := (am_L0_10 880 (by decide)).trans (by decide +kernel)
theorem at_0_881 : am_at (am_m 0) 881 = some (.iload 4, 0) := (am_L0_10 881 (by decide)).trans (by decide +kernel)
theorem at_0_883 : am_at (am_m 0) 883 = some (.iconst 1, 0) := (am_L0_10 883 (by decide)).trans (by decide +kernel)
theorem at_0_884 : am_at (am_m 0) 884 = some (.iadd, 0) := (am_L0_10 884 (by decide)).trans (by decide +kernel)
theorem at_0_885 : am_at (am_m 0) 885 = some (.iaload, 0) := (am_L0_10 885 (by decide)).trans (by decide +kernel)
theorem at_0_886 : am_at (am_m 0) 886 = some (.aload_n 0, 0) := (am_L0_10 886 (by decide)).trans (by decide +kernel)
theorem at_0_887 : am_at (am_m 0) 887 = some (.iload 4, 0) := (am_L0_10 887 (by decide)).trans (by decide +kernel)
theorem at_0_889 : am_at (am_m 0) 889 = some (.iconst 2, 0) := (am_L0_10 889 (by decide)).trans (by decide +kernel)
theorem at_0_890 : am_at (am_m 0) 890 = some (.iadd, 0) := (am_L0_10 890 (by decide)).trans (by decide +kernel)
theorem at_0_891 : am_at (am_m 0) 891 = some (.iaload, 0) := (am_L0_10 891 (by decide)).trans (by decide +kernel)
theorem at_0_892 : am_at (am_m 0) 892 = some (.i2l, 0) := (am_L0_10 892 (by decide)).trans (by decide +kernel)
theorem at_0_893 : am_at (am_m 0) 893 = some (.bipush 32, 0) := (am_L0_10 893 (by decide)).trans (by decide +kernel)
theorem at_0_895 : am_at (am_m 0) 895 = some (.lshl, 0) := (am_L0_10 895 (by decide)).trans (by decide +kernel)
theorem at_0_896 : am_at (am_m 0) 896 = some (.aload_n 0, 0) := (am_L0_10 896 (by decide)).trans (by decide +kernel)
theorem at_0_897 : am_at (am_m 0) 897 = some (.iload 4, 0) := (am_L0_10 897 (by decide)).trans (by decide +kernel)
theorem at_0_899 : am_at (am_m 0) 899 = some (.iconst 3, 0) := (am_L0_10 899 (by decide)).trans (by decide +kernel)
theorem at_0_900 : am_at (am_m 0) 900 = some (.iadd, 0) := (am_L0_10 900 (by decide)).trans (by decide +kernel)
theorem at_0_901 : am_at (am_m 0) 901 = some (.iaload, 0) := (am_L0_10 901 (by decide)).trans (by decide +kernel)
theorem at_0_902 : am_at (am_m 0) 902 = some (.i2l, 0) := (am_L0_10 902 (by decide)).trans (by decide +kernel)
theorem at_0_903 : am_at (am_m 0) 903 = some (.ldc2_w 189, 0) := (am_L0_10 903 (by decide)).trans (by decide +kernel)
theorem at_0_906 : am_at (am_m 0) 906 = some (.land, 0) := (am_L0_10 906 (by decide)).trans (by decide +kernel)
theorem at_0_907 : am_at (am_m 0) 907 = some (.lor, 0) := (am_L0_10 907 (by decide)).trans (by decide +kernel)
theorem at_0_908 : am_at (am_m 0) 908 = some (.aload_n 3, 0) := (am_L0_10 908 (by decide)).trans (by decide +kernel)
theorem at_0_909 : am_at (am_m 0) 909 = some (.invokestatic 233, 89) := (am_L0_10 909 (by decide)).trans (by decide +kernel)
theorem at_0_912 : am_at (am_m 0) 912 = some (.istore 5, 0) := (am_L0_10 912 (by decide)).trans (by decide +kernel)
theorem at_0_914 : am_at (am_m 0) 914 = some (.aload_n 2, 0) := (am_L0_10 914 (by decide)).trans (by decide +kernel)
theorem at_0_915 : am_at (am_m 0) 915 = some (.aload_n 0, 0) := (am_L0_10 915 (by decide)).trans (by decide +kernel)
theorem at_0_916 : am_at (am_m 0) 916 = some (.iload 4, 0) := (am_L0_10 916 (by decide)).trans (by decide +kernel)
theorem at_0_918 : am_at (am_m 0) 918 = some (.iconst 1, 0) := (am_L0_10 918 (by decide)).trans (by decide +kernel)
theorem at_0_919 : am_at (am_m 0) 919 = some (.iadd, 0) := (am_L0_10 919 (by decide)).trans (by decide +kernel)
theorem at_0_920 : am_at (am_m 0) 920 = some (.iaload, 0) := (am_L0_10 920 (by decide)).trans (by decide +kernel)
theorem at_0_921 : am_at (am_m 0) 921 = some (.aload_n 0, 0) := (am_L0_10 921 (by decide)).trans (by decide +kernel)
theorem at_0_922 : am_at (am_m 0) 922 = some (.iload 4, 0) := (am_L0_10 922 (by decide)).trans (by decide +kernel)
theorem at_0_924 : am_at (am_m 0) 924 = some (.iconst 2, 0) := (am_L0_10 924 (by decide)).trans (by decide +kernel)
theorem at_0_925 : am_at (am_m 0) 925 = some (.iadd, 0) := (am_L0_10 925 (by decide)).trans (by decide +kernel)
theorem at_0_926 : am_at (am_m 0) 926 = some (.iaload, 0) := (am_L0_11 926 (by decide)).trans (by decide +kernel)
theorem at_0_927 : am_at (am_m 0) 927 = some (.i2l, 0) := (am_L0_11 927 (by decide)).trans (by decide +kernel)
theorem at_0_928 : am_at (am_m 0) 928 = some (.bipush 32, 0) := (am_L0_11 928 (by decide)).trans (by decide +kernel)
theorem at_0_930 : am_at (am_m 0) 930 = some (.lshl, 0) := (am_L0_11 930 (by decide)).trans (by decide +kernel)
theorem at_0_931 : am_at (am_m 0) 931 = some (.aload_n 0, 0) := (am_L0_11 931 (by decide)).trans (by decide +kernel)
theorem at_0_932 : am_at (am_m 0) 932 = some (.iload 4, 0) := (am_L0_11 932 (by decide)).trans (by decide +kernel)
theorem at_0_934 : am_at (am_m 0) 934 = some (.iconst 3, 0) := (am_L0_11 934 (by decide)).trans (by decide +kernel)
theorem at_0_935 : am_at (am_m 0) 935 = some (.iadd, 0) := (am_L0_11 935 (by decide)).trans (by decide +kernel)
theorem at_0_936 : am_at (am_m 0) 936 = some (.iaload, 0) := (am_L0_11 936 (by decide)).trans (by decide +kernel)
theorem at_0_937 : am_at (am_m 0) 937 = some (.i2l, 0) := (am_L0_11 937 (by decide)).trans (by decide +kernel)
theorem at_0_938 : am_at (am_m 0) 938 = some (.ldc2_w 189, 0) := (am_L0_11 938 (by decide)).trans (by decide +kernel)
theorem at_0_941 : am_at (am_m 0) 941 = some (.land, 0) := (am_L0_11 941 (by decide)).trans (by decide +kernel)
theorem at_0_942 : am_at (am_m 0) 942 = some (.lor, 0) := (am_L0_11 942 (by decide)).trans (by decide +kernel)
theorem at_0_943 : am_at (am_m 0) 943 = some (.invokevirtual 236, 385) := (am_L0_11 943 (by decide)).trans (by decide +kernel)
theorem at_0_946 : am_at (am_m 0) 946 = some (.istore 6, 0) := (am_L0_11 946 (by decide)).trans (by decide +kernel)
theorem at_0_948 : am_at (am_m 0) 948 = some (.aload_n 2, 0) := (am_L0_11 948 (by decide)).trans (by decide +kernel)
theorem at_0_949 : am_at (am_m 0) 949 = some (.invokevirtual 202, 324) := (am_L0_11 949 (by decide)).trans (by decide +kernel)
theorem at_0_952 : am_at (am_m 0) 952 = some (.iload 5, 0) := (am_L0_11 952 (by decide)).trans (by decide +kernel)
theorem at_0_954 : am_at (am_m 0) 954 = some (.if_icmp .eq 5, 959) := (am_L0_11 954 (by decide)).trans (by decide +kernel)
theorem at_0_957 : am_at (am_m 0) 957 = some (.iconst 0, 0) := (am_L0_11 957 (by decide)).trans (by decide +kernel)
theorem at_0_958 : am_at (am_m 0) 958 = some (.ireturn, 0) := (am_L0_11 958 (by decide)).trans (by decide +kernel)
theorem at_0_959 : am_at (am_m 0) 959 = some (.iload 5, 0) := (am_L0_11 959 (by decide)).trans (by decide +kernel)
theorem at_0_961 : am_at (am_m 0) 961 = some (.ifCond .ne 15, 976) := (am_L0_11 961 (by decide)).trans (by decide +kernel)
theorem at_0_964 : am_at (am_m 0) 964 = some (.aload_n 3, 0) := (am_L0_11 964 (by decide)).trans (by decide +kernel)
theorem at_0_965 : am_at (am_m 0) 965 = some (.iconst 0, 0) := (am_L0_11 965 (by decide)).trans (by decide +kernel)
theorem at_0_966 : am_at (am_m 0) 966 = some (.laload, 0) := (am_L0_11 966 (by decide)).trans (by decide +kernel)
theorem at_0_967 : am_at (am_m 0) 967 = some (.iload 6, 0) := (am_L0_11 967 (by decide)).trans (by decide +kernel)
theorem at_0_969 : am_at (am_m 0) 969 = some (.i2l, 0) := (am_L0_11 969 (by decide)).trans (by decide +kernel)
theorem at_0_970 : am_at (am_m 0) 970 = some (.lcmp, 0) := (am_L0_11 970 (by decide)).trans (by decide +kernel)
theorem at_0_971 : am_at (am_m 0) 971 = some (.ifCond .eq 5, 976) := (am_L0_11 971 (by decide)).trans (by decide +kernel)
theorem at_0_974 : am_at (am_m 0) 974 = some (.iconst 0, 0) := (am_L0_11 974 (by decide)).trans (by decide +kernel)
theorem at_0_975 : am_at (am_m 0) 975 = some (.ireturn, 0) := (am_L0_11 975 (by decide)).trans (by decide +kernel)
theorem at_0_976 : am_at (am_m 0) 976 = some (.goto 3216, 4192) := (am_L0_11 976 (by decide)).trans (by decide +kernel)
theorem at_0_979 : am_at (am_m 0) 979 = some (.aload_n 1, 0) := (am_L0_11 979 (by decide)).trans (by decide +kernel)
theorem at_0_980 : am_at (am_m 0) 980 = some (.aload_n 0, 0) := (am_L0_11 980 (by decide)).trans (by decide +kernel)
theorem at_0_981 : am_at (am_m 0) 981 = some (.iload 4, 0) := (am_L0_11 981 (by decide)).trans (by decide +kernel)
theorem at_0_983 : am_at (am_m 0) 983 = some (.iconst 1, 0) := (am_L0_11 983 (by decide)).trans (by decide +kernel)
theorem at_0_984 : am_at (am_m 0) 984 = some (.iadd, 0) := (am_L0_11 984 (by decide)).trans (by decide +kernel)
theorem at_0_985 : am_at (am_m 0) 985 = some (.iaload, 0) := (am_L0_11 985 (by decide)).trans (by decide +kernel)
theorem at_0_986 : am_at (am_m 0) 986 = some (.aload_n 3, 0) := (am_L0_11 986 (by decide)).trans (by decide +kernel)
theorem at_0_987 : am_at (am_m 0) 987 = some (.invokestatic 237, 96) := (am_L0_12 987 (by decide)).trans (by decide +kernel)
theorem at_0_990 : am_at (am_m 0) 990 = some (.istore 5, 0) := (am_L0_12 990 (by decide)).trans (by decide +kernel)
theorem at_0_992 : am_at (am_m 0) 992 = some (.aload_n 2, 0) := (am_L0_12 992 (by decide)).trans (by decide +kernel)
theorem at_0_993 : am_at (am_m 0) 993 = some (.aload_n 0, 0) := (am_L0_12 993 (by decide)).trans (by decide +kernel)
theorem at_0_994 : am_at (am_m 0) 994 = some (.iload 4, 0) := (am_L0_12 994 (by decide)).trans (by decide +kernel)
theorem at_0_996 : am_at (am_m 0) 996 = some (.iconst 1, 0) := (am_L0_12 996 (by decide)).trans (by decide +kernel)
theorem at_0_997 : am_at (am_m 0) 997 = some (.iadd, 0) := (am_L0_12 997 (by decide)).trans (by decide +kernel)
theorem at_0_998 : am_at (am_m 0) 998 = some (.iaload, 0) := (am_L0_12 998 (by decide)).trans (by decide +kernel)
theorem at_0_999 : am_at (am_m 0) 999 = some (.invokevirtual 239, 390) := (am_L0_12 999 (by decide)).trans (by decide +kernel)
theorem at_0_1002 : am_at (am_m 0) 1002 = some (.lstore 6, 0) := (am_L0_12 1002 (by decide)).trans (by decide +kernel)
theorem at_0_1004 : am_at (am_m 0) 1004 = some (.aload_n 2, 0) := (am_L0_12 1004 (by decide)).trans (by decide +kernel)
theorem at_0_1005 : am_at (am_m 0) 1005 = some (.invokevirtual 202, 324) := (am_L0_12 1005 (by decide)).trans (by decide +kernel)
theorem at_0_1008 : am_at (am_m 0) 1008 = some (.iload 5, 0) := (am_L0_12 1008 (by decide)).trans (by decide +kernel)
theorem at_0_1010 : am_at (am_m 0) 1010 = some (.if_icmp .eq 5, 1015) := (am_L0_12 1010 (by decide)).trans (by decide +kernel)
theorem at_0_1013 : am_at (am_m 0) 1013 = some (.iconst 0, 0) := (am_L0_12 1013 (by decide)).trans (by decide +kernel)
theorem at_0_1014 : am_at (am_m 0) 1014 = some (.ireturn, 0) := (am_L0_12 1014 (by decide)).trans (by decide +kernel)
theorem at_0_1015 : am_at (am_m 0) 1015 = some (.iload 5, 0) := (am_L0_12 1015 (by decide)).trans (by decide +kernel)
theorem at_0_1017 : am_at (am_m 0) 1017 = some (.ifCond .ne 14, 1031) := (am_L0_12 1017 (by decide)).trans (by decide +kernel)
theorem at_0_1020 : am_at (am_m 0) 1020 = some (.aload_n 3, 0) := (am_L0_12 1020 (by decide)).trans (by decide +kernel)
theorem at_0_1021 : am_at (am_m 0) 1021 = some (.iconst 0, 0) := (am_L0_12 1021 (by decide)).trans (by decide +kernel)
theorem at_0_1022 : am_at (am_m 0) 1022 = some (.laload, 0) := (am_L0_12 1022 (by decide)).trans (by decide +kernel)
theorem at_0_1023 : am_at (am_m 0) 1023 = some (.lload 6, 0) := (am_L0_12 1023 (by decide)).trans (by decide +kernel)
theorem at_0_1025 : am_at (am_m 0) 1025 = some (.lcmp, 0) := (am_L0_12 1025 (by decide)).trans (by decide +kernel)
theorem at_0_1026 : am_at (am_m 0) 1026 = some (.ifCond .eq 5, 1031) := (am_L0_12 1026 (by decide)).trans (by decide +kernel)
theorem at_0_1029 : am_at (am_m 0) 1029 = some (.iconst 0, 0) := (am_L0_12 1029 (by decide)).trans (by decide +kernel)
theorem at_0_1030 : am_at (am_m 0) 1030 = some (.ireturn, 0) := (am_L0_12 1030 (by decide)).trans (by decide +kernel)
theorem at_0_1031 : am_at (am_m 0) 1031 = some (.goto 3161, 4192) := (am_L0_12 1031 (by decide)).trans (by decide +kernel)
theorem at_0_1034 : am_at (am_m 0) 1034 = some (.aload_n 1, 0) := (am_L0_12 1034 (by decide)).trans (by decide +kernel)
theorem at_0_1035 : am_at (am_m 0) 1035 = some (.aload_n 0, 0) := (am_L0_12 1035 (by decide)).trans (by decide +kernel)
theorem at_0_1036 : am_at (am_m 0) 1036 = some (.iload 4, 0) := (am_L0_12 1036 (by decide)).trans (by decide +kernel)
theorem at_0_1038 : am_at (am_m 0) 1038 = some (.iconst 1, 0) := (am_L0_12 1038 (by decide)).trans (by decide +kernel)
theorem at_0_1039 : am_at (am_m 0) 1039 = some (.iadd, 0) := (am_L0_12 1039 (by decide)).trans (by decide +kernel)
theorem at_0_1040 : am_at (am_m 0) 1040 = some (.iaload, 0) := (am_L0_12 1040 (by decide)).trans (by decide +kernel)
theorem at_0_1041 : am_at (am_m 0) 1041 = some (.invokevirtual 240, 24) := (am_L0_12 1041 (by decide)).trans (by decide +kernel)
theorem at_0_1044 : am_at (am_m 0) 1044 = some (.aload_n 2, 0) := (am_L0_12 1044 (by decide)).trans (by decide +kernel)
theorem at_0_1045 : am_at (am_m 0) 1045 = some (.aload_n 0, 0) := (am_L0_12 1045 (by decide)).trans (by decide +kernel)
theorem at_0_1046 : am_at (am_m 0) 1046 = some (.iload 4, 0) := (am_L0_12 1046 (by decide)).trans (by decide +kernel)
theorem at_0_1048 : am_at (am_m 0) 1048 = some (.iconst 1, 0) := (am_L0_12 1048 (by decide)).trans (by decide +kernel)
theorem at_0_1049 : am_at (am_m 0) 1049 = some (.iadd, 0) := (am_L0_12 1049 (by decide)).trans (by decide +kernel)
theorem at_0_1050 : am_at (am_m 0) 1050 = some (.iaload, 0) := (am_L0_12 1050 (by decide)).trans (by decide +kernel)
theorem at_0_1051 : am_at (am_m 0) 1051 = some (.invokevirtual 243, 395) := (am_L0_13 1051 (by decide)).trans (by decide +kernel)
theorem at_0_1054 : am_at (am_m 0) 1054 = some (.if_icmp .eq 3138, 4192) := (am_L0_13 1054 (by decide)).trans (by decide +kernel)
theorem at_0_1057 : am_at (am_m 0) 1057 = some (.iconst 0, 0) := (am_L0_13 1057 (by decide)).trans (by decide +kernel)
theorem at_0_1058 : am_at (am_m 0) 1058 = some (.ireturn, 0) := (am_L0_13 1058 (by decide)).trans (by decide +kernel)
theorem at_0_1059 : am_at (am_m 0) 1059 = some (.aload_n 1, 0) := (am_L0_13 1059 (by decide)).trans (by decide +kernel)
theorem at_0_1060 : am_at (am_m 0) 1060 = some (.aload_n 0, 0) := (am_L0_13 1060 (by decide)).trans (by decide +kernel)
theorem at_0_1061 : am_at (am_m 0) 1061 = some (.iload 4, 0) := (am_L0_13 1061 (by decide)).trans (by decide +kernel)
theorem at_0_1063 : am_at (am_m 0) 1063 = some (.iconst 1, 0) := (am_L0_13 1063 (by decide)).trans (by decide +kernel)
theorem at_0_1064 : am_at (am_m 0) 1064 = some (.iadd, 0) := (am_L0_13 1064 (by decide)).trans (by decide +kernel)
theorem at_0_1065 : am_at (am_m 0) 1065 = some (.iaload, 0) := (am_L0_13 1065 (by decide)).trans (by decide +kernel)
theorem at_0_1066 : am_at (am_m 0) 1066 = some (.aload_n 0, 0) := (am_L0_13 1066 (by decide)).trans (by decide +kernel)
theorem at_0_1067 : am_at (am_m 0) 1067 = some (.iload 4, 0) := (am_L0_13 1067 (by decide)).trans (by decide +kernel)
theorem at_0_1069 : am_at (am_m 0) 1069 = some (.iconst 2, 0) := (am_L0_13 1069 (by decide)).trans (by decide +kernel)
theorem at_0_1070 : am_at (am_m 0) 1070 = some (.iadd, 0) := (am_L0_13 1070 (by decide)).trans (by decide +kernel)
theorem at_0_1071 : am_at (am_m 0) 1071 = some (.iaload, 0) := (am_L0_13 1071 (by decide)).trans (by decide +kernel)
theorem at_0_1072 : am_at (am_m 0) 1072 = some (.aload_n 0, 0) := (am_L0_13 1072 (by decide)).trans (by decide +kernel)
theorem at_0_1073 : am_at (am_m 0) 1073 = some (.iload 4, 0) := (am_L0_13 1073 (by decide)).trans (by decide +kernel)
theorem at_0_1075 : am_at (am_m 0) 1075 = some (.iconst 3, 0) := (am_L0_13 1075 (by decide)).trans (by decide +kernel)
theorem at_0_1076 : am_at (am_m 0) 1076 = some (.iadd, 0) := (am_L0_13 1076 (by decide)).trans (by decide +kernel)
theorem at_0_1077 : am_at (am_m 0) 1077 = some (.iaload, 0) := (am_L0_13 1077 (by decide)).trans (by decide +kernel)
theorem at_0_1078 : am_at (am_m 0) 1078 = some (.aload_n 0, 0) := (am_L0_13 1078 (by decide)).trans (by decide +kernel)
theorem at_0_1079 : am_at (am_m 0) 1079 = some (.iload 4, 0) := (am_L0_13 1079 (by decide)).trans (by decide +kernel)
theorem at_0_1081 : am_at (am_m 0) 1081 = some (.iconst 4, 0) := (am_L0_13 1081 (by decide)).trans (by decide +kernel)
theorem at_0_1082 : am_at (am_m 0) 1082 = some (.iadd, 0) := (am_L0_13 1082 (by decide)).trans (by decide +kernel)
theorem at_0_1083 : am_at (am_m 0) 1083 = some (.iaload, 0) := (am_L0_13 1083 (by decide)).trans (by decide +kernel)
theorem at_0_1084 : am_at (am_m 0) 1084 = some (.aload_n 0, 0) := (am_L0_13 1084 (by decide)).trans (by decide +kernel)
theorem at_0_1085 : am_at (am_m 0) 1085 = some (.iload 4, 0) := (am_L0_13 1085 (by decide)).trans (by decide +kernel)
theorem at_0_1087 : am_at (am_m 0) 1087 = some (.iconst 5, 0) := (am_L0_13 1087 (by decide)).trans (by decide +kernel)
theorem at_0_1088 : am_at (am_m 0) 1088 = some (.iadd, 0) := (am_L0_13 1088 (by decide)).trans (by decide +kernel)
theorem at_0_1089 : am_at (am_m 0) 1089 = some (.iaload, 0) := (am_L0_13 1089 (by decide)).trans (by decide +kernel)
theorem at_0_1090 : am_at (am_m 0) 1090 = some (.aload_n 0, 0) := (am_L0_13 1090 (by decide)).trans (by decide +kernel)
theorem at_0_1091 : am_at (am_m 0) 1091 = some (.iload 4, 0) := (am_L0_13 1091 (by decide)).trans (by decide +kernel)
theorem at_0_1093 : am_at (am_m 0) 1093 = some (.bipush 6, 0) := (am_L0_13 1093 (by decide)).trans (by decide +kernel)
theorem at_0_1095 : am_at (am_m 0) 1095 = some (.iadd, 0) := (am_L0_13 1095 (by decide)).trans (by decide +kernel)
theorem at_0_1096 : am_at (am_m 0) 1096 = some (.iaload, 0) := (am_L0_13 1096 (by decide)).trans (by decide +kernel)
theorem at_0_1097 : am_at (am_m 0) 1097 = some (.ifCond .eq 7, 1104) := (am_L0_13 1097 (by decide)).trans (by decide +kernel)
theorem at_0_1100 : am_at (am_m 0) 1100 = some (.iconst 1, 0) := (am_L0_13 1100 (by decide)).trans (by decide +kernel)
theorem at_0_1101 : am_at (am_m 0) 1101 = some (.goto 4, 1105) := (am_L0_13 1101 (by decide)).trans (by decide +kernel)
theorem at_0_1104 : am_at (am_m 0) 1104 = some (.iconst 0, 0) := (am_L0_13 1104 (by decide)).trans (by decide +kernel)
theorem at_0_1105 : am_at (am_m 0) 1105 = some (.aload_n 3, 0) := (am_L0_13 1105 (by decide)).trans (by decide +kernel)
theorem at_0_1106 : am_at (am_m 0) 1106 = some (.invokestatic 244, 103) := (am_L0_14 1106 (by decide)).trans (by decide +kernel)
theorem at_0_1109 : am_at (am_m 0) 1109 = some (.istore 5, 0) := (am_L0_14 1109 (by decide)).trans (by decide +kernel)
theorem at_0_1111 : am_at (am_m 0) 1111 = some (.aload_n 2, 0) := (am_L0_14 1111 (by decide)).trans (by decide +kernel)
theorem at_0_1112 : am_at (am_m 0) 1112 = some (.aload_n 0, 0) := (am_L0_14 1112 (by decide)).trans (by decide +kernel)
theorem at_0_1113 : am_at (am_m 0) 1113 = some (.iload 4, 0) := (am_L0_14 1113 (by decide)).trans (by decide +kernel)
theorem at_0_1115 : am_at (am_m 0) 1115 = some (.iconst 1, 0) := (am_L0_14 1115 (by decide)).trans (by decide +kernel)
theorem at_0_1116 : am_at (am_m 0) 1116 = some (.iadd, 0) := (am_L0_14 1116 (by decide)).trans (by decide +kernel)
theorem at_0_1117 : am_at (am_m 0) 1117 = some (.iaload, 0) := (am_L0_14 1117 (by decide)).trans (by decide +kernel)
theorem at_0_1118 : am_at (am_m 0) 1118 = some (.aload_n 0, 0) := (am_L0_14 1118 (by decide)).trans (by decide +kernel)
theorem at_0_1119 : am_at (am_m 0) 1119 = some (.iload 4, 0) := (am_L0_14 1119 (by decide)).trans (by decide +kernel)
theorem at_0_1121 : am_at (am_m 0) 1121 = some (.iconst 2, 0) := (am_L0_14 1121 (by decide)).trans (by decide +kernel)
theorem at_0_1122 : am_at (am_m 0) 1122 = some (.iadd, 0) := (am_L0_14 1122 (by decide)).trans (by decide +kernel)
theorem at_0_1123 : am_at (am_m 0) 1123 = some (.iaload, 0) := (am_L0_14 1123 (by decide)).trans (by decide +kernel)
theorem at_0_1124 : am_at (am_m 0) 1124 = some (.aload_n 0, 0) := (am_L0_14 1124 (by decide)).trans (by decide +kernel)
theorem at_0_1125 : am_at (am_m 0) 1125 = some (.iload 4, 0) := (am_L0_14 1125 (by decide)).trans (by decide +kernel)
theorem at_0_1127 : am_at (am_m 0) 1127 = some (.iconst 3, 0) := (am_L0_14 1127 (by decide)).trans (by decide +kernel)
theorem at_0_1128 : am_at (am_m 0) 1128 = some (.iadd, 0) := (am_L0_14 1128 (by decide)).trans (by decide +kernel)
theorem at_0_1129 : am_at (am_m 0) 1129 = some (.iaload, 0) := (am_L0_14 1129 (by decide)).trans (by decide +kernel)
theorem at_0_1130 : am_at (am_m 0) 1130 = some (.aload_n 0, 0) := (am_L0_14 1130 (by decide)).trans (by decide +kernel)
theorem at_0_1131 : am_at (am_m 0) 1131 = some (.iload 4, 0) := (am_L0_14 1131 (by decide)).trans (by decide +kernel)
theorem at_0_1133 : am_at (am_m 0) 1133 = some (.iconst 4, 0) := (am_L0_14 1133 (by decide)).trans (by decide +kernel)
theorem at_0_1134 : am_at (am_m 0) 1134 = some (.iadd, 0) := (am_L0_14 1134 (by decide)).trans (by decide +kernel)
theorem at_0_1135 : am_at (am_m 0) 1135 = some (.iaload, 0) := (am_L0_14 1135 (by decide)).trans (by decide +kernel)
theorem at_0_1136 : am_at (am_m 0) 1136 = some (.aload_n 0, 0) := (am_L0_14 1136 (by decide)).trans (by decide +kernel)
theorem at_0_1137 : am_at (am_m 0) 1137 = some (.iload 4, 0) := (am_L0_14 1137 (by decide)).trans (by decide +kernel)
theorem at_0_1139 : am_at (am_m 0) 1139 = some (.iconst 5, 0) := (am_L0_14 1139 (by decide)).trans (by decide +kernel)
theorem at_0_1140 : am_at (am_m 0) 1140 = some (.iadd, 0) := (am_L0_14 1140 (by decide)).trans (by decide +kernel)
theorem at_0_1141 : am_at (am_m 0) 1141 = some (.iaload, 0) := (am_L0_14 1141 (by decide)).trans (by decide +kernel)
theorem at_0_1142 : am_at (am_m 0) 1142 = some (.aload_n 0, 0) := (am_L0_14 1142 (by decide)).trans (by decide +kernel)
theorem at_0_1143 : am_at (am_m 0) 1143 = some (.iload 4, 0) := (am_L0_14 1143 (by decide)).trans (by decide +kernel)
theorem at_0_1145 : am_at (am_m 0) 1145 = some (.bipush 6, 0) := (am_L0_14 1145 (by decide)).trans (by decide +kernel)
theorem at_0_1147 : am_at (am_m 0) 1147 = some (.iadd, 0) := (am_L0_14 1147 (by decide)).trans (by decide +kernel)
theorem at_0_1148 : am_at (am_m 0) 1148 = some (.iaload, 0) := (am_L0_14 1148 (by decide)).trans (by decide +kernel)
theorem at_0_1149 : am_at (am_m 0) 1149 = some (.ifCond .eq 7, 1156) := (am_L0_14 1149 (by decide)).trans (by decide +kernel)
theorem at_0_1152 : am_at (am_m 0) 1152 = some (.iconst 1, 0) := (am_L0_14 1152 (by decide)).trans (by decide +kernel)
theorem at_0_1153 : am_at (am_m 0) 1153 = some (.goto 4, 1157) := (am_L0_14 1153 (by decide)).trans (by decide +kernel)
theorem at_0_1156 : am_at (am_m 0) 1156 = some (.iconst 0, 0) := (am_L0_14 1156 (by decide)).trans (by decide +kernel)
theorem at_0_1157 : am_at (am_m 0) 1157 = some (.invokevirtual 247, 396) := (am_L0_14 1157 (by decide)).trans (by decide +kernel)
theorem at_0_1160 : am_at (am_m 0) 1160 = some (.istore 6, 0) := (am_L0_14 1160 (by decide)).trans (by decide +kernel)
theorem at_0_1162 : am_at (am_m 0) 1162 = some (.aload_n 2, 0) := (am_L0_14 1162 (by decide)).trans (by decide +kernel)
theorem at_0_1163 : am_at (am_m 0) 1163 = some (.invokevirtual 202, 324) := (am_L0_15 1163 (by decide)).trans (by decide +kernel)
theorem at_0_1166 : am_at (am_m 0) 1166 = some (.iload 5, 0) := (am_L0_15 1166 (by decide)).trans (by decide +kernel)
theorem at_0_1168 : am_at (am_m 0) 1168 = some (.if_icmp .eq 5, 1173) := (am_L0_15 1168 (by decide)).trans (by decide +kernel)
theorem at_0_1171 : am_at (am_m 0) 1171 = some (.iconst 0, 0) := (am_L0_15 1171 (by decide)).trans (by decide +kernel)
theorem at_0_1172 : am_at (am_m 0) 1172 = some (.ireturn, 0) := (am_L0_15 1172 (by decide)).trans (by decide +kernel)
theorem at_0_1173 : am_at (am_m 0) 1173 = some (.iload 5, 0) := (am_L0_15 1173 (by decide)).trans (by decide +kernel)
theorem at_0_1175 : am_at (am_m 0) 1175 = some (.ifCond .ne 15, 1190) := (am_L0_15 1175 (by decide)).trans (by decide +kernel)
theorem at_0_1178 : am_at (am_m 0) 1178 = some (.aload_n 3, 0) := (am_L0_15 1178 (by decide)).trans (by decide +kernel)
theorem at_0_1179 : am_at (am_m 0) 1179 = some (.iconst 0, 0) := (am_L0_15 1179 (by decide)).trans (by decide +kernel)
theorem at_0_1180 : am_at (am_m 0) 1180 = some (.laload, 0) := (am_L0_15 1180 (by decide)).trans (by decide +kernel)
theorem at_0_1181 : am_at (am_m 0) 1181 = some (.iload 6, 0) := (am_L0_15 1181 (by decide)).trans (by decide +kernel)
theorem at_0_1183 : am_at (am_m 0) 1183 = some (.i2l, 0) := (am_L0_15 1183 (by decide)).trans (by decide +kernel)
theorem at_0_1184 : am_at (am_m 0) 1184 = some (.lcmp, 0) := (am_L0_15 1184 (by decide)).trans (by decide +kernel)
theorem at_0_1185 : am_at (am_m 0) 1185 = some (.ifCond .eq 5, 1190) := (am_L0_15 1185 (by decide)).trans (by decide +kernel)
theorem at_0_1188 : am_at (am_m 0) 1188 = some (.iconst 0, 0) := (am_L0_15 1188 (by decide)).trans (by decide +kernel)
theorem at_0_1189 : am_at (am_m 0) 1189 = some (.ireturn, 0) := (am_L0_15 1189 (by decide)).trans (by decide +kernel)
theorem at_0_1190 : am_at (am_m 0) 1190 = some (.goto 3002, 4192) := (am_L0_15 1190 (by decide)).trans (by decide +kernel)
theorem at_0_1193 : am_at (am_m 0) 1193 = some (.aload_n 1, 0) := (am_L0_15 1193 (by decide)).trans (by decide +kernel)
theorem at_0_1194 : am_at (am_m 0) 1194 = some (.aload_n 0, 0) := (am_L0_15 1194 (by decide)).trans (by decide +kernel)
theorem at_0_1195 : am_at (am_m 0) 1195 = some (.iload 4, 0) := (am_L0_15 1195 (by decide)).trans (by decide +kernel)
theorem at_0_1197 : am_at (am_m 0) 1197 = some (.iconst 1, 0) := (am_L0_15 1197 (by decide)).trans (by decide +kernel)
theorem at_0_1198 : am_at (am_m 0) 1198 = some (.iadd, 0) := (am_L0_15 1198 (by decide)).trans (by decide +kernel)
theorem at_0_1199 : am_at (am_m 0) 1199 = some (.iaload, 0) := (am_L0_15 1199 (by decide)).trans (by decide +kernel)
theorem at_0_1200 : am_at (am_m 0) 1200 = some (.aload_n 3, 0) := (am_L0_15 1200 (by decide)).trans (by decide +kernel)
theorem at_0_1201 : am_at (am_m 0) 1201 = some (.invokestatic 248, 106) := (am_L0_15 1201 (by decide)).trans (by decide +kernel)
theorem at_0_1204 : am_at (am_m 0) 1204 = some (.istore 5, 0) := (am_L0_15 1204 (by decide)).trans (by decide +kernel)
theorem at_0_1206 : am_at (am_m 0) 1206 = some (.aload_n 2, 0) := (am_L0_15 1206 (by decide)).trans (by decide +kernel)
theorem at_0_1207 : am_at (am_m 0) 1207 = some (.aload_n 0, 0) := (am_L0_15 1207 (by decide)).trans (by decide +kernel)
theorem at_0_1208 : am_at (am_m 0) 1208 = some (.iload 4, 0) := (am_L0_15 1208 (by decide)).trans (by decide +kernel)
theorem at_0_1210 : am_at (am_m 0) 1210 = some (.iconst 1, 0) := (am_L0_15 1210 (by decide)).trans (by decide +kernel)
theorem at_0_1211 : am_at (am_m 0) 1211 = some (.iadd, 0) := (am_L0_15 1211 (by decide)).trans (by decide +kernel)
theorem at_0_1212 : am_at (am_m 0) 1212 = some (.iaload, 0) := (am_L0_15 1212 (by decide)).trans (by decide +kernel)
theorem at_0_1213 : am_at (am_m 0) 1213 = some (.invokevirtual 250, 397) := (am_L0_15 1213 (by decide)).trans (by decide +kernel)
theorem at_0_1216 : am_at (am_m 0) 1216 = some (.istore 6, 0) := (am_L0_15 1216 (by decide)).trans (by decide +kernel)
theorem at_0_1218 : am_at (am_m 0) 1218 = some (.aload_n 2, 0) := (am_L0_15 1218 (by decide)).trans (by decide +kernel)
theorem at_0_1219 : am_at (am_m 0) 1219 = some (.invokevirtual 202, 324) := (am_L0_15 1219 (by decide)).trans (by decide +kernel)
theorem at_0_1222 : am_at (am_m 0) 1222 = some (.iload 5, 0) := (am_L0_15 1222 (by decide)).trans (by decide +kernel)
theorem at_0_1224 : am_at (am_m 0) 1224 = some (.if_icmp .eq 5, 1229) := (am_L0_15 1224 (by decide)).trans (by decide +kernel)
theorem at_0_1227 : am_at (am_m 0) 1227 = some (.iconst 0, 0) := (am_L0_15 1227 (by decide)).trans (by decide +kernel)
theorem at_0_1228 : am_at (am_m 0) 1228 = some (.ireturn, 0) := (am_L0_15 1228 (by decide)).trans (by decide +kernel)
theorem at_0_1229 : am_at (am_m 0) 1229 = some (.iload 5, 0) := (am_L0_16 1229 (by decide)).trans (by decide +kernel)
theorem at_0_1231 : am_at (am_m 0) 1231 = some (.ifCond .ne 15, 1246) := (am_L0_16 1231 (by decide)).trans (by decide +kernel)
theorem at_0_1234 : am_at (am_m 0) 1234 = some (.aload_n 3, 0) := (am_L0_16 1234 (by decide)).trans (by decide +kernel)
theorem at_0_1235 : am_at (am_m 0) 1235 = some (.iconst 0, 0) := (am_L0_16 1235 (by decide)).trans (by decide +kernel)
theorem at_0_1236 : am_at (am_m 0) 1236 = some (.laload, 0) := (am_L0_16 1236 (by decide)).trans (by decide +kernel)
theorem at_0_1237 : am_at (am_m 0) 1237 = some (.iload 6, 0) := (am_L0_16 1237 (by decide)).trans (by decide +kernel)
theorem at_0_1239 : am_at (am_m 0) 1239 = some (.i2l, 0) := (am_L0_16 1239 (by decide)).trans (by decide +kernel)
theorem at_0_1240 : am_at (am_m 0) 1240 = some (.lcmp, 0) := (am_L0_16 1240 (by decide)).trans (by decide +kernel)
theorem at_0_1241 : am_at (am_m 0) 1241 = some (.ifCond .eq 5, 1246) := (am_L0_16 1241 (by decide)).trans (by decide +kernel)
theorem at_0_1244 : am_at (am_m 0) 1244 = some (.iconst 0, 0) := (am_L0_16 1244 (by decide)).trans (by decide +kernel)
theorem at_0_1245 : am_at (am_m 0) 1245 = some (.ireturn, 0) := (am_L0_16 1245 (by decide)).trans (by decide +kernel)
theorem at_0_1246 : am_at (am_m 0) 1246 = some (.goto 2946, 4192) := (am_L0_16 1246 (by decide)).trans (by decide +kernel)
theorem at_0_1249 : am_at (am_m 0) 1249 = some (.aload_n 1, 0) := (am_L0_16 1249 (by decide)).trans (by decide +kernel)
theorem at_0_1250 : am_at (am_m 0) 1250 = some (.invokevirtual 251, 25) := (am_L0_16 1250 (by decide)).trans (by decide +kernel)
theorem at_0_1253 : am_at (am_m 0) 1253 = some (.aload_n 2, 0) := (am_L0_16 1253 (by decide)).trans (by decide +kernel)
theorem at_0_1254 : am_at (am_m 0) 1254 = some (.invokevirtual 254, 399) := (am_L0_16 1254 (by decide)).trans (by decide +kernel)
theorem at_0_1257 : am_at (am_m 0) 1257 = some (.if_icmp .eq 2935, 4192) := (am_L0_16 1257 (by decide)).trans (by decide +kernel)
theorem at_0_1260 : am_at (am_m 0) 1260 = some (.iconst 0, 0) := (am_L0_16 1260 (by decide)).trans (by decide +kernel)
theorem at_0_1261 : am_at (am_m 0) 1261 = some (.ireturn, 0) := (am_L0_16 1261 (by decide)).trans (by decide +kernel)
theorem at_0_1262 : am_at (am_m 0) 1262 = some (.aload_n 1, 0) := (am_L0_16 1262 (by decide)).trans (by decide +kernel)
theorem at_0_1263 : am_at (am_m 0) 1263 = some (.aload_n 0, 0) := (am_L0_16 1263 (by decide)).trans (by decide +kernel)
theorem at_0_1264 : am_at (am_m 0) 1264 = some (.iload 4, 0) := (am_L0_16 1264 (by decide)).trans (by decide +kernel)
theorem at_0_1266 : am_at (am_m 0) 1266 = some (.iconst 1, 0) := (am_L0_16 1266 (by decide)).trans (by decide +kernel)
theorem at_0_1267 : am_at (am_m 0) 1267 = some (.iadd, 0) := (am_L0_16 1267 (by decide)).trans (by decide +kernel)
theorem at_0_1268 : am_at (am_m 0) 1268 = some (.iaload, 0) := (am_L0_16 1268 (by decide)).trans (by decide +kernel)
theorem at_0_1269 : am_at (am_m 0) 1269 = some (.aload_n 0, 0) := (am_L0_16 1269 (by decide)).trans (by decide +kernel)
theorem at_0_1270 : am_at (am_m 0) 1270 = some (.iload 4, 0) := (am_L0_16 1270 (by decide)).trans (by decide +kernel)
theorem at_0_1272 : am_at (am_m 0) 1272 = some (.iconst 2, 0) := (am_L0_16 1272 (by decide)).trans (by decide +kernel)
theorem at_0_1273 : am_at (am_m 0) 1273 = some (.iadd, 0) := (am_L0_16 1273 (by decide)).trans (by decide +kernel)
theorem at_0_1274 : am_at (am_m 0) 1274 = some (.iaload, 0) := (am_L0_16 1274 (by decide)).trans (by decide +kernel)
theorem at_0_1275 : am_at (am_m 0) 1275 = some (.aload_n 3, 0) := (am_L0_16 1275 (by decide)).trans (by decide +kernel)
theorem at_0_1276 : am_at (am_m 0) 1276 = some (.invokestatic 255, 110) := (am_L0_16 1276 (by decide)).trans (by decide +kernel)
theorem at_0_1279 : am_at (am_m 0) 1279 = some (.istore 5, 0) := (am_L0_16 1279 (by decide)).trans (by decide +kernel)
theorem at_0_1281 : am_at (am_m 0) 1281 = some (.aload_n 2, 0) := (am_L0_16 1281 (by decide)).trans (by decide +kernel)
theorem at_0_1282 : am_at (am_m 0) 1282 = some (.aload_n 0, 0) := (am_L0_16 1282 (by decide)).trans (by decide +kernel)
theorem at_0_1283 : am_at (am_m 0) 1283 = some (.iload 4, 0) := (am_L0_16 1283 (by decide)).trans (by decide +kernel)
theorem at_0_1285 : am_at (am_m 0) 1285 = some (.iconst 1, 0) := (am_L0_16 1285 (by decide)).trans (by decide +kernel)
theorem at_0_1286 : am_at (am_m 0) 1286 = some (.iadd, 0) := (am_L0_16 1286 (by decide)).trans (by decide +kernel)
theorem at_0_1287 : am_at (am_m 0) 1287 = some (.iaload, 0) := (am_L0_16 1287 (by decide)).trans (by decide +kernel)
theorem at_0_1288 : am_at (am_m 0) 1288 = some (.aload_n 0, 0) := (am_L0_16 1288 (by decide)).trans (by decide +kernel)
theorem at_0_1289 : am_at (am_m 0) 1289 = some (.iload 4, 0) := (am_L0_17 1289 (by decide)).trans (by decide +kernel)
theorem at_0_1291 : am_at (am_m 0) 1291 = some (.iconst 2, 0) := (am_L0_17 1291 (by decide)).trans (by decide +kernel)
theorem at_0_1292 : am_at (am_m 0) 1292 = some (.iadd, 0) := (am_L0_17 1292 (by decide)).trans (by decide +kernel)
theorem at_0_1293 : am_at (am_m 0) 1293 = some (.iaload, 0) := (am_L0_17 1293 (by decide)).trans (by decide +kernel)
theorem at_0_1294 : am_at (am_m 0) 1294 = some (.invokevirtual 257, 400) := (am_L0_17 1294 (by decide)).trans (by decide +kernel)
theorem at_0_1297 : am_at (am_m 0) 1297 = some (.istore 6, 0) := (am_L0_17 1297 (by decide)).trans (by decide +kernel)
theorem at_0_1299 : am_at (am_m 0) 1299 = some (.aload_n 2, 0) := (am_L0_17 1299 (by decide)).trans (by decide +kernel)
theorem at_0_1300 : am_at (am_m 0) 1300 = some (.invokevirtual 202, 324) := (am_L0_17 1300 (by decide)).trans (by decide +kernel)
theorem at_0_1303 : am_at (am_m 0) 1303 = some (.iload 5, 0) := (am_L0_17 1303 (by decide)).trans (by decide +kernel)
theorem at_0_1305 : am_at (am_m 0) 1305 = some (.if_icmp .eq 5, 1310) := (am_L0_17 1305 (by decide)).trans (by decide +kernel)
theorem at_0_1308 : am_at (am_m 0) 1308 = some (.iconst 0, 0) := (am_L0_17 1308 (by decide)).trans (by decide +kernel)
theorem at_0_1309 : am_at (am_m 0) 1309 = some (.ireturn, 0) := (am_L0_17 1309 (by decide)).trans (by decide +kernel)
theorem at_0_1310 : am_at (am_m 0) 1310 = some (.iload 5, 0) := (am_L0_17 1310 (by decide)).trans (by decide +kernel)
theorem at_0_1312 : am_at (am_m 0) 1312 = some (.ifCond .ne 15, 1327) := (am_L0_17 1312 (by decide)).trans (by decide +kernel)
theorem at_0_1315 : am_at (am_m 0) 1315 = some (.aload_n 3, 0) := (am_L0_17 1315 (by decide)).trans (by decide +kernel)
theorem at_0_1316 : am_at (am_m 0) 1316 = some (.iconst 0, 0) := (am_L0_17 1316 (by decide)).trans (by decide +kernel)
theorem at_0_1317 : am_at (am_m 0) 1317 = some (.laload, 0) := (am_L0_17 1317 (by decide)).trans (by decide +kernel)
theorem at_0_1318 : am_at (am_m 0) 1318 = some (.iload 6, 0) := (am_L0_17 1318 (by decide)).trans (by decide +kernel)
theorem at_0_1320 : am_at (am_m 0) 1320 = some (.i2l, 0) := (am_L0_17 1320 (by decide)).trans (by decide +kernel)
theorem at_0_1321 : am_at (am_m 0) 1321 = some (.lcmp, 0) := (am_L0_17 1321 (by decide)).trans (by decide +kernel)
theorem at_0_1322 : am_at (am_m 0) 1322 = some (.ifCond .eq 5, 1327) := (am_L0_17 1322 (by decide)).trans (by decide +kernel)
theorem at_0_1325 : am_at (am_m 0) 1325 = some (.iconst 0, 0) := (am_L0_17 1325 (by decide)).trans (by decide +kernel)
theorem at_0_1326 : am_at (am_m 0) 1326 = some (.ireturn, 0) := (am_L0_17 1326 (by decide)).trans (by decide +kernel)
theorem at_0_1327 : am_at (am_m 0) 1327 = some (.goto 2865, 4192) := (am_L0_17 1327 (by decide)).trans (by decide +kernel)
theorem at_0_1330 : am_at (am_m 0) 1330 = some (.aload_n 1, 0) := (am_L0_17 1330 (by decide)).trans (by decide +kernel)
theorem at_0_1331 : am_at (am_m 0) 1331 = some (.aload_n 0, 0) := (am_L0_17 1331 (by decide)).trans (by decide +kernel)
theorem at_0_1332 : am_at (am_m 0) 1332 = some (.iload 4, 0) := (am_L0_17 1332 (by decide)).trans (by decide +kernel)
theorem at_0_1334 : am_at (am_m 0) 1334 = some (.iconst 1, 0) := (am_L0_17 1334 (by decide)).trans (by decide +kernel)
theorem at_0_1335 : am_at (am_m 0) 1335 = some (.iadd, 0) := (am_L0_17 1335 (by decide)).trans (by decide +kernel)
theorem at_0_1336 : am_at (am_m 0) 1336 = some (.iaload, 0) := (am_L0_17 1336 (by decide)).trans (by decide +kernel)
theorem at_0_1337 : am_at (am_m 0) 1337 = some (.aload_n 0, 0) := (am_L0_17 1337 (by decide)).trans (by decide +kernel)
theorem at_0_1338 : am_at (am_m 0) 1338 = some (.iload 4, 0) := (am_L0_17 1338 (by decide)).trans (by decide +kernel)
theorem at_0_1340 : am_at (am_m 0) 1340 = some (.iconst 2, 0) := (am_L0_17 1340 (by decide)).trans (by decide +kernel)
theorem at_0_1341 : am_at (am_m 0) 1341 = some (.iadd, 0) := (am_L0_17 1341 (by decide)).trans (by decide +kernel)
theorem at_0_1342 : am_at (am_m 0) 1342 = some (.iaload, 0) := (am_L0_17 1342 (by decide)).trans (by decide +kernel)
theorem at_0_1343 : am_at (am_m 0) 1343 = some (.aload_n 3, 0) := (am_L0_17 1343 (by decide)).trans (by decide +kernel)
theorem at_0_1344 : am_at (am_m 0) 1344 = some (.invokestatic 258, 113) := (am_L0_17 1344 (by decide)).trans (by decide +kernel)
theorem at_0_1347 : am_at (am_m 0) 1347 = some (.istore 5, 0) := (am_L0_17 1347 (by decide)).trans (by decide +kernel)
theorem at_0_1349 : am_at (am_m 0) 1349 = some (.aload_n 2, 0) := (am_L0_17 1349 (by decide)).trans (by decide +kernel)
theorem at_0_1350 : am_at (am_m 0) 1350 = some (.aload_n 0, 0) := (am_L0_17 1350 (by decide)).trans (by decide +kernel)
theorem at_0_1351 : am_at (am_m 0) 1351 = some (.iload 4, 0) := (am_L0_18 1351 (by decide)).trans (by decide +kernel)
theorem at_0_1353 : am_at (am_m 0) 1353 = some (.iconst 1, 0) := (am_L0_18 1353 (by decide)).trans (by decide +kernel)
theorem at_0_1354 : am_at (am_m 0) 1354 = some (.iadd, 0) := (am_L0_18 1354 (by decide)).trans (by decide +kernel)
theorem at_0_1355 : am_at (am_m 0) 1355 = some (.iaload, 0) := (am_L0_18 1355 (by decide)).trans (by decide +kernel)
theorem at_0_1356 : am_at (am_m 0) 1356 = some (.aload_n 0, 0) := (am_L0_18 1356 (by decide)).trans (by decide +kernel)
theorem at_0_1357 : am_at (am_m 0) 1357 = some (.iload 4, 0) := (am_L0_18 1357 (by decide)).trans (by decide +kernel)
theorem at_0_1359 : am_at (am_m 0) 1359 = some (.iconst 2, 0) := (am_L0_18 1359 (by decide)).trans (by decide +kernel)
theorem at_0_1360 : am_at (am_m 0) 1360 = some (.iadd, 0) := (am_L0_18 1360 (by decide)).trans (by decide +kernel)
theorem at_0_1361 : am_at (am_m 0) 1361 = some (.iaload, 0) := (am_L0_18 1361 (by decide)).trans (by decide +kernel)
theorem at_0_1362 : am_at (am_m 0) 1362 = some (.invokevirtual 260, 401) := (am_L0_18 1362 (by decide)).trans (by decide +kernel)
theorem at_0_1365 : am_at (am_m 0) 1365 = some (.istore 6, 0) := (am_L0_18 1365 (by decide)).trans (by decide +kernel)
theorem at_0_1367 : am_at (am_m 0) 1367 = some (.aload_n 2, 0) := (am_L0_18 1367 (by decide)).trans (by decide +kernel)
theorem at_0_1368 : am_at (am_m 0) 1368 = some (.invokevirtual 202, 324) := (am_L0_18 1368 (by decide)).trans (by decide +kernel)
theorem at_0_1371 : am_at (am_m 0) 1371 = some (.iload 5, 0) := (am_L0_18 1371 (by decide)).trans (by decide +kernel)
theorem at_0_1373 : am_at (am_m 0) 1373 = some (.if_icmp .eq 5, 1378) := (am_L0_18 1373 (by decide)).trans (by decide +kernel)
theorem at_0_1376 : am_at (am_m 0) 1376 = some (.iconst 0, 0) := (am_L0_18 1376 (by decide)).trans (by decide +kernel)
theorem at_0_1377 : am_at (am_m 0) 1377 = some (.ireturn, 0) := (am_L0_18 1377 (by decide)).trans (by decide +kernel)
theorem at_0_1378 : am_at (am_m 0) 1378 = some (.iload 5, 0) := (am_L0_18 1378 (by decide)).trans (by decide +kernel)
theorem at_0_1380 : am_at (am_m 0) 1380 = some (.ifCond .ne 15, 1395) := (am_L0_18 1380 (by decide)).trans (by decide +kernel)
theorem at_0_1383 : am_at (am_m 0) 1383 = some (.aload_n 3, 0) := (am_L0_18 1383 (by decide)).trans (by decide +kernel)
theorem at_0_1384 : am_at (am_m 0) 1384 = some (.iconst 0, 0) := (am_L0_18 1384 (by decide)).trans (by decide +kernel)
theorem at_0_1385 : am_at (am_m 0) 1385 = some (.laload, 0) := (am_L0_18 1385 (by decide)).trans (by decide +kernel)
theorem at_0_1386 : am_at (am_m 0) 1386 = some (.iload 6, 0) := (am_L0_18 1386 (by decide)).trans (by decide +kernel)
theorem at_0_1388 : am_at (am_m 0) 1388 = some (.i2l, 0) := (am_L0_18 1388 (by decide)).trans (by decide +kernel)
theorem at_0_1389 : am_at (am_m 0) 1389 = some (.lcmp, 0) := (am_L0_18 1389 (by decide)).trans (by decide +kernel)
theorem at_0_1390 : am_at (am_m 0) 1390 = some (.ifCond .eq 5, 1395) := (am_L0_18 1390 (by decide)).trans (by decide +kernel)
theorem at_0_1393 : am_at (am_m 0) 1393 = some (.iconst 0, 0) := (am_L0_18 1393 (by decide)).trans (by decide +kernel)
theorem at_0_1394 : am_at (am_m 0) 1394 = some (.ireturn, 0) := (am_L0_18 1394 (by decide)).trans (by decide +kernel)
theorem at_0_1395 : am_at (am_m 0) 1395 = some (.goto 2797, 4192) := (am_L0_18 1395 (by decide)).trans (by decide +kernel)
theorem at_0_1398 : am_at (am_m 0) 1398 = some (.aload_n 1, 0) := (am_L0_18 1398 (by decide)).trans (by decide +kernel)
theorem at_0_1399 : am_at (am_m 0) 1399 = some (.aload_n 0, 0) := (am_L0_18 1399 (by decide)).trans (by decide +kernel)
theorem at_0_1400 : am_at (am_m 0) 1400 = some (.iload 4, 0) := (am_L0_18 1400 (by decide)).trans (by decide +kernel)
theorem at_0_1402 : am_at (am_m 0) 1402 = some (.iconst 1, 0) := (am_L0_18 1402 (by decide)).trans (by decide +kernel)
theorem at_0_1403 : am_at (am_m 0) 1403 = some (.iadd, 0) := (am_L0_18 1403 (by decide)).trans (by decide +kernel)
theorem at_0_1404 : am_at (am_m 0) 1404 = some (.iaload, 0) := (am_L0_18 1404 (by decide)).trans (by decide +kernel)
theorem at_0_1405 : am_at (am_m 0) 1405 = some (.aload_n 0, 0) := (am_L0_18 1405 (by decide)).trans (by decide +kernel)
theorem at_0_1406 : am_at (am_m 0) 1406 = some (.iload 4, 0) := (am_L0_18 1406 (by decide)).trans (by decide +kernel)
theorem at_0_1408 : am_at (am_m 0) 1408 = some (.iconst 2, 0) := (am_L0_18 1408 (by decide)).trans (by decide +kernel)
theorem at_0_1409 : am_at (am_m 0) 1409 = some (.iadd, 0) := (am_L0_18 1409 (by decide)).trans (by decide +kernel)
theorem at_0_1410 : am_at (am_m 0) 1410 = some (.iaload, 0) := (am_L0_18 1410 (by decide)).trans (by decide +kernel)
theorem at_0_1411 : am_at (am_m 0) 1411 = some (.aload_n 0, 0) := (am_L0_19 1411 (by decide)).trans (by decide +kernel)
theorem at_0_1412 : am_at (am_m 0) 1412 = some (.iload 4, 0) := (am_L0_19 1412 (by decide)).trans (by decide +kernel)
theorem at_0_1414 : am_at (am_m 0) 1414 = some (.iconst 3, 0) := (am_L0_19 1414 (by decide)).trans (by decide +kernel)
theorem at_0_1415 : am_at (am_m 0) 1415 = some (.iadd, 0) := (am_L0_19 1415 (by decide)).trans (by decide +kernel)
theorem at_0_1416 : am_at (am_m 0) 1416 = some (.iaload, 0) := (am_L0_19 1416 (by decide)).trans (by decide +kernel)
theorem at_0_1417 : am_at (am_m 0) 1417 = some (.aload_n 0, 0) := (am_L0_19 1417 (by decide)).trans (by decide +kernel)
theorem at_0_1418 : am_at (am_m 0) 1418 = some (.iload 4, 0) := (am_L0_19 1418 (by decide)).trans (by decide +kernel)
theorem at_0_1420 : am_at (am_m 0) 1420 = some (.iconst 4, 0) := (am_L0_19 1420 (by decide)).trans (by decide +kernel)
theorem at_0_1421 : am_at (am_m 0) 1421 = some (.iadd, 0) := (am_L0_19 1421 (by decide)).trans (by decide +kernel)
theorem at_0_1422 : am_at (am_m 0) 1422 = some (.iaload, 0) := (am_L0_19 1422 (by decide)).trans (by decide +kernel)
theorem at_0_1423 : am_at (am_m 0) 1423 = some (.aload_n 3, 0) := (am_L0_19 1423 (by decide)).trans (by decide +kernel)
theorem at_0_1424 : am_at (am_m 0) 1424 = some (.invokestatic 261, 129) := (am_L0_19 1424 (by decide)).trans (by decide +kernel)
theorem at_0_1427 : am_at (am_m 0) 1427 = some (.istore 5, 0) := (am_L0_19 1427 (by decide)).trans (by decide +kernel)
theorem at_0_1429 : am_at (am_m 0) 1429 = some (.aload_n 2, 0) := (am_L0_19 1429 (by decide)).trans (by decide +kernel)
theorem at_0_1430 : am_at (am_m 0) 1430 = some (.aload_n 0, 0) := (am_L0_19 1430 (by decide)).trans (by decide +kernel)
theorem at_0_1431 : am_at (am_m 0) 1431 = some (.iload 4, 0) := (am_L0_19 1431 (by decide)).trans (by decide +kernel)
theorem at_0_1433 : am_at (am_m 0) 1433 = some (.iconst 1, 0) := (am_L0_19 1433 (by decide)).trans (by decide +kernel)
theorem at_0_1434 : am_at (am_m 0) 1434 = some (.iadd, 0) := (am_L0_19 1434 (by decide)).trans (by decide +kernel)
theorem at_0_1435 : am_at (am_m 0) 1435 = some (.iaload, 0) := (am_L0_19 1435 (by decide)).trans (by decide +kernel)
theorem at_0_1436 : am_at (am_m 0) 1436 = some (.aload_n 0, 0) := (am_L0_19 1436 (by decide)).trans (by decide +kernel)
theorem at_0_1437 : am_at (am_m 0) 1437 = some (.iload 4, 0) := (am_L0_19 1437 (by decide)).trans (by decide +kernel)
theorem at_0_1439 : am_at (am_m 0) 1439 = some (.iconst 2, 0) := (am_L0_19 1439 (by decide)).trans (by decide +kernel)
theorem at_0_1440 : am_at (am_m 0) 1440 = some (.iadd, 0) := (am_L0_19 1440 (by decide)).trans (by decide +kernel)
theorem at_0_1441 : am_at (am_m 0) 1441 = some (.iaload, 0) := (am_L0_19 1441 (by decide)).trans (by decide +kernel)
theorem at_0_1442 : am_at (am_m 0) 1442 = some (.aload_n 0, 0) := (am_L0_19 1442 (by decide)).trans (by decide +kernel)
theorem at_0_1443 : am_at (am_m 0) 1443 = some (.iload 4, 0) := (am_L0_19 1443 (by decide)).trans (by decide +kernel)
theorem at_0_1445 : am_at (am_m 0) 1445 = some (.iconst 3, 0) := (am_L0_19 1445 (by decide)).trans (by decide +kernel)
theorem at_0_1446 : am_at (am_m 0) 1446 = some (.iadd, 0) := (am_L0_19 1446 (by decide)).trans (by decide +kernel)
theorem at_0_1447 : am_at (am_m 0) 1447 = some (.iaload, 0) := (am_L0_19 1447 (by decide)).trans (by decide +kernel)
theorem at_0_1448 : am_at (am_m 0) 1448 = some (.aload_n 0, 0) := (am_L0_19 1448 (by decide)).trans (by decide +kernel)
theorem at_0_1449 : am_at (am_m 0) 1449 = some (.iload 4, 0) := (am_L0_19 1449 (by decide)).trans (by decide +kernel)
theorem at_0_1451 : am_at (am_m 0) 1451 = some (.iconst 4, 0) := (am_L0_19 1451 (by decide)).trans (by decide +kernel)
theorem at_0_1452 : am_at (am_m 0) 1452 = some (.iadd, 0) := (am_L0_19 1452 (by decide)).trans (by decide +kernel)
theorem at_0_1453 : am_at (am_m 0) 1453 = some (.iaload, 0) := (am_L0_19 1453 (by decide)).trans (by decide +kernel)
theorem at_0_1454 : am_at (am_m 0) 1454 = some (.invokevirtual 264, 420) := (am_L0_19 1454 (by decide)).trans (by decide +kernel)
theorem at_0_1457 : am_at (am_m 0) 1457 = some (.istore 6, 0) := (am_L0_19 1457 (by decide)).trans (by decide +kernel)
theorem at_0_1459 : am_at (am_m 0) 1459 = some (.aload_n 2, 0) := (am_L0_19 1459 (by decide)).trans (by decide +kernel)
theorem at_0_1460 : am_at (am_m 0) 1460 = some (.invokevirtual 202, 324) := (am_L0_19 1460 (by decide)).trans (by decide +kernel)
theorem at_0_1463 : am_at (am_m 0) 1463 = some (.iload 5, 0) := (am_L0_19 1463 (by decide)).trans (by decide +kernel)
theorem at_0_1465 : am_at (am_m 0) 1465 = some (.if_icmp .eq 5, 1470) := (am_L0_19 1465 (by decide)).trans (by decide +kernel)
theorem at_0_1468 : am_at (am_m 0) 1468 = some (.iconst 0, 0) := (am_L0_20 1468 (by decide)).trans (by decide +kernel)
theorem at_0_1469 : am_at (am_m 0) 1469 = some (.ireturn, 0) := (am_L0_20 1469 (by decide)).trans (by decide +kernel)
theorem at_0_1470 : am_at (am_m 0) 1470 = some (.iload 5, 0) := (am_L0_20 1470 (by decide)).trans (by decide +kernel)
theorem at_0_1472 : am_at (am_m 0) 1472 = some (.ifCond .ne 15, 1487) := (am_L0_20 1472 (by decide)).trans (by decide +kernel)
theorem at_0_1475 : am_at (am_m 0) 1475 = some (.aload_n 3, 0) := (am_L0_20 1475 (by decide)).trans (by decide +kernel)
theorem at_0_1476 : am_at (am_m 0) 1476 = some (.iconst 0, 0) := (am_L0_20 1476 (by decide)).trans (by decide +kernel)
theorem at_0_1477 : am_at (am_m 0) 1477 = some (.laload, 0) := (am_L0_20 1477 (by decide)).trans (by decide +kernel)
theorem at_0_1478 : am_at (am_m 0) 1478 = some (.iload 6, 0) := (am_L0_20 1478 (by decide)).trans (by decide +kernel)
theorem at_0_1480 : am_at (am_m 0) 1480 = some (.i2l, 0) := (am_L0_20 1480 (by decide)).trans (by decide +kernel)
theorem at_0_1481 : am_at (am_m 0) 1481 = some (.lcmp, 0) := (am_L0_20 1481 (by decide)).trans (by decide +kernel)
theorem at_0_1482 : am_at (am_m 0) 1482 = some (.ifCond .eq 5, 1487) := (am_L0_20 1482 (by decide)).trans (by decide +kernel)
theorem at_0_1485 : am_at (am_m 0) 1485 = some (.iconst 0, 0) := (am_L0_20 1485 (by decide)).trans (by decide +kernel)
theorem at_0_1486 : am_at (am_m 0) 1486 = some (.ireturn, 0) := (am_L0_20 1486 (by decide)).trans (by decide +kernel)
theorem at_0_1487 : am_at (am_m 0) 1487 = some (.goto 2705, 4192) := (am_L0_20 1487 (by decide)).trans (by decide +kernel)
theorem at_0_1490 : am_at (am_m 0) 1490 = some (.aload_n 1, 0) := (am_L0_20 1490 (by decide)).trans (by decide +kernel)
theorem at_0_1491 : am_at (am_m 0) 1491 = some (.invokevirtual 265, 26) := (am_L0_20 1491 (by decide)).trans (by decide +kernel)
theorem at_0_1494 : am_at (am_m 0) 1494 = some (.aload_n 2, 0) := (am_L0_20 1494 (by decide)).trans (by decide +kernel)
theorem at_0_1495 : am_at (am_m 0) 1495 = some (.invokevirtual 268, 422) := (am_L0_20 1495 (by decide)).trans (by decide +kernel)
theorem at_0_1498 : am_at (am_m 0) 1498 = some (.if_icmp .eq 2694, 4192) := (am_L0_20 1498 (by decide)).trans (by decide +kernel)
theorem at_0_1501 : am_at (am_m 0) 1501 = some (.iconst 0, 0) := (am_L0_20 1501 (by decide)).trans (by decide +kernel)
theorem at_0_1502 : am_at (am_m 0) 1502 = some (.ireturn, 0) := (am_L0_20 1502 (by decide)).trans (by decide +kernel)
theorem at_0_1503 : am_at (am_m 0) 1503 = some (.aload_n 1, 0) := (am_L0_20 1503 (by decide)).trans (by decide +kernel)
theorem at_0_1504 : am_at (am_m 0) 1504 = some (.invokevirtual 269, 27) := (am_L0_20 1504 (by decide)).trans (by decide +kernel)
theorem at_0_1507 : am_at (am_m 0) 1507 = some (.aload_n 2, 0) := (am_L0_20 1507 (by decide)).trans (by decide +kernel)
theorem at_0_1508 : am_at (am_m 0) 1508 = some (.invokevirtual 272, 423) := (am_L0_20 1508 (by decide)).trans (by decide +kernel)
theorem at_0_1511 : am_at (am_m 0) 1511 = some (.if_icmp .eq 2681, 4192) := (am_L0_20 1511 (by decide)).trans (by decide +kernel)
theorem at_0_1514 : am_at (am_m 0) 1514 = some (.iconst 0, 0) := (am_L0_20 1514 (by decide)).trans (by decide +kernel)
theorem at_0_1515 : am_at (am_m 0) 1515 = some (.ireturn, 0) := (am_L0_20 1515 (by decide)).trans (by decide +kernel)
theorem at_0_1516 : am_at (am_m 0) 1516 = some (.aload_n 1, 0) := (am_L0_20 1516 (by decide)).trans (by decide +kernel)
theorem at_0_1517 : am_at (am_m 0) 1517 = some (.aload_n 0, 0) := (am_L0_20 1517 (by decide)).trans (by decide +kernel)
theorem at_0_1518 : am_at (am_m 0) 1518 = some (.iload 4, 0) := (am_L0_20 1518 (by decide)).trans (by decide +kernel)
theorem at_0_1520 : am_at (am_m 0) 1520 = some (.iconst 1, 0) := (am_L0_20 1520 (by decide)).trans (by decide +kernel)
theorem at_0_1521 : am_at (am_m 0) 1521 = some (.iadd, 0) := (am_L0_20 1521 (by decide)).trans (by decide +kernel)
theorem at_0_1522 : am_at (am_m 0) 1522 = some (.iaload, 0) := (am_L0_20 1522 (by decide)).trans (by decide +kernel)
theorem at_0_1523 : am_at (am_m 0) 1523 = some (.aload_n 0, 0) := (am_L0_20 1523 (by decide)).trans (by decide +kernel)
theorem at_0_1524 : am_at (am_m 0) 1524 = some (.iload 4, 0) := (am_L0_20 1524 (by decide)).trans (by decide +kernel)
theorem at_0_1526 : am_at (am_m 0) 1526 = some (.iconst 2, 0) := (am_L0_20 1526 (by decide)).trans (by decide +kernel)
theorem at_0_1527 : am_at (am_m 0) 1527 = some (.iadd, 0) := (am_L0_20 1527 (by decide)).trans (by decide +kernel)
theorem at_0_1528 : am_at (am_m 0) 1528 = some (.iaload, 0) := (am_L0_20 1528 (by decide)).trans (by decide +kernel)
theorem at_0_1529 : am_at (am_m 0) 1529 = some (.aload_n 3, 0) := (am_L0_20 1529 (by decide)).trans (by decide +kernel)
theorem at_0_1530 : am_at (am_m 0) 1530 = some (.invokestatic 273, 131) := (am_L0_21 1530 (by decide)).trans (by decide +kernel)
theorem at_0_1533 : am_at (am_m 0) 1533 = some (.istore 5, 0) := (am_L0_21 1533 (by decide)).trans (by decide +kernel)
theorem at_0_1535 : am_at (am_m 0) 1535 = some (.aload_n 2, 0) := (am_L0_21 1535 (by decide)).trans (by decide +kernel)
theorem at_0_1536 : am_at (am_m 0) 1536 = some (.aload_n 0, 0) := (am_L0_21 1536 (by decide)).trans (by decide +kernel)
theorem at_0_1537 : am_at (am_m 0) 1537 = some (.iload 4, 0) := (am_L0_21 1537 (by decide)).trans (by decide +kernel)
theorem at_0_1539 : am_at (am_m 0) 1539 = some (.iconst 1, 0) := (am_L0_21 1539 (by decide)).trans (by decide +kernel)
theorem at_0_1540 : am_at (am_m 0) 1540 = some (.iadd, 0) := (am_L0_21 1540 (by decide)).trans (by decide +kernel)
theorem at_0_1541 : am_at (am_m 0) 1541 = some (.iaload, 0) := (am_L0_21 1541 (by decide)).trans (by decide +kernel)
theorem at_0_1542 : am_at (am_m 0) 1542 = some (.aload_n 0, 0) := (am_L0_21 1542 (by decide)).trans (by decide +kernel)
theorem at_0_1543 : am_at (am_m 0) 1543 = some (.iload 4, 0) := (am_L0_21 1543 (by decide)).trans (by decide +kernel)
theorem at_0_1545 : am_at (am_m 0) 1545 = some (.iconst 2, 0) := (am_L0_21 1545 (by decide)).trans (by decide +kernel)
theorem at_0_1546 : am_at (am_m 0) 1546 = some (.iadd, 0) := (am_L0_21 1546 (by decide)).trans (by decide +kernel)
theorem at_0_1547 : am_at (am_m 0) 1547 = some (.iaload, 0) := (am_L0_21 1547 (by decide)).trans (by decide +kernel)
theorem at_0_1548 : am_at (am_m 0) 1548 = some (.invokevirtual 275, 424) := (am_L0_21 1548 (by decide)).trans (by decide +kernel)
theorem at_0_1551 : am_at (am_m 0) 1551 = some (.istore 6, 0) := (am_L0_21 1551 (by decide)).trans (by decide +kernel)
theorem at_0_1553 : am_at (am_m 0) 1553 = some (.aload_n 2, 0) := (am_L0_21 1553 (by decide)).trans (by decide +kernel)
theorem at_0_1554 : am_at (am_m 0) 1554 = some (.invokevirtual 202, 324) := (am_L0_21 1554 (by decide)).trans (by decide +kernel)
theorem at_0_1557 : am_at (am_m 0) 1557 = some (.iload 5, 0) := (am_L0_21 1557 (by decide)).trans (by decide +kernel)
theorem at_0_1559 : am_at (am_m 0) 1559 = some (.if_icmp .eq 5, 1564) := (am_L0_21 1559 (by decide)).trans (by decide +kernel)
theorem at_0_1562 : am_at (am_m 0) 1562 = some (.iconst 0, 0) := (am_L0_21 1562 (by decide)).trans (by decide +kernel)
theorem at_0_1563 : am_at (am_m 0) 1563 = some (.ireturn, 0) := (am_L0_21 1563 (by decide)).trans (by decide +kernel)
theorem at_0_1564 : am_at (am_m 0) 1564 = some (.iload 5, 0) := (am_L0_21 1564 (by decide)).trans (by decide +kernel)
theorem at_0_1566 : am_at (am_m 0) 1566 = some (.ifCond .ne 15, 1581) := (am_L0_21 1566 (by decide)).trans (by decide +kernel)
theorem at_0_1569 : am_at (am_m 0) 1569 = some (.aload_n 3, 0) := (am_L0_21 1569 (by decide)).trans (by decide +kernel)
theorem at_0_1570 : am_at (am_m 0) 1570 = some (.iconst 0, 0) := (am_L0_21 1570 (by decide)).trans (by decide +kernel)
theorem at_0_1571 : am_at (am_m 0) 1571 = some (.laload, 0) := (am_L0_21 1571 (by decide)).trans (by decide +kernel)
theorem at_0_1572 : am_at (am_m 0) 1572 = some (.iload 6, 0) := (am_L0_21 1572 (by decide)).trans (by decide +kernel)
theorem at_0_1574 : am_at (am_m 0) 1574 = some (.i2l, 0) := (am_L0_21 1574 (by decide)).trans (by decide +kernel)
theorem at_0_1575 : am_at (am_m 0) 1575 = some (.lcmp, 0) := (am_L0_21 1575 (by decide)).trans (by decide +kernel)
theorem at_0_1576 : am_at (am_m 0) 1576 = some (.ifCond .eq 5, 1581) := (am_L0_21 1576 (by decide)).trans (by decide +kernel)
theorem at_0_1579 : am_at (am_m 0) 1579 = some (.iconst 0, 0) := (am_L0_21 1579 (by decide)).trans (by decide +kernel)
theorem at_0_1580 : am_at (am_m 0) 1580 = some (.ireturn, 0) := (am_L0_21 1580 (by decide)).trans (by decide +kernel)
theorem at_0_1581 : am_at (am_m 0) 1581 = some (.goto 2611, 4192) := (am_L0_21 1581 (by decide)).trans (by decide +kernel)
theorem at_0_1584 : am_at (am_m 0) 1584 = some (.aload_n 1, 0) := (am_L0_21 1584 (by decide)).trans (by decide +kernel)
theorem at_0_1585 : am_at (am_m 0) 1585 = some (.aload_n 0, 0) := (am_L0_21 1585 (by decide)).trans (by decide +kernel)
theorem at_0_1586 : am_at (am_m 0) 1586 = some (.iload 4, 0) := (am_L0_21 1586 (by decide)).trans (by decide +kernel)
theorem at_0_1588 : am_at (am_m 0) 1588 = some (.iconst 1, 0) := (am_L0_21 1588 (by decide)).trans (by decide +kernel)
theorem at_0_1589 : am_at (am_m 0) 1589 = some (.iadd, 0) := (am_L0_21 1589 (by decide)).trans (by decide +kernel)
theorem at_0_1590 : am_at (am_m 0) 1590 = some (.iaload, 0) := (am_L0_21 1590 (by decide)).trans (by decide +kernel)
theorem at_0_1591 : am_at (am_m 0) 1591 = some (.aload_n 0, 0) := (am_L0_21 1591 (by decide)).trans (by decide +kernel)
theorem at_0_1592 : am_at (am_m 0) 1592 = some (.iload 4, 0) := (am_L0_22 1592 (by decide)).trans (by decide +kernel)
theorem at_0_1594 : am_at (am_m 0) 1594 = some (.iconst 2, 0) := (am_L0_22 1594 (by decide)).trans (by decide +kernel)
theorem at_0_1595 : am_at (am_m 0) 1595 = some (.iadd, 0) := (am_L0_22 1595 (by decide)).trans (by decide +kernel)
theorem at_0_1596 : am_at (am_m 0) 1596 = some (.iaload, 0) := (am_L0_22 1596 (by decide)).trans (by decide +kernel)
theorem at_0_1597 : am_at (am_m 0) 1597 = some (.ifCond .eq 7, 1604) := (am_L0_22 1597 (by decide)).trans (by decide +kernel)
theorem at_0_1600 : am_at (am_m 0) 1600 = some (.iconst 1, 0) := (am_L0_22 1600 (by decide)).trans (by decide +kernel)
theorem at_0_1601 : am_at (am_m 0) 1601 = some (.goto 4, 1605) := (am_L0_22 1601 (by decide)).trans (by decide +kernel)
theorem at_0_1604 : am_at (am_m 0) 1604 = some (.iconst 0, 0) := (am_L0_22 1604 (by decide)).trans (by decide +kernel)
theorem at_0_1605 : am_at (am_m 0) 1605 = some (.aload_n 0, 0) := (am_L0_22 1605 (by decide)).trans (by decide +kernel)
theorem at_0_1606 : am_at (am_m 0) 1606 = some (.iload 4, 0) := (am_L0_22 1606 (by decide)).trans (by decide +kernel)
theorem at_0_1608 : am_at (am_m 0) 1608 = some (.iconst 3, 0) := (am_L0_22 1608 (by decide)).trans (by decide +kernel)
theorem at_0_1609 : am_at (am_m 0) 1609 = some (.iadd, 0) := (am_L0_22 1609 (by decide)).trans (by decide +kernel)
theorem at_0_1610 : am_at (am_m 0) 1610 = some (.iaload, 0) := (am_L0_22 1610 (by decide)).trans (by decide +kernel)
theorem at_0_1611 : am_at (am_m 0) 1611 = some (.aload_n 3, 0) := (am_L0_22 1611 (by decide)).trans (by decide +kernel)
theorem at_0_1612 : am_at (am_m 0) 1612 = some (.invokestatic 276, 137) := (am_L0_22 1612 (by decide)).trans (by decide +kernel)
theorem at_0_1615 : am_at (am_m 0) 1615 = some (.istore 5, 0) := (am_L0_22 1615 (by decide)).trans (by decide +kernel)
theorem at_0_1617 : am_at (am_m 0) 1617 = some (.aload_n 2, 0) := (am_L0_22 1617 (by decide)).trans (by decide +kernel)
theorem at_0_1618 : am_at (am_m 0) 1618 = some (.aload_n 0, 0) := (am_L0_22 1618 (by decide)).trans (by decide +kernel)
theorem at_0_1619 : am_at (am_m 0) 1619 = some (.iload 4, 0) := (am_L0_22 1619 (by decide)).trans (by decide +kernel)
theorem at_0_1621 : am_at (am_m 0) 1621 = some (.iconst 1, 0) := (am_L0_22 1621 (by decide)).trans (by decide +kernel)
theorem at_0_1622 : am_at (am_m 0) 1622 = some (.iadd, 0) := (am_L0_22 1622 (by decide)).trans (by decide +kernel)
theorem at_0_1623 : am_at (am_m 0) 1623 = some (.iaload, 0) := (am_L0_22 1623 (by decide)).trans (by decide +kernel)
theorem at_0_1624 : am_at (am_m 0) 1624 = some (.aload_n 0, 0) := (am_L0_22 1624 (by decide)).trans (by decide +kernel)
theorem at_0_1625 : am_at (am_m 0) 1625 = some (.iload 4, 0) := (am_L0_22 1625 (by decide)).trans (by decide +kernel)
theorem at_0_1627 : am_at (am_m 0) 1627 = some (.iconst 2, 0) := (am_L0_22 1627 (by decide)).trans (by decide +kernel)
theorem at_0_1628 : am_at (am_m 0) 1628 = some (.iadd, 0) := (am_L0_22 1628 (by decide)).trans (by decide +kernel)
theorem at_0_1629 : am_at (am_m 0) 1629 = some (.iaload, 0) := (am_L0_22 1629 (by decide)).trans (by decide +kernel)
theorem at_0_1630 : am_at (am_m 0) 1630 = some (.ifCond .eq 7, 1637) := (am_L0_22 1630 (by decide)).trans (by decide +kernel)
theorem at_0_1633 : am_at (am_m 0) 1633 = some (.iconst 1, 0) := (am_L0_22 1633 (by decide)).trans (by decide +kernel)
theorem at_0_1634 : am_at (am_m 0) 1634 = some (.goto 4, 1638) := (am_L0_22 1634 (by decide)).trans (by decide +kernel)
theorem at_0_1637 : am_at (am_m 0) 1637 = some (.iconst 0, 0) := (am_L0_22 1637 (by decide)).trans (by decide +kernel)
theorem at_0_1638 : am_at (am_m 0) 1638 = some (.aload_n 0, 0) := (am_L0_22 1638 (by decide)).trans (by decide +kernel)
theorem at_0_1639 : am_at (am_m 0) 1639 = some (.iload 4, 0) := (am_L0_22 1639 (by decide)).trans (by decide +kernel)
theorem at_0_1641 : am_at (am_m 0) 1641 = some (.iconst 3, 0) := (am_L0_22 1641 (by decide)).trans (by decide +kernel)
theorem at_0_1642 : am_at (am_m 0) 1642 = some (.iadd, 0) := (am_L0_22 1642 (by decide)).trans (by decide +kernel)
theorem at_0_1643 : am_at (am_m 0) 1643 = some (.iaload, 0) := (am_L0_22 1643 (by decide)).trans (by decide +kernel)
theorem at_0_1644 : am_at (am_m 0) 1644 = some (.invokevirtual 279, 427) := (am_L0_22 1644 (by decide)).trans (by decide +kernel)
theorem at_0_1647 : am_at (am_m 0) 1647 = some (.lstore 6, 0) := (am_L0_22 1647 (by decide)).trans (by decide +kernel)
theorem at_0_1649 : am_at (am_m 0) 1649 = some (.aload_n 2, 0) := (am_L0_22 1649 (by decide)).trans (by decide +kernel)
theorem at_0_1650 : am_at (am_m 0) 1650 = some (.invokevirtual 202, 324) := (am_L0_22 1650 (by decide)).trans (by decide +kernel)
theorem at_0_1653 : am_at (am_m 0) 1653 = some (.iload 5, 0) := (am_L0_23 1653 (by decide)).trans (by decide +kernel)
theorem at_0_1655 : am_at (am_m 0) 1655 = some (.if_icmp .eq 5, 1660) := (am_L0_23 1655 (by decide)).trans (by decide +kernel)
theorem at_0_1658 : am_at (am_m 0) 1658 = some (.iconst 0, 0) := (am_L0_23 1658 (by decide)).trans (by decide +kernel)
theorem at_0_1659 : am_at (am_m 0) 1659 = some (.ireturn, 0) := (am_L0_23 1659 (by decide)).trans (by decide +kernel)
theorem at_0_1660 : am_at (am_m 0) 1660 = some (.iload 5, 0) := (am_L0_23 1660 (by decide)).trans (by decide +kernel)
theorem at_0_1662 : am_at (am_m 0) 1662 = some (.ifCond .ne 14, 1676) := (am_L0_23 1662 (by decide)).trans (by decide +kernel)
theorem at_0_1665 : am_at (am_m 0) 1665 = some (.aload_n 3, 0) := (am_L0_23 1665 (by decide)).trans (by decide +kernel)
theorem at_0_1666 : am_at (am_m 0) 1666 = some (.iconst 0, 0) := (am_L0_23 1666 (by decide)).trans (by decide +kernel)
theorem at_0_1667 : am_at (am_m 0) 1667 = some (.laload, 0) := (am_L0_23 1667 (by decide)).trans (by decide +kernel)
theorem at_0_1668 : am_at (am_m 0) 1668 = some (.lload 6, 0) := (am_L0_23 1668 (by decide)).trans (by decide +kernel)
theorem at_0_1670 : am_at (am_m 0) 1670 = some (.lcmp, 0) := (am_L0_23 1670 (by decide)).trans (by decide +kernel)
theorem at_0_1671 : am_at (am_m 0) 1671 = some (.ifCond .eq 5, 1676) := (am_L0_23 1671 (by decide)).trans (by decide +kernel)
theorem at_0_1674 : am_at (am_m 0) 1674 = some (.iconst 0, 0) := (am_L0_23 1674 (by decide)).trans (by decide +kernel)
theorem at_0_1675 : am_at (am_m 0) 1675 = some (.ireturn, 0) := (am_L0_23 1675 (by decide)).trans (by decide +kernel)
theorem at_0_1676 : am_at (am_m 0) 1676 = some (.goto 2516, 4192) := (am_L0_23 1676 (by decide)).trans (by decide +kernel)
theorem at_0_1679 : am_at (am_m 0) 1679 = some (.aload_n 1, 0) := (am_L0_23 1679 (by decide)).trans (by decide +kernel)
theorem at_0_1680 : am_at (am_m 0) 1680 = some (.aload_n 0, 0) := (am_L0_23 1680 (by decide)).trans (by decide +kernel)
theorem at_0_1681 : am_at (am_m 0) 1681 = some (.iload 4, 0) := (am_L0_23 1681 (by decide)).trans (by decide +kernel)
theorem at_0_1683 : am_at (am_m 0) 1683 = some (.iconst 1, 0) := (am_L0_23 1683 (by decide)).trans (by decide +kernel)
theorem at_0_1684 : am_at (am_m 0) 1684 = some (.iadd, 0) := (am_L0_23 1684 (by decide)).trans (by decide +kernel)
theorem at_0_1685 : am_at (am_m 0) 1685 = some (.iaload, 0) := (am_L0_23 1685 (by decide)).trans (by decide +kernel)
theorem at_0_1686 : am_at (am_m 0) 1686 = some (.aload_n 0, 0) := (am_L0_23 1686 (by decide)).trans (by decide +kernel)
theorem at_0_1687 : am_at (am_m 0) 1687 = some (.iload 4, 0) := (am_L0_23 1687 (by decide)).trans (by decide +kernel)
theorem at_0_1689 : am_at (am_m 0) 1689 = some (.iconst 2, 0) := (am_L0_23 1689 (by decide)).trans (by decide +kernel)
theorem at_0_1690 : am_at (am_m 0) 1690 = some (.iadd, 0) := (am_L0_23 1690 (by decide)).trans (by decide +kernel)
theorem at_0_1691 : am_at (am_m 0) 1691 = some (.iaload, 0) := (am_L0_23 1691 (by decide)).trans (by decide +kernel)
theorem at_0_1692 : am_at (am_m 0) 1692 = some (.aload_n 3, 0) := (am_L0_23 1692 (by decide)).trans (by decide +kernel)
theorem at_0_1693 : am_at (am_m 0) 1693 = some (.invokestatic 280, 145) := (am_L0_23 1693 (by decide)).trans (by decide +kernel)
theorem at_0_1696 : am_at (am_m 0) 1696 = some (.istore 5, 0) := (am_L0_23 1696 (by decide)).trans (by decide +kernel)
theorem at_0_1698 : am_at (am_m 0) 1698 = some (.aload_n 2, 0) := (am_L0_23 1698 (by decide)).trans (by decide +kernel)
theorem at_0_1699 : am_at (am_m 0) 1699 = some (.aload_n 0, 0) := (am_L0_23 1699 (by decide)).trans (by decide +kernel)
theorem at_0_1700 : am_at (am_m 0) 1700 = some (.iload 4, 0) := (am_L0_23 1700 (by decide)).trans (by decide +kernel)
theorem at_0_1702 : am_at (am_m 0) 1702 = some (.iconst 1, 0) := (am_L0_23 1702 (by decide)).trans (by decide +kernel)
theorem at_0_1703 : am_at (am_m 0) 1703 = some (.iadd, 0) := (am_L0_23 1703 (by decide)).trans (by decide +kernel)
theorem at_0_1704 : am_at (am_m 0) 1704 = some (.iaload, 0) := (am_L0_23 1704 (by decide)).trans (by decide +kernel)
theorem at_0_1705 : am_at (am_m 0) 1705 = some (.aload_n 0, 0) := (am_L0_23 1705 (by decide)).trans (by decide +kernel)
theorem at_0_1706 : am_at (am_m 0) 1706 = some (.iload 4, 0) := (am_L0_23 1706 (by decide)).trans (by decide +kernel)
theorem at_0_1708 : am_at (am_m 0) 1708 = some (.iconst 2, 0) := (am_L0_23 1708 (by decide)).trans (by decide +kernel)
theorem at_0_1709 : am_at (am_m 0) 1709 = some (.iadd, 0) := (am_L0_23 1709 (by decide)).trans (by decide +kernel)
theorem at_0_1710 : am_at (am_m 0) 1710 = some (.iaload, 0) := (am_L0_23 1710 (by decide)).trans (by decide +kernel)
theorem at_0_1711 : am_at (am_m 0) 1711 = some (.invokevirtual 282, 431) := (am_L0_24 1711 (by decide)).trans (by decide +kernel)
theorem at_0_1714 : am_at (am_m 0) 1714 = some (.lstore 6, 0) := (am_L0_24 1714 (by decide)).trans (by decide +kernel)
theorem at_0_1716 : am_at (am_m 0) 1716 = some (.aload_n 2, 0) := (am_L0_24 1716 (by decide)).trans (by decide +kernel)
theorem at_0_1717 : am_at (am_m 0) 1717 = some (.invokevirtual 202, 324) := (am_L0_24 1717 (by decide)).trans (by decide +kernel)
theorem at_0_1720 : am_at (am_m 0) 1720 = some (.iload 5, 0) := (am_L0_24 1720 (by decide)).trans (by decide +kernel)
theorem at_0_1722 : am_at (am_m 0) 1722 = some (.if_icmp .eq 5, 1727) := (am_L0_24 1722 (by decide)).trans (by decide +kernel)
theorem at_0_1725 : am_at (am_m 0) 1725 = some (.iconst 0, 0) := (am_L0_24 1725 (by decide)).trans (by decide +kernel)
theorem at_0_1726 : am_at (am_m 0) 1726 = some (.ireturn, 0) := (am_L0_24 1726 (by decide)).trans (by decide +kernel)
theorem at_0_1727 : am_at (am_m 0) 1727 = some (.iload 5, 0) := (am_L0_24 1727 (by decide)).trans (by decide +kernel)
theorem at_0_1729 : am_at (am_m 0) 1729 = some (.ifCond .ne 14, 1743) := (am_L0_24 1729 (by decide)).trans (by decide +kernel)
theorem at_0_1732 : am_at (am_m 0) 1732 = some (.aload_n 3, 0) := (am_L0_24 1732 (by decide)).trans (by decide +kernel)
theorem at_0_1733 : am_at (am_m 0) 1733 = some (.iconst 0, 0) := (am_L0_24 1733 (by decide)).trans (by decide +kernel)
theorem at_0_1734 : am_at (am_m 0) 1734 = some (.laload, 0) := (am_L0_24 1734 (by decide)).trans (by decide +kernel)
theorem at_0_1735 : am_at (am_m 0) 1735 = some (.lload 6, 0) := (am_L0_24 1735 (by decide)).trans (by decide +kernel)
theorem at_0_1737 : am_at (am_m 0) 1737 = some (.lcmp, 0) := (am_L0_24 1737 (by decide)).trans (by decide +kernel)
theorem at_0_1738 : am_at (am_m 0) 1738 = some (.ifCond .eq 5, 1743) := (am_L0_24 1738 (by decide)).trans (by decide +kernel)
theorem at_0_1741 : am_at (am_m 0) 1741 = some (.iconst 0, 0) := (am_L0_24 1741 (by decide)).trans (by decide +kernel)
theorem at_0_1742 : am_at (am_m 0) 1742 = some (.ireturn, 0) := (am_L0_24 1742 (by decide)).trans (by decide +kernel)
theorem at_0_1743 : am_at (am_m 0) 1743 = some (.goto 2449, 4192) := (am_L0_24 1743 (by decide)).trans (by decide +kernel)
theorem at_0_1746 : am_at (am_m 0) 1746 = some (.aload_n 1, 0) := (am_L0_24 1746 (by decide)).trans (by decide +kernel)
theorem at_0_1747 : am_at (am_m 0) 1747 = some (.aload_n 0, 0) := (am_L0_24 1747 (by decide)).trans (by decide +kernel)
theorem at_0_1748 : am_at (am_m 0) 1748 = some (.iload 4, 0) := (am_L0_24 1748 (by decide)).trans (by decide +kernel)
theorem at_0_1750 : am_at (am_m 0) 1750 = some (.iconst 1, 0) := (am_L0_24 1750 (by decide)).trans (by decide +kernel)
theorem at_0_1751 : am_at (am_m 0) 1751 = some (.iadd, 0) := (am_L0_24 1751 (by decide)).trans (by decide +kernel)
theorem at_0_1752 : am_at (am_m 0) 1752 = some (.iaload, 0) := (am_L0_24 1752 (by decide)).trans (by decide +kernel)
theorem at_0_1753 : am_at (am_m 0) 1753 = some (.aload_n 0, 0) := (am_L0_24 1753 (by decide)).trans (by decide +kernel)
theorem at_0_1754 : am_at (am_m 0) 1754 = some (.iload 4, 0) := (am_L0_24 1754 (by decide)).trans (by decide +kernel)
theorem at_0_1756 : am_at (am_m 0) 1756 = some (.iconst 2, 0) := (am_L0_24 1756 (by decide)).trans (by decide +kernel)
theorem at_0_1757 : am_at (am_m 0) 1757 = some (.iadd, 0) := (am_L0_24 1757 (by decide)).trans (by decide +kernel)
theorem at_0_1758 : am_at (am_m 0) 1758 = some (.iaload, 0) := (am_L0_24 1758 (by decide)).trans (by decide +kernel)
theorem at_0_1759 : am_at (am_m 0) 1759 = some (.ifCond .eq 7, 1766) := (am_L0_24 1759 (by decide)).trans (by decide +kernel)
theorem at_0_1762 : am_at (am_m 0) 1762 = some (.iconst 1, 0) := (am_L0_24 1762 (by decide)).trans (by decide +kernel)
theorem at_0_1763 : am_at (am_m 0) 1763 = some (.goto 4, 1767) := (am_L0_24 1763 (by decide)).trans (by decide +kernel)
theorem at_0_1766 : am_at (am_m 0) 1766 = some (.iconst 0, 0) := (am_L0_24 1766 (by decide)).trans (by decide +kernel)
theorem at_0_1767 : am_at (am_m 0) 1767 = some (.aload_n 3, 0) := (am_L0_24 1767 (by decide)).trans (by decide +kernel)
theorem at_0_1768 : am_at (am_m 0) 1768 = some (.invokestatic 283, 147) := (am_L0_24 1768 (by decide)).trans (by decide +kernel)
theorem at_0_1771 : am_at (am_m 0) 1771 = some (.istore 5, 0) := (am_L0_24 1771 (by decide)).trans (by decide +kernel)
theorem at_0_1773 : am_at (am_m 0) 1773 = some (.aload_n 2, 0) := (am_L0_24 1773 (by decide)).trans (by decide +kernel)
theorem at_0_1774 : am_at (am_m 0) 1774 = some (.aload_n 0, 0) := (am_L0_24 1774 (by decide)).trans (by decide +kernel)
theorem at_0_1775 : am_at (am_m 0) 1775 = some (.iload 4, 0) := (am_L0_24 1775 (by decide)).trans (by decide +kernel)
theorem at_0_1777 : am_at (am_m 0) 1777 = some (.iconst 1, 0) := (am_L0_25 1777 (by decide)).trans (by decide +kernel)
theorem at_0_1778 : am_at (am_m 0) 1778 = some (.iadd, 0) := (am_L0_25 1778 (by decide)).trans (by decide +kernel)
theorem at_0_1779 : am_at (am_m 0) 1779 = some (.iaload, 0) := (am_L0_25 1779 (by decide)).trans (by decide +kernel)
theorem at_0_1780 : am_at (am_m 0) 1780 = some (.aload_n 0, 0) := (am_L0_25 1780 (by decide)).trans (by decide +kernel)
theorem at_0_1781 : am_at (am_m 0) 1781 = some (.iload 4, 0) := (am_L0_25 1781 (by decide)).trans (by decide +kernel)
theorem at_0_1783 : am_at (am_m 0) 1783 = some (.iconst 2, 0) := (am_L0_25 1783 (by decide)).trans (by decide +kernel)
theorem at_0_1784 : am_at (am_m 0) 1784 = some (.iadd, 0) := (am_L0_25 1784 (by decide)).trans (by decide +kernel)
theorem at_0_1785 : am_at (am_m 0) 1785 = some (.iaload, 0) := (am_L0_25 1785 (by decide)).trans (by decide +kernel)
theorem at_0_1786 : am_at (am_m 0) 1786 = some (.ifCond .eq 7, 1793) := (am_L0_25 1786 (by decide)).trans (by decide +kernel)
theorem at_0_1789 : am_at (am_m 0) 1789 = some (.iconst 1, 0) := (am_L0_25 1789 (by decide)).trans (by decide +kernel)
theorem at_0_1790 : am_at (am_m 0) 1790 = some (.goto 4, 1794) := (am_L0_25 1790 (by decide)).trans (by decide +kernel)
theorem at_0_1793 : am_at (am_m 0) 1793 = some (.iconst 0, 0) := (am_L0_25 1793 (by decide)).trans (by decide +kernel)
theorem at_0_1794 : am_at (am_m 0) 1794 = some (.invokevirtual 286, 433) := (am_L0_25 1794 (by decide)).trans (by decide +kernel)
theorem at_0_1797 : am_at (am_m 0) 1797 = some (.istore 6, 0) := (am_L0_25 1797 (by decide)).trans (by decide +kernel)
theorem at_0_1799 : am_at (am_m 0) 1799 = some (.aload_n 2, 0) := (am_L0_25 1799 (by decide)).trans (by decide +kernel)
theorem at_0_1800 : am_at (am_m 0) 1800 = some (.invokevirtual 202, 324) := (am_L0_25 1800 (by decide)).trans (by decide +kernel)
theorem at_0_1803 : am_at (am_m 0) 1803 = some (.iload 5, 0) := (am_L0_25 1803 (by decide)).trans (by decide +kernel)
theorem at_0_1805 : am_at (am_m 0) 1805 = some (.if_icmp .eq 5, 1810) := (am_L0_25 1805 (by decide)).trans (by decide +kernel)
theorem at_0_1808 : am_at (am_m 0) 1808 = some (.iconst 0, 0) := (am_L0_25 1808 (by decide)).trans (by decide +kernel)
theorem at_0_1809 : am_at (am_m 0) 1809 = some (.ireturn, 0) := (am_L0_25 1809 (by decide)).trans (by decide +kernel)
theorem at_0_1810 : am_at (am_m 0) 1810 = some (.iload 5, 0) := (am_L0_25 1810 (by decide)).trans (by decide +kernel)
theorem at_0_1812 : am_at (am_m 0) 1812 = some (.ifCond .ne 15, 1827) := (am_L0_25 1812 (by decide)).trans (by decide +kernel)
theorem at_0_1815 : am_at (am_m 0) 1815 = some (.aload_n 3, 0) := (am_L0_25 1815 (by decide)).trans (by decide +kernel)
theorem at_0_1816 : am_at (am_m 0) 1816 = some (.iconst 0, 0) := (am_L0_25 1816 (by decide)).trans (by decide +kernel)
theorem at_0_1817 : am_at (am_m 0) 1817 = some (.laload, 0) := (am_L0_25 1817 (by decide)).trans (by decide +kernel)
theorem at_0_1818 : am_at (am_m 0) 1818 = some (.iload 6, 0) := (am_L0_25 1818 (by decide)).trans (by decide +kernel)
theorem at_0_1820 : am_at (am_m 0) 1820 = some (.i2l, 0) := (am_L0_25 1820 (by decide)).trans (by decide +kernel)
theorem at_0_1821 : am_at (am_m 0) 1821 = some (.lcmp, 0) := (am_L0_25 1821 (by decide)).trans (by decide +kernel)
theorem at_0_1822 : am_at (am_m 0) 1822 = some (.ifCond .eq 5, 1827) := (am_L0_25 1822 (by decide)).trans (by decide +kernel)
theorem at_0_1825 : am_at (am_m 0) 1825 = some (.iconst 0, 0) := (am_L0_25 1825 (by decide)).trans (by decide +kernel)
theorem at_0_1826 : am_at (am_m 0) 1826 = some (.ireturn, 0) := (am_L0_25 1826 (by decide)).trans (by decide +kernel)
theorem at_0_1827 : am_at (am_m 0) 1827 = some (.goto 2365, 4192) := (am_L0_25 1827 (by decide)).trans (by decide +kernel)
theorem at_0_1830 : am_at (am_m 0) 1830 = some (.aload_n 1, 0) := (am_L0_25 1830 (by decide)).trans (by decide +kernel)
theorem at_0_1831 : am_at (am_m 0) 1831 = some (.aload_n 0, 0) := (am_L0_25 1831 (by decide)).trans (by decide +kernel)
theorem at_0_1832 : am_at (am_m 0) 1832 = some (.iload 4, 0) := (am_L0_25 1832 (by decide)).trans (by decide +kernel)
theorem at_0_1834 : am_at (am_m 0) 1834 = some (.iconst 1, 0) := (am_L0_25 1834 (by decide)).trans (by decide +kernel)
theorem at_0_1835 : am_at (am_m 0) 1835 = some (.iadd, 0) := (am_L0_25 1835 (by decide)).trans (by decide +kernel)
theorem at_0_1836 : am_at (am_m 0) 1836 = some (.iaload, 0) := (am_L0_25 1836 (by decide)).trans (by decide +kernel)
theorem at_0_1837 : am_at (am_m 0) 1837 = some (.aload_n 0, 0) := (am_L0_25 1837 (by decide)).trans (by decide +kernel)
theorem at_0_1838 : am_at (am_m 0) 1838 = some (.iload 4, 0) := (am_L0_25 1838 (by decide)).trans (by decide +kernel)
theorem at_0_1840 : am_at (am_m 0) 1840 = some (.iconst 2, 0) := (am_L0_26 1840 (by decide)).trans (by decide +kernel)
theorem at_0_1841 : am_at (am_m 0) 1841 = some (.iadd, 0) := (am_L0_26 1841 (by decide)).trans (by decide +kernel)
theorem at_0_1842 : am_at (am_m 0) 1842 = some (.iaload, 0) := (am_L0_26 1842 (by decide)).trans (by decide +kernel)
theorem at_0_1843 : am_at (am_m 0) 1843 = some (.aload_n 3, 0) := (am_L0_26 1843 (by decide)).trans (by decide +kernel)
theorem at_0_1844 : am_at (am_m 0) 1844 = some (.invokestatic 287, 149) := (am_L0_26 1844 (by decide)).trans (by decide +kernel)
theorem at_0_1847 : am_at (am_m 0) 1847 = some (.istore 5, 0) := (am_L0_26 1847 (by decide)).trans (by decide +kernel)
theorem at_0_1849 : am_at (am_m 0) 1849 = some (.aload_n 2, 0) := (am_L0_26 1849 (by decide)).trans (by decide +kernel)
theorem at_0_1850 : am_at (am_m 0) 1850 = some (.aload_n 0, 0) := (am_L0_26 1850 (by decide)).trans (by decide +kernel)
theorem at_0_1851 : am_at (am_m 0) 1851 = some (.iload 4, 0) := (am_L0_26 1851 (by decide)).trans (by decide +kernel)
theorem at_0_1853 : am_at (am_m 0) 1853 = some (.iconst 1, 0) := (am_L0_26 1853 (by decide)).trans (by decide +kernel)
theorem at_0_1854 : am_at (am_m 0) 1854 = some (.iadd, 0) := (am_L0_26 1854 (by decide)).trans (by decide +kernel)
theorem at_0_1855 : am_at (am_m 0) 1855 = some (.iaload, 0) := (am_L0_26 1855 (by decide)).trans (by decide +kernel)
theorem at_0_1856 : am_at (am_m 0) 1856 = some (.aload_n 0, 0) := (am_L0_26 1856 (by decide)).trans (by decide +kernel)
theorem at_0_1857 : am_at (am_m 0) 1857 = some (.iload 4, 0) := (am_L0_26 1857 (by decide)).trans (by decide +kernel)
theorem at_0_1859 : am_at (am_m 0) 1859 = some (.iconst 2, 0) := (am_L0_26 1859 (by decide)).trans (by decide +kernel)
theorem at_0_1860 : am_at (am_m 0) 1860 = some (.iadd, 0) := (am_L0_26 1860 (by decide)).trans (by decide +kernel)
theorem at_0_1861 : am_at (am_m 0) 1861 = some (.iaload, 0) := (am_L0_26 1861 (by decide)).trans (by decide +kernel)
theorem at_0_1862 : am_at (am_m 0) 1862 = some (.invokevirtual 289, 434) := (am_L0_26 1862 (by decide)).trans (by decide +kernel)
theorem at_0_1865 : am_at (am_m 0) 1865 = some (.istore 6, 0) := (am_L0_26 1865 (by decide)).trans (by decide +kernel)
theorem at_0_1867 : am_at (am_m 0) 1867 = some (.aload_n 2, 0) := (am_L0_26 1867 (by decide)).trans (by decide +kernel)
theorem at_0_1868 : am_at (am_m 0) 1868 = some (.invokevirtual 202, 324) := (am_L0_26 1868 (by decide)).trans (by decide +kernel)
theorem at_0_1871 : am_at (am_m 0) 1871 = some (.iload 5, 0) := (am_L0_26 1871 (by decide)).trans (by decide +kernel)
theorem at_0_1873 : am_at (am_m 0) 1873 = some (.if_icmp .eq 5, 1878) := (am_L0_26 1873 (by decide)).trans (by decide +kernel)
theorem at_0_1876 : am_at (am_m 0) 1876 = some (.iconst 0, 0) := (am_L0_26 1876 (by decide)).trans (by decide +kernel)
theorem at_0_1877 : am_at (am_m 0) 1877 = some (.ireturn, 0) := (am_L0_26 1877 (by decide)).trans (by decide +kernel)
theorem at_0_1878 : am_at (am_m 0) 1878 = some (.iload 5, 0) := (am_L0_26 1878 (by decide)).trans (by decide +kernel)
theorem at_0_1880 : am_at (am_m 0) 1880 = some (.ifCond .ne 15, 1895) := (am_L0_26 1880 (by decide)).trans (by decide +kernel)
theorem at_0_1883 : am_at (am_m 0) 1883 = some (.aload_n 3, 0) := (am_L0_26 1883 (by decide)).trans (by decide +kernel)
theorem at_0_1884 : am_at (am_m 0) 1884 = some (.iconst 0, 0) := (am_L0_26 1884 (by decide)).trans (by decide +kernel)
theorem at_0_1885 : am_at (am_m 0) 1885 = some (.laload, 0) := (am_L0_26 1885 (by decide)).trans (by decide +kernel)
theorem at_0_1886 : am_at (am_m 0) 1886 = some (.iload 6, 0) := (am_L0_26 1886 (by decide)).trans (by decide +kernel)
theorem at_0_1888 : am_at (am_m 0) 1888 = some (.i2l, 0) := (am_L0_26 1888 (by decide)).trans (by decide +kernel)
theorem at_0_1889 : am_at (am_m 0) 1889 = some (.lcmp, 0) := (am_L0_26 1889 (by decide)).trans (by decide +kernel)
theorem at_0_1890 : am_at (am_m 0) 1890 = some (.ifCond .eq 5, 1895) := (am_L0_26 1890 (by decide)).trans (by decide +kernel)
theorem at_0_1893 : am_at (am_m 0) 1893 = some (.iconst 0, 0) := (am_L0_26 1893 (by decide)).trans (by decide +kernel)
theorem at_0_1894 : am_at (am_m 0) 1894 = some (.ireturn, 0) := (am_L0_26 1894 (by decide)).trans (by decide +kernel)
theorem at_0_1895 : am_at (am_m 0) 1895 = some (.goto 2297, 4192) := (am_L0_26 1895 (by decide)).trans (by decide +kernel)
theorem at_0_1898 : am_at (am_m 0) 1898 = some (.aload_n 1, 0) := (am_L0_26 1898 (by decide)).trans (by decide +kernel)
theorem at_0_1899 : am_at (am_m 0) 1899 = some (.aload_n 0, 0) := (am_L0_26 1899 (by decide)).trans (by decide +kernel)
theorem at_0_1900 : am_at (am_m 0) 1900 = some (.iload 4, 0) := (am_L0_26 1900 (by decide)).trans (by decide +kernel)
theorem at_0_1902 : am_at (am_m 0) 1902 = some (.iconst 1, 0) := (am_L0_27 1902 (by decide)).trans (by decide +kernel)
theorem at_0_1903 : am_at (am_m 0) 1903 = some (.iadd, 0) := (am_L0_27 1903 (by decide)).trans (by decide +kernel)
theorem at_0_1904 : am_at (am_m 0) 1904 = some (.iaload, 0) := (am_L0_27 1904 (by decide)).trans (by decide +kernel)
theorem at_0_1905 : am_at (am_m 0) 1905 = some (.aload_n 0, 0) := (am_L0_27 1905 (by decide)).trans (by decide +kernel)
theorem at_0_1906 : am_at (am_m 0) 1906 = some (.iload 4, 0) := (am_L0_27 1906 (by decide)).trans (by decide +kernel)
theorem at_0_1908 : am_at (am_m 0) 1908 = some (.iconst 2, 0) := (am_L0_27 1908 (by decide)).trans (by decide +kernel)
theorem at_0_1909 : am_at (am_m 0) 1909 = some (.iadd, 0) := (am_L0_27 1909 (by decide)).trans (by decide +kernel)
theorem at_0_1910 : am_at (am_m 0) 1910 = some (.iaload, 0) := (am_L0_27 1910 (by decide)).trans (by decide +kernel)
theorem at_0_1911 : am_at (am_m 0) 1911 = some (.aload_n 3, 0) := (am_L0_27 1911 (by decide)).trans (by decide +kernel)
theorem at_0_1912 : am_at (am_m 0) 1912 = some (.invokestatic 290, 153) := (am_L0_27 1912 (by decide)).trans (by decide +kernel)
theorem at_0_1915 : am_at (am_m 0) 1915 = some (.istore 5, 0) := (am_L0_27 1915 (by decide)).trans (by decide +kernel)
theorem at_0_1917 : am_at (am_m 0) 1917 = some (.aload_n 2, 0) := (am_L0_27 1917 (by decide)).trans (by decide +kernel)
theorem at_0_1918 : am_at (am_m 0) 1918 = some (.aload_n 0, 0) := (am_L0_27 1918 (by decide)).trans (by decide +kernel)
theorem at_0_1919 : am_at (am_m 0) 1919 = some (.iload 4, 0) := (am_L0_27 1919 (by decide)).trans (by decide +kernel)
theorem at_0_1921 : am_at (am_m 0) 1921 = some (.iconst 1, 0) := (am_L0_27 1921 (by decide)).trans (by decide +kernel)
theorem at_0_1922 : am_at (am_m 0) 1922 = some (.iadd, 0) := (am_L0_27 1922 (by decide)).trans (by decide +kernel)
theorem at_0_1923 : am_at (am_m 0) 1923 = some (.iaload, 0) := (am_L0_27 1923 (by decide)).trans (by decide +kernel)
theorem at_0_1924 : am_at (am_m 0) 1924 = some (.aload_n 0, 0) := (am_L0_27 1924 (by decide)).trans (by decide +kernel)
theorem at_0_1925 : am_at (am_m 0) 1925 = some (.iload 4, 0) := (am_L0_27 1925 (by decide)).trans (by decide +kernel)
theorem at_0_1927 : am_at (am_m 0) 1927 = some (.iconst 2, 0) := (am_L0_27 1927 (by decide)).trans (by decide +kernel)
theorem at_0_1928 : am_at (am_m 0) 1928 = some (.iadd, 0) := (am_L0_27 1928 (by decide)).trans (by decide +kernel)
theorem at_0_1929 : am_at (am_m 0) 1929 = some (.iaload, 0) := (am_L0_27 1929 (by decide)).trans (by decide +kernel)
theorem at_0_1930 : am_at (am_m 0) 1930 = some (.invokevirtual 292, 436) := (am_L0_27 1930 (by decide)).trans (by decide +kernel)
theorem at_0_1933 : am_at (am_m 0) 1933 = some (.istore 6, 0) := (am_L0_27 1933 (by decide)).trans (by decide +kernel)
theorem at_0_1935 : am_at (am_m 0) 1935 = some (.aload_n 2, 0) := (am_L0_27 1935 (by decide)).trans (by decide +kernel)
theorem at_0_1936 : am_at (am_m 0) 1936 = some (.invokevirtual 202, 324) := (am_L0_27 1936 (by decide)).trans (by decide +kernel)
theorem at_0_1939 : am_at (am_m 0) 1939 = some (.iload 5, 0) := (am_L0_27 1939 (by decide)).trans (by decide +kernel)
theorem at_0_1941 : am_at (am_m 0) 1941 = some (.if_icmp .eq 5, 1946) := (am_L0_27 1941 (by decide)).trans (by decide +kernel)
theorem at_0_1944 : am_at (am_m 0) 1944 = some (.iconst 0, 0) := (am_L0_27 1944 (by decide)).trans (by decide +kernel)
theorem at_0_1945 : am_at (am_m 0) 1945 = some (.ireturn, 0) := (am_L0_27 1945 (by decide)).trans (by decide +kernel)
theorem at_0_1946 : am_at (am_m 0) 1946 = some (.iload 5, 0) := (am_L0_27 1946 (by decide)).trans (by decide +kernel)
theorem at_0_1948 : am_at (am_m 0) 1948 = some (.ifCond .ne 15, 1963) := (am_L0_27 1948 (by decide)).trans (by decide +kernel)
theorem at_0_1951 : am_at (am_m 0) 1951 = some (.aload_n 3, 0) := (am_L0_27 1951 (by decide)).trans (by decide +kernel)
theorem at_0_1952 : am_at (am_m 0) 1952 = some (.iconst 0, 0) := (am_L0_27 1952 (by decide)).trans (by decide +kernel)
theorem at_0_1953 : am_at (am_m 0) 1953 = some (.laload, 0) := (am_L0_27 1953 (by decide)).trans (by decide +kernel)
theorem at_0_1954 : am_at (am_m 0) 1954 = some (.iload 6, 0) := (am_L0_27 1954 (by decide)).trans (by decide +kernel)
theorem at_0_1956 : am_at (am_m 0) 1956 = some (.i2l, 0) := (am_L0_27 1956 (by decide)).trans (by decide +kernel)
theorem at_0_1957 : am_at (am_m 0) 1957 = some (.lcmp, 0) := (am_L0_27 1957 (by decide)).trans (by decide +kernel)
theorem at_0_1958 : am_at (am_m 0) 1958 = some (.ifCond .eq 5, 1963) := (am_L0_27 1958 (by decide)).trans (by decide +kernel)
theorem at_0_1961 : am_at (am_m 0) 1961 = some (.iconst 0, 0) := (am_L0_27 1961 (by decide)).trans (by decide +kernel)
theorem at_0_1962 : am_at (am_m 0) 1962 = some (.ireturn, 0) := (am_L0_28 1962 (by decide)).trans (by decide +kernel)
theorem at_0_1963 : am_at (am_m 0) 1963 = some (.goto 2229, 4192) := (am_L0_28 1963 (by decide)).trans (by decide +kernel)
theorem at_0_1966 : am_at (am_m 0) 1966 = some (.aload_n 1, 0) := (am_L0_28 1966 (by decide)).trans (by decide +kernel)
theorem at_0_1967 : am_at (am_m 0) 1967 = some (.aload_n 0, 0) := (am_L0_28 1967 (by decide)).trans (by decide +kernel)
theorem at_0_1968 : am_at (am_m 0) 1968 = some (.iload 4, 0) := (am_L0_28 1968 (by decide)).trans (by decide +kernel)
theorem at_0_1970 : am_at (am_m 0) 1970 = some (.iconst 1, 0) := (am_L0_28 1970 (by decide)).trans (by decide +kernel)
theorem at_0_1971 : am_at (am_m 0) 1971 = some (.iadd, 0) := (am_L0_28 1971 (by decide)).trans (by decide +kernel)
theorem at_0_1972 : am_at (am_m 0) 1972 = some (.iaload, 0) := (am_L0_28 1972 (by decide)).trans (by decide +kernel)
theorem at_0_1973 : am_at (am_m 0) 1973 = some (.aload_n 0, 0) := (am_L0_28 1973 (by decide)).trans (by decide +kernel)
theorem at_0_1974 : am_at (am_m 0) 1974 = some (.iload 4, 0) := (am_L0_28 1974 (by decide)).trans (by decide +kernel)
theorem at_0_1976 : am_at (am_m 0) 1976 = some (.iconst 2, 0) := (am_L0_28 1976 (by decide)).trans (by decide +kernel)
theorem at_0_1977 : am_at (am_m 0) 1977 = some (.iadd, 0) := (am_L0_28 1977 (by decide)).trans (by decide +kernel)
theorem at_0_1978 : am_at (am_m 0) 1978 = some (.iaload, 0) := (am_L0_28 1978 (by decide)).trans (by decide +kernel)
theorem at_0_1979 : am_at (am_m 0) 1979 = some (.aload_n 3, 0) := (am_L0_28 1979 (by decide)).trans (by decide +kernel)
theorem at_0_1980 : am_at (am_m 0) 1980 = some (.invokestatic 293, 156) := (am_L0_28 1980 (by decide)).trans (by decide +kernel)
theorem at_0_1983 : am_at (am_m 0) 1983 = some (.istore 5, 0) := (am_L0_28 1983 (by decide)).trans (by decide +kernel)
theorem at_0_1985 : am_at (am_m 0) 1985 = some (.aload_n 2, 0) := (am_L0_28 1985 (by decide)).trans (by decide +kernel)
theorem at_0_1986 : am_at (am_m 0) 1986 = some (.aload_n 0, 0) := (am_L0_28 1986 (by decide)).trans (by decide +kernel)
theorem at_0_1987 : am_at (am_m 0) 1987 = some (.iload 4, 0) := (am_L0_28 1987 (by decide)).trans (by decide +kernel)
theorem at_0_1989 : am_at (am_m 0) 1989 = some (.iconst 1, 0) := (am_L0_28 1989 (by decide)).trans (by decide +kernel)
theorem at_0_1990 : am_at (am_m 0) 1990 = some (.iadd, 0) := (am_L0_28 1990 (by decide)).trans (by decide +kernel)
theorem at_0_1991 : am_at (am_m 0) 1991 = some (.iaload, 0) := (am_L0_28 1991 (by decide)).trans (by decide +kernel)
theorem at_0_1992 : am_at (am_m 0) 1992 = some (.aload_n 0, 0) := (am_L0_28 1992 (by decide)).trans (by decide +kernel)
theorem at_0_1993 : am_at (am_m 0) 1993 = some (.iload 4, 0) := (am_L0_28 1993 (by decide)).trans (by decide +kernel)
theorem at_0_1995 : am_at (am_m 0) 1995 = some (.iconst 2, 0) := (am_L0_28 1995 (by decide)).trans (by decide +kernel)
theorem at_0_1996 : am_at (am_m 0) 1996 = some (.iadd, 0) := (am_L0_28 1996 (by decide)).trans (by decide +kernel)
theorem at_0_1997 : am_at (am_m 0) 1997 = some (.iaload, 0) := (am_L0_28 1997 (by decide)).trans (by decide +kernel)
theorem at_0_1998 : am_at (am_m 0) 1998 = some (.invokevirtual 295, 438) := (am_L0_28 1998 (by decide)).trans (by decide +kernel)
theorem at_0_2001 : am_at (am_m 0) 2001 = some (.istore 6, 0) := (am_L0_28 2001 (by decide)).trans (by decide +kernel)
theorem at_0_2003 : am_at (am_m 0) 2003 = some (.aload_n 2, 0) := (am_L0_28 2003 (by decide)).trans (by decide +kernel)
theorem at_0_2004 : am_at (am_m 0) 2004 = some (.invokevirtual 202, 324) := (am_L0_28 2004 (by decide)).trans (by decide +kernel)
theorem at_0_2007 : am_at (am_m 0) 2007 = some (.iload 5, 0) := (am_L0_28 2007 (by decide)).trans (by decide +kernel)
theorem at_0_2009 : am_at (am_m 0) 2009 = some (.if_icmp .eq 5, 2014) := (am_L0_28 2009 (by decide)).trans (by decide +kernel)
theorem at_0_2012 : am_at (am_m 0) 2012 = some (.iconst 0, 0) := (am_L0_28 2012 (by decide)).trans (by decide +kernel)
theorem at_0_2013 : am_at (am_m 0) 2013 = some (.ireturn, 0) := (am_L0_28 2013 (by decide)).trans (by decide +kernel)
theorem at_0_2014 : am_at (am_m 0) 2014 = some (.iload 5, 0) := (am_L0_28 2014 (by decide)).trans (by decide +kernel)
theorem at_0_2016 : am_at (am_m 0) 2016 = some (.ifCond .ne 15, 2031) := (am_L0_28 2016 (by decide)).trans (by decide +kernel)
theorem at_0_2019 : am_at (am_m 0) 2019 = some (.aload_n 3, 0) := (am_L0_28 2019 (by decide)).trans (by decide +kernel)
theorem at_0_2020 : am_at (am_m 0) 2020 = some (.iconst 0, 0) := (am_L0_28 2020 (by decide)).trans (by decide +kernel)
theorem at_0_2021 : am_at (am_m 0) 2021 = some (.laload, 0) := (am_L0_28 2021 (by decide)).trans (by decide +kernel)
theorem at_0_2022 : am_at (am_m 0) 2022 = some (.iload 6, 0) := (am_L0_29 2022 (by decide)).trans (by decide +kernel)
theorem at_0_2024 : am_at (am_m 0) 2024 = some (.i2l, 0) := (am_L0_29 2024 (by decide)).trans (by decide +kernel)
theorem at_0_2025 : am_at (am_m 0) 2025 = some (.lcmp, 0) := (am_L0_29 2025 (by decide)).trans (by decide +kernel)
theorem at_0_2026 : am_at (am_m 0) 2026 = some (.ifCond .eq 5, 2031) := (am_L0_29 2026 (by decide)).trans (by decide +kernel)
theorem at_0_2029 : am_at (am_m 0) 2029 = some (.iconst 0, 0) := (am_L0_29 2029 (by decide)).trans (by decide +kernel)
theorem at_0_2030 : am_at (am_m 0) 2030 = some (.ireturn, 0) := (am_L0_29 2030 (by decide)).trans (by decide +kernel)
theorem at_0_2031 : am_at (am_m 0) 2031 = some (.goto 2161, 4192) := (am_L0_29 2031 (by decide)).trans (by decide +kernel)
theorem at_0_2034 : am_at (am_m 0) 2034 = some (.aload_n 1, 0) := (am_L0_29 2034 (by decide)).trans (by decide +kernel)
theorem at_0_2035 : am_at (am_m 0) 2035 = some (.aload_n 0, 0) := (am_L0_29 2035 (by decide)).trans (by decide +kernel)
theorem at_0_2036 : am_at (am_m 0) 2036 = some (.iload 4, 0) := (am_L0_29 2036 (by decide)).trans (by decide +kernel)
theorem at_0_2038 : am_at (am_m 0) 2038 = some (.iconst 1, 0) := (am_L0_29 2038 (by decide)).trans (by decide +kernel)
theorem at_0_2039 : am_at (am_m 0) 2039 = some (.iadd, 0) := (am_L0_29 2039 (by decide)).trans (by decide +kernel)
theorem at_0_2040 : am_at (am_m 0) 2040 = some (.iaload, 0) := (am_L0_29 2040 (by decide)).trans (by decide +kernel)
theorem at_0_2041 : am_at (am_m 0) 2041 = some (.aload_n 0, 0) := (am_L0_29 2041 (by decide)).trans (by decide +kernel)
theorem at_0_2042 : am_at (am_m 0) 2042 = some (.iload 4, 0) := (am_L0_29 2042 (by decide)).trans (by decide +kernel)
theorem at_0_2044 : am_at (am_m 0) 2044 = some (.iconst 2, 0) := (am_L0_29 2044 (by decide)).trans (by decide +kernel)
theorem at_0_2045 : am_at (am_m 0) 2045 = some (.iadd, 0) := (am_L0_29 2045 (by decide)).trans (by decide +kernel)
theorem at_0_2046 : am_at (am_m 0) 2046 = some (.iaload, 0) := (am_L0_29 2046 (by decide)).trans (by decide +kernel)
theorem at_0_2047 : am_at (am_m 0) 2047 = some (.aload_n 0, 0) := (am_L0_29 2047 (by decide)).trans (by decide +kernel)
theorem at_0_2048 : am_at (am_m 0) 2048 = some (.iload 4, 0) := (am_L0_29 2048 (by decide)).trans (by decide +kernel)
theorem at_0_2050 : am_at (am_m 0) 2050 = some (.iconst 3, 0) := (am_L0_29 2050 (by decide)).trans (by decide +kernel)
theorem at_0_2051 : am_at (am_m 0) 2051 = some (.iadd, 0) := (am_L0_29 2051 (by decide)).trans (by decide +kernel)
theorem at_0_2052 : am_at (am_m 0) 2052 = some (.iaload, 0) := (am_L0_29 2052 (by decide)).trans (by decide +kernel)
theorem at_0_2053 : am_at (am_m 0) 2053 = some (.aload_n 3, 0) := (am_L0_29 2053 (by decide)).trans (by decide +kernel)
theorem at_0_2054 : am_at (am_m 0) 2054 = some (.invokestatic 296, 185) := (am_L0_29 2054 (by decide)).trans (by decide +kernel)
theorem at_0_2057 : am_at (am_m 0) 2057 = some (.istore 5, 0) := (am_L0_29 2057 (by decide)).trans (by decide +kernel)
theorem at_0_2059 : am_at (am_m 0) 2059 = some (.aload_n 2, 0) := (am_L0_29 2059 (by decide)).trans (by decide +kernel)
theorem at_0_2060 : am_at (am_m 0) 2060 = some (.aload_n 0, 0) := (am_L0_29 2060 (by decide)).trans (by decide +kernel)
theorem at_0_2061 : am_at (am_m 0) 2061 = some (.iload 4, 0) := (am_L0_29 2061 (by decide)).trans (by decide +kernel)
theorem at_0_2063 : am_at (am_m 0) 2063 = some (.iconst 1, 0) := (am_L0_29 2063 (by decide)).trans (by decide +kernel)
theorem at_0_2064 : am_at (am_m 0) 2064 = some (.iadd, 0) := (am_L0_29 2064 (by decide)).trans (by decide +kernel)
theorem at_0_2065 : am_at (am_m 0) 2065 = some (.iaload, 0) := (am_L0_29 2065 (by decide)).trans (by decide +kernel)
theorem at_0_2066 : am_at (am_m 0) 2066 = some (.aload_n 0, 0) := (am_L0_29 2066 (by decide)).trans (by decide +kernel)
theorem at_0_2067 : am_at (am_m 0) 2067 = some (.iload 4, 0) := (am_L0_29 2067 (by decide)).trans (by decide +kernel)
theorem at_0_2069 : am_at (am_m 0) 2069 = some (.iconst 2, 0) := (am_L0_29 2069 (by decide)).trans (by decide +kernel)
theorem at_0_2070 : am_at (am_m 0) 2070 = some (.iadd, 0) := (am_L0_29 2070 (by decide)).trans (by decide +kernel)
theorem at_0_2071 : am_at (am_m 0) 2071 = some (.iaload, 0) := (am_L0_29 2071 (by decide)).trans (by decide +kernel)
theorem at_0_2072 : am_at (am_m 0) 2072 = some (.aload_n 0, 0) := (am_L0_29 2072 (by decide)).trans (by decide +kernel)
theorem at_0_2073 : am_at (am_m 0) 2073 = some (.iload 4, 0) := (am_L0_29 2073 (by decide)).trans (by decide +kernel)
theorem at_0_2075 : am_at (am_m 0) 2075 = some (.iconst 3, 0) := (am_L0_29 2075 (by decide)).trans (by decide +kernel)
theorem at_0_2076 : am_at (am_m 0) 2076 = some (.iadd, 0) := (am_L0_30 2076 (by decide)).trans (by decide +kernel)
theorem at_0_2077 : am_at (am_m 0) 2077 = some (.iaload, 0) := (am_L0_30 2077 (by decide)).trans (by decide +kernel)
theorem at_0_2078 : am_at (am_m 0) 2078 = some (.invokevirtual 298, 469) := (am_L0_30 2078 (by decide)).trans (by decide +kernel)
theorem at_0_2081 : am_at (am_m 0) 2081 = some (.istore 6, 0) := (am_L0_30 2081 (by decide)).trans (by decide +kernel)
theorem at_0_2083 : am_at (am_m 0) 2083 = some (.aload_n 2, 0) := (am_L0_30 2083 (by decide)).trans (by decide +kernel)
theorem at_0_2084 : am_at (am_m 0) 2084 = some (.invokevirtual 202, 324) := (am_L0_30 2084 (by decide)).trans (by decide +kernel)
theorem at_0_2087 : am_at (am_m 0) 2087 = some (.iload 5, 0) := (am_L0_30 2087 (by decide)).trans (by decide +kernel)
theorem at_0_2089 : am_at (am_m 0) 2089 = some (.if_icmp .eq 5, 2094) := (am_L0_30 2089 (by decide)).trans (by decide +kernel)
theorem at_0_2092 : am_at (am_m 0) 2092 = some (.iconst 0, 0) := (am_L0_30 2092 (by decide)).trans (by decide +kernel)
theorem at_0_2093 : am_at (am_m 0) 2093 = some (.ireturn, 0) := (am_L0_30 2093 (by decide)).trans (by decide +kernel)
theorem at_0_2094 : am_at (am_m 0) 2094 = some (.iload 5, 0) := (am_L0_30 2094 (by decide)).trans (by decide +kernel)
theorem at_0_2096 : am_at (am_m 0) 2096 = some (.ifCond .ne 15, 2111) := (am_L0_30 2096 (by decide)).trans (by decide +kernel)
theorem at_0_2099 : am_at (am_m 0) 2099 = some (.aload_n 3, 0) := (am_L0_30 2099 (by decide)).trans (by decide +kernel)
theorem at_0_2100 : am_at (am_m 0) 2100 = some (.iconst 0, 0) := (am_L0_30 2100 (by decide)).trans (by decide +kernel)
theorem at_0_2101 : am_at (am_m 0) 2101 = some (.laload, 0) := (am_L0_30 2101 (by decide)).trans (by decide +kernel)
theorem at_0_2102 : am_at (am_m 0) 2102 = some (.iload 6, 0) := (am_L0_30 2102 (by decide)).trans (by decide +kernel)
theorem at_0_2104 : am_at (am_m 0) 2104 = some (.i2l, 0) := (am_L0_30 2104 (by decide)).trans (by decide +kernel)
theorem at_0_2105 : am_at (am_m 0) 2105 = some (.lcmp, 0) := (am_L0_30 2105 (by decide)).trans (by decide +kernel)
theorem at_0_2106 : am_at (am_m 0) 2106 = some (.ifCond .eq 5, 2111) := (am_L0_30 2106 (by decide)).trans (by decide +kernel)
theorem at_0_2109 : am_at (am_m 0) 2109 = some (.iconst 0, 0) := (am_L0_30 2109 (by decide)).trans (by decide +kernel)
theorem at_0_2110 : am_at (am_m 0) 2110 = some (.ireturn, 0) := (am_L0_30 2110 (by decide)).trans (by decide +kernel)
theorem at_0_2111 : am_at (am_m 0) 2111 = some (.goto 2081, 4192) := (am_L0_30 2111 (by decide)).trans (by decide +kernel)
theorem at_0_2114 : am_at (am_m 0) 2114 = some (.aload_n 1, 0) := (am_L0_30 2114 (by decide)).trans (by decide +kernel)
theorem at_0_2115 : am_at (am_m 0) 2115 = some (.aload_n 0, 0) := (am_L0_30 2115 (by decide)).trans (by decide +kernel)
theorem at_0_2116 : am_at (am_m 0) 2116 = some (.iload 4, 0) := (am_L0_30 2116 (by decide)).trans (by decide +kernel)
theorem at_0_2118 : am_at (am_m 0) 2118 = some (.iconst 1, 0) := (am_L0_30 2118 (by decide)).trans (by decide +kernel)
theorem at_0_2119 : am_at (am_m 0) 2119 = some (.iadd, 0) := (am_L0_30 2119 (by decide)).trans (by decide +kernel)
theorem at_0_2120 : am_at (am_m 0) 2120 = some (.iaload, 0) := (am_L0_30 2120 (by decide)).trans (by decide +kernel)
theorem at_0_2121 : am_at (am_m 0) 2121 = some (.aload_n 0, 0) := (am_L0_30 2121 (by decide)).trans (by decide +kernel)
theorem at_0_2122 : am_at (am_m 0) 2122 = some (.iload 4, 0) := (am_L0_30 2122 (by decide)).trans (by decide +kernel)
theorem at_0_2124 : am_at (am_m 0) 2124 = some (.iconst 2, 0) := (am_L0_30 2124 (by decide)).trans (by decide +kernel)
theorem at_0_2125 : am_at (am_m 0) 2125 = some (.iadd, 0) := (am_L0_30 2125 (by decide)).trans (by decide +kernel)
theorem at_0_2126 : am_at (am_m 0) 2126 = some (.iaload, 0) := (am_L0_30 2126 (by decide)).trans (by decide +kernel)
theorem at_0_2127 : am_at (am_m 0) 2127 = some (.aload_n 0, 0) := (am_L0_30 2127 (by decide)).trans (by decide +kernel)
theorem at_0_2128 : am_at (am_m 0) 2128 = some (.iload 4, 0) := (am_L0_30 2128 (by decide)).trans (by decide +kernel)
theorem at_0_2130 : am_at (am_m 0) 2130 = some (.iconst 3, 0) := (am_L0_30 2130 (by decide)).trans (by decide +kernel)
theorem at_0_2131 : am_at (am_m 0) 2131 = some (.iadd, 0) := (am_L0_30 2131 (by decide)).trans (by decide +kernel)
theorem at_0_2132 : am_at (am_m 0) 2132 = some (.iaload, 0) := (am_L0_30 2132 (by decide)).trans (by decide +kernel)
theorem at_0_2133 : am_at (am_m 0) 2133 = some (.i2l, 0) := (am_L0_30 2133 (by decide)).trans (by decide +kernel)
theorem at_0_2134 : am_at (am_m 0) 2134 = some (.bipush 32, 0) := (am_L0_30 2134 (by decide)).trans (by decide +kernel)
theorem at_0_2136 : am_at (am_m 0) 2136 = some (.lshl, 0) := (am_L0_31 2136 (by decide)).trans (by decide +kernel)
theorem at_0_2137 : am_at (am_m 0) 2137 = some (.aload_n 0, 0) := (am_L0_31 2137 (by decide)).trans (by decide +kernel)
theorem at_0_2138 : am_at (am_m 0) 2138 = some (.iload 4, 0) := (am_L0_31 2138 (by decide)).trans (by decide +kernel)
theorem at_0_2140 : am_at (am_m 0) 2140 = some (.iconst 4, 0) := (am_L0_31 2140 (by decide)).trans (by decide +kernel)
theorem at_0_2141 : am_at (am_m 0) 2141 = some (.iadd, 0) := (am_L0_31 2141 (by decide)).trans (by decide +kernel)
theorem at_0_2142 : am_at (am_m 0) 2142 = some (.iaload, 0) := (am_L0_31 2142 (by decide)).trans (by decide +kernel)
theorem at_0_2143 : am_at (am_m 0) 2143 = some (.i2l, 0) := (am_L0_31 2143 (by decide)).trans (by decide +kernel)
theorem at_0_2144 : am_at (am_m 0) 2144 = some (.ldc2_w 189, 0) := (am_L0_31 2144 (by decide)).trans (by decide +kernel)
theorem at_0_2147 : am_at (am_m 0) 2147 = some (.land, 0) := (am_L0_31 2147 (by decide)).trans (by decide +kernel)
theorem at_0_2148 : am_at (am_m 0) 2148 = some (.lor, 0) := (am_L0_31 2148 (by decide)).trans (by decide +kernel)
theorem at_0_2149 : am_at (am_m 0) 2149 = some (.aload_n 3, 0) := (am_L0_31 2149 (by decide)).trans (by decide +kernel)
theorem at_0_2150 : am_at (am_m 0) 2150 = some (.invokestatic 299, 188) := (am_L0_31 2150 (by decide)).trans (by decide +kernel)
theorem at_0_2153 : am_at (am_m 0) 2153 = some (.istore 5, 0) := (am_L0_31 2153 (by decide)).trans (by decide +kernel)
theorem at_0_2155 : am_at (am_m 0) 2155 = some (.aload_n 2, 0) := (am_L0_31 2155 (by decide)).trans (by decide +kernel)
theorem at_0_2156 : am_at (am_m 0) 2156 = some (.aload_n 0, 0) := (am_L0_31 2156 (by decide)).trans (by decide +kernel)
theorem at_0_2157 : am_at (am_m 0) 2157 = some (.iload 4, 0) := (am_L0_31 2157 (by decide)).trans (by decide +kernel)
theorem at_0_2159 : am_at (am_m 0) 2159 = some (.iconst 1, 0) := (am_L0_31 2159 (by decide)).trans (by decide +kernel)
theorem at_0_2160 : am_at (am_m 0) 2160 = some (.iadd, 0) := (am_L0_31 2160 (by decide)).trans (by decide +kernel)
theorem at_0_2161 : am_at (am_m 0) 2161 = some (.iaload, 0) := (am_L0_31 2161 (by decide)).trans (by decide +kernel)
theorem at_0_2162 : am_at (am_m 0) 2162 = some (.aload_n 0, 0) := (am_L0_31 2162 (by decide)).trans (by decide +kernel)
theorem at_0_2163 : am_at (am_m 0) 2163 = some (.iload 4, 0) := (am_L0_31 2163 (by decide)).trans (by decide +kernel)
theorem at_0_2165 : am_at (am_m 0) 2165 = some (.iconst 2, 0) := (am_L0_31 2165 (by decide)).trans (by decide +kernel)
theorem at_0_2166 : am_at (am_m 0) 2166 = some (.iadd, 0) := (am_L0_31 2166 (by decide)).trans (by decide +kernel)
theorem at_0_2167 : am_at (am_m 0) 2167 = some (.iaload, 0) := (am_L0_31 2167 (by decide)).trans (by decide +kernel)
theorem at_0_2168 : am_at (am_m 0) 2168 = some (.aload_n 0, 0) := (am_L0_31 2168 (by decide)).trans (by decide +kernel)
theorem at_0_2169 : am_at (am_m 0) 2169 = some (.iload 4, 0) := (am_L0_31 2169 (by decide)).trans (by decide +kernel)
theorem at_0_2171 : am_at (am_m 0) 2171 = some (.iconst 3, 0) := (am_L0_31 2171 (by decide)).trans (by decide +kernel)
theorem at_0_2172 : am_at (am_m 0) 2172 = some (.iadd, 0) := (am_L0_31 2172 (by decide)).trans (by decide +kernel)
theorem at_0_2173 : am_at (am_m 0) 2173 = some (.iaload, 0) := (am_L0_31 2173 (by decide)).trans (by decide +kernel)
theorem at_0_2174 : am_at (am_m 0) 2174 = some (.i2l, 0) := (am_L0_31 2174 (by decide)).trans (by decide +kernel)
theorem at_0_2175 : am_at (am_m 0) 2175 = some (.bipush 32, 0) := (am_L0_31 2175 (by decide)).trans (by decide +kernel)
theorem at_0_2177 : am_at (am_m 0) 2177 = some (.lshl, 0) := (am_L0_31 2177 (by decide)).trans (by decide +kernel)
theorem at_0_2178 : am_at (am_m 0) 2178 = some (.aload_n 0, 0) := (am_L0_31 2178 (by decide)).trans (by decide +kernel)
theorem at_0_2179 : am_at (am_m 0) 2179 = some (.iload 4, 0) := (am_L0_31 2179 (by decide)).trans (by decide +kernel)
theorem at_0_2181 : am_at (am_m 0) 2181 = some (.iconst 4, 0) := (am_L0_31 2181 (by decide)).trans (by decide +kernel)
theorem at_0_2182 : am_at (am_m 0) 2182 = some (.iadd, 0) := (am_L0_31 2182 (by decide)).trans (by decide +kernel)
theorem at_0_2183 : am_at (am_m 0) 2183 = some (.iaload, 0) := (am_L0_31 2183 (by decide)).trans (by decide +kernel)
theorem at_0_2184 : am_at (am_m 0) 2184 = some (.i2l, 0) := (am_L0_31 2184 (by decide)).trans (by decide +kernel)
theorem at_0_2185 : am_at (am_m 0) 2185 = some (.ldc2_w 189, 0) := (am_L0_31 2185 (by decide)).trans (by decide +kernel)
theorem at_0_2188 : am_at (am_m 0) 2188 = some (.land, 0) := (am_L0_31 2188 (by decide)).trans (by decide +kernel)
theorem at_0_2189 : am_at (am_m 0) 2189 = some (.lor, 0) := (am_L0_32 2189 (by decide)).trans (by decide +kernel)
theorem at_0_2190 : am_at (am_m 0) 2190 = some (.invokevirtual 302, 470) := (am_L0_32 2190 (by decide)).trans (by decide +kernel)
theorem at_0_2193 : am_at (am_m 0) 2193 = some (.istore 6, 0) := (am_L0_32 2193 (by decide)).trans (by decide +kernel)
theorem at_0_2195 : am_at (am_m 0) 2195 = some (.aload_n 2, 0) := (am_L0_32 2195 (by decide)).trans (by decide +kernel)
theorem at_0_2196 : am_at (am_m 0) 2196 = some (.invokevirtual 202, 324) := (am_L0_32 2196 (by decide)).trans (by decide +kernel)
theorem at_0_2199 : am_at (am_m 0) 2199 = some (.iload 5, 0) := (am_L0_32 2199 (by decide)).trans (by decide +kernel)
theorem at_0_2201 : am_at (am_m 0) 2201 = some (.if_icmp .eq 5, 2206) := (am_L0_32 2201 (by decide)).trans (by decide +kernel)
theorem at_0_2204 : am_at (am_m 0) 2204 = some (.iconst 0, 0) := (am_L0_32 2204 (by decide)).trans (by decide +kernel)
theorem at_0_2205 : am_at (am_m 0) 2205 = some (.ireturn, 0) := (am_L0_32 2205 (by decide)).trans (by decide +kernel)
theorem at_0_2206 : am_at (am_m 0) 2206 = some (.iload 5, 0) := (am_L0_32 2206 (by decide)).trans (by decide +kernel)
theorem at_0_2208 : am_at (am_m 0) 2208 = some (.ifCond .ne 15, 2223) := (am_L0_32 2208 (by decide)).trans (by decide +kernel)
theorem at_0_2211 : am_at (am_m 0) 2211 = some (.aload_n 3, 0) := (am_L0_32 2211 (by decide)).trans (by decide +kernel)
theorem at_0_2212 : am_at (am_m 0) 2212 = some (.iconst 0, 0) := (am_L0_32 2212 (by decide)).trans (by decide +kernel)
theorem at_0_2213 : am_at (am_m 0) 2213 = some (.laload, 0) := (am_L0_32 2213 (by decide)).trans (by decide +kernel)
theorem at_0_2214 : am_at (am_m 0) 2214 = some (.iload 6, 0) := (am_L0_32 2214 (by decide)).trans (by decide +kernel)
theorem at_0_2216 : am_at (am_m 0) 2216 = some (.i2l, 0) := (am_L0_32 2216 (by decide)).trans (by decide +kernel)
theorem at_0_2217 : am_at (am_m 0) 2217 = some (.lcmp, 0) := (am_L0_32 2217 (by decide)).trans (by decide +kernel)
theorem at_0_2218 : am_at (am_m 0) 2218 = some (.ifCond .eq 5, 2223) := (am_L0_32 2218 (by decide)).trans (by decide +kernel)
theorem at_0_2221 : am_at (am_m 0) 2221 = some (.iconst 0, 0) := (am_L0_32 2221 (by decide)).trans (by decide +kernel)
theorem at_0_2222 : am_at (am_m 0) 2222 = some (.ireturn, 0) := (am_L0_32 2222 (by decide)).trans (by decide +kernel)
theorem at_0_2223 : am_at (am_m 0) 2223 = some (.goto 1969, 4192) := (am_L0_32 2223 (by decide)).trans (by decide +kernel)
theorem at_0_2226 : am_at (am_m 0) 2226 = some (.aload_n 1, 0) := (am_L0_32 2226 (by decide)).trans (by decide +kernel)
theorem at_0_2227 : am_at (am_m 0) 2227 = some (.aload_n 0, 0) := (am_L0_32 2227 (by decide)).trans (by decide +kernel)
theorem at_0_2228 : am_at (am_m 0) 2228 = some (.iload 4, 0) := (am_L0_32 2228 (by decide)).trans (by decide +kernel)
theorem at_0_2230 : am_at (am_m 0) 2230 = some (.iconst 1, 0) := (am_L0_32 2230 (by decide)).trans (by decide +kernel)
theorem at_0_2231 : am_at (am_m 0) 2231 = some (.iadd, 0) := (am_L0_32 2231 (by decide)).trans (by decide +kernel)
theorem at_0_2232 : am_at (am_m 0) 2232 = some (.iaload, 0) := (am_L0_32 2232 (by decide)).trans (by decide +kernel)
theorem at_0_2233 : am_at (am_m 0) 2233 = some (.aload_n 0, 0) := (am_L0_32 2233 (by decide)).trans (by decide +kernel)
theorem at_0_2234 : am_at (am_m 0) 2234 = some (.iload 4, 0) := (am_L0_32 2234 (by decide)).trans (by decide +kernel)
theorem at_0_2236 : am_at (am_m 0) 2236 = some (.iconst 2, 0) := (am_L0_32 2236 (by decide)).trans (by decide +kernel)
theorem at_0_2237 : am_at (am_m 0) 2237 = some (.iadd, 0) := (am_L0_32 2237 (by decide)).trans (by decide +kernel)
theorem at_0_2238 : am_at (am_m 0) 2238 = some (.iaload, 0) := (am_L0_32 2238 (by decide)).trans (by decide +kernel)
theorem at_0_2239 : am_at (am_m 0) 2239 = some (.aload_n 3, 0) := (am_L0_32 2239 (by decide)).trans (by decide +kernel)
theorem at_0_2240 : am_at (am_m 0) 2240 = some (.invokestatic 303, 195) := (am_L0_32 2240 (by decide)).trans (by decide +kernel)
theorem at_0_2243 : am_at (am_m 0) 2243 = some (.istore 5, 0) := (am_L0_32 2243 (by decide)).trans (by decide +kernel)
theorem at_0_2245 : am_at (am_m 0) 2245 = some (.aload_n 2, 0) := (am_L0_32 2245 (by decide)).trans (by decide +kernel)
theorem at_0_2246 : am_at (am_m 0) 2246 = some (.aload_n 0, 0) := (am_L0_32 2246 (by decide)).trans (by decide +kernel)
theorem at_0_2247 : am_at (am_m 0) 2247 = some (.iload 4, 0) := (am_L0_32 2247 (by decide)).trans (by decide +kernel)
theorem at_0_2249 : am_at (am_m 0) 2249 = some (.iconst 1, 0) := (am_L0_32 2249 (by decide)).trans (by decide +kernel)
theorem at_0_2250 : am_at (am_m 0) 2250 = some (.iadd, 0) := (am_L0_32 2250 (by decide)).trans (by decide +kernel)
theorem at_0_2251 : am_at (am_m 0) 2251 = some (.iaload, 0) := (am_L0_33 2251 (by decide)).trans (by decide +kernel)
theorem at_0_2252 : am_at (am_m 0) 2252 = some (.aload_n 0, 0) := (am_L0_33 2252 (by decide)).trans (by decide +kernel)
theorem at_0_2253 : am_at (am_m 0) 2253 = some (.iload 4, 0) := (am_L0_33 2253 (by decide)).trans (by decide +kernel)
theorem at_0_2255 : am_at (am_m 0) 2255 = some (.iconst 2, 0) := (am_L0_33 2255 (by decide)).trans (by decide +kernel)
theorem at_0_2256 : am_at (am_m 0) 2256 = some (.iadd, 0) := (am_L0_33 2256 (by decide)).trans (by decide +kernel)
theorem at_0_2257 : am_at (am_m 0) 2257 = some (.iaload, 0) := (am_L0_33 2257 (by decide)).trans (by decide +kernel)
theorem at_0_2258 : am_at (am_m 0) 2258 = some (.invokevirtual 305, 478) := (am_L0_33 2258 (by decide)).trans (by decide +kernel)
theorem at_0_2261 : am_at (am_m 0) 2261 = some (.istore 6, 0) := (am_L0_33 2261 (by decide)).trans (by decide +kernel)
theorem at_0_2263 : am_at (am_m 0) 2263 = some (.aload_n 2, 0) := (am_L0_33 2263 (by decide)).trans (by decide +kernel)
theorem at_0_2264 : am_at (am_m 0) 2264 = some (.invokevirtual 202, 324) := (am_L0_33 2264 (by decide)).trans (by decide +kernel)
theorem at_0_2267 : am_at (am_m 0) 2267 = some (.iload 5, 0) := (am_L0_33 2267 (by decide)).trans (by decide +kernel)
theorem at_0_2269 : am_at (am_m 0) 2269 = some (.if_icmp .eq 5, 2274) := (am_L0_33 2269 (by decide)).trans (by decide +kernel)
theorem at_0_2272 : am_at (am_m 0) 2272 = some (.iconst 0, 0) := (am_L0_33 2272 (by decide)).trans (by decide +kernel)
theorem at_0_2273 : am_at (am_m 0) 2273 = some (.ireturn, 0) := (am_L0_33 2273 (by decide)).trans (by decide +kernel)
theorem at_0_2274 : am_at (am_m 0) 2274 = some (.iload 5, 0) := (am_L0_33 2274 (by decide)).trans (by decide +kernel)
theorem at_0_2276 : am_at (am_m 0) 2276 = some (.ifCond .ne 15, 2291) := (am_L0_33 2276 (by decide)).trans (by decide +kernel)
theorem at_0_2279 : am_at (am_m 0) 2279 = some (.aload_n 3, 0) := (am_L0_33 2279 (by decide)).trans (by decide +kernel)
theorem at_0_2280 : am_at (am_m 0) 2280 = some (.iconst 0, 0) := (am_L0_33 2280 (by decide)).trans (by decide +kernel)
theorem at_0_2281 : am_at (am_m 0) 2281 = some (.laload, 0) := (am_L0_33 2281 (by decide)).trans (by decide +kernel)
theorem at_0_2282 : am_at (am_m 0) 2282 = some (.iload 6, 0) := (am_L0_33 2282 (by decide)).trans (by decide +kernel)
theorem at_0_2284 : am_at (am_m 0) 2284 = some (.i2l, 0) := (am_L0_33 2284 (by decide)).trans (by decide +kernel)
theorem at_0_2285 : am_at (am_m 0) 2285 = some (.lcmp, 0) := (am_L0_33 2285 (by decide)).trans (by decide +kernel)
theorem at_0_2286 : am_at (am_m 0) 2286 = some (.ifCond .eq 5, 2291) := (am_L0_33 2286 (by decide)).trans (by decide +kernel)
theorem at_0_2289 : am_at (am_m 0) 2289 = some (.iconst 0, 0) := (am_L0_33 2289 (by decide)).trans (by decide +kernel)
theorem at_0_2290 : am_at (am_m 0) 2290 = some (.ireturn, 0) := (am_L0_33 2290 (by decide)).trans (by decide +kernel)
theorem at_0_2291 : am_at (am_m 0) 2291 = some (.goto 1901, 4192) := (am_L0_33 2291 (by decide)).trans (by decide +kernel)
theorem at_0_2294 : am_at (am_m 0) 2294 = some (.aload_n 1, 0) := (am_L0_33 2294 (by decide)).trans (by decide +kernel)
theorem at_0_2295 : am_at (am_m 0) 2295 = some (.aload_n 0, 0) := (am_L0_33 2295 (by decide)).trans (by decide +kernel)
theorem at_0_2296 : am_at (am_m 0) 2296 = some (.iload 4, 0) := (am_L0_33 2296 (by decide)).trans (by decide +kernel)
theorem at_0_2298 : am_at (am_m 0) 2298 = some (.iconst 1, 0) := (am_L0_33 2298 (by decide)).trans (by decide +kernel)
theorem at_0_2299 : am_at (am_m 0) 2299 = some (.iadd, 0) := (am_L0_33 2299 (by decide)).trans (by decide +kernel)
theorem at_0_2300 : am_at (am_m 0) 2300 = some (.iaload, 0) := (am_L0_33 2300 (by decide)).trans (by decide +kernel)
theorem at_0_2301 : am_at (am_m 0) 2301 = some (.aload_n 0, 0) := (am_L0_33 2301 (by decide)).trans (by decide +kernel)
theorem at_0_2302 : am_at (am_m 0) 2302 = some (.iload 4, 0) := (am_L0_33 2302 (by decide)).trans (by decide +kernel)
theorem at_0_2304 : am_at (am_m 0) 2304 = some (.iconst 2, 0) := (am_L0_33 2304 (by decide)).trans (by decide +kernel)
theorem at_0_2305 : am_at (am_m 0) 2305 = some (.iadd, 0) := (am_L0_33 2305 (by decide)).trans (by decide +kernel)
theorem at_0_2306 : am_at (am_m 0) 2306 = some (.iaload, 0) := (am_L0_33 2306 (by decide)).trans (by decide +kernel)
theorem at_0_2307 : am_at (am_m 0) 2307 = some (.aload_n 0, 0) := (am_L0_33 2307 (by decide)).trans (by decide +kernel)
theorem at_0_2308 : am_at (am_m 0) 2308 = some (.iload 4, 0) := (am_L0_33 2308 (by decide)).trans (by decide +kernel)
theorem at_0_2310 : am_at (am_m 0) 2310 = some (.iconst 3, 0) := (am_L0_33 2310 (by decide)).trans (by decide +kernel)
theorem at_0_2311 : am_at (am_m 0) 2311 = some (.iadd, 0) := (am_L0_34 2311 (by decide)).trans (by decide +kernel)
theorem at_0_2312 : am_at (am_m 0) 2312 = some (.iaload, 0) := (am_L0_34 2312 (by decide)).trans (by decide +kernel)
theorem at_0_2313 : am_at (am_m 0) 2313 = some (.i2l, 0) := (am_L0_34 2313 (by decide)).trans (by decide +kernel)
theorem at_0_2314 : am_at (am_m 0) 2314 = some (.bipush 32, 0) := (am_L0_34 2314 (by decide)).trans (by decide +kernel)
theorem at_0_2316 : am_at (am_m 0) 2316 = some (.lshl, 0) := (am_L0_34 2316 (by decide)).trans (by decide +kernel)
theorem at_0_2317 : am_at (am_m 0) 2317 = some (.aload_n 0, 0) := (am_L0_34 2317 (by decide)).trans (by decide +kernel)
theorem at_0_2318 : am_at (am_m 0) 2318 = some (.iload 4, 0) := (am_L0_34 2318 (by decide)).trans (by decide +kernel)
theorem at_0_2320 : am_at (am_m 0) 2320 = some (.iconst 4, 0) := (am_L0_34 2320 (by decide)).trans (by decide +kernel)
theorem at_0_2321 : am_at (am_m 0) 2321 = some (.iadd, 0) := (am_L0_34 2321 (by decide)).trans (by decide +kernel)
theorem at_0_2322 : am_at (am_m 0) 2322 = some (.iaload, 0) := (am_L0_34 2322 (by decide)).trans (by decide +kernel)
theorem at_0_2323 : am_at (am_m 0) 2323 = some (.i2l, 0) := (am_L0_34 2323 (by decide)).trans (by decide +kernel)
theorem at_0_2324 : am_at (am_m 0) 2324 = some (.ldc2_w 189, 0) := (am_L0_34 2324 (by decide)).trans (by decide +kernel)
theorem at_0_2327 : am_at (am_m 0) 2327 = some (.land, 0) := (am_L0_34 2327 (by decide)).trans (by decide +kernel)
theorem at_0_2328 : am_at (am_m 0) 2328 = some (.lor, 0) := (am_L0_34 2328 (by decide)).trans (by decide +kernel)
theorem at_0_2329 : am_at (am_m 0) 2329 = some (.aload_n 3, 0) := (am_L0_34 2329 (by decide)).trans (by decide +kernel)
theorem at_0_2330 : am_at (am_m 0) 2330 = some (.invokestatic 306, 197) := (am_L0_34 2330 (by decide)).trans (by decide +kernel)
theorem at_0_2333 : am_at (am_m 0) 2333 = some (.istore 5, 0) := (am_L0_34 2333 (by decide)).trans (by decide +kernel)
theorem at_0_2335 : am_at (am_m 0) 2335 = some (.aload_n 2, 0) := (am_L0_34 2335 (by decide)).trans (by decide +kernel)
theorem at_0_2336 : am_at (am_m 0) 2336 = some (.aload_n 0, 0) := (am_L0_34 2336 (by decide)).trans (by decide +kernel)
theorem at_0_2337 : am_at (am_m 0) 2337 = some (.iload 4, 0) := (am_L0_34 2337 (by decide)).trans (by decide +kernel)
theorem at_0_2339 : am_at (am_m 0) 2339 = some (.iconst 1, 0) := (am_L0_34 2339 (by decide)).trans (by decide +kernel)
theorem at_0_2340 : am_at (am_m 0) 2340 = some (.iadd, 0) := (am_L0_34 2340 (by decide)).trans (by decide +kernel)
theorem at_0_2341 : am_at (am_m 0) 2341 = some (.iaload, 0) := (am_L0_34 2341 (by decide)).trans (by decide +kernel)
theorem at_0_2342 : am_at (am_m 0) 2342 = some (.aload_n 0, 0) := (am_L0_34 2342 (by decide)).trans (by decide +kernel)
theorem at_0_2343 : am_at (am_m 0) 2343 = some (.iload 4, 0) := (am_L0_34 2343 (by decide)).trans (by decide +kernel)
theorem at_0_2345 : am_at (am_m 0) 2345 = some (.iconst 2, 0) := (am_L0_34 2345 (by decide)).trans (by decide +kernel)
theorem at_0_2346 : am_at (am_m 0) 2346 = some (.iadd, 0) := (am_L0_34 2346 (by decide)).trans (by decide +kernel)
theorem at_0_2347 : am_at (am_m 0) 2347 = some (.iaload, 0) := (am_L0_34 2347 (by decide)).trans (by decide +kernel)
theorem at_0_2348 : am_at (am_m 0) 2348 = some (.aload_n 0, 0) := (am_L0_34 2348 (by decide)).trans (by decide +kernel)
theorem at_0_2349 : am_at (am_m 0) 2349 = some (.iload 4, 0) := (am_L0_34 2349 (by decide)).trans (by decide +kernel)
theorem at_0_2351 : am_at (am_m 0) 2351 = some (.iconst 3, 0) := (am_L0_34 2351 (by decide)).trans (by decide +kernel)
theorem at_0_2352 : am_at (am_m 0) 2352 = some (.iadd, 0) := (am_L0_34 2352 (by decide)).trans (by decide +kernel)
theorem at_0_2353 : am_at (am_m 0) 2353 = some (.iaload, 0) := (am_L0_34 2353 (by decide)).trans (by decide +kernel)
theorem at_0_2354 : am_at (am_m 0) 2354 = some (.i2l, 0) := (am_L0_34 2354 (by decide)).trans (by decide +kernel)
theorem at_0_2355 : am_at (am_m 0) 2355 = some (.bipush 32, 0) := (am_L0_34 2355 (by decide)).trans (by decide +kernel)
theorem at_0_2357 : am_at (am_m 0) 2357 = some (.lshl, 0) := (am_L0_34 2357 (by decide)).trans (by decide +kernel)
theorem at_0_2358 : am_at (am_m 0) 2358 = some (.aload_n 0, 0) := (am_L0_34 2358 (by decide)).trans (by decide +kernel)
theorem at_0_2359 : am_at (am_m 0) 2359 = some (.iload 4, 0) := (am_L0_34 2359 (by decide)).trans (by decide +kernel)
theorem at_0_2361 : am_at (am_m 0) 2361 = some (.iconst 4, 0) := (am_L0_34 2361 (by decide)).trans (by decide +kernel)
theorem at_0_2362 : am_at (am_m 0) 2362 = some (.iadd, 0) := (am_L0_34 2362 (by decide)).trans (by decide +kernel)
theorem at_0_2363 : am_at (am_m 0) 2363 = some (.iaload, 0) := (am_L0_35 2363 (by decide)).trans (by decide +kernel)
theorem at_0_2364 : am_at (am_m 0) 2364 = some (.i2l, 0) := (am_L0_35 2364 (by decide)).trans (by decide +kernel)
theorem at_0_2365 : am_at (am_m 0) 2365 = some (.ldc2_w 189, 0) := (am_L0_35 2365 (by decide)).trans (by decide +kernel)
theorem at_0_2368 : am_at (am_m 0) 2368 = some (.land, 0) := (am_L0_35 2368 (by decide)).trans (by decide +kernel)
theorem at_0_2369 : am_at (am_m 0) 2369 = some (.lor, 0) := (am_L0_35 2369 (by decide)).trans (by decide +kernel)
theorem at_0_2370 : am_at (am_m 0) 2370 = some (.invokevirtual 308, 486) := (am_L0_35 2370 (by decide)).trans (by decide +kernel)
theorem at_0_2373 : am_at (am_m 0) 2373 = some (.istore 6, 0) := (am_L0_35 2373 (by decide)).trans (by decide +kernel)
theorem at_0_2375 : am_at (am_m 0) 2375 = some (.aload_n 2, 0) := (am_L0_35 2375 (by decide)).trans (by decide +kernel)
theorem at_0_2376 : am_at (am_m 0) 2376 = some (.invokevirtual 202, 324) := (am_L0_35 2376 (by decide)).trans (by decide +kernel)
theorem at_0_2379 : am_at (am_m 0) 2379 = some (.iload 5, 0) := (am_L0_35 2379 (by decide)).trans (by decide +kernel)
theorem at_0_2381 : am_at (am_m 0) 2381 = some (.if_icmp .eq 5, 2386) := (am_L0_35 2381 (by decide)).trans (by decide +kernel)
theorem at_0_2384 : am_at (am_m 0) 2384 = some (.iconst 0, 0) := (am_L0_35 2384 (by decide)).trans (by decide +kernel)
theorem at_0_2385 : am_at (am_m 0) 2385 = some (.ireturn, 0) := (am_L0_35 2385 (by decide)).trans (by decide +kernel)
theorem at_0_2386 : am_at (am_m 0) 2386 = some (.iload 5, 0) := (am_L0_35 2386 (by decide)).trans (by decide +kernel)
theorem at_0_2388 : am_at (am_m 0) 2388 = some (.ifCond .ne 15, 2403) := (am_L0_35 2388 (by decide)).trans (by decide +kernel)
theorem at_0_2391 : am_at (am_m 0) 2391 = some (.aload_n 3, 0) := (am_L0_35 2391 (by decide)).trans (by decide +kernel)
theorem at_0_2392 : am_at (am_m 0) 2392 = some (.iconst 0, 0) := (am_L0_35 2392 (by decide)).trans (by decide +kernel)
theorem at_0_2393 : am_at (am_m 0) 2393 = some (.laload, 0) := (am_L0_35 2393 (by decide)).trans (by decide +kernel)
theorem at_0_2394 : am_at (am_m 0) 2394 = some (.iload 6, 0) := (am_L0_35 2394 (by decide)).trans (by decide +kernel)
theorem at_0_2396 : am_at (am_m 0) 2396 = some (.i2l, 0) := (am_L0_35 2396 (by decide)).trans (by decide +kernel)
theorem at_0_2397 : am_at (am_m 0) 2397 = some (.lcmp, 0) := (am_L0_35 2397 (by decide)).trans (by decide +kernel)
theorem at_0_2398 : am_at (am_m 0) 2398 = some (.ifCond .eq 5, 2403) := (am_L0_35 2398 (by decide)).trans (by decide +kernel)
theorem at_0_2401 : am_at (am_m 0) 2401 = some (.iconst 0, 0) := (am_L0_35 2401 (by decide)).trans (by decide +kernel)
theorem at_0_2402 : am_at (am_m 0) 2402 = some (.ireturn, 0) := (am_L0_35 2402 (by decide)).trans (by decide +kernel)
theorem at_0_2403 : am_at (am_m 0) 2403 = some (.goto 1789, 4192) := (am_L0_35 2403 (by decide)).trans (by decide +kernel)
theorem at_0_2406 : am_at (am_m 0) 2406 = some (.aload_n 1, 0) := (am_L0_35 2406 (by decide)).trans (by decide +kernel)
theorem at_0_2407 : am_at (am_m 0) 2407 = some (.aload_n 0, 0) := (am_L0_35 2407 (by decide)).trans (by decide +kernel)
theorem at_0_2408 : am_at (am_m 0) 2408 = some (.iload 4, 0) := (am_L0_35 2408 (by decide)).trans (by decide +kernel)
theorem at_0_2410 : am_at (am_m 0) 2410 = some (.iconst 1, 0) := (am_L0_35 2410 (by decide)).trans (by decide +kernel)
theorem at_0_2411 : am_at (am_m 0) 2411 = some (.iadd, 0) := (am_L0_35 2411 (by decide)).trans (by decide +kernel)
theorem at_0_2412 : am_at (am_m 0) 2412 = some (.iaload, 0) := (am_L0_35 2412 (by decide)).trans (by decide +kernel)
theorem at_0_2413 : am_at (am_m 0) 2413 = some (.aload_n 0, 0) := (am_L0_35 2413 (by decide)).trans (by decide +kernel)
theorem at_0_2414 : am_at (am_m 0) 2414 = some (.iload 4, 0) := (am_L0_35 2414 (by decide)).trans (by decide +kernel)
theorem at_0_2416 : am_at (am_m 0) 2416 = some (.iconst 2, 0) := (am_L0_35 2416 (by decide)).trans (by decide +kernel)
theorem at_0_2417 : am_at (am_m 0) 2417 = some (.iadd, 0) := (am_L0_35 2417 (by decide)).trans (by decide +kernel)
theorem at_0_2418 : am_at (am_m 0) 2418 = some (.iaload, 0) := (am_L0_35 2418 (by decide)).trans (by decide +kernel)
theorem at_0_2419 : am_at (am_m 0) 2419 = some (.aload_n 0, 0) := (am_L0_35 2419 (by decide)).trans (by decide +kernel)
theorem at_0_2420 : am_at (am_m 0) 2420 = some (.iload 4, 0) := (am_L0_35 2420 (by decide)).trans (by decide +kernel)
theorem at_0_2422 : am_at (am_m 0) 2422 = some (.iconst 3, 0) := (am_L0_35 2422 (by decide)).trans (by decide +kernel)
theorem at_0_2423 : am_at (am_m 0) 2423 = some (.iadd, 0) := (am_L0_35 2423 (by decide)).trans (by decide +kernel)
theorem at_0_2424 : am_at (am_m 0) 2424 = some (.iaload, 0) := (am_L0_36 2424 (by decide)).trans (by decide +kernel)
theorem at_0_2425 : am_at (am_m 0) 2425 = some (.aload_n 0, 0) := (am_L0_36 2425 (by decide)).trans (by decide +kernel)
theorem at_0_2426 : am_at (am_m 0) 2426 = some (.iload 4, 0) := (am_L0_36 2426 (by decide)).trans (by decide +kernel)
theorem at_0_2428 : am_at (am_m 0) 2428 = some (.iconst 4, 0) := (am_L0_36 2428 (by decide)).trans (by decide +kernel)
theorem at_0_2429 : am_at (am_m 0) 2429 = some (.iadd, 0) := (am_L0_36 2429 (by decide)).trans (by decide +kernel)
theorem at_0_2430 : am_at (am_m 0) 2430 = some (.iaload, 0) := (am_L0_36 2430 (by decide)).trans (by decide +kernel)
theorem at_0_2431 : am_at (am_m 0) 2431 = some (.aload_n 0, 0) := (am_L0_36 2431 (by decide)).trans (by decide +kernel)
theorem at_0_2432 : am_at (am_m 0) 2432 = some (.iload 4, 0) := (am_L0_36 2432 (by decide)).trans (by decide +kernel)
theorem at_0_2434 : am_at (am_m 0) 2434 = some (.iconst 5, 0) := (am_L0_36 2434 (by decide)).trans (by decide +kernel)
theorem at_0_2435 : am_at (am_m 0) 2435 = some (.iadd, 0) := (am_L0_36 2435 (by decide)).trans (by decide +kernel)
theorem at_0_2436 : am_at (am_m 0) 2436 = some (.iaload, 0) := (am_L0_36 2436 (by decide)).trans (by decide +kernel)
theorem at_0_2437 : am_at (am_m 0) 2437 = some (.i2l, 0) := (am_L0_36 2437 (by decide)).trans (by decide +kernel)
theorem at_0_2438 : am_at (am_m 0) 2438 = some (.bipush 32, 0) := (am_L0_36 2438 (by decide)).trans (by decide +kernel)
theorem at_0_2440 : am_at (am_m 0) 2440 = some (.lshl, 0) := (am_L0_36 2440 (by decide)).trans (by decide +kernel)
theorem at_0_2441 : am_at (am_m 0) 2441 = some (.aload_n 0, 0) := (am_L0_36 2441 (by decide)).trans (by decide +kernel)
theorem at_0_2442 : am_at (am_m 0) 2442 = some (.iload 4, 0) := (am_L0_36 2442 (by decide)).trans (by decide +kernel)
theorem at_0_2444 : am_at (am_m 0) 2444 = some (.bipush 6, 0) := (am_L0_36 2444 (by decide)).trans (by decide +kernel)
theorem at_0_2446 : am_at (am_m 0) 2446 = some (.iadd, 0) := (am_L0_36 2446 (by decide)).trans (by decide +kernel)
theorem at_0_2447 : am_at (am_m 0) 2447 = some (.iaload, 0) := (am_L0_36 2447 (by decide)).trans (by decide +kernel)
theorem at_0_2448 : am_at (am_m 0) 2448 = some (.i2l, 0) := (am_L0_36 2448 (by decide)).trans (by decide +kernel)
theorem at_0_2449 : am_at (am_m 0) 2449 = some (.ldc2_w 189, 0) := (am_L0_36 2449 (by decide)).trans (by decide +kernel)
theorem at_0_2452 : am_at (am_m 0) 2452 = some (.land, 0) := (am_L0_36 2452 (by decide)).trans (by decide +kernel)
theorem at_0_2453 : am_at (am_m 0) 2453 = some (.lor, 0) := (am_L0_36 2453 (by decide)).trans (by decide +kernel)
theorem at_0_2454 : am_at (am_m 0) 2454 = some (.aload_n 3, 0) := (am_L0_36 2454 (by decide)).trans (by decide +kernel)
theorem at_0_2455 : am_at (am_m 0) 2455 = some (.invokestatic 309, 199) := (am_L0_36 2455 (by decide)).trans (by decide +kernel)
theorem at_0_2458 : am_at (am_m 0) 2458 = some (.istore 5, 0) := (am_L0_36 2458 (by decide)).trans (by decide +kernel)
theorem at_0_2460 : am_at (am_m 0) 2460 = some (.aload_n 2, 0) := (am_L0_36 2460 (by decide)).trans (by decide +kernel)
theorem at_0_2461 : am_at (am_m 0) 2461 = some (.aload_n 0, 0) := (am_L0_36 2461 (by decide)).trans (by decide +kernel)
theorem at_0_2462 : am_at (am_m 0) 2462 = some (.iload 4, 0) := (am_L0_36 2462 (by decide)).trans (by decide +kernel)
theorem at_0_2464 : am_at (am_m 0) 2464 = some (.iconst 1, 0) := (am_L0_36 2464 (by decide)).trans (by decide +kernel)
theorem at_0_2465 : am_at (am_m 0) 2465 = some (.iadd, 0) := (am_L0_36 2465 (by decide)).trans (by decide +kernel)
theorem at_0_2466 : am_at (am_m 0) 2466 = some (.iaload, 0) := (am_L0_36 2466 (by decide)).trans (by decide +kernel)
theorem at_0_2467 : am_at (am_m 0) 2467 = some (.aload_n 0, 0) := (am_L0_36 2467 (by decide)).trans (by decide +kernel)
theorem at_0_2468 : am_at (am_m 0) 2468 = some (.iload 4, 0) := (am_L0_36 2468 (by decide)).trans (by decide +kernel)
theorem at_0_2470 : am_at (am_m 0) 2470 = some (.iconst 2, 0) := (am_L0_36 2470 (by decide)).trans (by decide +kernel)
theorem at_0_2471 : am_at (am_m 0) 2471 = some (.iadd, 0) := (am_L0_36 2471 (by decide)).trans (by decide +kernel)
theorem at_0_2472 : am_at (am_m 0) 2472 = some (.iaload, 0) := (am_L0_36 2472 (by decide)).trans (by decide +kernel)
theorem at_0_2473 : am_at (am_m 0) 2473 = some (.aload_n 0, 0) := (am_L0_36 2473 (by decide)).trans (by decide +kernel)
theorem at_0_2474 : am_at (am_m 0) 2474 = some (.iload 4, 0) := (am_L0_36 2474 (by decide)).trans (by decide +kernel)
theorem at_0_2476 : am_at (am_m 0) 2476 = some (.iconst 3, 0) := (am_L0_36 2476 (by decide)).trans (by decide +kernel)
theorem at_0_2477 : am_at (am_m 0) 2477 = some (.iadd, 0) := (am_L0_37 2477 (by decide)).trans (by decide +kernel)
theorem at_0_2478 : am_at (am_m 0) 2478 = some (.iaload, 0) := (am_L0_37 2478 (by decide)).trans (by decide +kernel)
theorem at_0_2479 : am_at (am_m 0) 2479 = some (.aload_n 0, 0) := (am_L0_37 2479 (by decide)).trans (by decide +kernel)
theorem at_0_2480 : am_at (am_m 0) 2480 = some (.iload 4, 0) := (am_L0_37 2480 (by decide)).trans (by decide +kernel)
theorem at_0_2482 : am_at (am_m 0) 2482 = some (.iconst 4, 0) := (am_L0_37 2482 (by decide)).trans (by decide +kernel)
theorem at_0_2483 : am_at (am_m 0) 2483 = some (.iadd, 0) := (am_L0_37 2483 (by decide)).trans (by decide +kernel)
theorem at_0_2484 : am_at (am_m 0) 2484 = some (.iaload, 0) := (am_L0_37 2484 (by decide)).trans (by decide +kernel)
theorem at_0_2485 : am_at (am_m 0) 2485 = some (.aload_n 0, 0) := (am_L0_37 2485 (by decide)).trans (by decide +kernel)
theorem at_0_2486 : am_at (am_m 0) 2486 = some (.iload 4, 0) := (am_L0_37 2486 (by decide)).trans (by decide +kernel)
theorem at_0_2488 : am_at (am_m 0) 2488 = some (.iconst 5, 0) := (am_L0_37 2488 (by decide)).trans (by decide +kernel)
theorem at_0_2489 : am_at (am_m 0) 2489 = some (.iadd, 0) := (am_L0_37 2489 (by decide)).trans (by decide +kernel)
theorem at_0_2490 : am_at (am_m 0) 2490 = some (.iaload, 0) := (am_L0_37 2490 (by decide)).trans (by decide +kernel)
theorem at_0_2491 : am_at (am_m 0) 2491 = some (.i2l, 0) := (am_L0_37 2491 (by decide)).trans (by decide +kernel)
theorem at_0_2492 : am_at (am_m 0) 2492 = some (.bipush 32, 0) := (am_L0_37 2492 (by decide)).trans (by decide +kernel)
theorem at_0_2494 : am_at (am_m 0) 2494 = some (.lshl, 0) := (am_L0_37 2494 (by decide)).trans (by decide +kernel)
theorem at_0_2495 : am_at (am_m 0) 2495 = some (.aload_n 0, 0) := (am_L0_37 2495 (by decide)).trans (by decide +kernel)
theorem at_0_2496 : am_at (am_m 0) 2496 = some (.iload 4, 0) := (am_L0_37 2496 (by decide)).trans (by decide +kernel)
theorem at_0_2498 : am_at (am_m 0) 2498 = some (.bipush 6, 0) := (am_L0_37 2498 (by decide)).trans (by decide +kernel)
theorem at_0_2500 : am_at (am_m 0) 2500 = some (.iadd, 0) := (am_L0_37 2500 (by decide)).trans (by decide +kernel)
theorem at_0_2501 : am_at (am_m 0) 2501 = some (.iaload, 0) := (am_L0_37 2501 (by decide)).trans (by decide +kernel)
theorem at_0_2502 : am_at (am_m 0) 2502 = some (.i2l, 0) := (am_L0_37 2502 (by decide)).trans (by decide +kernel)
theorem at_0_2503 : am_at (am_m 0) 2503 = some (.ldc2_w 189, 0) := (am_L0_37 2503 (by decide)).trans (by decide +kernel)
theorem at_0_2506 : am_at (am_m 0) 2506 = some (.land, 0) := (am_L0_37 2506 (by decide)).trans (by decide +kernel)
theorem at_0_2507 : am_at (am_m 0) 2507 = some (.lor, 0) := (am_L0_37 2507 (by decide)).trans (by decide +kernel)
theorem at_0_2508 : am_at (am_m 0) 2508 = some (.invokevirtual 312, 488) := (am_L0_37 2508 (by decide)).trans (by decide +kernel)
theorem at_0_2511 : am_at (am_m 0) 2511 = some (.istore 6, 0) := (am_L0_37 2511 (by decide)).trans (by decide +kernel)
theorem at_0_2513 : am_at (am_m 0) 2513 = some (.aload_n 2, 0) := (am_L0_37 2513 (by decide)).trans (by decide +kernel)
theorem at_0_2514 : am_at (am_m 0) 2514 = some (.invokevirtual 202, 324) := (am_L0_37 2514 (by decide)).trans (by decide +kernel)
theorem at_0_2517 : am_at (am_m 0) 2517 = some (.iload 5, 0) := (am_L0_37 2517 (by decide)).trans (by decide +kernel)
theorem at_0_2519 : am_at (am_m 0) 2519 = some (.if_icmp .eq 5, 2524) := (am_L0_37 2519 (by decide)).trans (by decide +kernel)
theorem at_0_2522 : am_at (am_m 0) 2522 = some (.iconst 0, 0) := (am_L0_37 2522 (by decide)).trans (by decide +kernel)
theorem at_0_2523 : am_at (am_m 0) 2523 = some (.ireturn, 0) := (am_L0_37 2523 (by decide)).trans (by decide +kernel)
theorem at_0_2524 : am_at (am_m 0) 2524 = some (.iload 5, 0) := (am_L0_37 2524 (by decide)).trans (by decide +kernel)
theorem at_0_2526 : am_at (am_m 0) 2526 = some (.ifCond .ne 15, 2541) := (am_L0_37 2526 (by decide)).trans (by decide +kernel)
theorem at_0_2529 : am_at (am_m 0) 2529 = some (.aload_n 3, 0) := (am_L0_37 2529 (by decide)).trans (by decide +kernel)
theorem at_0_2530 : am_at (am_m 0) 2530 = some (.iconst 0, 0) := (am_L0_37 2530 (by decide)).trans (by decide +kernel)
theorem at_0_2531 : am_at (am_m 0) 2531 = some (.laload, 0) := (am_L0_37 2531 (by decide)).trans (by decide +kernel)
theorem at_0_2532 : am_at (am_m 0) 2532 = some (.iload 6, 0) := (am_L0_37 2532 (by decide)).trans (by decide +kernel)
theorem at_0_2534 : am_at (am_m 0) 2534 = some (.i2l, 0) := (am_L0_37 2534 (by decide)).trans (by decide +kernel)
theorem at_0_2535 : am_at (am_m 0) 2535 = some (.lcmp, 0) := (am_L0_37 2535 (by decide)).trans (by decide +kernel)
theorem at_0_2536 : am_at (am_m 0) 2536 = some (.ifCond .eq 5, 2541) := (am_L0_38 2536 (by decide)).trans (by decide +kernel)
theorem at_0_2539 : am_at (am_m 0) 2539 = some (.iconst 0, 0) := (am_L0_38 2539 (by decide)).trans (by decide +kernel)
theorem at_0_2540 : am_at (am_m 0) 2540 = some (.ireturn, 0) := (am_L0_38 2540 (by decide)).trans (by decide +kernel)
theorem at_0_2541 : am_at (am_m 0) 2541 = some (.goto 1651, 4192) := (am_L0_38 2541 (by decide)).trans (by decide +kernel)
theorem at_0_2544 : am_at (am_m 0) 2544 = some (.aload_n 1, 0) := (am_L0_38 2544 (by decide)).trans (by decide +kernel)
theorem at_0_2545 : am_at (am_m 0) 2545 = some (.aload_n 0, 0) := (am_L0_38 2545 (by decide)).trans (by decide +kernel)
theorem at_0_2546 : am_at (am_m 0) 2546 = some (.iload 4, 0) := (am_L0_38 2546 (by decide)).trans (by decide +kernel)
theorem at_0_2548 : am_at (am_m 0) 2548 = some (.iconst 1, 0) := (am_L0_38 2548 (by decide)).trans (by decide +kernel)
theorem at_0_2549 : am_at (am_m 0) 2549 = some (.iadd, 0) := (am_L0_38 2549 (by decide)).trans (by decide +kernel)
theorem at_0_2550 : am_at (am_m 0) 2550 = some (.iaload, 0) := (am_L0_38 2550 (by decide)).trans (by decide +kernel)
theorem at_0_2551 : am_at (am_m 0) 2551 = some (.aload_n 3, 0) := (am_L0_38 2551 (by decide)).trans (by decide +kernel)
theorem at_0_2552 : am_at (am_m 0) 2552 = some (.invokestatic 313, 210) := (am_L0_38 2552 (by decide)).trans (by decide +kernel)
theorem at_0_2555 : am_at (am_m 0) 2555 = some (.istore 5, 0) := (am_L0_38 2555 (by decide)).trans (by decide +kernel)
theorem at_0_2557 : am_at (am_m 0) 2557 = some (.aload_n 2, 0) := (am_L0_38 2557 (by decide)).trans (by decide +kernel)
theorem at_0_2558 : am_at (am_m 0) 2558 = some (.aload_n 0, 0) := (am_L0_38 2558 (by decide)).trans (by decide +kernel)
theorem at_0_2559 : am_at (am_m 0) 2559 = some (.iload 4, 0) := (am_L0_38 2559 (by decide)).trans (by decide +kernel)
theorem at_0_2561 : am_at (am_m 0) 2561 = some (.iconst 1, 0) := (am_L0_38 2561 (by decide)).trans (by decide +kernel)
theorem at_0_2562 : am_at (am_m 0) 2562 = some (.iadd, 0) := (am_L0_38 2562 (by decide)).trans (by decide +kernel)
theorem at_0_2563 : am_at (am_m 0) 2563 = some (.iaload, 0) := (am_L0_38 2563 (by decide)).trans (by decide +kernel)
theorem at_0_2564 : am_at (am_m 0) 2564 = some (.invokevirtual 315, 499) := (am_L0_38 2564 (by decide)).trans (by decide +kernel)
theorem at_0_2567 : am_at (am_m 0) 2567 = some (.istore 6, 0) := (am_L0_38 2567 (by decide)).trans (by decide +kernel)
theorem at_0_2569 : am_at (am_m 0) 2569 = some (.aload_n 2, 0) := (am_L0_38 2569 (by decide)).trans (by decide +kernel)
theorem at_0_2570 : am_at (am_m 0) 2570 = some (.invokevirtual 202, 324) := (am_L0_38 2570 (by decide)).trans (by decide +kernel)
theorem at_0_2573 : am_at (am_m 0) 2573 = some (.iload 5, 0) := (am_L0_38 2573 (by decide)).trans (by decide +kernel)
theorem at_0_2575 : am_at (am_m 0) 2575 = some (.if_icmp .eq 5, 2580) := (am_L0_38 2575 (by decide)).trans (by decide +kernel)
theorem at_0_2578 : am_at (am_m 0) 2578 = some (.iconst 0, 0) := (am_L0_38 2578 (by decide)).trans (by decide +kernel)
theorem at_0_2579 : am_at (am_m 0) 2579 = some (.ireturn, 0) := (am_L0_38 2579 (by decide)).trans (by decide +kernel)
theorem at_0_2580 : am_at (am_m 0) 2580 = some (.iload 5, 0) := (am_L0_38 2580 (by decide)).trans (by decide +kernel)
theorem at_0_2582 : am_at (am_m 0) 2582 = some (.ifCond .ne 15, 2597) := (am_L0_38 2582 (by decide)).trans (by decide +kernel)
theorem at_0_2585 : am_at (am_m 0) 2585 = some (.aload_n 3, 0) := (am_L0_38 2585 (by decide)).trans (by decide +kernel)
theorem at_0_2586 : am_at (am_m 0) 2586 = some (.iconst 0, 0) := (am_L0_38 2586 (by decide)).trans (by decide +kernel)
theorem at_0_2587 : am_at (am_m 0) 2587 = some (.laload, 0) := (am_L0_38 2587 (by decide)).trans (by decide +kernel)
theorem at_0_2588 : am_at (am_m 0) 2588 = some (.iload 6, 0) := (am_L0_38 2588 (by decide)).trans (by decide +kernel)
theorem at_0_2590 : am_at (am_m 0) 2590 = some (.i2l, 0) := (am_L0_38 2590 (by decide)).trans (by decide +kernel)
theorem at_0_2591 : am_at (am_m 0) 2591 = some (.lcmp, 0) := (am_L0_38 2591 (by decide)).trans (by decide +kernel)
theorem at_0_2592 : am_at (am_m 0) 2592 = some (.ifCond .eq 5, 2597) := (am_L0_38 2592 (by decide)).trans (by decide +kernel)
theorem at_0_2595 : am_at (am_m 0) 2595 = some (.iconst 0, 0) := (am_L0_38 2595 (by decide)).trans (by decide +kernel)
theorem at_0_2596 : am_at (am_m 0) 2596 = some (.ireturn, 0) := (am_L0_38 2596 (by decide)).trans (by decide +kernel)
theorem at_0_2597 : am_at (am_m 0) 2597 = some (.goto 1595, 4192) := (am_L0_38 2597 (by decide)).trans (by decide +kernel)
theorem at_0_2600 : am_at (am_m 0) 2600 = some (.aload_n 1, 0) := (am_L0_38 2600 (by decide)).trans (by decide +kernel)
theorem at_0_2601 : am_at (am_m 0) 2601 = some (.aload_n 0, 0) := (am_L0_39 2601 (by decide)).trans (by decide +kernel)
theorem at_0_2602 : am_at (am_m 0) 2602 = some (.iload 4, 0) := (am_L0_39 2602 (by decide)).trans (by decide +kernel)
theorem at_0_2604 : am_at (am_m 0) 2604 = some (.iconst 1, 0) := (am_L0_39 2604 (by decide)).trans (by decide +kernel)
theorem at_0_2605 : am_at (am_m 0) 2605 = some (.iadd, 0) := (am_L0_39 2605 (by decide)).trans (by decide +kernel)
theorem at_0_2606 : am_at (am_m 0) 2606 = some (.iaload, 0) := (am_L0_39 2606 (by decide)).trans (by decide +kernel)
theorem at_0_2607 : am_at (am_m 0) 2607 = some (.aload_n 0, 0) := (am_L0_39 2607 (by decide)).trans (by decide +kernel)
theorem at_0_2608 : am_at (am_m 0) 2608 = some (.iload 4, 0) := (am_L0_39 2608 (by decide)).trans (by decide +kernel)
theorem at_0_2610 : am_at (am_m 0) 2610 = some (.iconst 2, 0) := (am_L0_39 2610 (by decide)).trans (by decide +kernel)
theorem at_0_2611 : am_at (am_m 0) 2611 = some (.iadd, 0) := (am_L0_39 2611 (by decide)).trans (by decide +kernel)
theorem at_0_2612 : am_at (am_m 0) 2612 = some (.iaload, 0) := (am_L0_39 2612 (by decide)).trans (by decide +kernel)
theorem at_0_2613 : am_at (am_m 0) 2613 = some (.aload_n 3, 0) := (am_L0_39 2613 (by decide)).trans (by decide +kernel)
theorem at_0_2614 : am_at (am_m 0) 2614 = some (.invokestatic 316, 212) := (am_L0_39 2614 (by decide)).trans (by decide +kernel)
theorem at_0_2617 : am_at (am_m 0) 2617 = some (.istore 5, 0) := (am_L0_39 2617 (by decide)).trans (by decide +kernel)
theorem at_0_2619 : am_at (am_m 0) 2619 = some (.aload_n 2, 0) := (am_L0_39 2619 (by decide)).trans (by decide +kernel)
theorem at_0_2620 : am_at (am_m 0) 2620 = some (.aload_n 0, 0) := (am_L0_39 2620 (by decide)).trans (by decide +kernel)
theorem at_0_2621 : am_at (am_m 0) 2621 = some (.iload 4, 0) := (am_L0_39 2621 (by decide)).trans (by decide +kernel)
theorem at_0_2623 : am_at (am_m 0) 2623 = some (.iconst 1, 0) := (am_L0_39 2623 (by decide)).trans (by decide +kernel)
theorem at_0_2624 : am_at (am_m 0) 2624 = some (.iadd, 0) := (am_L0_39 2624 (by decide)).trans (by decide +kernel)
theorem at_0_2625 : am_at (am_m 0) 2625 = some (.iaload, 0) := (am_L0_39 2625 (by decide)).trans (by decide +kernel)
theorem at_0_2626 : am_at (am_m 0) 2626 = some (.aload_n 0, 0) := (am_L0_39 2626 (by decide)).trans (by decide +kernel)
theorem at_0_2627 : am_at (am_m 0) 2627 = some (.iload 4, 0) := (am_L0_39 2627 (by decide)).trans (by decide +kernel)
theorem at_0_2629 : am_at (am_m 0) 2629 = some (.iconst 2, 0) := (am_L0_39 2629 (by decide)).trans (by decide +kernel)
theorem at_0_2630 : am_at (am_m 0) 2630 = some (.iadd, 0) := (am_L0_39 2630 (by decide)).trans (by decide +kernel)
theorem at_0_2631 : am_at (am_m 0) 2631 = some (.iaload, 0) := (am_L0_39 2631 (by decide)).trans (by decide +kernel)
theorem at_0_2632 : am_at (am_m 0) 2632 = some (.invokevirtual 318, 500) := (am_L0_39 2632 (by decide)).trans (by decide +kernel)
theorem at_0_2635 : am_at (am_m 0) 2635 = some (.istore 6, 0) := (am_L0_39 2635 (by decide)).trans (by decide +kernel)
theorem at_0_2637 : am_at (am_m 0) 2637 = some (.aload_n 2, 0) := (am_L0_39 2637 (by decide)).trans (by decide +kernel)
theorem at_0_2638 : am_at (am_m 0) 2638 = some (.invokevirtual 202, 324) := (am_L0_39 2638 (by decide)).trans (by decide +kernel)
theorem at_0_2641 : am_at (am_m 0) 2641 = some (.iload 5, 0) := (am_L0_39 2641 (by decide)).trans (by decide +kernel)
theorem at_0_2643 : am_at (am_m 0) 2643 = some (.if_icmp .eq 5, 2648) := (am_L0_39 2643 (by decide)).trans (by decide +kernel)
theorem at_0_2646 : am_at (am_m 0) 2646 = some (.iconst 0, 0) := (am_L0_39 2646 (by decide)).trans (by decide +kernel)
theorem at_0_2647 : am_at (am_m 0) 2647 = some (.ireturn, 0) := (am_L0_39 2647 (by decide)).trans (by decide +kernel)
theorem at_0_2648 : am_at (am_m 0) 2648 = some (.iload 5, 0) := (am_L0_39 2648 (by decide)).trans (by decide +kernel)
theorem at_0_2650 : am_at (am_m 0) 2650 = some (.ifCond .ne 15, 2665) := (am_L0_39 2650 (by decide)).trans (by decide +kernel)
theorem at_0_2653 : am_at (am_m 0) 2653 = some (.aload_n 3, 0) := (am_L0_39 2653 (by decide)).trans (by decide +kernel)
theorem at_0_2654 : am_at (am_m 0) 2654 = some (.iconst 0, 0) := (am_L0_39 2654 (by decide)).trans (by decide +kernel)
theorem at_0_2655 : am_at (am_m 0) 2655 = some (.laload, 0) := (am_L0_39 2655 (by decide)).trans (by decide +kernel)
theorem at_0_2656 : am_at (am_m 0) 2656 = some (.iload 6, 0) := (am_L0_39 2656 (by decide)).trans (by decide +kernel)
theorem at_0_2658 : am_at (am_m 0) 2658 = some (.i2l, 0) := (am_L0_39 2658 (by decide)).trans (by decide +kernel)
theorem at_0_2659 : am_at (am_m 0) 2659 = some (.lcmp, 0) := (am_L0_39 2659 (by decide)).trans (by decide +kernel)
theorem at_0_2660 : am_at (am_m 0) 2660 = some (.ifCond .eq 5, 2665) := (am_L0_40 2660 (by decide)).trans (by decide +kernel)
theorem at_0_2663 : am_at (am_m 0) 2663 = some (.iconst 0, 0) := (am_L0_40 2663 (by decide)).trans (by decide +kernel)
theorem at_0_2664 : am_at (am_m 0) 2664 = some (.ireturn, 0) := (am_L0_40 2664 (by decide)).trans (by decide +kernel)
theorem at_0_2665 : am_at (am_m 0) 2665 = some (.goto 1527, 4192) := (am_L0_40 2665 (by decide)).trans (by decide +kernel)
theorem at_0_2668 : am_at (am_m 0) 2668 = some (.aload_n 1, 0) := (am_L0_40 2668 (by decide)).trans (by decide +kernel)
theorem at_0_2669 : am_at (am_m 0) 2669 = some (.aload_n 0, 0) := (am_L0_40 2669 (by decide)).trans (by decide +kernel)
theorem at_0_2670 : am_at (am_m 0) 2670 = some (.iload 4, 0) := (am_L0_40 2670 (by decide)).trans (by decide +kernel)
theorem at_0_2672 : am_at (am_m 0) 2672 = some (.iconst 1, 0) := (am_L0_40 2672 (by decide)).trans (by decide +kernel)
theorem at_0_2673 : am_at (am_m 0) 2673 = some (.iadd, 0) := (am_L0_40 2673 (by decide)).trans (by decide +kernel)
theorem at_0_2674 : am_at (am_m 0) 2674 = some (.iaload, 0) := (am_L0_40 2674 (by decide)).trans (by decide +kernel)
theorem at_0_2675 : am_at (am_m 0) 2675 = some (.aload_n 0, 0) := (am_L0_40 2675 (by decide)).trans (by decide +kernel)
theorem at_0_2676 : am_at (am_m 0) 2676 = some (.iload 4, 0) := (am_L0_40 2676 (by decide)).trans (by decide +kernel)
theorem at_0_2678 : am_at (am_m 0) 2678 = some (.iconst 2, 0) := (am_L0_40 2678 (by decide)).trans (by decide +kernel)
theorem at_0_2679 : am_at (am_m 0) 2679 = some (.iadd, 0) := (am_L0_40 2679 (by decide)).trans (by decide +kernel)
theorem at_0_2680 : am_at (am_m 0) 2680 = some (.iaload, 0) := (am_L0_40 2680 (by decide)).trans (by decide +kernel)
theorem at_0_2681 : am_at (am_m 0) 2681 = some (.aload_n 3, 0) := (am_L0_40 2681 (by decide)).trans (by decide +kernel)
theorem at_0_2682 : am_at (am_m 0) 2682 = some (.invokestatic 319, 215) := (am_L0_40 2682 (by decide)).trans (by decide +kernel)
theorem at_0_2685 : am_at (am_m 0) 2685 = some (.istore 5, 0) := (am_L0_40 2685 (by decide)).trans (by decide +kernel)
theorem at_0_2687 : am_at (am_m 0) 2687 = some (.aload_n 2, 0) := (am_L0_40 2687 (by decide)).trans (by decide +kernel)
theorem at_0_2688 : am_at (am_m 0) 2688 = some (.aload_n 0, 0) := (am_L0_40 2688 (by decide)).trans (by decide +kernel)
theorem at_0_2689 : am_at (am_m 0) 2689 = some (.iload 4, 0) := (am_L0_40 2689 (by decide)).trans (by decide +kernel)
theorem at_0_2691 : am_at (am_m 0) 2691 = some (.iconst 1, 0) := (am_L0_40 2691 (by decide)).trans (by decide +kernel)
theorem at_0_2692 : am_at (am_m 0) 2692 = some (.iadd, 0) := (am_L0_40 2692 (by decide)).trans (by decide +kernel)
theorem at_0_2693 : am_at (am_m 0) 2693 = some (.iaload, 0) := (am_L0_40 2693 (by decide)).trans (by decide +kernel)
theorem at_0_2694 : am_at (am_m 0) 2694 = some (.aload_n 0, 0) := (am_L0_40 2694 (by decide)).trans (by decide +kernel)
theorem at_0_2695 : am_at (am_m 0) 2695 = some (.iload 4, 0) := (am_L0_40 2695 (by decide)).trans (by decide +kernel)
theorem at_0_2697 : am_at (am_m 0) 2697 = some (.iconst 2, 0) := (am_L0_40 2697 (by decide)).trans (by decide +kernel)
theorem at_0_2698 : am_at (am_m 0) 2698 = some (.iadd, 0) := (am_L0_40 2698 (by decide)).trans (by decide +kernel)
theorem at_0_2699 : am_at (am_m 0) 2699 = some (.iaload, 0) := (am_L0_40 2699 (by decide)).trans (by decide +kernel)
theorem at_0_2700 : am_at (am_m 0) 2700 = some (.invokevirtual 321, 502) := (am_L0_40 2700 (by decide)).trans (by decide +kernel)
theorem at_0_2703 : am_at (am_m 0) 2703 = some (.istore 6, 0) := (am_L0_40 2703 (by decide)).trans (by decide +kernel)
theorem at_0_2705 : am_at (am_m 0) 2705 = some (.aload_n 2, 0) := (am_L0_40 2705 (by decide)).trans (by decide +kernel)
theorem at_0_2706 : am_at (am_m 0) 2706 = some (.invokevirtual 202, 324) := (am_L0_40 2706 (by decide)).trans (by decide +kernel)
theorem at_0_2709 : am_at (am_m 0) 2709 = some (.iload 5, 0) := (am_L0_40 2709 (by decide)).trans (by decide +kernel)
theorem at_0_2711 : am_at (am_m 0) 2711 = some (.if_icmp .eq 5, 2716) := (am_L0_40 2711 (by decide)).trans (by decide +kernel)
theorem at_0_2714 : am_at (am_m 0) 2714 = some (.iconst 0, 0) := (am_L0_40 2714 (by decide)).trans (by decide +kernel)
theorem at_0_2715 : am_at (am_m 0) 2715 = some (.ireturn, 0) := (am_L0_40 2715 (by decide)).trans (by decide +kernel)
theorem at_0_2716 : am_at (am_m 0) 2716 = some (.iload 5, 0) := (am_L0_40 2716 (by decide)).trans (by decide +kernel)
theorem at_0_2718 : am_at (am_m 0) 2718 = some (.ifCond .ne 15, 2733) := (am_L0_40 2718 (by decide)).trans (by decide +kernel)
theorem at_0_2721 : am_at (am_m 0) 2721 = some (.aload_n 3, 0) := (am_L0_40 2721 (by decide)).trans (by decide +kernel)
theorem at_0_2722 : am_at (am_m 0) 2722 = some (.iconst 0, 0) := (am_L0_41 2722 (by decide)).trans (by decide +kernel)
theorem at_0_2723 : am_at (am_m 0) 2723 = some (.laload, 0) := (am_L0_41 2723 (by decide)).trans (by decide +kernel)
theorem at_0_2724 : am_at (am_m 0) 2724 = some (.iload 6, 0) := (am_L0_41 2724 (by decide)).trans (by decide +kernel)
theorem at_0_2726 : am_at (am_m 0) 2726 = some (.i2l, 0) := (am_L0_41 2726 (by decide)).trans (by decide +kernel)
theorem at_0_2727 : am_at (am_m 0) 2727 = some (.lcmp, 0) := (am_L0_41 2727 (by decide)).trans (by decide +kernel)
theorem at_0_2728 : am_at (am_m 0) 2728 = some (.ifCond .eq 5, 2733) := (am_L0_41 2728 (by decide)).trans (by decide +kernel)
theorem at_0_2731 : am_at (am_m 0) 2731 = some (.iconst 0, 0) := (am_L0_41 2731 (by decide)).trans (by decide +kernel)
theorem at_0_2732 : am_at (am_m 0) 2732 = some (.ireturn, 0) := (am_L0_41 2732 (by decide)).trans (by decide +kernel)
theorem at_0_2733 : am_at (am_m 0) 2733 = some (.goto 1459, 4192) := (am_L0_41 2733 (by decide)).trans (by decide +kernel)
theorem at_0_2736 : am_at (am_m 0) 2736 = some (.aload_n 1, 0) := (am_L0_41 2736 (by decide)).trans (by decide +kernel)
theorem at_0_2737 : am_at (am_m 0) 2737 = some (.aload_n 0, 0) := (am_L0_41 2737 (by decide)).trans (by decide +kernel)
theorem at_0_2738 : am_at (am_m 0) 2738 = some (.iload 4, 0) := (am_L0_41 2738 (by decide)).trans (by decide +kernel)
theorem at_0_2740 : am_at (am_m 0) 2740 = some (.iconst 1, 0) := (am_L0_41 2740 (by decide)).trans (by decide +kernel)
theorem at_0_2741 : am_at (am_m 0) 2741 = some (.iadd, 0) := (am_L0_41 2741 (by decide)).trans (by decide +kernel)
theorem at_0_2742 : am_at (am_m 0) 2742 = some (.iaload, 0) := (am_L0_41 2742 (by decide)).trans (by decide +kernel)
theorem at_0_2743 : am_at (am_m 0) 2743 = some (.aload_n 0, 0) := (am_L0_41 2743 (by decide)).trans (by decide +kernel)
theorem at_0_2744 : am_at (am_m 0) 2744 = some (.iload 4, 0) := (am_L0_41 2744 (by decide)).trans (by decide +kernel)
theorem at_0_2746 : am_at (am_m 0) 2746 = some (.iconst 2, 0) := (am_L0_41 2746 (by decide)).trans (by decide +kernel)
theorem at_0_2747 : am_at (am_m 0) 2747 = some (.iadd, 0) := (am_L0_41 2747 (by decide)).trans (by decide +kernel)
theorem at_0_2748 : am_at (am_m 0) 2748 = some (.iaload, 0) := (am_L0_41 2748 (by decide)).trans (by decide +kernel)
theorem at_0_2749 : am_at (am_m 0) 2749 = some (.aload_n 3, 0) := (am_L0_41 2749 (by decide)).trans (by decide +kernel)
theorem at_0_2750 : am_at (am_m 0) 2750 = some (.invokestatic 322, 231) := (am_L0_41 2750 (by decide)).trans (by decide +kernel)
theorem at_0_2753 : am_at (am_m 0) 2753 = some (.istore 5, 0) := (am_L0_41 2753 (by decide)).trans (by decide +kernel)
theorem at_0_2755 : am_at (am_m 0) 2755 = some (.aload_n 2, 0) := (am_L0_41 2755 (by decide)).trans (by decide +kernel)
theorem at_0_2756 : am_at (am_m 0) 2756 = some (.aload_n 0, 0) := (am_L0_41 2756 (by decide)).trans (by decide +kernel)
theorem at_0_2757 : am_at (am_m 0) 2757 = some (.iload 4, 0) := (am_L0_41 2757 (by decide)).trans (by decide +kernel)
theorem at_0_2759 : am_at (am_m 0) 2759 = some (.iconst 1, 0) := (am_L0_41 2759 (by decide)).trans (by decide +kernel)
theorem at_0_2760 : am_at (am_m 0) 2760 = some (.iadd, 0) := (am_L0_41 2760 (by decide)).trans (by decide +kernel)
theorem at_0_2761 : am_at (am_m 0) 2761 = some (.iaload, 0) := (am_L0_41 2761 (by decide)).trans (by decide +kernel)
theorem at_0_2762 : am_at (am_m 0) 2762 = some (.aload_n 0, 0) := (am_L0_41 2762 (by decide)).trans (by decide +kernel)
theorem at_0_2763 : am_at (am_m 0) 2763 = some (.iload 4, 0) := (am_L0_41 2763 (by decide)).trans (by decide +kernel)
theorem at_0_2765 : am_at (am_m 0) 2765 = some (.iconst 2, 0) := (am_L0_41 2765 (by decide)).trans (by decide +kernel)
theorem at_0_2766 : am_at (am_m 0) 2766 = some (.iadd, 0) := (am_L0_41 2766 (by decide)).trans (by decide +kernel)
theorem at_0_2767 : am_at (am_m 0) 2767 = some (.iaload, 0) := (am_L0_41 2767 (by decide)).trans (by decide +kernel)
theorem at_0_2768 : am_at (am_m 0) 2768 = some (.invokevirtual 324, 518) := (am_L0_41 2768 (by decide)).trans (by decide +kernel)
theorem at_0_2771 : am_at (am_m 0) 2771 = some (.istore 6, 0) := (am_L0_41 2771 (by decide)).trans (by decide +kernel)
theorem at_0_2773 : am_at (am_m 0) 2773 = some (.aload_n 2, 0) := (am_L0_41 2773 (by decide)).trans (by decide +kernel)
theorem at_0_2774 : am_at (am_m 0) 2774 = some (.invokevirtual 202, 324) := (am_L0_41 2774 (by decide)).trans (by decide +kernel)
theorem at_0_2777 : am_at (am_m 0) 2777 = some (.iload 5, 0) := (am_L0_41 2777 (by decide)).trans (by decide +kernel)
theorem at_0_2779 : am_at (am_m 0) 2779 = some (.if_icmp .eq 5, 2784) := (am_L0_41 2779 (by decide)).trans (by decide +kernel)
theorem at_0_2782 : am_at (am_m 0) 2782 = some (.iconst 0, 0) := (am_L0_42 2782 (by decide)).trans (by decide +kernel)
theorem at_0_2783 : am_at (am_m 0) 2783 = some (.ireturn, 0) := (am_L0_42 2783 (by decide)).trans (by decide +kernel)
theorem at_0_2784 : am_at (am_m 0) 2784 = some (.iload 5, 0) := (am_L0_42 2784 (by decide)).trans (by decide +kernel)
theorem at_0_2786 : am_at (am_m 0) 2786 = some (.ifCond .ne 22, 2808) := (am_L0_42 2786 (by decide)).trans (by decide +kernel)
theorem at_0_2789 : am_at (am_m 0) 2789 = some (.aload_n 3, 0) := (am_L0_42 2789 (by decide)).trans (by decide +kernel)
theorem at_0_2790 : am_at (am_m 0) 2790 = some (.iconst 0, 0) := (am_L0_42 2790 (by decide)).trans (by decide +kernel)
theorem at_0_2791 : am_at (am_m 0) 2791 = some (.laload, 0) := (am_L0_42 2791 (by decide)).trans (by decide +kernel)
theorem at_0_2792 : am_at (am_m 0) 2792 = some (.iload 6, 0) := (am_L0_42 2792 (by decide)).trans (by decide +kernel)
theorem at_0_2794 : am_at (am_m 0) 2794 = some (.ifCond .eq 7, 2801) := (am_L0_42 2794 (by decide)).trans (by decide +kernel)
theorem at_0_2797 : am_at (am_m 0) 2797 = some (.lconst 1, 0) := (am_L0_42 2797 (by decide)).trans (by decide +kernel)
theorem at_0_2798 : am_at (am_m 0) 2798 = some (.goto 4, 2802) := (am_L0_42 2798 (by decide)).trans (by decide +kernel)
theorem at_0_2801 : am_at (am_m 0) 2801 = some (.lconst 0, 0) := (am_L0_42 2801 (by decide)).trans (by decide +kernel)
theorem at_0_2802 : am_at (am_m 0) 2802 = some (.lcmp, 0) := (am_L0_42 2802 (by decide)).trans (by decide +kernel)
theorem at_0_2803 : am_at (am_m 0) 2803 = some (.ifCond .eq 5, 2808) := (am_L0_42 2803 (by decide)).trans (by decide +kernel)
theorem at_0_2806 : am_at (am_m 0) 2806 = some (.iconst 0, 0) := (am_L0_42 2806 (by decide)).trans (by decide +kernel)
theorem at_0_2807 : am_at (am_m 0) 2807 = some (.ireturn, 0) := (am_L0_42 2807 (by decide)).trans (by decide +kernel)
theorem at_0_2808 : am_at (am_m 0) 2808 = some (.goto 1384, 4192) := (am_L0_42 2808 (by decide)).trans (by decide +kernel)
theorem at_0_2811 : am_at (am_m 0) 2811 = some (.aload_n 1, 0) := (am_L0_42 2811 (by decide)).trans (by decide +kernel)
theorem at_0_2812 : am_at (am_m 0) 2812 = some (.aload_n 0, 0) := (am_L0_42 2812 (by decide)).trans (by decide +kernel)
theorem at_0_2813 : am_at (am_m 0) 2813 = some (.iload 4, 0) := (am_L0_42 2813 (by decide)).trans (by decide +kernel)
theorem at_0_2815 : am_at (am_m 0) 2815 = some (.iconst 1, 0) := (am_L0_42 2815 (by decide)).trans (by decide +kernel)
theorem at_0_2816 : am_at (am_m 0) 2816 = some (.iadd, 0) := (am_L0_42 2816 (by decide)).trans (by decide +kernel)
theorem at_0_2817 : am_at (am_m 0) 2817 = some (.iaload, 0) := (am_L0_42 2817 (by decide)).trans (by decide +kernel)
theorem at_0_2818 : am_at (am_m 0) 2818 = some (.aload_n 3, 0) := (am_L0_42 2818 (by decide)).trans (by decide +kernel)
theorem at_0_2819 : am_at (am_m 0) 2819 = some (.invokestatic 325, 234) := (am_L0_42 2819 (by decide)).trans (by decide +kernel)
theorem at_0_2822 : am_at (am_m 0) 2822 = some (.istore 5, 0) := (am_L0_42 2822 (by decide)).trans (by decide +kernel)
theorem at_0_2824 : am_at (am_m 0) 2824 = some (.aload_n 2, 0) := (am_L0_42 2824 (by decide)).trans (by decide +kernel)
theorem at_0_2825 : am_at (am_m 0) 2825 = some (.aload_n 0, 0) := (am_L0_42 2825 (by decide)).trans (by decide +kernel)
theorem at_0_2826 : am_at (am_m 0) 2826 = some (.iload 4, 0) := (am_L0_42 2826 (by decide)).trans (by decide +kernel)
theorem at_0_2828 : am_at (am_m 0) 2828 = some (.iconst 1, 0) := (am_L0_42 2828 (by decide)).trans (by decide +kernel)
theorem at_0_2829 : am_at (am_m 0) 2829 = some (.iadd, 0) := (am_L0_42 2829 (by decide)).trans (by decide +kernel)
theorem at_0_2830 : am_at (am_m 0) 2830 = some (.iaload, 0) := (am_L0_42 2830 (by decide)).trans (by decide +kernel)
theorem at_0_2831 : am_at (am_m 0) 2831 = some (.invokevirtual 327, 519) := (am_L0_42 2831 (by decide)).trans (by decide +kernel)
theorem at_0_2834 : am_at (am_m 0) 2834 = some (.istore 6, 0) := (am_L0_42 2834 (by decide)).trans (by decide +kernel)
theorem at_0_2836 : am_at (am_m 0) 2836 = some (.aload_n 2, 0) := (am_L0_42 2836 (by decide)).trans (by decide +kernel)
theorem at_0_2837 : am_at (am_m 0) 2837 = some (.invokevirtual 202, 324) := (am_L0_42 2837 (by decide)).trans (by decide +kernel)
theorem at_0_2840 : am_at (am_m 0) 2840 = some (.iload 5, 0) := (am_L0_42 2840 (by decide)).trans (by decide +kernel)
theorem at_0_2842 : am_at (am_m 0) 2842 = some (.if_icmp .eq 5, 2847) := (am_L0_42 2842 (by decide)).trans (by decide +kernel)
theorem at_0_2845 : am_at (am_m 0) 2845 = some (.iconst 0, 0) := (am_L0_42 2845 (by decide)).trans (by decide +kernel)
theorem at_0_2846 : am_at (am_m 0) 2846 = some (.ireturn, 0) := (am_L0_42 2846 (by decide)).trans (by decide +kernel)
theorem at_0_2847 : am_at (am_m 0) 2847 = some (.iload 5, 0) := (am_L0_43 2847 (by decide)).trans (by decide +kernel)
theorem at_0_2849 : am_at (am_m 0) 2849 = some (.ifCond .ne 15, 2864) := (am_L0_43 2849 (by decide)).trans (by decide +kernel)
theorem at_0_2852 : am_at (am_m 0) 2852 = some (.aload_n 3, 0) := (am_L0_43 2852 (by decide)).trans (by decide +kernel)
theorem at_0_2853 : am_at (am_m 0) 2853 = some (.iconst 0, 0) := (am_L0_43 2853 (by decide)).trans (by decide +kernel)
theorem at_0_2854 : am_at (am_m 0) 2854 = some (.laload, 0) := (am_L0_43 2854 (by decide)).trans (by decide +kernel)
theorem at_0_2855 : am_at (am_m 0) 2855 = some (.iload 6, 0) := (am_L0_43 2855 (by decide)).trans (by decide +kernel)
theorem at_0_2857 : am_at (am_m 0) 2857 = some (.i2l, 0) := (am_L0_43 2857 (by decide)).trans (by decide +kernel)
theorem at_0_2858 : am_at (am_m 0) 2858 = some (.lcmp, 0) := (am_L0_43 2858 (by decide)).trans (by decide +kernel)
theorem at_0_2859 : am_at (am_m 0) 2859 = some (.ifCond .eq 5, 2864) := (am_L0_43 2859 (by decide)).trans (by decide +kernel)
theorem at_0_2862 : am_at (am_m 0) 2862 = some (.iconst 0, 0) := (am_L0_43 2862 (by decide)).trans (by decide +kernel)
theorem at_0_2863 : am_at (am_m 0) 2863 = some (.ireturn, 0) := (am_L0_43 2863 (by decide)).trans (by decide +kernel)
theorem at_0_2864 : am_at (am_m 0) 2864 = some (.goto 1328, 4192) := (am_L0_43 2864 (by decide)).trans (by decide +kernel)
theorem at_0_2867 : am_at (am_m 0) 2867 = some (.aload_n 1, 0) := (am_L0_43 2867 (by decide)).trans (by decide +kernel)
theorem at_0_2868 : am_at (am_m 0) 2868 = some (.aload_n 0, 0) := (am_L0_43 2868 (by decide)).trans (by decide +kernel)
theorem at_0_2869 : am_at (am_m 0) 2869 = some (.iload 4, 0) := (am_L0_43 2869 (by decide)).trans (by decide +kernel)
theorem at_0_2871 : am_at (am_m 0) 2871 = some (.iconst 1, 0) := (am_L0_43 2871 (by decide)).trans (by decide +kernel)
theorem at_0_2872 : am_at (am_m 0) 2872 = some (.iadd, 0) := (am_L0_43 2872 (by decide)).trans (by decide +kernel)
theorem at_0_2873 : am_at (am_m 0) 2873 = some (.iaload, 0) := (am_L0_43 2873 (by decide)).trans (by decide +kernel)
theorem at_0_2874 : am_at (am_m 0) 2874 = some (.aload_n 0, 0) := (am_L0_43 2874 (by decide)).trans (by decide +kernel)
theorem at_0_2875 : am_at (am_m 0) 2875 = some (.iload 4, 0) := (am_L0_43 2875 (by decide)).trans (by decide +kernel)
theorem at_0_2877 : am_at (am_m 0) 2877 = some (.iconst 2, 0) := (am_L0_43 2877 (by decide)).trans (by decide +kernel)
theorem at_0_2878 : am_at (am_m 0) 2878 = some (.iadd, 0) := (am_L0_43 2878 (by decide)).trans (by decide +kernel)
theorem at_0_2879 : am_at (am_m 0) 2879 = some (.iaload, 0) := (am_L0_43 2879 (by decide)).trans (by decide +kernel)
theorem at_0_2880 : am_at (am_m 0) 2880 = some (.aload_n 3, 0) := (am_L0_43 2880 (by decide)).trans (by decide +kernel)
theorem at_0_2881 : am_at (am_m 0) 2881 = some (.invokestatic 328, 236) := (am_L0_43 2881 (by decide)).trans (by decide +kernel)
theorem at_0_2884 : am_at (am_m 0) 2884 = some (.istore 5, 0) := (am_L0_43 2884 (by decide)).trans (by decide +kernel)
theorem at_0_2886 : am_at (am_m 0) 2886 = some (.aload_n 2, 0) := (am_L0_43 2886 (by decide)).trans (by decide +kernel)
theorem at_0_2887 : am_at (am_m 0) 2887 = some (.aload_n 0, 0) := (am_L0_43 2887 (by decide)).trans (by decide +kernel)
theorem at_0_2888 : am_at (am_m 0) 2888 = some (.iload 4, 0) := (am_L0_43 2888 (by decide)).trans (by decide +kernel)
theorem at_0_2890 : am_at (am_m 0) 2890 = some (.iconst 1, 0) := (am_L0_43 2890 (by decide)).trans (by decide +kernel)
theorem at_0_2891 : am_at (am_m 0) 2891 = some (.iadd, 0) := (am_L0_43 2891 (by decide)).trans (by decide +kernel)
theorem at_0_2892 : am_at (am_m 0) 2892 = some (.iaload, 0) := (am_L0_43 2892 (by decide)).trans (by decide +kernel)
theorem at_0_2893 : am_at (am_m 0) 2893 = some (.aload_n 0, 0) := (am_L0_43 2893 (by decide)).trans (by decide +kernel)
theorem at_0_2894 : am_at (am_m 0) 2894 = some (.iload 4, 0) := (am_L0_43 2894 (by decide)).trans (by decide +kernel)
theorem at_0_2896 : am_at (am_m 0) 2896 = some (.iconst 2, 0) := (am_L0_43 2896 (by decide)).trans (by decide +kernel)
theorem at_0_2897 : am_at (am_m 0) 2897 = some (.iadd, 0) := (am_L0_43 2897 (by decide)).trans (by decide +kernel)
theorem at_0_2898 : am_at (am_m 0) 2898 = some (.iaload, 0) := (am_L0_43 2898 (by decide)).trans (by decide +kernel)
theorem at_0_2899 : am_at (am_m 0) 2899 = some (.invokevirtual 330, 520) := (am_L0_43 2899 (by decide)).trans (by decide +kernel)
theorem at_0_2902 : am_at (am_m 0) 2902 = some (.istore 6, 0) := (am_L0_43 2902 (by decide)).trans (by decide +kernel)
theorem at_0_2904 : am_at (am_m 0) 2904 = some (.aload_n 2, 0) := (am_L0_43 2904 (by decide)).trans (by decide +kernel)
theorem at_0_2905 : am_at (am_m 0) 2905 = some (.invokevirtual 202, 324) := (am_L0_44 2905 (by decide)).trans (by decide +kernel)
theorem at_0_2908 : am_at (am_m 0) 2908 = some (.iload 5, 0) := (am_L0_44 2908 (by decide)).trans (by decide +kernel)
theorem at_0_2910 : am_at (am_m 0) 2910 = some (.if_icmp .eq 5, 2915) := (am_L0_44 2910 (by decide)).trans (by decide +kernel)
theorem at_0_2913 : am_at (am_m 0) 2913 = some (.iconst 0, 0) := (am_L0_44 2913 (by decide)).trans (by decide +kernel)
theorem at_0_2914 : am_at (am_m 0) 2914 = some (.ireturn, 0) := (am_L0_44 2914 (by decide)).trans (by decide +kernel)
theorem at_0_2915 : am_at (am_m 0) 2915 = some (.iload 5, 0) := (am_L0_44 2915 (by decide)).trans (by decide +kernel)
theorem at_0_2917 : am_at (am_m 0) 2917 = some (.ifCond .ne 15, 2932) := (am_L0_44 2917 (by decide)).trans (by decide +kernel)
theorem at_0_2920 : am_at (am_m 0) 2920 = some (.aload_n 3, 0) := (am_L0_44 2920 (by decide)).trans (by decide +kernel)
theorem at_0_2921 : am_at (am_m 0) 2921 = some (.iconst 0, 0) := (am_L0_44 2921 (by decide)).trans (by decide +kernel)
theorem at_0_2922 : am_at (am_m 0) 2922 = some (.laload, 0) := (am_L0_44 2922 (by decide)).trans (by decide +kernel)
theorem at_0_2923 : am_at (am_m 0) 2923 = some (.iload 6, 0) := (am_L0_44 2923 (by decide)).trans (by decide +kernel)
theorem at_0_2925 : am_at (am_m 0) 2925 = some (.i2l, 0) := (am_L0_44 2925 (by decide)).trans (by decide +kernel)
theorem at_0_2926 : am_at (am_m 0) 2926 = some (.lcmp, 0) := (am_L0_44 2926 (by decide)).trans (by decide +kernel)
theorem at_0_2927 : am_at (am_m 0) 2927 = some (.ifCond .eq 5, 2932) := (am_L0_44 2927 (by decide)).trans (by decide +kernel)
theorem at_0_2930 : am_at (am_m 0) 2930 = some (.iconst 0, 0) := (am_L0_44 2930 (by decide)).trans (by decide +kernel)
theorem at_0_2931 : am_at (am_m 0) 2931 = some (.ireturn, 0) := (am_L0_44 2931 (by decide)).trans (by decide +kernel)
theorem at_0_2932 : am_at (am_m 0) 2932 = some (.goto 1260, 4192) := (am_L0_44 2932 (by decide)).trans (by decide +kernel)
theorem at_0_2935 : am_at (am_m 0) 2935 = some (.aload_n 1, 0) := (am_L0_44 2935 (by decide)).trans (by decide +kernel)
theorem at_0_2936 : am_at (am_m 0) 2936 = some (.aload_n 0, 0) := (am_L0_44 2936 (by decide)).trans (by decide +kernel)
theorem at_0_2937 : am_at (am_m 0) 2937 = some (.iload 4, 0) := (am_L0_44 2937 (by decide)).trans (by decide +kernel)
theorem at_0_2939 : am_at (am_m 0) 2939 = some (.iconst 1, 0) := (am_L0_44 2939 (by decide)).trans (by decide +kernel)
theorem at_0_2940 : am_at (am_m 0) 2940 = some (.iadd, 0) := (am_L0_44 2940 (by decide)).trans (by decide +kernel)
theorem at_0_2941 : am_at (am_m 0) 2941 = some (.iaload, 0) := (am_L0_44 2941 (by decide)).trans (by decide +kernel)
theorem at_0_2942 : am_at (am_m 0) 2942 = some (.aload_n 0, 0) := (am_L0_44 2942 (by decide)).trans (by decide +kernel)
theorem at_0_2943 : am_at (am_m 0) 2943 = some (.iload 4, 0) := (am_L0_44 2943 (by decide)).trans (by decide +kernel)
theorem at_0_2945 : am_at (am_m 0) 2945 = some (.iconst 2, 0) := (am_L0_44 2945 (by decide)).trans (by decide +kernel)
theorem at_0_2946 : am_at (am_m 0) 2946 = some (.iadd, 0) := (am_L0_44 2946 (by decide)).trans (by decide +kernel)
theorem at_0_2947 : am_at (am_m 0) 2947 = some (.iaload, 0) := (am_L0_44 2947 (by decide)).trans (by decide +kernel)
theorem at_0_2948 : am_at (am_m 0) 2948 = some (.aload_n 0, 0) := (am_L0_44 2948 (by decide)).trans (by decide +kernel)
theorem at_0_2949 : am_at (am_m 0) 2949 = some (.iload 4, 0) := (am_L0_44 2949 (by decide)).trans (by decide +kernel)
theorem at_0_2951 : am_at (am_m 0) 2951 = some (.iconst 3, 0) := (am_L0_44 2951 (by decide)).trans (by decide +kernel)
theorem at_0_2952 : am_at (am_m 0) 2952 = some (.iadd, 0) := (am_L0_44 2952 (by decide)).trans (by decide +kernel)
theorem at_0_2953 : am_at (am_m 0) 2953 = some (.iaload, 0) := (am_L0_44 2953 (by decide)).trans (by decide +kernel)
theorem at_0_2954 : am_at (am_m 0) 2954 = some (.aload_n 3, 0) := (am_L0_44 2954 (by decide)).trans (by decide +kernel)
theorem at_0_2955 : am_at (am_m 0) 2955 = some (.invokestatic 331, 238) := (am_L0_44 2955 (by decide)).trans (by decide +kernel)
theorem at_0_2958 : am_at (am_m 0) 2958 = some (.istore 5, 0) := (am_L0_44 2958 (by decide)).trans (by decide +kernel)
theorem at_0_2960 : am_at (am_m 0) 2960 = some (.aload_n 2, 0) := (am_L0_44 2960 (by decide)).trans (by decide +kernel)
theorem at_0_2961 : am_at (am_m 0) 2961 = some (.aload_n 0, 0) := (am_L0_44 2961 (by decide)).trans (by decide +kernel)
theorem at_0_2962 : am_at (am_m 0) 2962 = some (.iload 4, 0) := (am_L0_44 2962 (by decide)).trans (by decide +kernel)
theorem at_0_2964 : am_at (am_m 0) 2964 = some (.iconst 1, 0) := (am_L0_44 2964 (by decide)).trans (by decide +kernel)
theorem at_0_2965 : am_at (am_m 0) 2965 = some (.iadd, 0) := (am_L0_45 2965 (by decide)).trans (by decide +kernel)
theorem at_0_2966 : am_at (am_m 0) 2966 = some (.iaload, 0) := (am_L0_45 2966 (by decide)).trans (by decide +kernel)
theorem at_0_2967 : am_at (am_m 0) 2967 = some (.aload_n 0, 0) := (am_L0_45 2967 (by decide)).trans (by decide +kernel)
theorem at_0_2968 : am_at (am_m 0) 2968 = some (.iload 4, 0) := (am_L0_45 2968 (by decide)).trans (by decide +kernel)
theorem at_0_2970 : am_at (am_m 0) 2970 = some (.iconst 2, 0) := (am_L0_45 2970 (by decide)).trans (by decide +kernel)
theorem at_0_2971 : am_at (am_m 0) 2971 = some (.iadd, 0) := (am_L0_45 2971 (by decide)).trans (by decide +kernel)
theorem at_0_2972 : am_at (am_m 0) 2972 = some (.iaload, 0) := (am_L0_45 2972 (by decide)).trans (by decide +kernel)
theorem at_0_2973 : am_at (am_m 0) 2973 = some (.aload_n 0, 0) := (am_L0_45 2973 (by decide)).trans (by decide +kernel)
theorem at_0_2974 : am_at (am_m 0) 2974 = some (.iload 4, 0) := (am_L0_45 2974 (by decide)).trans (by decide +kernel)
theorem at_0_2976 : am_at (am_m 0) 2976 = some (.iconst 3, 0) := (am_L0_45 2976 (by decide)).trans (by decide +kernel)
theorem at_0_2977 : am_at (am_m 0) 2977 = some (.iadd, 0) := (am_L0_45 2977 (by decide)).trans (by decide +kernel)
theorem at_0_2978 : am_at (am_m 0) 2978 = some (.iaload, 0) := (am_L0_45 2978 (by decide)).trans (by decide +kernel)
theorem at_0_2979 : am_at (am_m 0) 2979 = some (.invokevirtual 333, 521) := (am_L0_45 2979 (by decide)).trans (by decide +kernel)
theorem at_0_2982 : am_at (am_m 0) 2982 = some (.istore 6, 0) := (am_L0_45 2982 (by decide)).trans (by decide +kernel)
theorem at_0_2984 : am_at (am_m 0) 2984 = some (.aload_n 2, 0) := (am_L0_45 2984 (by decide)).trans (by decide +kernel)
theorem at_0_2985 : am_at (am_m 0) 2985 = some (.invokevirtual 202, 324) := (am_L0_45 2985 (by decide)).trans (by decide +kernel)
theorem at_0_2988 : am_at (am_m 0) 2988 = some (.iload 5, 0) := (am_L0_45 2988 (by decide)).trans (by decide +kernel)
theorem at_0_2990 : am_at (am_m 0) 2990 = some (.if_icmp .eq 5, 2995) := (am_L0_45 2990 (by decide)).trans (by decide +kernel)
theorem at_0_2993 : am_at (am_m 0) 2993 = some (.iconst 0, 0) := (am_L0_45 2993 (by decide)).trans (by decide +kernel)
theorem at_0_2994 : am_at (am_m 0) 2994 = some (.ireturn, 0) := (am_L0_45 2994 (by decide)).trans (by decide +kernel)
theorem at_0_2995 : am_at (am_m 0) 2995 = some (.iload 5, 0) := (am_L0_45 2995 (by decide)).trans (by decide +kernel)
theorem at_0_2997 : am_at (am_m 0) 2997 = some (.ifCond .ne 15, 3012) := (am_L0_45 2997 (by decide)).trans (by decide +kernel)
theorem at_0_3000 : am_at (am_m 0) 3000 = some (.aload_n 3, 0) := (am_L0_45 3000 (by decide)).trans (by decide +kernel)
theorem at_0_3001 : am_at (am_m 0) 3001 = some (.iconst 0, 0) := (am_L0_45 3001 (by decide)).trans (by decide +kernel)
theorem at_0_3002 : am_at (am_m 0) 3002 = some (.laload, 0) := (am_L0_45 3002 (by decide)).trans (by decide +kernel)
theorem at_0_3003 : am_at (am_m 0) 3003 = some (.iload 6, 0) := (am_L0_45 3003 (by decide)).trans (by decide +kernel)
theorem at_0_3005 : am_at (am_m 0) 3005 = some (.i2l, 0) := (am_L0_45 3005 (by decide)).trans (by decide +kernel)
theorem at_0_3006 : am_at (am_m 0) 3006 = some (.lcmp, 0) := (am_L0_45 3006 (by decide)).trans (by decide +kernel)
theorem at_0_3007 : am_at (am_m 0) 3007 = some (.ifCond .eq 5, 3012) := (am_L0_45 3007 (by decide)).trans (by decide +kernel)
theorem at_0_3010 : am_at (am_m 0) 3010 = some (.iconst 0, 0) := (am_L0_45 3010 (by decide)).trans (by decide +kernel)
theorem at_0_3011 : am_at (am_m 0) 3011 = some (.ireturn, 0) := (am_L0_45 3011 (by decide)).trans (by decide +kernel)
theorem at_0_3012 : am_at (am_m 0) 3012 = some (.goto 1180, 4192) := (am_L0_45 3012 (by decide)).trans (by decide +kernel)
theorem at_0_3015 : am_at (am_m 0) 3015 = some (.aload_n 1, 0) := (am_L0_45 3015 (by decide)).trans (by decide +kernel)
theorem at_0_3016 : am_at (am_m 0) 3016 = some (.aload_n 0, 0) := (am_L0_45 3016 (by decide)).trans (by decide +kernel)
theorem at_0_3017 : am_at (am_m 0) 3017 = some (.iload 4, 0) := (am_L0_45 3017 (by decide)).trans (by decide +kernel)
theorem at_0_3019 : am_at (am_m 0) 3019 = some (.iconst 1, 0) := (am_L0_45 3019 (by decide)).trans (by decide +kernel)
theorem at_0_3020 : am_at (am_m 0) 3020 = some (.iadd, 0) := (am_L0_45 3020 (by decide)).trans (by decide +kernel)
theorem at_0_3021 : am_at (am_m 0) 3021 = some (.iaload, 0) := (am_L0_45 3021 (by decide)).trans (by decide +kernel)
theorem at_0_3022 : am_at (am_m 0) 3022 = some (.aload_n 0, 0) := (am_L0_45 3022 (by decide)).trans (by decide +kernel)
theorem at_0_3023 : am_at (am_m 0) 3023 = some (.iload 4, 0) := (am_L0_45 3023 (by decide)).trans (by decide +kernel)
theorem at_0_3025 : am_at (am_m 0) 3025 = some (.iconst 2, 0) := (am_L0_46 3025 (by decide)).trans (by decide +kernel)
theorem at_0_3026 : am_at (am_m 0) 3026 = some (.iadd, 0) := (am_L0_46 3026 (by decide)).trans (by decide +kernel)
theorem at_0_3027 : am_at (am_m 0) 3027 = some (.iaload, 0) := (am_L0_46 3027 (by decide)).trans (by decide +kernel)
theorem at_0_3028 : am_at (am_m 0) 3028 = some (.aload_n 3, 0) := (am_L0_46 3028 (by decide)).trans (by decide +kernel)
theorem at_0_3029 : am_at (am_m 0) 3029 = some (.invokestatic 334, 244) := (am_L0_46 3029 (by decide)).trans (by decide +kernel)
theorem at_0_3032 : am_at (am_m 0) 3032 = some (.istore 5, 0) := (am_L0_46 3032 (by decide)).trans (by decide +kernel)
theorem at_0_3034 : am_at (am_m 0) 3034 = some (.aload_n 2, 0) := (am_L0_46 3034 (by decide)).trans (by decide +kernel)
theorem at_0_3035 : am_at (am_m 0) 3035 = some (.aload_n 0, 0) := (am_L0_46 3035 (by decide)).trans (by decide +kernel)
theorem at_0_3036 : am_at (am_m 0) 3036 = some (.iload 4, 0) := (am_L0_46 3036 (by decide)).trans (by decide +kernel)
theorem at_0_3038 : am_at (am_m 0) 3038 = some (.iconst 1, 0) := (am_L0_46 3038 (by decide)).trans (by decide +kernel)
theorem at_0_3039 : am_at (am_m 0) 3039 = some (.iadd, 0) := (am_L0_46 3039 (by decide)).trans (by decide +kernel)
theorem at_0_3040 : am_at (am_m 0) 3040 = some (.iaload, 0) := (am_L0_46 3040 (by decide)).trans (by decide +kernel)
theorem at_0_3041 : am_at (am_m 0) 3041 = some (.aload_n 0, 0) := (am_L0_46 3041 (by decide)).trans (by decide +kernel)
theorem at_0_3042 : am_at (am_m 0) 3042 = some (.iload 4, 0) := (am_L0_46 3042 (by decide)).trans (by decide +kernel)
theorem at_0_3044 : am_at (am_m 0) 3044 = some (.iconst 2, 0) := (am_L0_46 3044 (by decide)).trans (by decide +kernel)
theorem at_0_3045 : am_at (am_m 0) 3045 = some (.iadd, 0) := (am_L0_46 3045 (by decide)).trans (by decide +kernel)
theorem at_0_3046 : am_at (am_m 0) 3046 = some (.iaload, 0) := (am_L0_46 3046 (by decide)).trans (by decide +kernel)
theorem at_0_3047 : am_at (am_m 0) 3047 = some (.invokevirtual 336, 524) := (am_L0_46 3047 (by decide)).trans (by decide +kernel)
theorem at_0_3050 : am_at (am_m 0) 3050 = some (.lstore 6, 0) := (am_L0_46 3050 (by decide)).trans (by decide +kernel)
theorem at_0_3052 : am_at (am_m 0) 3052 = some (.aload_n 2, 0) := (am_L0_46 3052 (by decide)).trans (by decide +kernel)
theorem at_0_3053 : am_at (am_m 0) 3053 = some (.invokevirtual 202, 324) := (am_L0_46 3053 (by decide)).trans (by decide +kernel)
theorem at_0_3056 : am_at (am_m 0) 3056 = some (.iload 5, 0) := (am_L0_46 3056 (by decide)).trans (by decide +kernel)
theorem at_0_3058 : am_at (am_m 0) 3058 = some (.if_icmp .eq 5, 3063) := (am_L0_46 3058 (by decide)).trans (by decide +kernel)
theorem at_0_3061 : am_at (am_m 0) 3061 = some (.iconst 0, 0) := (am_L0_46 3061 (by decide)).trans (by decide +kernel)
theorem at_0_3062 : am_at (am_m 0) 3062 = some (.ireturn, 0) := (am_L0_46 3062 (by decide)).trans (by decide +kernel)
theorem at_0_3063 : am_at (am_m 0) 3063 = some (.iload 5, 0) := (am_L0_46 3063 (by decide)).trans (by decide +kernel)
theorem at_0_3065 : am_at (am_m 0) 3065 = some (.ifCond .ne 14, 3079) := (am_L0_46 3065 (by decide)).trans (by decide +kernel)
theorem at_0_3068 : am_at (am_m 0) 3068 = some (.aload_n 3, 0) := (am_L0_46 3068 (by decide)).trans (by decide +kernel)
theorem at_0_3069 : am_at (am_m 0) 3069 = some (.iconst 0, 0) := (am_L0_46 3069 (by decide)).trans (by decide +kernel)
theorem at_0_3070 : am_at (am_m 0) 3070 = some (.laload, 0) := (am_L0_46 3070 (by decide)).trans (by decide +kernel)
theorem at_0_3071 : am_at (am_m 0) 3071 = some (.lload 6, 0) := (am_L0_46 3071 (by decide)).trans (by decide +kernel)
theorem at_0_3073 : am_at (am_m 0) 3073 = some (.lcmp, 0) := (am_L0_46 3073 (by decide)).trans (by decide +kernel)
theorem at_0_3074 : am_at (am_m 0) 3074 = some (.ifCond .eq 5, 3079) := (am_L0_46 3074 (by decide)).trans (by decide +kernel)
theorem at_0_3077 : am_at (am_m 0) 3077 = some (.iconst 0, 0) := (am_L0_46 3077 (by decide)).trans (by decide +kernel)
theorem at_0_3078 : am_at (am_m 0) 3078 = some (.ireturn, 0) := (am_L0_46 3078 (by decide)).trans (by decide +kernel)
theorem at_0_3079 : am_at (am_m 0) 3079 = some (.goto 1113, 4192) := (am_L0_46 3079 (by decide)).trans (by decide +kernel)
theorem at_0_3082 : am_at (am_m 0) 3082 = some (.aload_n 1, 0) := (am_L0_46 3082 (by decide)).trans (by decide +kernel)
theorem at_0_3083 : am_at (am_m 0) 3083 = some (.aload_n 0, 0) := (am_L0_46 3083 (by decide)).trans (by decide +kernel)
theorem at_0_3084 : am_at (am_m 0) 3084 = some (.iload 4, 0) := (am_L0_46 3084 (by decide)).trans (by decide +kernel)
theorem at_0_3086 : am_at (am_m 0) 3086 = some (.iconst 1, 0) := (am_L0_46 3086 (by decide)).trans (by decide +kernel)
theorem at_0_3087 : am_at (am_m 0) 3087 = some (.iadd, 0) := (am_L0_47 3087 (by decide)).trans (by decide +kernel)
theorem at_0_3088 : am_at (am_m 0) 3088 = some (.iaload, 0) := (am_L0_47 3088 (by decide)).trans (by decide +kernel)
theorem at_0_3089 : am_at (am_m 0) 3089 = some (.aload_n 0, 0) := (am_L0_47 3089 (by decide)).trans (by decide +kernel)
theorem at_0_3090 : am_at (am_m 0) 3090 = some (.iload 4, 0) := (am_L0_47 3090 (by decide)).trans (by decide +kernel)
theorem at_0_3092 : am_at (am_m 0) 3092 = some (.iconst 2, 0) := (am_L0_47 3092 (by decide)).trans (by decide +kernel)
theorem at_0_3093 : am_at (am_m 0) 3093 = some (.iadd, 0) := (am_L0_47 3093 (by decide)).trans (by decide +kernel)
theorem at_0_3094 : am_at (am_m 0) 3094 = some (.iaload, 0) := (am_L0_47 3094 (by decide)).trans (by decide +kernel)
theorem at_0_3095 : am_at (am_m 0) 3095 = some (.aload_n 3, 0) := (am_L0_47 3095 (by decide)).trans (by decide +kernel)
theorem at_0_3096 : am_at (am_m 0) 3096 = some (.invokestatic 337, 247) := (am_L0_47 3096 (by decide)).trans (by decide +kernel)
theorem at_0_3099 : am_at (am_m 0) 3099 = some (.istore 5, 0) := (am_L0_47 3099 (by decide)).trans (by decide +kernel)
theorem at_0_3101 : am_at (am_m 0) 3101 = some (.aload_n 2, 0) := (am_L0_47 3101 (by decide)).trans (by decide +kernel)
theorem at_0_3102 : am_at (am_m 0) 3102 = some (.aload_n 0, 0) := (am_L0_47 3102 (by decide)).trans (by decide +kernel)
theorem at_0_3103 : am_at (am_m 0) 3103 = some (.iload 4, 0) := (am_L0_47 3103 (by decide)).trans (by decide +kernel)
theorem at_0_3105 : am_at (am_m 0) 3105 = some (.iconst 1, 0) := (am_L0_47 3105 (by decide)).trans (by decide +kernel)
theorem at_0_3106 : am_at (am_m 0) 3106 = some (.iadd, 0) := (am_L0_47 3106 (by decide)).trans (by decide +kernel)
theorem at_0_3107 : am_at (am_m 0) 3107 = some (.iaload, 0) := (am_L0_47 3107 (by decide)).trans (by decide +kernel)
theorem at_0_3108 : am_at (am_m 0) 3108 = some (.aload_n 0, 0) := (am_L0_47 3108 (by decide)).trans (by decide +kernel)
theorem at_0_3109 : am_at (am_m 0) 3109 = some (.iload 4, 0) := (am_L0_47 3109 (by decide)).trans (by decide +kernel)
theorem at_0_3111 : am_at (am_m 0) 3111 = some (.iconst 2, 0) := (am_L0_47 3111 (by decide)).trans (by decide +kernel)
theorem at_0_3112 : am_at (am_m 0) 3112 = some (.iadd, 0) := (am_L0_47 3112 (by decide)).trans (by decide +kernel)
theorem at_0_3113 : am_at (am_m 0) 3113 = some (.iaload, 0) := (am_L0_47 3113 (by decide)).trans (by decide +kernel)
theorem at_0_3114 : am_at (am_m 0) 3114 = some (.invokevirtual 339, 526) := (am_L0_47 3114 (by decide)).trans (by decide +kernel)
theorem at_0_3117 : am_at (am_m 0) 3117 = some (.lstore 6, 0) := (am_L0_47 3117 (by decide)).trans (by decide +kernel)
theorem at_0_3119 : am_at (am_m 0) 3119 = some (.aload_n 2, 0) := (am_L0_47 3119 (by decide)).trans (by decide +kernel)
theorem at_0_3120 : am_at (am_m 0) 3120 = some (.invokevirtual 202, 324) := (am_L0_47 3120 (by decide)).trans (by decide +kernel)
theorem at_0_3123 : am_at (am_m 0) 3123 = some (.iload 5, 0) := (am_L0_47 3123 (by decide)).trans (by decide +kernel)
theorem at_0_3125 : am_at (am_m 0) 3125 = some (.if_icmp .eq 5, 3130) := (am_L0_47 3125 (by decide)).trans (by decide +kernel)
theorem at_0_3128 : am_at (am_m 0) 3128 = some (.iconst 0, 0) := (am_L0_47 3128 (by decide)).trans (by decide +kernel)
theorem at_0_3129 : am_at (am_m 0) 3129 = some (.ireturn, 0) := (am_L0_47 3129 (by decide)).trans (by decide +kernel)
theorem at_0_3130 : am_at (am_m 0) 3130 = some (.iload 5, 0) := (am_L0_47 3130 (by decide)).trans (by decide +kernel)
theorem at_0_3132 : am_at (am_m 0) 3132 = some (.ifCond .ne 14, 3146) := (am_L0_47 3132 (by decide)).trans (by decide +kernel)
theorem at_0_3135 : am_at (am_m 0) 3135 = some (.aload_n 3, 0) := (am_L0_47 3135 (by decide)).trans (by decide +kernel)
theorem at_0_3136 : am_at (am_m 0) 3136 = some (.iconst 0, 0) := (am_L0_47 3136 (by decide)).trans (by decide +kernel)
theorem at_0_3137 : am_at (am_m 0) 3137 = some (.laload, 0) := (am_L0_47 3137 (by decide)).trans (by decide +kernel)
theorem at_0_3138 : am_at (am_m 0) 3138 = some (.lload 6, 0) := (am_L0_47 3138 (by decide)).trans (by decide +kernel)
theorem at_0_3140 : am_at (am_m 0) 3140 = some (.lcmp, 0) := (am_L0_47 3140 (by decide)).trans (by decide +kernel)
theorem at_0_3141 : am_at (am_m 0) 3141 = some (.ifCond .eq 5, 3146) := (am_L0_47 3141 (by decide)).trans (by decide +kernel)
theorem at_0_3144 : am_at (am_m 0) 3144 = some (.iconst 0, 0) := (am_L0_47 3144 (by decide)).trans (by decide +kernel)
theorem at_0_3145 : am_at (am_m 0) 3145 = some (.ireturn, 0) := (am_L0_47 3145 (by decide)).trans (by decide +kernel)
theorem at_0_3146 : am_at (am_m 0) 3146 = some (.goto 1046, 4192) := (am_L0_47 3146 (by decide)).trans (by decide +kernel)
theorem at_0_3149 : am_at (am_m 0) 3149 = some (.aload_n 1, 0) := (am_L0_48 3149 (by decide)).trans (by decide +kernel)
theorem at_0_3150 : am_at (am_m 0) 3150 = some (.aload_n 0, 0) := (am_L0_48 3150 (by decide)).trans (by decide +kernel)
theorem at_0_3151 : am_at (am_m 0) 3151 = some (.iload 4, 0) := (am_L0_48 3151 (by decide)).trans (by decide +kernel)
theorem at_0_3153 : am_at (am_m 0) 3153 = some (.iconst 1, 0) := (am_L0_48 3153 (by decide)).trans (by decide +kernel)
theorem at_0_3154 : am_at (am_m 0) 3154 = some (.iadd, 0) := (am_L0_48 3154 (by decide)).trans (by decide +kernel)
theorem at_0_3155 : am_at (am_m 0) 3155 = some (.iaload, 0) := (am_L0_48 3155 (by decide)).trans (by decide +kernel)
theorem at_0_3156 : am_at (am_m 0) 3156 = some (.aload_n 3, 0) := (am_L0_48 3156 (by decide)).trans (by decide +kernel)
theorem at_0_3157 : am_at (am_m 0) 3157 = some (.invokestatic 340, 250) := (am_L0_48 3157 (by decide)).trans (by decide +kernel)
theorem at_0_3160 : am_at (am_m 0) 3160 = some (.istore 5, 0) := (am_L0_48 3160 (by decide)).trans (by decide +kernel)
theorem at_0_3162 : am_at (am_m 0) 3162 = some (.aload_n 2, 0) := (am_L0_48 3162 (by decide)).trans (by decide +kernel)
theorem at_0_3163 : am_at (am_m 0) 3163 = some (.aload_n 0, 0) := (am_L0_48 3163 (by decide)).trans (by decide +kernel)
theorem at_0_3164 : am_at (am_m 0) 3164 = some (.iload 4, 0) := (am_L0_48 3164 (by decide)).trans (by decide +kernel)
theorem at_0_3166 : am_at (am_m 0) 3166 = some (.iconst 1, 0) := (am_L0_48 3166 (by decide)).trans (by decide +kernel)
theorem at_0_3167 : am_at (am_m 0) 3167 = some (.iadd, 0) := (am_L0_48 3167 (by decide)).trans (by decide +kernel)
theorem at_0_3168 : am_at (am_m 0) 3168 = some (.iaload, 0) := (am_L0_48 3168 (by decide)).trans (by decide +kernel)
theorem at_0_3169 : am_at (am_m 0) 3169 = some (.invokevirtual 342, 527) := (am_L0_48 3169 (by decide)).trans (by decide +kernel)
theorem at_0_3172 : am_at (am_m 0) 3172 = some (.istore 6, 0) := (am_L0_48 3172 (by decide)).trans (by decide +kernel)
theorem at_0_3174 : am_at (am_m 0) 3174 = some (.aload_n 2, 0) := (am_L0_48 3174 (by decide)).trans (by decide +kernel)
theorem at_0_3175 : am_at (am_m 0) 3175 = some (.invokevirtual 202, 324) := (am_L0_48 3175 (by decide)).trans (by decide +kernel)
theorem at_0_3178 : am_at (am_m 0) 3178 = some (.iload 5, 0) := (am_L0_48 3178 (by decide)).trans (by decide +kernel)
theorem at_0_3180 : am_at (am_m 0) 3180 = some (.if_icmp .eq 5, 3185) := (am_L0_48 3180 (by decide)).trans (by decide +kernel)
theorem at_0_3183 : am_at (am_m 0) 3183 = some (.iconst 0, 0) := (am_L0_48 3183 (by decide)).trans (by decide +kernel)
theorem at_0_3184 : am_at (am_m 0) 3184 = some (.ireturn, 0) := (am_L0_48 3184 (by decide)).trans (by decide +kernel)
theorem at_0_3185 : am_at (am_m 0) 3185 = some (.iload 5, 0) := (am_L0_48 3185 (by decide)).trans (by decide +kernel)
theorem at_0_3187 : am_at (am_m 0) 3187 = some (.ifCond .ne 15, 3202) := (am_L0_48 3187 (by decide)).trans (by decide +kernel)
theorem at_0_3190 : am_at (am_m 0) 3190 = some (.aload_n 3, 0) := (am_L0_48 3190 (by decide)).trans (by decide +kernel)
theorem at_0_3191 : am_at (am_m 0) 3191 = some (.iconst 0, 0) := (am_L0_48 3191 (by decide)).trans (by decide +kernel)
theorem at_0_3192 : am_at (am_m 0) 3192 = some (.laload, 0) := (am_L0_48 3192 (by decide)).trans (by decide +kernel)
theorem at_0_3193 : am_at (am_m 0) 3193 = some (.iload 6, 0) := (am_L0_48 3193 (by decide)).trans (by decide +kernel)
theorem at_0_3195 : am_at (am_m 0) 3195 = some (.i2l, 0) := (am_L0_48 3195 (by decide)).trans (by decide +kernel)
theorem at_0_3196 : am_at (am_m 0) 3196 = some (.lcmp, 0) := (am_L0_48 3196 (by decide)).trans (by decide +kernel)
theorem at_0_3197 : am_at (am_m 0) 3197 = some (.ifCond .eq 5, 3202) := (am_L0_48 3197 (by decide)).trans (by decide +kernel)
theorem at_0_3200 : am_at (am_m 0) 3200 = some (.iconst 0, 0) := (am_L0_48 3200 (by decide)).trans (by decide +kernel)
theorem at_0_3201 : am_at (am_m 0) 3201 = some (.ireturn, 0) := (am_L0_48 3201 (by decide)).trans (by decide +kernel)
theorem at_0_3202 : am_at (am_m 0) 3202 = some (.goto 990, 4192) := (am_L0_48 3202 (by decide)).trans (by decide +kernel)
theorem at_0_3205 : am_at (am_m 0) 3205 = some (.aload_n 1, 0) := (am_L0_48 3205 (by decide)).trans (by decide +kernel)
theorem at_0_3206 : am_at (am_m 0) 3206 = some (.aload_n 0, 0) := (am_L0_48 3206 (by decide)).trans (by decide +kernel)
theorem at_0_3207 : am_at (am_m 0) 3207 = some (.iload 4, 0) := (am_L0_48 3207 (by decide)).trans (by decide +kernel)
theorem at_0_3209 : am_at (am_m 0) 3209 = some (.iconst 1, 0) := (am_L0_48 3209 (by decide)).trans (by decide +kernel)
theorem at_0_3210 : am_at (am_m 0) 3210 = some (.iadd, 0) := (am_L0_48 3210 (by decide)).trans (by decide +kernel)
theorem at_0_3211 : am_at (am_m 0) 3211 = some (.iaload, 0) := (am_L0_49 3211 (by decide)).trans (by decide +kernel)
theorem at_0_3212 : am_at (am_m 0) 3212 = some (.aload_n 0, 0) := (am_L0_49 3212 (by decide)).trans (by decide +kernel)
theorem at_0_3213 : am_at (am_m 0) 3213 = some (.iload 4, 0) := (am_L0_49 3213 (by decide)).trans (by decide +kernel)
theorem at_0_3215 : am_at (am_m 0) 3215 = some (.iconst 2, 0) := (am_L0_49 3215 (by decide)).trans (by decide +kernel)
theorem at_0_3216 : am_at (am_m 0) 3216 = some (.iadd, 0) := (am_L0_49 3216 (by decide)).trans (by decide +kernel)
theorem at_0_3217 : am_at (am_m 0) 3217 = some (.iaload, 0) := (am_L0_49 3217 (by decide)).trans (by decide +kernel)
theorem at_0_3218 : am_at (am_m 0) 3218 = some (.aload_n 3, 0) := (am_L0_49 3218 (by decide)).trans (by decide +kernel)
theorem at_0_3219 : am_at (am_m 0) 3219 = some (.invokestatic 343, 254) := (am_L0_49 3219 (by decide)).trans (by decide +kernel)
theorem at_0_3222 : am_at (am_m 0) 3222 = some (.istore 5, 0) := (am_L0_49 3222 (by decide)).trans (by decide +kernel)
theorem at_0_3224 : am_at (am_m 0) 3224 = some (.aload_n 2, 0) := (am_L0_49 3224 (by decide)).trans (by decide +kernel)
theorem at_0_3225 : am_at (am_m 0) 3225 = some (.aload_n 0, 0) := (am_L0_49 3225 (by decide)).trans (by decide +kernel)
theorem at_0_3226 : am_at (am_m 0) 3226 = some (.iload 4, 0) := (am_L0_49 3226 (by decide)).trans (by decide +kernel)
theorem at_0_3228 : am_at (am_m 0) 3228 = some (.iconst 1, 0) := (am_L0_49 3228 (by decide)).trans (by decide +kernel)
theorem at_0_3229 : am_at (am_m 0) 3229 = some (.iadd, 0) := (am_L0_49 3229 (by decide)).trans (by decide +kernel)
theorem at_0_3230 : am_at (am_m 0) 3230 = some (.iaload, 0) := (am_L0_49 3230 (by decide)).trans (by decide +kernel)
theorem at_0_3231 : am_at (am_m 0) 3231 = some (.aload_n 0, 0) := (am_L0_49 3231 (by decide)).trans (by decide +kernel)
theorem at_0_3232 : am_at (am_m 0) 3232 = some (.iload 4, 0) := (am_L0_49 3232 (by decide)).trans (by decide +kernel)
theorem at_0_3234 : am_at (am_m 0) 3234 = some (.iconst 2, 0) := (am_L0_49 3234 (by decide)).trans (by decide +kernel)
theorem at_0_3235 : am_at (am_m 0) 3235 = some (.iadd, 0) := (am_L0_49 3235 (by decide)).trans (by decide +kernel)
theorem at_0_3236 : am_at (am_m 0) 3236 = some (.iaload, 0) := (am_L0_49 3236 (by decide)).trans (by decide +kernel)
theorem at_0_3237 : am_at (am_m 0) 3237 = some (.invokevirtual 345, 530) := (am_L0_49 3237 (by decide)).trans (by decide +kernel)
theorem at_0_3240 : am_at (am_m 0) 3240 = some (.istore 6, 0) := (am_L0_49 3240 (by decide)).trans (by decide +kernel)
theorem at_0_3242 : am_at (am_m 0) 3242 = some (.aload_n 2, 0) := (am_L0_49 3242 (by decide)).trans (by decide +kernel)
theorem at_0_3243 : am_at (am_m 0) 3243 = some (.invokevirtual 202, 324) := (am_L0_49 3243 (by decide)).trans (by decide +kernel)
theorem at_0_3246 : am_at (am_m 0) 3246 = some (.iload 5, 0) := (am_L0_49 3246 (by decide)).trans (by decide +kernel)
theorem at_0_3248 : am_at (am_m 0) 3248 = some (.if_icmp .eq 5, 3253) := (am_L0_49 3248 (by decide)).trans (by decide +kernel)
theorem at_0_3251 : am_at (am_m 0) 3251 = some (.iconst 0, 0) := (am_L0_49 3251 (by decide)).trans (by decide +kernel)
theorem at_0_3252 : am_at (am_m 0) 3252 = some (.ireturn, 0) := (am_L0_49 3252 (by decide)).trans (by decide +kernel)
theorem at_0_3253 : am_at (am_m 0) 3253 = some (.iload 5, 0) := (am_L0_49 3253 (by decide)).trans (by decide +kernel)
theorem at_0_3255 : am_at (am_m 0) 3255 = some (.ifCond .ne 15, 3270) := (am_L0_49 3255 (by decide)).trans (by decide +kernel)
theorem at_0_3258 : am_at (am_m 0) 3258 = some (.aload_n 3, 0) := (am_L0_49 3258 (by decide)).trans (by decide +kernel)
theorem at_0_3259 : am_at (am_m 0) 3259 = some (.iconst 0, 0) := (am_L0_49 3259 (by decide)).trans (by decide +kernel)
theorem at_0_3260 : am_at (am_m 0) 3260 = some (.laload, 0) := (am_L0_49 3260 (by decide)).trans (by decide +kernel)
theorem at_0_3261 : am_at (am_m 0) 3261 = some (.iload 6, 0) := (am_L0_49 3261 (by decide)).trans (by decide +kernel)
theorem at_0_3263 : am_at (am_m 0) 3263 = some (.i2l, 0) := (am_L0_49 3263 (by decide)).trans (by decide +kernel)
theorem at_0_3264 : am_at (am_m 0) 3264 = some (.lcmp, 0) := (am_L0_49 3264 (by decide)).trans (by decide +kernel)
theorem at_0_3265 : am_at (am_m 0) 3265 = some (.ifCond .eq 5, 3270) := (am_L0_49 3265 (by decide)).trans (by decide +kernel)
theorem at_0_3268 : am_at (am_m 0) 3268 = some (.iconst 0, 0) := (am_L0_49 3268 (by decide)).trans (by decide +kernel)
theorem at_0_3269 : am_at (am_m 0) 3269 = some (.ireturn, 0) := (am_L0_49 3269 (by decide)).trans (by decide +kernel)
theorem at_0_3270 : am_at (am_m 0) 3270 = some (.goto 922, 4192) := (am_L0_49 3270 (by decide)).trans (by decide +kernel)
theorem at_0_3273 : am_at (am_m 0) 3273 = some (.aload_n 1, 0) := (am_L0_50 3273 (by decide)).trans (by decide +kernel)
theorem at_0_3274 : am_at (am_m 0) 3274 = some (.aload_n 0, 0) := (am_L0_50 3274 (by decide)).trans (by decide +kernel)
theorem at_0_3275 : am_at (am_m 0) 3275 = some (.iload 4, 0) := (am_L0_50 3275 (by decide)).trans (by decide +kernel)
theorem at_0_3277 : am_at (am_m 0) 3277 = some (.iconst 1, 0) := (am_L0_50 3277 (by decide)).trans (by decide +kernel)
theorem at_0_3278 : am_at (am_m 0) 3278 = some (.iadd, 0) := (am_L0_50 3278 (by decide)).trans (by decide +kernel)
theorem at_0_3279 : am_at (am_m 0) 3279 = some (.iaload, 0) := (am_L0_50 3279 (by decide)).trans (by decide +kernel)
theorem at_0_3280 : am_at (am_m 0) 3280 = some (.aload_n 0, 0) := (am_L0_50 3280 (by decide)).trans (by decide +kernel)
theorem at_0_3281 : am_at (am_m 0) 3281 = some (.iload 4, 0) := (am_L0_50 3281 (by decide)).trans (by decide +kernel)
theorem at_0_3283 : am_at (am_m 0) 3283 = some (.iconst 2, 0) := (am_L0_50 3283 (by decide)).trans (by decide +kernel)
theorem at_0_3284 : am_at (am_m 0) 3284 = some (.iadd, 0) := (am_L0_50 3284 (by decide)).trans (by decide +kernel)
theorem at_0_3285 : am_at (am_m 0) 3285 = some (.iaload, 0) := (am_L0_50 3285 (by decide)).trans (by decide +kernel)
theorem at_0_3286 : am_at (am_m 0) 3286 = some (.aload_n 3, 0) := (am_L0_50 3286 (by decide)).trans (by decide +kernel)
theorem at_0_3287 : am_at (am_m 0) 3287 = some (.invokestatic 346, 256) := (am_L0_50 3287 (by decide)).trans (by decide +kernel)
theorem at_0_3290 : am_at (am_m 0) 3290 = some (.istore 5, 0) := (am_L0_50 3290 (by decide)).trans (by decide +kernel)
theorem at_0_3292 : am_at (am_m 0) 3292 = some (.aload_n 2, 0) := (am_L0_50 3292 (by decide)).trans (by decide +kernel)
theorem at_0_3293 : am_at (am_m 0) 3293 = some (.aload_n 0, 0) := (am_L0_50 3293 (by decide)).trans (by decide +kernel)
theorem at_0_3294 : am_at (am_m 0) 3294 = some (.iload 4, 0) := (am_L0_50 3294 (by decide)).trans (by decide +kernel)
theorem at_0_3296 : am_at (am_m 0) 3296 = some (.iconst 1, 0) := (am_L0_50 3296 (by decide)).trans (by decide +kernel)
theorem at_0_3297 : am_at (am_m 0) 3297 = some (.iadd, 0) := (am_L0_50 3297 (by decide)).trans (by decide +kernel)
theorem at_0_3298 : am_at (am_m 0) 3298 = some (.iaload, 0) := (am_L0_50 3298 (by decide)).trans (by decide +kernel)
theorem at_0_3299 : am_at (am_m 0) 3299 = some (.aload_n 0, 0) := (am_L0_50 3299 (by decide)).trans (by decide +kernel)
theorem at_0_3300 : am_at (am_m 0) 3300 = some (.iload 4, 0) := (am_L0_50 3300 (by decide)).trans (by decide +kernel)
theorem at_0_3302 : am_at (am_m 0) 3302 = some (.iconst 2, 0) := (am_L0_50 3302 (by decide)).trans (by decide +kernel)
theorem at_0_3303 : am_at (am_m 0) 3303 = some (.iadd, 0) := (am_L0_50 3303 (by decide)).trans (by decide +kernel)
theorem at_0_3304 : am_at (am_m 0) 3304 = some (.iaload, 0) := (am_L0_50 3304 (by decide)).trans (by decide +kernel)
theorem at_0_3305 : am_at (am_m 0) 3305 = some (.invokevirtual 348, 531) := (am_L0_50 3305 (by decide)).trans (by decide +kernel)
theorem at_0_3308 : am_at (am_m 0) 3308 = some (.lstore 6, 0) := (am_L0_50 3308 (by decide)).trans (by decide +kernel)
theorem at_0_3310 : am_at (am_m 0) 3310 = some (.aload_n 2, 0) := (am_L0_50 3310 (by decide)).trans (by decide +kernel)
theorem at_0_3311 : am_at (am_m 0) 3311 = some (.invokevirtual 202, 324) := (am_L0_50 3311 (by decide)).trans (by decide +kernel)
theorem at_0_3314 : am_at (am_m 0) 3314 = some (.iload 5, 0) := (am_L0_50 3314 (by decide)).trans (by decide +kernel)
theorem at_0_3316 : am_at (am_m 0) 3316 = some (.if_icmp .eq 5, 3321) := (am_L0_50 3316 (by decide)).trans (by decide +kernel)
theorem at_0_3319 : am_at (am_m 0) 3319 = some (.iconst 0, 0) := (am_L0_50 3319 (by decide)).trans (by decide +kernel)
theorem at_0_3320 : am_at (am_m 0) 3320 = some (.ireturn, 0) := (am_L0_50 3320 (by decide)).trans (by decide +kernel)
theorem at_0_3321 : am_at (am_m 0) 3321 = some (.iload 5, 0) := (am_L0_50 3321 (by decide)).trans (by decide +kernel)
theorem at_0_3323 : am_at (am_m 0) 3323 = some (.ifCond .ne 14, 3337) := (am_L0_50 3323 (by decide)).trans (by decide +kernel)
theorem at_0_3326 : am_at (am_m 0) 3326 = some (.aload_n 3, 0) := (am_L0_50 3326 (by decide)).trans (by decide +kernel)
theorem at_0_3327 : am_at (am_m 0) 3327 = some (.iconst 0, 0) := (am_L0_50 3327 (by decide)).trans (by decide +kernel)
theorem at_0_3328 : am_at (am_m 0) 3328 = some (.laload, 0) := (am_L0_50 3328 (by decide)).trans (by decide +kernel)
theorem at_0_3329 : am_at (am_m 0) 3329 = some (.lload 6, 0) := (am_L0_50 3329 (by decide)).trans (by decide +kernel)
theorem at_0_3331 : am_at (am_m 0) 3331 = some (.lcmp, 0) := (am_L0_50 3331 (by decide)).trans (by decide +kernel)
theorem at_0_3332 : am_at (am_m 0) 3332 = some (.ifCond .eq 5, 3337) := (am_L0_51 3332 (by decide)).trans (by decide +kernel)
theorem at_0_3335 : am_at (am_m 0) 3335 = some (.iconst 0, 0) := (am_L0_51 3335 (by decide)).trans (by decide +kernel)
theorem at_0_3336 : am_at (am_m 0) 3336 = some (.ireturn, 0) := (am_L0_51 3336 (by decide)).trans (by decide +kernel)
theorem at_0_3337 : am_at (am_m 0) 3337 = some (.goto 855, 4192) := (am_L0_51 3337 (by decide)).trans (by decide +kernel)
theorem at_0_3340 : am_at (am_m 0) 3340 = some (.aload_n 1, 0) := (am_L0_51 3340 (by decide)).trans (by decide +kernel)
theorem at_0_3341 : am_at (am_m 0) 3341 = some (.aload_n 0, 0) := (am_L0_51 3341 (by decide)).trans (by decide +kernel)
theorem at_0_3342 : am_at (am_m 0) 3342 = some (.iload 4, 0) := (am_L0_51 3342 (by decide)).trans (by decide +kernel)
theorem at_0_3344 : am_at (am_m 0) 3344 = some (.iconst 1, 0) := (am_L0_51 3344 (by decide)).trans (by decide +kernel)
theorem at_0_3345 : am_at (am_m 0) 3345 = some (.iadd, 0) := (am_L0_51 3345 (by decide)).trans (by decide +kernel)
theorem at_0_3346 : am_at (am_m 0) 3346 = some (.iaload, 0) := (am_L0_51 3346 (by decide)).trans (by decide +kernel)
theorem at_0_3347 : am_at (am_m 0) 3347 = some (.aload_n 3, 0) := (am_L0_51 3347 (by decide)).trans (by decide +kernel)
theorem at_0_3348 : am_at (am_m 0) 3348 = some (.invokestatic 349, 258) := (am_L0_51 3348 (by decide)).trans (by decide +kernel)
theorem at_0_3351 : am_at (am_m 0) 3351 = some (.istore 5, 0) := (am_L0_51 3351 (by decide)).trans (by decide +kernel)
theorem at_0_3353 : am_at (am_m 0) 3353 = some (.aload_n 2, 0) := (am_L0_51 3353 (by decide)).trans (by decide +kernel)
theorem at_0_3354 : am_at (am_m 0) 3354 = some (.aload_n 0, 0) := (am_L0_51 3354 (by decide)).trans (by decide +kernel)
theorem at_0_3355 : am_at (am_m 0) 3355 = some (.iload 4, 0) := (am_L0_51 3355 (by decide)).trans (by decide +kernel)
theorem at_0_3357 : am_at (am_m 0) 3357 = some (.iconst 1, 0) := (am_L0_51 3357 (by decide)).trans (by decide +kernel)
theorem at_0_3358 : am_at (am_m 0) 3358 = some (.iadd, 0) := (am_L0_51 3358 (by decide)).trans (by decide +kernel)
theorem at_0_3359 : am_at (am_m 0) 3359 = some (.iaload, 0) := (am_L0_51 3359 (by decide)).trans (by decide +kernel)
theorem at_0_3360 : am_at (am_m 0) 3360 = some (.invokevirtual 351, 532) := (am_L0_51 3360 (by decide)).trans (by decide +kernel)
theorem at_0_3363 : am_at (am_m 0) 3363 = some (.istore 6, 0) := (am_L0_51 3363 (by decide)).trans (by decide +kernel)
theorem at_0_3365 : am_at (am_m 0) 3365 = some (.aload_n 2, 0) := (am_L0_51 3365 (by decide)).trans (by decide +kernel)
theorem at_0_3366 : am_at (am_m 0) 3366 = some (.invokevirtual 202, 324) := (am_L0_51 3366 (by decide)).trans (by decide +kernel)
theorem at_0_3369 : am_at (am_m 0) 3369 = some (.iload 5, 0) := (am_L0_51 3369 (by decide)).trans (by decide +kernel)
theorem at_0_3371 : am_at (am_m 0) 3371 = some (.if_icmp .eq 5, 3376) := (am_L0_51 3371 (by decide)).trans (by decide +kernel)
theorem at_0_3374 : am_at (am_m 0) 3374 = some (.iconst 0, 0) := (am_L0_51 3374 (by decide)).trans (by decide +kernel)
theorem at_0_3375 : am_at (am_m 0) 3375 = some (.ireturn, 0) := (am_L0_51 3375 (by decide)).trans (by decide +kernel)
theorem at_0_3376 : am_at (am_m 0) 3376 = some (.iload 5, 0) := (am_L0_51 3376 (by decide)).trans (by decide +kernel)
theorem at_0_3378 : am_at (am_m 0) 3378 = some (.ifCond .ne 22, 3400) := (am_L0_51 3378 (by decide)).trans (by decide +kernel)
theorem at_0_3381 : am_at (am_m 0) 3381 = some (.aload_n 3, 0) := (am_L0_51 3381 (by decide)).trans (by decide +kernel)
theorem at_0_3382 : am_at (am_m 0) 3382 = some (.iconst 0, 0) := (am_L0_51 3382 (by decide)).trans (by decide +kernel)
theorem at_0_3383 : am_at (am_m 0) 3383 = some (.laload, 0) := (am_L0_51 3383 (by decide)).trans (by decide +kernel)
theorem at_0_3384 : am_at (am_m 0) 3384 = some (.iload 6, 0) := (am_L0_51 3384 (by decide)).trans (by decide +kernel)
theorem at_0_3386 : am_at (am_m 0) 3386 = some (.ifCond .eq 7, 3393) := (am_L0_51 3386 (by decide)).trans (by decide +kernel)
theorem at_0_3389 : am_at (am_m 0) 3389 = some (.lconst 1, 0) := (am_L0_51 3389 (by decide)).trans (by decide +kernel)
theorem at_0_3390 : am_at (am_m 0) 3390 = some (.goto 4, 3394) := (am_L0_51 3390 (by decide)).trans (by decide +kernel)
theorem at_0_3393 : am_at (am_m 0) 3393 = some (.lconst 0, 0) := (am_L0_51 3393 (by decide)).trans (by decide +kernel)
theorem at_0_3394 : am_at (am_m 0) 3394 = some (.lcmp, 0) := (am_L0_51 3394 (by decide)).trans (by decide +kernel)
theorem at_0_3395 : am_at (am_m 0) 3395 = some (.ifCond .eq 5, 3400) := (am_L0_51 3395 (by decide)).trans (by decide +kernel)
theorem at_0_3398 : am_at (am_m 0) 3398 = some (.iconst 0, 0) := (am_L0_51 3398 (by decide)).trans (by decide +kernel)
theorem at_0_3399 : am_at (am_m 0) 3399 = some (.ireturn, 0) := (am_L0_52 3399 (by decide)).trans (by decide +kernel)
theorem at_0_3400 : am_at (am_m 0) 3400 = some (.goto 792, 4192) := (am_L0_52 3400 (by decide)).trans (by decide +kernel)
theorem at_0_3403 : am_at (am_m 0) 3403 = some (.aload_n 1, 0) := (am_L0_52 3403 (by decide)).trans (by decide +kernel)
theorem at_0_3404 : am_at (am_m 0) 3404 = some (.aload_n 0, 0) := (am_L0_52 3404 (by decide)).trans (by decide +kernel)
theorem at_0_3405 : am_at (am_m 0) 3405 = some (.iload 4, 0) := (am_L0_52 3405 (by decide)).trans (by decide +kernel)
theorem at_0_3407 : am_at (am_m 0) 3407 = some (.iconst 1, 0) := (am_L0_52 3407 (by decide)).trans (by decide +kernel)
theorem at_0_3408 : am_at (am_m 0) 3408 = some (.iadd, 0) := (am_L0_52 3408 (by decide)).trans (by decide +kernel)
theorem at_0_3409 : am_at (am_m 0) 3409 = some (.iaload, 0) := (am_L0_52 3409 (by decide)).trans (by decide +kernel)
theorem at_0_3410 : am_at (am_m 0) 3410 = some (.aload_n 3, 0) := (am_L0_52 3410 (by decide)).trans (by decide +kernel)
theorem at_0_3411 : am_at (am_m 0) 3411 = some (.invokestatic 352, 260) := (am_L0_52 3411 (by decide)).trans (by decide +kernel)
theorem at_0_3414 : am_at (am_m 0) 3414 = some (.istore 5, 0) := (am_L0_52 3414 (by decide)).trans (by decide +kernel)
theorem at_0_3416 : am_at (am_m 0) 3416 = some (.aload_n 2, 0) := (am_L0_52 3416 (by decide)).trans (by decide +kernel)
theorem at_0_3417 : am_at (am_m 0) 3417 = some (.aload_n 0, 0) := (am_L0_52 3417 (by decide)).trans (by decide +kernel)
theorem at_0_3418 : am_at (am_m 0) 3418 = some (.iload 4, 0) := (am_L0_52 3418 (by decide)).trans (by decide +kernel)
theorem at_0_3420 : am_at (am_m 0) 3420 = some (.iconst 1, 0) := (am_L0_52 3420 (by decide)).trans (by decide +kernel)
theorem at_0_3421 : am_at (am_m 0) 3421 = some (.iadd, 0) := (am_L0_52 3421 (by decide)).trans (by decide +kernel)
theorem at_0_3422 : am_at (am_m 0) 3422 = some (.iaload, 0) := (am_L0_52 3422 (by decide)).trans (by decide +kernel)
theorem at_0_3423 : am_at (am_m 0) 3423 = some (.invokevirtual 354, 533) := (am_L0_52 3423 (by decide)).trans (by decide +kernel)
theorem at_0_3426 : am_at (am_m 0) 3426 = some (.istore 6, 0) := (am_L0_52 3426 (by decide)).trans (by decide +kernel)
theorem at_0_3428 : am_at (am_m 0) 3428 = some (.aload_n 2, 0) := (am_L0_52 3428 (by decide)).trans (by decide +kernel)
theorem at_0_3429 : am_at (am_m 0) 3429 = some (.invokevirtual 202, 324) := (am_L0_52 3429 (by decide)).trans (by decide +kernel)
theorem at_0_3432 : am_at (am_m 0) 3432 = some (.iload 5, 0) := (am_L0_52 3432 (by decide)).trans (by decide +kernel)
theorem at_0_3434 : am_at (am_m 0) 3434 = some (.if_icmp .eq 5, 3439) := (am_L0_52 3434 (by decide)).trans (by decide +kernel)
theorem at_0_3437 : am_at (am_m 0) 3437 = some (.iconst 0, 0) := (am_L0_52 3437 (by decide)).trans (by decide +kernel)
theorem at_0_3438 : am_at (am_m 0) 3438 = some (.ireturn, 0) := (am_L0_52 3438 (by decide)).trans (by decide +kernel)
theorem at_0_3439 : am_at (am_m 0) 3439 = some (.iload 5, 0) := (am_L0_52 3439 (by decide)).trans (by decide +kernel)
theorem at_0_3441 : am_at (am_m 0) 3441 = some (.ifCond .ne 15, 3456) := (am_L0_52 3441 (by decide)).trans (by decide +kernel)
theorem at_0_3444 : am_at (am_m 0) 3444 = some (.aload_n 3, 0) := (am_L0_52 3444 (by decide)).trans (by decide +kernel)
theorem at_0_3445 : am_at (am_m 0) 3445 = some (.iconst 0, 0) := (am_L0_52 3445 (by decide)).trans (by decide +kernel)
theorem at_0_3446 : am_at (am_m 0) 3446 = some (.laload, 0) := (am_L0_52 3446 (by decide)).trans (by decide +kernel)
theorem at_0_3447 : am_at (am_m 0) 3447 = some (.iload 6, 0) := (am_L0_52 3447 (by decide)).trans (by decide +kernel)
theorem at_0_3449 : am_at (am_m 0) 3449 = some (.i2l, 0) := (am_L0_52 3449 (by decide)).trans (by decide +kernel)
theorem at_0_3450 : am_at (am_m 0) 3450 = some (.lcmp, 0) := (am_L0_52 3450 (by decide)).trans (by decide +kernel)
theorem at_0_3451 : am_at (am_m 0) 3451 = some (.ifCond .eq 5, 3456) := (am_L0_52 3451 (by decide)).trans (by decide +kernel)
theorem at_0_3454 : am_at (am_m 0) 3454 = some (.iconst 0, 0) := (am_L0_52 3454 (by decide)).trans (by decide +kernel)
theorem at_0_3455 : am_at (am_m 0) 3455 = some (.ireturn, 0) := (am_L0_52 3455 (by decide)).trans (by decide +kernel)
theorem at_0_3456 : am_at (am_m 0) 3456 = some (.goto 736, 4192) := (am_L0_52 3456 (by decide)).trans (by decide +kernel)
theorem at_0_3459 : am_at (am_m 0) 3459 = some (.aload_n 1, 0) := (am_L0_52 3459 (by decide)).trans (by decide +kernel)
theorem at_0_3460 : am_at (am_m 0) 3460 = some (.aload_n 0, 0) := (am_L0_52 3460 (by decide)).trans (by decide +kernel)
theorem at_0_3461 : am_at (am_m 0) 3461 = some (.iload 4, 0) := (am_L0_52 3461 (by decide)).trans (by decide +kernel)
theorem at_0_3463 : am_at (am_m 0) 3463 = some (.iconst 1, 0) := (am_L0_53 3463 (by decide)).trans (by decide +kernel)
theorem at_0_3464 : am_at (am_m 0) 3464 = some (.iadd, 0) := (am_L0_53 3464 (by decide)).trans (by decide +kernel)
theorem at_0_3465 : am_at (am_m 0) 3465 = some (.iaload, 0) := (am_L0_53 3465 (by decide)).trans (by decide +kernel)
theorem at_0_3466 : am_at (am_m 0) 3466 = some (.aload_n 3, 0) := (am_L0_53 3466 (by decide)).trans (by decide +kernel)
theorem at_0_3467 : am_at (am_m 0) 3467 = some (.invokestatic 355, 267) := (am_L0_53 3467 (by decide)).trans (by decide +kernel)
theorem at_0_3470 : am_at (am_m 0) 3470 = some (.istore 5, 0) := (am_L0_53 3470 (by decide)).trans (by decide +kernel)
theorem at_0_3472 : am_at (am_m 0) 3472 = some (.aload_n 2, 0) := (am_L0_53 3472 (by decide)).trans (by decide +kernel)
theorem at_0_3473 : am_at (am_m 0) 3473 = some (.aload_n 0, 0) := (am_L0_53 3473 (by decide)).trans (by decide +kernel)
theorem at_0_3474 : am_at (am_m 0) 3474 = some (.iload 4, 0) := (am_L0_53 3474 (by decide)).trans (by decide +kernel)
theorem at_0_3476 : am_at (am_m 0) 3476 = some (.iconst 1, 0) := (am_L0_53 3476 (by decide)).trans (by decide +kernel)
theorem at_0_3477 : am_at (am_m 0) 3477 = some (.iadd, 0) := (am_L0_53 3477 (by decide)).trans (by decide +kernel)
theorem at_0_3478 : am_at (am_m 0) 3478 = some (.iaload, 0) := (am_L0_53 3478 (by decide)).trans (by decide +kernel)
theorem at_0_3479 : am_at (am_m 0) 3479 = some (.invokevirtual 357, 535) := (am_L0_53 3479 (by decide)).trans (by decide +kernel)
theorem at_0_3482 : am_at (am_m 0) 3482 = some (.istore 6, 0) := (am_L0_53 3482 (by decide)).trans (by decide +kernel)
theorem at_0_3484 : am_at (am_m 0) 3484 = some (.aload_n 2, 0) := (am_L0_53 3484 (by decide)).trans (by decide +kernel)
theorem at_0_3485 : am_at (am_m 0) 3485 = some (.invokevirtual 202, 324) := (am_L0_53 3485 (by decide)).trans (by decide +kernel)
theorem at_0_3488 : am_at (am_m 0) 3488 = some (.iload 5, 0) := (am_L0_53 3488 (by decide)).trans (by decide +kernel)
theorem at_0_3490 : am_at (am_m 0) 3490 = some (.if_icmp .eq 5, 3495) := (am_L0_53 3490 (by decide)).trans (by decide +kernel)
theorem at_0_3493 : am_at (am_m 0) 3493 = some (.iconst 0, 0) := (am_L0_53 3493 (by decide)).trans (by decide +kernel)
theorem at_0_3494 : am_at (am_m 0) 3494 = some (.ireturn, 0) := (am_L0_53 3494 (by decide)).trans (by decide +kernel)
theorem at_0_3495 : am_at (am_m 0) 3495 = some (.iload 5, 0) := (am_L0_53 3495 (by decide)).trans (by decide +kernel)
theorem at_0_3497 : am_at (am_m 0) 3497 = some (.ifCond .ne 15, 3512) := (am_L0_53 3497 (by decide)).trans (by decide +kernel)
theorem at_0_3500 : am_at (am_m 0) 3500 = some (.aload_n 3, 0) := (am_L0_53 3500 (by decide)).trans (by decide +kernel)
theorem at_0_3501 : am_at (am_m 0) 3501 = some (.iconst 0, 0) := (am_L0_53 3501 (by decide)).trans (by decide +kernel)
theorem at_0_3502 : am_at (am_m 0) 3502 = some (.laload, 0) := (am_L0_53 3502 (by decide)).trans (by decide +kernel)
theorem at_0_3503 : am_at (am_m 0) 3503 = some (.iload 6, 0) := (am_L0_53 3503 (by decide)).trans (by decide +kernel)
theorem at_0_3505 : am_at (am_m 0) 3505 = some (.i2l, 0) := (am_L0_53 3505 (by decide)).trans (by decide +kernel)
theorem at_0_3506 : am_at (am_m 0) 3506 = some (.lcmp, 0) := (am_L0_53 3506 (by decide)).trans (by decide +kernel)
theorem at_0_3507 : am_at (am_m 0) 3507 = some (.ifCond .eq 5, 3512) := (am_L0_53 3507 (by decide)).trans (by decide +kernel)
theorem at_0_3510 : am_at (am_m 0) 3510 = some (.iconst 0, 0) := (am_L0_53 3510 (by decide)).trans (by decide +kernel)
theorem at_0_3511 : am_at (am_m 0) 3511 = some (.ireturn, 0) := (am_L0_53 3511 (by decide)).trans (by decide +kernel)
theorem at_0_3512 : am_at (am_m 0) 3512 = some (.goto 680, 4192) := (am_L0_53 3512 (by decide)).trans (by decide +kernel)
theorem at_0_3515 : am_at (am_m 0) 3515 = some (.aload_n 1, 0) := (am_L0_53 3515 (by decide)).trans (by decide +kernel)
theorem at_0_3516 : am_at (am_m 0) 3516 = some (.invokevirtual 358, 28) := (am_L0_53 3516 (by decide)).trans (by decide +kernel)
theorem at_0_3519 : am_at (am_m 0) 3519 = some (.aload_n 2, 0) := (am_L0_53 3519 (by decide)).trans (by decide +kernel)
theorem at_0_3520 : am_at (am_m 0) 3520 = some (.invokevirtual 361, 553) := (am_L0_53 3520 (by decide)).trans (by decide +kernel)
theorem at_0_3523 : am_at (am_m 0) 3523 = some (.if_icmp .eq 669, 4192) := (am_L0_53 3523 (by decide)).trans (by decide +kernel)
theorem at_0_3526 : am_at (am_m 0) 3526 = some (.iconst 0, 0) := (am_L0_53 3526 (by decide)).trans (by decide +kernel)
theorem at_0_3527 : am_at (am_m 0) 3527 = some (.ireturn, 0) := (am_L0_53 3527 (by decide)).trans (by decide +kernel)
theorem at_0_3528 : am_at (am_m 0) 3528 = some (.aload_n 1, 0) := (am_L0_53 3528 (by decide)).trans (by decide +kernel)
theorem at_0_3529 : am_at (am_m 0) 3529 = some (.aload_n 0, 0) := (am_L0_54 3529 (by decide)).trans (by decide +kernel)
theorem at_0_3530 : am_at (am_m 0) 3530 = some (.iload 4, 0) := (am_L0_54 3530 (by decide)).trans (by decide +kernel)
theorem at_0_3532 : am_at (am_m 0) 3532 = some (.iconst 1, 0) := (am_L0_54 3532 (by decide)).trans (by decide +kernel)
theorem at_0_3533 : am_at (am_m 0) 3533 = some (.iadd, 0) := (am_L0_54 3533 (by decide)).trans (by decide +kernel)
theorem at_0_3534 : am_at (am_m 0) 3534 = some (.iaload, 0) := (am_L0_54 3534 (by decide)).trans (by decide +kernel)
theorem at_0_3535 : am_at (am_m 0) 3535 = some (.aload_n 0, 0) := (am_L0_54 3535 (by decide)).trans (by decide +kernel)
theorem at_0_3536 : am_at (am_m 0) 3536 = some (.iload 4, 0) := (am_L0_54 3536 (by decide)).trans (by decide +kernel)
theorem at_0_3538 : am_at (am_m 0) 3538 = some (.iconst 2, 0) := (am_L0_54 3538 (by decide)).trans (by decide +kernel)
theorem at_0_3539 : am_at (am_m 0) 3539 = some (.iadd, 0) := (am_L0_54 3539 (by decide)).trans (by decide +kernel)
theorem at_0_3540 : am_at (am_m 0) 3540 = some (.iaload, 0) := (am_L0_54 3540 (by decide)).trans (by decide +kernel)
theorem at_0_3541 : am_at (am_m 0) 3541 = some (.invokevirtual 362, 29) := (am_L0_54 3541 (by decide)).trans (by decide +kernel)
theorem at_0_3544 : am_at (am_m 0) 3544 = some (.aload_n 2, 0) := (am_L0_54 3544 (by decide)).trans (by decide +kernel)
theorem at_0_3545 : am_at (am_m 0) 3545 = some (.aload_n 0, 0) := (am_L0_54 3545 (by decide)).trans (by decide +kernel)
theorem at_0_3546 : am_at (am_m 0) 3546 = some (.iload 4, 0) := (am_L0_54 3546 (by decide)).trans (by decide +kernel)
theorem at_0_3548 : am_at (am_m 0) 3548 = some (.iconst 1, 0) := (am_L0_54 3548 (by decide)).trans (by decide +kernel)
theorem at_0_3549 : am_at (am_m 0) 3549 = some (.iadd, 0) := (am_L0_54 3549 (by decide)).trans (by decide +kernel)
theorem at_0_3550 : am_at (am_m 0) 3550 = some (.iaload, 0) := (am_L0_54 3550 (by decide)).trans (by decide +kernel)
theorem at_0_3551 : am_at (am_m 0) 3551 = some (.aload_n 0, 0) := (am_L0_54 3551 (by decide)).trans (by decide +kernel)
theorem at_0_3552 : am_at (am_m 0) 3552 = some (.iload 4, 0) := (am_L0_54 3552 (by decide)).trans (by decide +kernel)
theorem at_0_3554 : am_at (am_m 0) 3554 = some (.iconst 2, 0) := (am_L0_54 3554 (by decide)).trans (by decide +kernel)
theorem at_0_3555 : am_at (am_m 0) 3555 = some (.iadd, 0) := (am_L0_54 3555 (by decide)).trans (by decide +kernel)
theorem at_0_3556 : am_at (am_m 0) 3556 = some (.iaload, 0) := (am_L0_54 3556 (by decide)).trans (by decide +kernel)
theorem at_0_3557 : am_at (am_m 0) 3557 = some (.invokevirtual 365, 554) := (am_L0_54 3557 (by decide)).trans (by decide +kernel)
theorem at_0_3560 : am_at (am_m 0) 3560 = some (.if_icmp .eq 632, 4192) := (am_L0_54 3560 (by decide)).trans (by decide +kernel)
theorem at_0_3563 : am_at (am_m 0) 3563 = some (.iconst 0, 0) := (am_L0_54 3563 (by decide)).trans (by decide +kernel)
theorem at_0_3564 : am_at (am_m 0) 3564 = some (.ireturn, 0) := (am_L0_54 3564 (by decide)).trans (by decide +kernel)
theorem at_0_3565 : am_at (am_m 0) 3565 = some (.aload_n 1, 0) := (am_L0_54 3565 (by decide)).trans (by decide +kernel)
theorem at_0_3566 : am_at (am_m 0) 3566 = some (.aload_n 0, 0) := (am_L0_54 3566 (by decide)).trans (by decide +kernel)
theorem at_0_3567 : am_at (am_m 0) 3567 = some (.iload 4, 0) := (am_L0_54 3567 (by decide)).trans (by decide +kernel)
theorem at_0_3569 : am_at (am_m 0) 3569 = some (.iconst 1, 0) := (am_L0_54 3569 (by decide)).trans (by decide +kernel)
theorem at_0_3570 : am_at (am_m 0) 3570 = some (.iadd, 0) := (am_L0_54 3570 (by decide)).trans (by decide +kernel)
theorem at_0_3571 : am_at (am_m 0) 3571 = some (.iaload, 0) := (am_L0_54 3571 (by decide)).trans (by decide +kernel)
theorem at_0_3572 : am_at (am_m 0) 3572 = some (.aload_n 0, 0) := (am_L0_54 3572 (by decide)).trans (by decide +kernel)
theorem at_0_3573 : am_at (am_m 0) 3573 = some (.iload 4, 0) := (am_L0_54 3573 (by decide)).trans (by decide +kernel)
theorem at_0_3575 : am_at (am_m 0) 3575 = some (.iconst 2, 0) := (am_L0_54 3575 (by decide)).trans (by decide +kernel)
theorem at_0_3576 : am_at (am_m 0) 3576 = some (.iadd, 0) := (am_L0_54 3576 (by decide)).trans (by decide +kernel)
theorem at_0_3577 : am_at (am_m 0) 3577 = some (.iaload, 0) := (am_L0_54 3577 (by decide)).trans (by decide +kernel)
theorem at_0_3578 : am_at (am_m 0) 3578 = some (.aload_n 3, 0) := (am_L0_54 3578 (by decide)).trans (by decide +kernel)
theorem at_0_3579 : am_at (am_m 0) 3579 = some (.invokestatic 366, 283) := (am_L0_54 3579 (by decide)).trans (by decide +kernel)
theorem at_0_3582 : am_at (am_m 0) 3582 = some (.istore 5, 0) := (am_L0_54 3582 (by decide)).trans (by decide +kernel)
theorem at_0_3584 : am_at (am_m 0) 3584 = some (.aload_n 2, 0) := (am_L0_55 3584 (by decide)).trans (by decide +kernel)
theorem at_0_3585 : am_at (am_m 0) 3585 = some (.aload_n 0, 0) := (am_L0_55 3585 (by decide)).trans (by decide +kernel)
theorem at_0_3586 : am_at (am_m 0) 3586 = some (.iload 4, 0) := (am_L0_55 3586 (by decide)).trans (by decide +kernel)
theorem at_0_3588 : am_at (am_m 0) 3588 = some (.iconst 1, 0) := (am_L0_55 3588 (by decide)).trans (by decide +kernel)
theorem at_0_3589 : am_at (am_m 0) 3589 = some (.iadd, 0) := (am_L0_55 3589 (by decide)).trans (by decide +kernel)
theorem at_0_3590 : am_at (am_m 0) 3590 = some (.iaload, 0) := (am_L0_55 3590 (by decide)).trans (by decide +kernel)
theorem at_0_3591 : am_at (am_m 0) 3591 = some (.aload_n 0, 0) := (am_L0_55 3591 (by decide)).trans (by decide +kernel)
theorem at_0_3592 : am_at (am_m 0) 3592 = some (.iload 4, 0) := (am_L0_55 3592 (by decide)).trans (by decide +kernel)
theorem at_0_3594 : am_at (am_m 0) 3594 = some (.iconst 2, 0) := (am_L0_55 3594 (by decide)).trans (by decide +kernel)
theorem at_0_3595 : am_at (am_m 0) 3595 = some (.iadd, 0) := (am_L0_55 3595 (by decide)).trans (by decide +kernel)
theorem at_0_3596 : am_at (am_m 0) 3596 = some (.iaload, 0) := (am_L0_55 3596 (by decide)).trans (by decide +kernel)
theorem at_0_3597 : am_at (am_m 0) 3597 = some (.invokevirtual 368, 555) := (am_L0_55 3597 (by decide)).trans (by decide +kernel)
theorem at_0_3600 : am_at (am_m 0) 3600 = some (.istore 6, 0) := (am_L0_55 3600 (by decide)).trans (by decide +kernel)
theorem at_0_3602 : am_at (am_m 0) 3602 = some (.aload_n 2, 0) := (am_L0_55 3602 (by decide)).trans (by decide +kernel)
theorem at_0_3603 : am_at (am_m 0) 3603 = some (.invokevirtual 202, 324) := (am_L0_55 3603 (by decide)).trans (by decide +kernel)
theorem at_0_3606 : am_at (am_m 0) 3606 = some (.iload 5, 0) := (am_L0_55 3606 (by decide)).trans (by decide +kernel)
theorem at_0_3608 : am_at (am_m 0) 3608 = some (.if_icmp .eq 5, 3613) := (am_L0_55 3608 (by decide)).trans (by decide +kernel)
theorem at_0_3611 : am_at (am_m 0) 3611 = some (.iconst 0, 0) := (am_L0_55 3611 (by decide)).trans (by decide +kernel)
theorem at_0_3612 : am_at (am_m 0) 3612 = some (.ireturn, 0) := (am_L0_55 3612 (by decide)).trans (by decide +kernel)
theorem at_0_3613 : am_at (am_m 0) 3613 = some (.iload 5, 0) := (am_L0_55 3613 (by decide)).trans (by decide +kernel)
theorem at_0_3615 : am_at (am_m 0) 3615 = some (.ifCond .ne 22, 3637) := (am_L0_55 3615 (by decide)).trans (by decide +kernel)
theorem at_0_3618 : am_at (am_m 0) 3618 = some (.aload_n 3, 0) := (am_L0_55 3618 (by decide)).trans (by decide +kernel)
theorem at_0_3619 : am_at (am_m 0) 3619 = some (.iconst 0, 0) := (am_L0_55 3619 (by decide)).trans (by decide +kernel)
theorem at_0_3620 : am_at (am_m 0) 3620 = some (.laload, 0) := (am_L0_55 3620 (by decide)).trans (by decide +kernel)
theorem at_0_3621 : am_at (am_m 0) 3621 = some (.iload 6, 0) := (am_L0_55 3621 (by decide)).trans (by decide +kernel)
theorem at_0_3623 : am_at (am_m 0) 3623 = some (.ifCond .eq 7, 3630) := (am_L0_55 3623 (by decide)).trans (by decide +kernel)
theorem at_0_3626 : am_at (am_m 0) 3626 = some (.lconst 1, 0) := (am_L0_55 3626 (by decide)).trans (by decide +kernel)
theorem at_0_3627 : am_at (am_m 0) 3627 = some (.goto 4, 3631) := (am_L0_55 3627 (by decide)).trans (by decide +kernel)
theorem at_0_3630 : am_at (am_m 0) 3630 = some (.lconst 0, 0) := (am_L0_55 3630 (by decide)).trans (by decide +kernel)
theorem at_0_3631 : am_at (am_m 0) 3631 = some (.lcmp, 0) := (am_L0_55 3631 (by decide)).trans (by decide +kernel)
theorem at_0_3632 : am_at (am_m 0) 3632 = some (.ifCond .eq 5, 3637) := (am_L0_55 3632 (by decide)).trans (by decide +kernel)
theorem at_0_3635 : am_at (am_m 0) 3635 = some (.iconst 0, 0) := (am_L0_55 3635 (by decide)).trans (by decide +kernel)
theorem at_0_3636 : am_at (am_m 0) 3636 = some (.ireturn, 0) := (am_L0_55 3636 (by decide)).trans (by decide +kernel)
theorem at_0_3637 : am_at (am_m 0) 3637 = some (.goto 555, 4192) := (am_L0_55 3637 (by decide)).trans (by decide +kernel)
theorem at_0_3640 : am_at (am_m 0) 3640 = some (.aload_n 1, 0) := (am_L0_55 3640 (by decide)).trans (by decide +kernel)
theorem at_0_3641 : am_at (am_m 0) 3641 = some (.aload_n 0, 0) := (am_L0_55 3641 (by decide)).trans (by decide +kernel)
theorem at_0_3642 : am_at (am_m 0) 3642 = some (.iload 4, 0) := (am_L0_55 3642 (by decide)).trans (by decide +kernel)
theorem at_0_3644 : am_at (am_m 0) 3644 = some (.iconst 1, 0) := (am_L0_55 3644 (by decide)).trans (by decide +kernel)
theorem at_0_3645 : am_at (am_m 0) 3645 = some (.iadd, 0) := (am_L0_55 3645 (by decide)).trans (by decide +kernel)
theorem at_0_3646 : am_at (am_m 0) 3646 = some (.iaload, 0) := (am_L0_55 3646 (by decide)).trans (by decide +kernel)
theorem at_0_3647 : am_at (am_m 0) 3647 = some (.aload_n 0, 0) := (am_L0_56 3647 (by decide)).trans (by decide +kernel)
theorem at_0_3648 : am_at (am_m 0) 3648 = some (.iload 4, 0) := (am_L0_56 3648 (by decide)).trans (by decide +kernel)
theorem at_0_3650 : am_at (am_m 0) 3650 = some (.iconst 2, 0) := (am_L0_56 3650 (by decide)).trans (by decide +kernel)
theorem at_0_3651 : am_at (am_m 0) 3651 = some (.iadd, 0) := (am_L0_56 3651 (by decide)).trans (by decide +kernel)
theorem at_0_3652 : am_at (am_m 0) 3652 = some (.iaload, 0) := (am_L0_56 3652 (by decide)).trans (by decide +kernel)
theorem at_0_3653 : am_at (am_m 0) 3653 = some (.aload_n 3, 0) := (am_L0_56 3653 (by decide)).trans (by decide +kernel)
theorem at_0_3654 : am_at (am_m 0) 3654 = some (.invokestatic 369, 286) := (am_L0_56 3654 (by decide)).trans (by decide +kernel)
theorem at_0_3657 : am_at (am_m 0) 3657 = some (.istore 5, 0) := (am_L0_56 3657 (by decide)).trans (by decide +kernel)
theorem at_0_3659 : am_at (am_m 0) 3659 = some (.aload_n 2, 0) := (am_L0_56 3659 (by decide)).trans (by decide +kernel)
theorem at_0_3660 : am_at (am_m 0) 3660 = some (.aload_n 0, 0) := (am_L0_56 3660 (by decide)).trans (by decide +kernel)
theorem at_0_3661 : am_at (am_m 0) 3661 = some (.iload 4, 0) := (am_L0_56 3661 (by decide)).trans (by decide +kernel)
theorem at_0_3663 : am_at (am_m 0) 3663 = some (.iconst 1, 0) := (am_L0_56 3663 (by decide)).trans (by decide +kernel)
theorem at_0_3664 : am_at (am_m 0) 3664 = some (.iadd, 0) := (am_L0_56 3664 (by decide)).trans (by decide +kernel)
theorem at_0_3665 : am_at (am_m 0) 3665 = some (.iaload, 0) := (am_L0_56 3665 (by decide)).trans (by decide +kernel)
theorem at_0_3666 : am_at (am_m 0) 3666 = some (.aload_n 0, 0) := (am_L0_56 3666 (by decide)).trans (by decide +kernel)
theorem at_0_3667 : am_at (am_m 0) 3667 = some (.iload 4, 0) := (am_L0_56 3667 (by decide)).trans (by decide +kernel)
theorem at_0_3669 : am_at (am_m 0) 3669 = some (.iconst 2, 0) := (am_L0_56 3669 (by decide)).trans (by decide +kernel)
theorem at_0_3670 : am_at (am_m 0) 3670 = some (.iadd, 0) := (am_L0_56 3670 (by decide)).trans (by decide +kernel)
theorem at_0_3671 : am_at (am_m 0) 3671 = some (.iaload, 0) := (am_L0_56 3671 (by decide)).trans (by decide +kernel)
theorem at_0_3672 : am_at (am_m 0) 3672 = some (.invokevirtual 371, 566) := (am_L0_56 3672 (by decide)).trans (by decide +kernel)
theorem at_0_3675 : am_at (am_m 0) 3675 = some (.istore 6, 0) := (am_L0_56 3675 (by decide)).trans (by decide +kernel)
theorem at_0_3677 : am_at (am_m 0) 3677 = some (.aload_n 2, 0) := (am_L0_56 3677 (by decide)).trans (by decide +kernel)
theorem at_0_3678 : am_at (am_m 0) 3678 = some (.invokevirtual 202, 324) := (am_L0_56 3678 (by decide)).trans (by decide +kernel)
theorem at_0_3681 : am_at (am_m 0) 3681 = some (.iload 5, 0) := (am_L0_56 3681 (by decide)).trans (by decide +kernel)
theorem at_0_3683 : am_at (am_m 0) 3683 = some (.if_icmp .eq 5, 3688) := (am_L0_56 3683 (by decide)).trans (by decide +kernel)
theorem at_0_3686 : am_at (am_m 0) 3686 = some (.iconst 0, 0) := (am_L0_56 3686 (by decide)).trans (by decide +kernel)
theorem at_0_3687 : am_at (am_m 0) 3687 = some (.ireturn, 0) := (am_L0_56 3687 (by decide)).trans (by decide +kernel)
theorem at_0_3688 : am_at (am_m 0) 3688 = some (.iload 5, 0) := (am_L0_56 3688 (by decide)).trans (by decide +kernel)
theorem at_0_3690 : am_at (am_m 0) 3690 = some (.ifCond .ne 15, 3705) := (am_L0_56 3690 (by decide)).trans (by decide +kernel)
theorem at_0_3693 : am_at (am_m 0) 3693 = some (.aload_n 3, 0) := (am_L0_56 3693 (by decide)).trans (by decide +kernel)
theorem at_0_3694 : am_at (am_m 0) 3694 = some (.iconst 0, 0) := (am_L0_56 3694 (by decide)).trans (by decide +kernel)
theorem at_0_3695 : am_at (am_m 0) 3695 = some (.laload, 0) := (am_L0_56 3695 (by decide)).trans (by decide +kernel)
theorem at_0_3696 : am_at (am_m 0) 3696 = some (.iload 6, 0) := (am_L0_56 3696 (by decide)).trans (by decide +kernel)
theorem at_0_3698 : am_at (am_m 0) 3698 = some (.i2l, 0) := (am_L0_56 3698 (by decide)).trans (by decide +kernel)
theorem at_0_3699 : am_at (am_m 0) 3699 = some (.lcmp, 0) := (am_L0_56 3699 (by decide)).trans (by decide +kernel)
theorem at_0_3700 : am_at (am_m 0) 3700 = some (.ifCond .eq 5, 3705) := (am_L0_56 3700 (by decide)).trans (by decide +kernel)
theorem at_0_3703 : am_at (am_m 0) 3703 = some (.iconst 0, 0) := (am_L0_56 3703 (by decide)).trans (by decide +kernel)
theorem at_0_3704 : am_at (am_m 0) 3704 = some (.ireturn, 0) := (am_L0_56 3704 (by decide)).trans (by decide +kernel)
theorem at_0_3705 : am_at (am_m 0) 3705 = some (.goto 487, 4192) := (am_L0_56 3705 (by decide)).trans (by decide +kernel)
theorem at_0_3708 : am_at (am_m 0) 3708 = some (.aload_n 1, 0) := (am_L0_56 3708 (by decide)).trans (by decide +kernel)
theorem at_0_3709 : am_at (am_m 0) 3709 = some (.aload_n 0, 0) := (am_L0_57 3709 (by decide)).trans (by decide +kernel)
theorem at_0_3710 : am_at (am_m 0) 3710 = some (.iload 4, 0) := (am_L0_57 3710 (by decide)).trans (by decide +kernel)
theorem at_0_3712 : am_at (am_m 0) 3712 = some (.iconst 1, 0) := (am_L0_57 3712 (by decide)).trans (by decide +kernel)
theorem at_0_3713 : am_at (am_m 0) 3713 = some (.iadd, 0) := (am_L0_57 3713 (by decide)).trans (by decide +kernel)
theorem at_0_3714 : am_at (am_m 0) 3714 = some (.iaload, 0) := (am_L0_57 3714 (by decide)).trans (by decide +kernel)
theorem at_0_3715 : am_at (am_m 0) 3715 = some (.aload_n 3, 0) := (am_L0_57 3715 (by decide)).trans (by decide +kernel)
theorem at_0_3716 : am_at (am_m 0) 3716 = some (.invokestatic 372, 299) := (am_L0_57 3716 (by decide)).trans (by decide +kernel)
theorem at_0_3719 : am_at (am_m 0) 3719 = some (.istore 5, 0) := (am_L0_57 3719 (by decide)).trans (by decide +kernel)
theorem at_0_3721 : am_at (am_m 0) 3721 = some (.aload_n 2, 0) := (am_L0_57 3721 (by decide)).trans (by decide +kernel)
theorem at_0_3722 : am_at (am_m 0) 3722 = some (.aload_n 0, 0) := (am_L0_57 3722 (by decide)).trans (by decide +kernel)
theorem at_0_3723 : am_at (am_m 0) 3723 = some (.iload 4, 0) := (am_L0_57 3723 (by decide)).trans (by decide +kernel)
theorem at_0_3725 : am_at (am_m 0) 3725 = some (.iconst 1, 0) := (am_L0_57 3725 (by decide)).trans (by decide +kernel)
theorem at_0_3726 : am_at (am_m 0) 3726 = some (.iadd, 0) := (am_L0_57 3726 (by decide)).trans (by decide +kernel)
theorem at_0_3727 : am_at (am_m 0) 3727 = some (.iaload, 0) := (am_L0_57 3727 (by decide)).trans (by decide +kernel)
theorem at_0_3728 : am_at (am_m 0) 3728 = some (.invokevirtual 374, 576) := (am_L0_57 3728 (by decide)).trans (by decide +kernel)
theorem at_0_3731 : am_at (am_m 0) 3731 = some (.istore 6, 0) := (am_L0_57 3731 (by decide)).trans (by decide +kernel)
theorem at_0_3733 : am_at (am_m 0) 3733 = some (.aload_n 2, 0) := (am_L0_57 3733 (by decide)).trans (by decide +kernel)
theorem at_0_3734 : am_at (am_m 0) 3734 = some (.invokevirtual 202, 324) := (am_L0_57 3734 (by decide)).trans (by decide +kernel)
theorem at_0_3737 : am_at (am_m 0) 3737 = some (.iload 5, 0) := (am_L0_57 3737 (by decide)).trans (by decide +kernel)
theorem at_0_3739 : am_at (am_m 0) 3739 = some (.if_icmp .eq 5, 3744) := (am_L0_57 3739 (by decide)).trans (by decide +kernel)
theorem at_0_3742 : am_at (am_m 0) 3742 = some (.iconst 0, 0) := (am_L0_57 3742 (by decide)).trans (by decide +kernel)
theorem at_0_3743 : am_at (am_m 0) 3743 = some (.ireturn, 0) := (am_L0_57 3743 (by decide)).trans (by decide +kernel)
theorem at_0_3744 : am_at (am_m 0) 3744 = some (.iload 5, 0) := (am_L0_57 3744 (by decide)).trans (by decide +kernel)
theorem at_0_3746 : am_at (am_m 0) 3746 = some (.ifCond .ne 15, 3761) := (am_L0_57 3746 (by decide)).trans (by decide +kernel)
theorem at_0_3749 : am_at (am_m 0) 3749 = some (.aload_n 3, 0) := (am_L0_57 3749 (by decide)).trans (by decide +kernel)
theorem at_0_3750 : am_at (am_m 0) 3750 = some (.iconst 0, 0) := (am_L0_57 3750 (by decide)).trans (by decide +kernel)
theorem at_0_3751 : am_at (am_m 0) 3751 = some (.laload, 0) := (am_L0_57 3751 (by decide)).trans (by decide +kernel)
theorem at_0_3752 : am_at (am_m 0) 3752 = some (.iload 6, 0) := (am_L0_57 3752 (by decide)).trans (by decide +kernel)
theorem at_0_3754 : am_at (am_m 0) 3754 = some (.i2l, 0) := (am_L0_57 3754 (by decide)).trans (by decide +kernel)
theorem at_0_3755 : am_at (am_m 0) 3755 = some (.lcmp, 0) := (am_L0_57 3755 (by decide)).trans (by decide +kernel)
theorem at_0_3756 : am_at (am_m 0) 3756 = some (.ifCond .eq 5, 3761) := (am_L0_57 3756 (by decide)).trans (by decide +kernel)
theorem at_0_3759 : am_at (am_m 0) 3759 = some (.iconst 0, 0) := (am_L0_57 3759 (by decide)).trans (by decide +kernel)
theorem at_0_3760 : am_at (am_m 0) 3760 = some (.ireturn, 0) := (am_L0_57 3760 (by decide)).trans (by decide +kernel)
theorem at_0_3761 : am_at (am_m 0) 3761 = some (.goto 431, 4192) := (am_L0_57 3761 (by decide)).trans (by decide +kernel)
theorem at_0_3764 : am_at (am_m 0) 3764 = some (.aload_n 1, 0) := (am_L0_57 3764 (by decide)).trans (by decide +kernel)
theorem at_0_3765 : am_at (am_m 0) 3765 = some (.aload_n 0, 0) := (am_L0_57 3765 (by decide)).trans (by decide +kernel)
theorem at_0_3766 : am_at (am_m 0) 3766 = some (.iload 4, 0) := (am_L0_57 3766 (by decide)).trans (by decide +kernel)
theorem at_0_3768 : am_at (am_m 0) 3768 = some (.iconst 1, 0) := (am_L0_57 3768 (by decide)).trans (by decide +kernel)
theorem at_0_3769 : am_at (am_m 0) 3769 = some (.iadd, 0) := (am_L0_57 3769 (by decide)).trans (by decide +kernel)
theorem at_0_3770 : am_at (am_m 0) 3770 = some (.iaload, 0) := (am_L0_57 3770 (by decide)).trans (by decide +kernel)
theorem at_0_3771 : am_at (am_m 0) 3771 = some (.aload_n 3, 0) := (am_L0_58 3771 (by decide)).trans (by decide +kernel)
theorem at_0_3772 : am_at (am_m 0) 3772 = some (.invokestatic 375, 301) := (am_L0_58 3772 (by decide)).trans (by decide +kernel)
theorem at_0_3775 : am_at (am_m 0) 3775 = some (.istore 5, 0) := (am_L0_58 3775 (by decide)).trans (by decide +kernel)
theorem at_0_3777 : am_at (am_m 0) 3777 = some (.aload_n 2, 0) := (am_L0_58 3777 (by decide)).trans (by decide +kernel)
theorem at_0_3778 : am_at (am_m 0) 3778 = some (.aload_n 0, 0) := (am_L0_58 3778 (by decide)).trans (by decide +kernel)
theorem at_0_3779 : am_at (am_m 0) 3779 = some (.iload 4, 0) := (am_L0_58 3779 (by decide)).trans (by decide +kernel)
theorem at_0_3781 : am_at (am_m 0) 3781 = some (.iconst 1, 0) := (am_L0_58 3781 (by decide)).trans (by decide +kernel)
theorem at_0_3782 : am_at (am_m 0) 3782 = some (.iadd, 0) := (am_L0_58 3782 (by decide)).trans (by decide +kernel)
theorem at_0_3783 : am_at (am_m 0) 3783 = some (.iaload, 0) := (am_L0_58 3783 (by decide)).trans (by decide +kernel)
theorem at_0_3784 : am_at (am_m 0) 3784 = some (.invokevirtual 377, 577) := (am_L0_58 3784 (by decide)).trans (by decide +kernel)
theorem at_0_3787 : am_at (am_m 0) 3787 = some (.istore 6, 0) := (am_L0_58 3787 (by decide)).trans (by decide +kernel)
theorem at_0_3789 : am_at (am_m 0) 3789 = some (.aload_n 2, 0) := (am_L0_58 3789 (by decide)).trans (by decide +kernel)
theorem at_0_3790 : am_at (am_m 0) 3790 = some (.invokevirtual 202, 324) := (am_L0_58 3790 (by decide)).trans (by decide +kernel)
theorem at_0_3793 : am_at (am_m 0) 3793 = some (.iload 5, 0) := (am_L0_58 3793 (by decide)).trans (by decide +kernel)
theorem at_0_3795 : am_at (am_m 0) 3795 = some (.if_icmp .eq 5, 3800) := (am_L0_58 3795 (by decide)).trans (by decide +kernel)
theorem at_0_3798 : am_at (am_m 0) 3798 = some (.iconst 0, 0) := (am_L0_58 3798 (by decide)).trans (by decide +kernel)
theorem at_0_3799 : am_at (am_m 0) 3799 = some (.ireturn, 0) := (am_L0_58 3799 (by decide)).trans (by decide +kernel)
theorem at_0_3800 : am_at (am_m 0) 3800 = some (.iload 5, 0) := (am_L0_58 3800 (by decide)).trans (by decide +kernel)
theorem at_0_3802 : am_at (am_m 0) 3802 = some (.ifCond .ne 15, 3817) := (am_L0_58 3802 (by decide)).trans (by decide +kernel)
theorem at_0_3805 : am_at (am_m 0) 3805 = some (.aload_n 3, 0) := (am_L0_58 3805 (by decide)).trans (by decide +kernel)
theorem at_0_3806 : am_at (am_m 0) 3806 = some (.iconst 0, 0) := (am_L0_58 3806 (by decide)).trans (by decide +kernel)
theorem at_0_3807 : am_at (am_m 0) 3807 = some (.laload, 0) := (am_L0_58 3807 (by decide)).trans (by decide +kernel)
theorem at_0_3808 : am_at (am_m 0) 3808 = some (.iload 6, 0) := (am_L0_58 3808 (by decide)).trans (by decide +kernel)
theorem at_0_3810 : am_at (am_m 0) 3810 = some (.i2l, 0) := (am_L0_58 3810 (by decide)).trans (by decide +kernel)
theorem at_0_3811 : am_at (am_m 0) 3811 = some (.lcmp, 0) := (am_L0_58 3811 (by decide)).trans (by decide +kernel)
theorem at_0_3812 : am_at (am_m 0) 3812 = some (.ifCond .eq 5, 3817) := (am_L0_58 3812 (by decide)).trans (by decide +kernel)
theorem at_0_3815 : am_at (am_m 0) 3815 = some (.iconst 0, 0) := (am_L0_58 3815 (by decide)).trans (by decide +kernel)
theorem at_0_3816 : am_at (am_m 0) 3816 = some (.ireturn, 0) := (am_L0_58 3816 (by decide)).trans (by decide +kernel)
theorem at_0_3817 : am_at (am_m 0) 3817 = some (.goto 375, 4192) := (am_L0_58 3817 (by decide)).trans (by decide +kernel)
theorem at_0_3820 : am_at (am_m 0) 3820 = some (.aload_n 1, 0) := (am_L0_58 3820 (by decide)).trans (by decide +kernel)
theorem at_0_3821 : am_at (am_m 0) 3821 = some (.aload_n 0, 0) := (am_L0_58 3821 (by decide)).trans (by decide +kernel)
theorem at_0_3822 : am_at (am_m 0) 3822 = some (.iload 4, 0) := (am_L0_58 3822 (by decide)).trans (by decide +kernel)
theorem at_0_3824 : am_at (am_m 0) 3824 = some (.iconst 1, 0) := (am_L0_58 3824 (by decide)).trans (by decide +kernel)
theorem at_0_3825 : am_at (am_m 0) 3825 = some (.iadd, 0) := (am_L0_58 3825 (by decide)).trans (by decide +kernel)
theorem at_0_3826 : am_at (am_m 0) 3826 = some (.iaload, 0) := (am_L0_58 3826 (by decide)).trans (by decide +kernel)
theorem at_0_3827 : am_at (am_m 0) 3827 = some (.aload_n 0, 0) := (am_L0_58 3827 (by decide)).trans (by decide +kernel)
theorem at_0_3828 : am_at (am_m 0) 3828 = some (.iload 4, 0) := (am_L0_58 3828 (by decide)).trans (by decide +kernel)
theorem at_0_3830 : am_at (am_m 0) 3830 = some (.iconst 2, 0) := (am_L0_58 3830 (by decide)).trans (by decide +kernel)
theorem at_0_3831 : am_at (am_m 0) 3831 = some (.iadd, 0) := (am_L0_58 3831 (by decide)).trans (by decide +kernel)
theorem at_0_3832 : am_at (am_m 0) 3832 = some (.iaload, 0) := (am_L0_58 3832 (by decide)).trans (by decide +kernel)
theorem at_0_3833 : am_at (am_m 0) 3833 = some (.aload_n 0, 0) := (am_L0_59 3833 (by decide)).trans (by decide +kernel)
theorem at_0_3834 : am_at (am_m 0) 3834 = some (.iload 4, 0) := (am_L0_59 3834 (by decide)).trans (by decide +kernel)
theorem at_0_3836 : am_at (am_m 0) 3836 = some (.iconst 3, 0) := (am_L0_59 3836 (by decide)).trans (by decide +kernel)
theorem at_0_3837 : am_at (am_m 0) 3837 = some (.iadd, 0) := (am_L0_59 3837 (by decide)).trans (by decide +kernel)
theorem at_0_3838 : am_at (am_m 0) 3838 = some (.iaload, 0) := (am_L0_59 3838 (by decide)).trans (by decide +kernel)
theorem at_0_3839 : am_at (am_m 0) 3839 = some (.aload_n 3, 0) := (am_L0_59 3839 (by decide)).trans (by decide +kernel)
theorem at_0_3840 : am_at (am_m 0) 3840 = some (.invokestatic 378, 304) := (am_L0_59 3840 (by decide)).trans (by decide +kernel)
theorem at_0_3843 : am_at (am_m 0) 3843 = some (.istore 5, 0) := (am_L0_59 3843 (by decide)).trans (by decide +kernel)
theorem at_0_3845 : am_at (am_m 0) 3845 = some (.aload_n 2, 0) := (am_L0_59 3845 (by decide)).trans (by decide +kernel)
theorem at_0_3846 : am_at (am_m 0) 3846 = some (.aload_n 0, 0) := (am_L0_59 3846 (by decide)).trans (by decide +kernel)
theorem at_0_3847 : am_at (am_m 0) 3847 = some (.iload 4, 0) := (am_L0_59 3847 (by decide)).trans (by decide +kernel)
theorem at_0_3849 : am_at (am_m 0) 3849 = some (.iconst 1, 0) := (am_L0_59 3849 (by decide)).trans (by decide +kernel)
theorem at_0_3850 : am_at (am_m 0) 3850 = some (.iadd, 0) := (am_L0_59 3850 (by decide)).trans (by decide +kernel)
theorem at_0_3851 : am_at (am_m 0) 3851 = some (.iaload, 0) := (am_L0_59 3851 (by decide)).trans (by decide +kernel)
theorem at_0_3852 : am_at (am_m 0) 3852 = some (.aload_n 0, 0) := (am_L0_59 3852 (by decide)).trans (by decide +kernel)
theorem at_0_3853 : am_at (am_m 0) 3853 = some (.iload 4, 0) := (am_L0_59 3853 (by decide)).trans (by decide +kernel)
theorem at_0_3855 : am_at (am_m 0) 3855 = some (.iconst 2, 0) := (am_L0_59 3855 (by decide)).trans (by decide +kernel)
theorem at_0_3856 : am_at (am_m 0) 3856 = some (.iadd, 0) := (am_L0_59 3856 (by decide)).trans (by decide +kernel)
theorem at_0_3857 : am_at (am_m 0) 3857 = some (.iaload, 0) := (am_L0_59 3857 (by decide)).trans (by decide +kernel)
theorem at_0_3858 : am_at (am_m 0) 3858 = some (.aload_n 0, 0) := (am_L0_59 3858 (by decide)).trans (by decide +kernel)
theorem at_0_3859 : am_at (am_m 0) 3859 = some (.iload 4, 0) := (am_L0_59 3859 (by decide)).trans (by decide +kernel)
theorem at_0_3861 : am_at (am_m 0) 3861 = some (.iconst 3, 0) := (am_L0_59 3861 (by decide)).trans (by decide +kernel)
theorem at_0_3862 : am_at (am_m 0) 3862 = some (.iadd, 0) := (am_L0_59 3862 (by decide)).trans (by decide +kernel)
theorem at_0_3863 : am_at (am_m 0) 3863 = some (.iaload, 0) := (am_L0_59 3863 (by decide)).trans (by decide +kernel)
theorem at_0_3864 : am_at (am_m 0) 3864 = some (.invokevirtual 380, 581) := (am_L0_59 3864 (by decide)).trans (by decide +kernel)
theorem at_0_3867 : am_at (am_m 0) 3867 = some (.istore 6, 0) := (am_L0_59 3867 (by decide)).trans (by decide +kernel)
theorem at_0_3869 : am_at (am_m 0) 3869 = some (.aload_n 2, 0) := (am_L0_59 3869 (by decide)).trans (by decide +kernel)
theorem at_0_3870 : am_at (am_m 0) 3870 = some (.invokevirtual 202, 324) := (am_L0_59 3870 (by decide)).trans (by decide +kernel)
theorem at_0_3873 : am_at (am_m 0) 3873 = some (.iload 5, 0) := (am_L0_59 3873 (by decide)).trans (by decide +kernel)
theorem at_0_3875 : am_at (am_m 0) 3875 = some (.if_icmp .eq 5, 3880) := (am_L0_59 3875 (by decide)).trans (by decide +kernel)
theorem at_0_3878 : am_at (am_m 0) 3878 = some (.iconst 0, 0) := (am_L0_59 3878 (by decide)).trans (by decide +kernel)
theorem at_0_3879 : am_at (am_m 0) 3879 = some (.ireturn, 0) := (am_L0_59 3879 (by decide)).trans (by decide +kernel)
theorem at_0_3880 : am_at (am_m 0) 3880 = some (.iload 5, 0) := (am_L0_59 3880 (by decide)).trans (by decide +kernel)
theorem at_0_3882 : am_at (am_m 0) 3882 = some (.ifCond .ne 15, 3897) := (am_L0_59 3882 (by decide)).trans (by decide +kernel)
theorem at_0_3885 : am_at (am_m 0) 3885 = some (.aload_n 3, 0) := (am_L0_59 3885 (by decide)).trans (by decide +kernel)
theorem at_0_3886 : am_at (am_m 0) 3886 = some (.iconst 0, 0) := (am_L0_59 3886 (by decide)).trans (by decide +kernel)
theorem at_0_3887 : am_at (am_m 0) 3887 = some (.laload, 0) := (am_L0_59 3887 (by decide)).trans (by decide +kernel)
theorem at_0_3888 : am_at (am_m 0) 3888 = some (.iload 6, 0) := (am_L0_59 3888 (by decide)).trans (by decide +kernel)
theorem at_0_3890 : am_at (am_m 0) 3890 = some (.i2l, 0) := (am_L0_59 3890 (by decide)).trans (by decide +kernel)
theorem at_0_3891 : am_at (am_m 0) 3891 = some (.lcmp, 0) := (am_L0_59 3891 (by decide)).trans (by decide +kernel)
theorem at_0_3892 : am_at (am_m 0) 3892 = some (.ifCond .eq 5, 3897) := (am_L0_60 3892 (by decide)).trans (by decide +kernel)
theorem at_0_3895 : am_at (am_m 0) 3895 = some (.iconst 0, 0) := (am_L0_60 3895 (by decide)).trans (by decide +kernel)
theorem at_0_3896 : am_at (am_m 0) 3896 = some (.ireturn, 0) := (am_L0_60 3896 (by decide)).trans (by decide +kernel)
theorem at_0_3897 : am_at (am_m 0) 3897 = some (.goto 295, 4192) := (am_L0_60 3897 (by decide)).trans (by decide +kernel)
theorem at_0_3900 : am_at (am_m 0) 3900 = some (.aload_n 1, 0) := (am_L0_60 3900 (by decide)).trans (by decide +kernel)
theorem at_0_3901 : am_at (am_m 0) 3901 = some (.aload_n 0, 0) := (am_L0_60 3901 (by decide)).trans (by decide +kernel)
theorem at_0_3902 : am_at (am_m 0) 3902 = some (.iload 4, 0) := (am_L0_60 3902 (by decide)).trans (by decide +kernel)
theorem at_0_3904 : am_at (am_m 0) 3904 = some (.iconst 1, 0) := (am_L0_60 3904 (by decide)).trans (by decide +kernel)
theorem at_0_3905 : am_at (am_m 0) 3905 = some (.iadd, 0) := (am_L0_60 3905 (by decide)).trans (by decide +kernel)
theorem at_0_3906 : am_at (am_m 0) 3906 = some (.iaload, 0) := (am_L0_60 3906 (by decide)).trans (by decide +kernel)
theorem at_0_3907 : am_at (am_m 0) 3907 = some (.aload_n 0, 0) := (am_L0_60 3907 (by decide)).trans (by decide +kernel)
theorem at_0_3908 : am_at (am_m 0) 3908 = some (.iload 4, 0) := (am_L0_60 3908 (by decide)).trans (by decide +kernel)
theorem at_0_3910 : am_at (am_m 0) 3910 = some (.iconst 2, 0) := (am_L0_60 3910 (by decide)).trans (by decide +kernel)
theorem at_0_3911 : am_at (am_m 0) 3911 = some (.iadd, 0) := (am_L0_60 3911 (by decide)).trans (by decide +kernel)
theorem at_0_3912 : am_at (am_m 0) 3912 = some (.iaload, 0) := (am_L0_60 3912 (by decide)).trans (by decide +kernel)
theorem at_0_3913 : am_at (am_m 0) 3913 = some (.aload_n 3, 0) := (am_L0_60 3913 (by decide)).trans (by decide +kernel)
theorem at_0_3914 : am_at (am_m 0) 3914 = some (.invokestatic 381, 306) := (am_L0_60 3914 (by decide)).trans (by decide +kernel)
theorem at_0_3917 : am_at (am_m 0) 3917 = some (.istore 5, 0) := (am_L0_60 3917 (by decide)).trans (by decide +kernel)
theorem at_0_3919 : am_at (am_m 0) 3919 = some (.aload_n 2, 0) := (am_L0_60 3919 (by decide)).trans (by decide +kernel)
theorem at_0_3920 : am_at (am_m 0) 3920 = some (.aload_n 0, 0) := (am_L0_60 3920 (by decide)).trans (by decide +kernel)
theorem at_0_3921 : am_at (am_m 0) 3921 = some (.iload 4, 0) := (am_L0_60 3921 (by decide)).trans (by decide +kernel)
theorem at_0_3923 : am_at (am_m 0) 3923 = some (.iconst 1, 0) := (am_L0_60 3923 (by decide)).trans (by decide +kernel)
theorem at_0_3924 : am_at (am_m 0) 3924 = some (.iadd, 0) := (am_L0_60 3924 (by decide)).trans (by decide +kernel)
theorem at_0_3925 : am_at (am_m 0) 3925 = some (.iaload, 0) := (am_L0_60 3925 (by decide)).trans (by decide +kernel)
theorem at_0_3926 : am_at (am_m 0) 3926 = some (.aload_n 0, 0) := (am_L0_60 3926 (by decide)).trans (by decide +kernel)
theorem at_0_3927 : am_at (am_m 0) 3927 = some (.iload 4, 0) := (am_L0_60 3927 (by decide)).trans (by decide +kernel)
theorem at_0_3929 : am_at (am_m 0) 3929 = some (.iconst 2, 0) := (am_L0_60 3929 (by decide)).trans (by decide +kernel)
theorem at_0_3930 : am_at (am_m 0) 3930 = some (.iadd, 0) := (am_L0_60 3930 (by decide)).trans (by decide +kernel)
theorem at_0_3931 : am_at (am_m 0) 3931 = some (.iaload, 0) := (am_L0_60 3931 (by decide)).trans (by decide +kernel)
theorem at_0_3932 : am_at (am_m 0) 3932 = some (.invokevirtual 383, 556) := (am_L0_60 3932 (by decide)).trans (by decide +kernel)
theorem at_0_3935 : am_at (am_m 0) 3935 = some (.istore 6, 0) := (am_L0_60 3935 (by decide)).trans (by decide +kernel)
theorem at_0_3937 : am_at (am_m 0) 3937 = some (.aload_n 2, 0) := (am_L0_60 3937 (by decide)).trans (by decide +kernel)
theorem at_0_3938 : am_at (am_m 0) 3938 = some (.invokevirtual 202, 324) := (am_L0_60 3938 (by decide)).trans (by decide +kernel)
theorem at_0_3941 : am_at (am_m 0) 3941 = some (.iload 5, 0) := (am_L0_60 3941 (by decide)).trans (by decide +kernel)
theorem at_0_3943 : am_at (am_m 0) 3943 = some (.if_icmp .eq 5, 3948) := (am_L0_60 3943 (by decide)).trans (by decide +kernel)
theorem at_0_3946 : am_at (am_m 0) 3946 = some (.iconst 0, 0) := (am_L0_60 3946 (by decide)).trans (by decide +kernel)
theorem at_0_3947 : am_at (am_m 0) 3947 = some (.ireturn, 0) := (am_L0_60 3947 (by decide)).trans (by decide +kernel)
theorem at_0_3948 : am_at (am_m 0) 3948 = some (.iload 5, 0) := (am_L0_60 3948 (by decide)).trans (by decide +kernel)
theorem at_0_3950 : am_at (am_m 0) 3950 = some (.ifCond .ne 15, 3965) := (am_L0_60 3950 (by decide)).trans (by decide +kernel)
theorem at_0_3953 : am_at (am_m 0) 3953 = some (.aload_n 3, 0) := (am_L0_60 3953 (by decide)).trans (by decide +kernel)
theorem at_0_3954 : am_at (am_m 0) 3954 = some (.iconst 0, 0) := (am_L0_61 3954 (by decide)).trans (by decide +kernel)
theorem at_0_3955 : am_at (am_m 0) 3955 = some (.laload, 0) := (am_L0_61 3955 (by decide)).trans (by decide +kernel)
theorem at_0_3956 : am_at (am_m 0) 3956 = some (.iload 6, 0) := (am_L0_61 3956 (by decide)).trans (by decide +kernel)
theorem at_0_3958 : am_at (am_m 0) 3958 = some (.i2l, 0) := (am_L0_61 3958 (by decide)).trans (by decide +kernel)
theorem at_0_3959 : am_at (am_m 0) 3959 = some (.lcmp, 0) := (am_L0_61 3959 (by decide)).trans (by decide +kernel)
theorem at_0_3960 : am_at (am_m 0) 3960 = some (.ifCond .eq 5, 3965) := (am_L0_61 3960 (by decide)).trans (by decide +kernel)
theorem at_0_3963 : am_at (am_m 0) 3963 = some (.iconst 0, 0) := (am_L0_61 3963 (by decide)).trans (by decide +kernel)
theorem at_0_3964 : am_at (am_m 0) 3964 = some (.ireturn, 0) := (am_L0_61 3964 (by decide)).trans (by decide +kernel)
theorem at_0_3965 : am_at (am_m 0) 3965 = some (.goto 227, 4192) := (am_L0_61 3965 (by decide)).trans (by decide +kernel)
theorem at_0_3968 : am_at (am_m 0) 3968 = some (.aload_n 1, 0) := (am_L0_61 3968 (by decide)).trans (by decide +kernel)
theorem at_0_3969 : am_at (am_m 0) 3969 = some (.aload_n 0, 0) := (am_L0_61 3969 (by decide)).trans (by decide +kernel)
theorem at_0_3970 : am_at (am_m 0) 3970 = some (.iload 4, 0) := (am_L0_61 3970 (by decide)).trans (by decide +kernel)
theorem at_0_3972 : am_at (am_m 0) 3972 = some (.iconst 1, 0) := (am_L0_61 3972 (by decide)).trans (by decide +kernel)
theorem at_0_3973 : am_at (am_m 0) 3973 = some (.iadd, 0) := (am_L0_61 3973 (by decide)).trans (by decide +kernel)
theorem at_0_3974 : am_at (am_m 0) 3974 = some (.iaload, 0) := (am_L0_61 3974 (by decide)).trans (by decide +kernel)
theorem at_0_3975 : am_at (am_m 0) 3975 = some (.aload_n 3, 0) := (am_L0_61 3975 (by decide)).trans (by decide +kernel)
theorem at_0_3976 : am_at (am_m 0) 3976 = some (.invokestatic 384, 308) := (am_L0_61 3976 (by decide)).trans (by decide +kernel)
theorem at_0_3979 : am_at (am_m 0) 3979 = some (.istore 5, 0) := (am_L0_61 3979 (by decide)).trans (by decide +kernel)
theorem at_0_3981 : am_at (am_m 0) 3981 = some (.aload_n 2, 0) := (am_L0_61 3981 (by decide)).trans (by decide +kernel)
theorem at_0_3982 : am_at (am_m 0) 3982 = some (.aload_n 0, 0) := (am_L0_61 3982 (by decide)).trans (by decide +kernel)
theorem at_0_3983 : am_at (am_m 0) 3983 = some (.iload 4, 0) := (am_L0_61 3983 (by decide)).trans (by decide +kernel)
theorem at_0_3985 : am_at (am_m 0) 3985 = some (.iconst 1, 0) := (am_L0_61 3985 (by decide)).trans (by decide +kernel)
theorem at_0_3986 : am_at (am_m 0) 3986 = some (.iadd, 0) := (am_L0_61 3986 (by decide)).trans (by decide +kernel)
theorem at_0_3987 : am_at (am_m 0) 3987 = some (.iaload, 0) := (am_L0_61 3987 (by decide)).trans (by decide +kernel)
theorem at_0_3988 : am_at (am_m 0) 3988 = some (.invokevirtual 386, 582) := (am_L0_61 3988 (by decide)).trans (by decide +kernel)
theorem at_0_3991 : am_at (am_m 0) 3991 = some (.istore 6, 0) := (am_L0_61 3991 (by decide)).trans (by decide +kernel)
theorem at_0_3993 : am_at (am_m 0) 3993 = some (.aload_n 2, 0) := (am_L0_61 3993 (by decide)).trans (by decide +kernel)
theorem at_0_3994 : am_at (am_m 0) 3994 = some (.invokevirtual 202, 324) := (am_L0_61 3994 (by decide)).trans (by decide +kernel)
theorem at_0_3997 : am_at (am_m 0) 3997 = some (.iload 5, 0) := (am_L0_61 3997 (by decide)).trans (by decide +kernel)
theorem at_0_3999 : am_at (am_m 0) 3999 = some (.if_icmp .eq 5, 4004) := (am_L0_61 3999 (by decide)).trans (by decide +kernel)
theorem at_0_4002 : am_at (am_m 0) 4002 = some (.iconst 0, 0) := (am_L0_61 4002 (by decide)).trans (by decide +kernel)
theorem at_0_4003 : am_at (am_m 0) 4003 = some (.ireturn, 0) := (am_L0_61 4003 (by decide)).trans (by decide +kernel)
theorem at_0_4004 : am_at (am_m 0) 4004 = some (.iload 5, 0) := (am_L0_61 4004 (by decide)).trans (by decide +kernel)
theorem at_0_4006 : am_at (am_m 0) 4006 = some (.ifCond .ne 15, 4021) := (am_L0_61 4006 (by decide)).trans (by decide +kernel)
theorem at_0_4009 : am_at (am_m 0) 4009 = some (.aload_n 3, 0) := (am_L0_61 4009 (by decide)).trans (by decide +kernel)
theorem at_0_4010 : am_at (am_m 0) 4010 = some (.iconst 0, 0) := (am_L0_61 4010 (by decide)).trans (by decide +kernel)
theorem at_0_4011 : am_at (am_m 0) 4011 = some (.laload, 0) := (am_L0_61 4011 (by decide)).trans (by decide +kernel)
theorem at_0_4012 : am_at (am_m 0) 4012 = some (.iload 6, 0) := (am_L0_61 4012 (by decide)).trans (by decide +kernel)
theorem at_0_4014 : am_at (am_m 0) 4014 = some (.i2l, 0) := (am_L0_61 4014 (by decide)).trans (by decide +kernel)
theorem at_0_4015 : am_at (am_m 0) 4015 = some (.lcmp, 0) := (am_L0_61 4015 (by decide)).trans (by decide +kernel)
theorem at_0_4016 : am_at (am_m 0) 4016 = some (.ifCond .eq 5, 4021) := (am_L0_62 4016 (by decide)).trans (by decide +kernel)
theorem at_0_4019 : am_at (am_m 0) 4019 = some (.iconst 0, 0) := (am_L0_62 4019 (by decide)).trans (by decide +kernel)
theorem at_0_4020 : am_at (am_m 0) 4020 = some (.ireturn, 0) := (am_L0_62 4020 (by decide)).trans (by decide +kernel)
theorem at_0_4021 : am_at (am_m 0) 4021 = some (.goto 171, 4192) := (am_L0_62 4021 (by decide)).trans (by decide +kernel)
theorem at_0_4024 : am_at (am_m 0) 4024 = some (.aload_n 1, 0) := (am_L0_62 4024 (by decide)).trans (by decide +kernel)
theorem at_0_4025 : am_at (am_m 0) 4025 = some (.aload_n 0, 0) := (am_L0_62 4025 (by decide)).trans (by decide +kernel)
theorem at_0_4026 : am_at (am_m 0) 4026 = some (.iload 4, 0) := (am_L0_62 4026 (by decide)).trans (by decide +kernel)
theorem at_0_4028 : am_at (am_m 0) 4028 = some (.iconst 1, 0) := (am_L0_62 4028 (by decide)).trans (by decide +kernel)
theorem at_0_4029 : am_at (am_m 0) 4029 = some (.iadd, 0) := (am_L0_62 4029 (by decide)).trans (by decide +kernel)
theorem at_0_4030 : am_at (am_m 0) 4030 = some (.iaload, 0) := (am_L0_62 4030 (by decide)).trans (by decide +kernel)
theorem at_0_4031 : am_at (am_m 0) 4031 = some (.aload_n 3, 0) := (am_L0_62 4031 (by decide)).trans (by decide +kernel)
theorem at_0_4032 : am_at (am_m 0) 4032 = some (.invokestatic 387, 313) := (am_L0_62 4032 (by decide)).trans (by decide +kernel)
theorem at_0_4035 : am_at (am_m 0) 4035 = some (.istore 5, 0) := (am_L0_62 4035 (by decide)).trans (by decide +kernel)
theorem at_0_4037 : am_at (am_m 0) 4037 = some (.aload_n 2, 0) := (am_L0_62 4037 (by decide)).trans (by decide +kernel)
theorem at_0_4038 : am_at (am_m 0) 4038 = some (.aload_n 0, 0) := (am_L0_62 4038 (by decide)).trans (by decide +kernel)
theorem at_0_4039 : am_at (am_m 0) 4039 = some (.iload 4, 0) := (am_L0_62 4039 (by decide)).trans (by decide +kernel)
theorem at_0_4041 : am_at (am_m 0) 4041 = some (.iconst 1, 0) := (am_L0_62 4041 (by decide)).trans (by decide +kernel)
theorem at_0_4042 : am_at (am_m 0) 4042 = some (.iadd, 0) := (am_L0_62 4042 (by decide)).trans (by decide +kernel)
theorem at_0_4043 : am_at (am_m 0) 4043 = some (.iaload, 0) := (am_L0_62 4043 (by decide)).trans (by decide +kernel)
theorem at_0_4044 : am_at (am_m 0) 4044 = some (.invokevirtual 389, 585) := (am_L0_62 4044 (by decide)).trans (by decide +kernel)
theorem at_0_4047 : am_at (am_m 0) 4047 = some (.istore 6, 0) := (am_L0_62 4047 (by decide)).trans (by decide +kernel)
theorem at_0_4049 : am_at (am_m 0) 4049 = some (.aload_n 2, 0) := (am_L0_62 4049 (by decide)).trans (by decide +kernel)
theorem at_0_4050 : am_at (am_m 0) 4050 = some (.invokevirtual 202, 324) := (am_L0_62 4050 (by decide)).trans (by decide +kernel)
theorem at_0_4053 : am_at (am_m 0) 4053 = some (.iload 5, 0) := (am_L0_62 4053 (by decide)).trans (by decide +kernel)
theorem at_0_4055 : am_at (am_m 0) 4055 = some (.if_icmp .eq 5, 4060) := (am_L0_62 4055 (by decide)).trans (by decide +kernel)
theorem at_0_4058 : am_at (am_m 0) 4058 = some (.iconst 0, 0) := (am_L0_62 4058 (by decide)).trans (by decide +kernel)
theorem at_0_4059 : am_at (am_m 0) 4059 = some (.ireturn, 0) := (am_L0_62 4059 (by decide)).trans (by decide +kernel)
theorem at_0_4060 : am_at (am_m 0) 4060 = some (.iload 5, 0) := (am_L0_62 4060 (by decide)).trans (by decide +kernel)
theorem at_0_4062 : am_at (am_m 0) 4062 = some (.ifCond .ne 15, 4077) := (am_L0_62 4062 (by decide)).trans (by decide +kernel)
theorem at_0_4065 : am_at (am_m 0) 4065 = some (.aload_n 3, 0) := (am_L0_62 4065 (by decide)).trans (by decide +kernel)
theorem at_0_4066 : am_at (am_m 0) 4066 = some (.iconst 0, 0) := (am_L0_62 4066 (by decide)).trans (by decide +kernel)
theorem at_0_4067 : am_at (am_m 0) 4067 = some (.laload, 0) := (am_L0_62 4067 (by decide)).trans (by decide +kernel)
theorem at_0_4068 : am_at (am_m 0) 4068 = some (.iload 6, 0) := (am_L0_62 4068 (by decide)).trans (by decide +kernel)
theorem at_0_4070 : am_at (am_m 0) 4070 = some (.i2l, 0) := (am_L0_62 4070 (by decide)).trans (by decide +kernel)
theorem at_0_4071 : am_at (am_m 0) 4071 = some (.lcmp, 0) := (am_L0_62 4071 (by decide)).trans (by decide +kernel)
theorem at_0_4072 : am_at (am_m 0) 4072 = some (.ifCond .eq 5, 4077) := (am_L0_62 4072 (by decide)).trans (by decide +kernel)
theorem at_0_4075 : am_at (am_m 0) 4075 = some (.iconst 0, 0) := (am_L0_62 4075 (by decide)).trans (by decide +kernel)
theorem at_0_4076 : am_at (am_m 0) 4076 = some (.ireturn, 0) := (am_L0_62 4076 (by decide)).trans (by decide +kernel)
theorem at_0_4077 : am_at (am_m 0) 4077 = some (.goto 115, 4192) := (am_L0_62 4077 (by decide)).trans (by decide +kernel)
theorem at_0_4080 : am_at (am_m 0) 4080 = some (.aload_n 1, 0) := (am_L0_62 4080 (by decide)).trans (by decide +kernel)
theorem at_0_4081 : am_at (am_m 0) 4081 = some (.aload_n 0, 0) := (am_L0_63 4081 (by decide)).trans (by decide +kernel)
theorem at_0_4082 : am_at (am_m 0) 4082 = some (.iload 4, 0) := (am_L0_63 4082 (by decide)).trans (by decide +kernel)
theorem at_0_4084 : am_at (am_m 0) 4084 = some (.iconst 1, 0) := (am_L0_63 4084 (by decide)).trans (by decide +kernel)
theorem at_0_4085 : am_at (am_m 0) 4085 = some (.iadd, 0) := (am_L0_63 4085 (by decide)).trans (by decide +kernel)
theorem at_0_4086 : am_at (am_m 0) 4086 = some (.iaload, 0) := (am_L0_63 4086 (by decide)).trans (by decide +kernel)
theorem at_0_4087 : am_at (am_m 0) 4087 = some (.aload_n 3, 0) := (am_L0_63 4087 (by decide)).trans (by decide +kernel)
theorem at_0_4088 : am_at (am_m 0) 4088 = some (.invokestatic 390, 317) := (am_L0_63 4088 (by decide)).trans (by decide +kernel)
theorem at_0_4091 : am_at (am_m 0) 4091 = some (.istore 5, 0) := (am_L0_63 4091 (by decide)).trans (by decide +kernel)
theorem at_0_4093 : am_at (am_m 0) 4093 = some (.aload_n 2, 0) := (am_L0_63 4093 (by decide)).trans (by decide +kernel)
theorem at_0_4094 : am_at (am_m 0) 4094 = some (.aload_n 0, 0) := (am_L0_63 4094 (by decide)).trans (by decide +kernel)
theorem at_0_4095 : am_at (am_m 0) 4095 = some (.iload 4, 0) := (am_L0_63 4095 (by decide)).trans (by decide +kernel)
theorem at_0_4097 : am_at (am_m 0) 4097 = some (.iconst 1, 0) := (am_L0_63 4097 (by decide)).trans (by decide +kernel)
theorem at_0_4098 : am_at (am_m 0) 4098 = some (.iadd, 0) := (am_L0_63 4098 (by decide)).trans (by decide +kernel)
theorem at_0_4099 : am_at (am_m 0) 4099 = some (.iaload, 0) := (am_L0_63 4099 (by decide)).trans (by decide +kernel)
theorem at_0_4100 : am_at (am_m 0) 4100 = some (.invokevirtual 392, 587) := (am_L0_63 4100 (by decide)).trans (by decide +kernel)
theorem at_0_4103 : am_at (am_m 0) 4103 = some (.istore 6, 0) := (am_L0_63 4103 (by decide)).trans (by decide +kernel)
theorem at_0_4105 : am_at (am_m 0) 4105 = some (.aload_n 2, 0) := (am_L0_63 4105 (by decide)).trans (by decide +kernel)
theorem at_0_4106 : am_at (am_m 0) 4106 = some (.invokevirtual 202, 324) := (am_L0_63 4106 (by decide)).trans (by decide +kernel)
theorem at_0_4109 : am_at (am_m 0) 4109 = some (.iload 5, 0) := (am_L0_63 4109 (by decide)).trans (by decide +kernel)
theorem at_0_4111 : am_at (am_m 0) 4111 = some (.if_icmp .eq 5, 4116) := (am_L0_63 4111 (by decide)).trans (by decide +kernel)
theorem at_0_4114 : am_at (am_m 0) 4114 = some (.iconst 0, 0) := (am_L0_63 4114 (by decide)).trans (by decide +kernel)
theorem at_0_4115 : am_at (am_m 0) 4115 = some (.ireturn, 0) := (am_L0_63 4115 (by decide)).trans (by decide +kernel)
theorem at_0_4116 : am_at (am_m 0) 4116 = some (.iload 5, 0) := (am_L0_63 4116 (by decide)).trans (by decide +kernel)
theorem at_0_4118 : am_at (am_m 0) 4118 = some (.ifCond .ne 15, 4133) := (am_L0_63 4118 (by decide)).trans (by decide +kernel)
theorem at_0_4121 : am_at (am_m 0) 4121 = some (.aload_n 3, 0) := (am_L0_63 4121 (by decide)).trans (by decide +kernel)
theorem at_0_4122 : am_at (am_m 0) 4122 = some (.iconst 0, 0) := (am_L0_63 4122 (by decide)).trans (by decide +kernel)
theorem at_0_4123 : am_at (am_m 0) 4123 = some (.laload, 0) := (am_L0_63 4123 (by decide)).trans (by decide +kernel)
theorem at_0_4124 : am_at (am_m 0) 4124 = some (.iload 6, 0) := (am_L0_63 4124 (by decide)).trans (by decide +kernel)
theorem at_0_4126 : am_at (am_m 0) 4126 = some (.i2l, 0) := (am_L0_63 4126 (by decide)).trans (by decide +kernel)
theorem at_0_4127 : am_at (am_m 0) 4127 = some (.lcmp, 0) := (am_L0_63 4127 (by decide)).trans (by decide +kernel)
theorem at_0_4128 : am_at (am_m 0) 4128 = some (.ifCond .eq 5, 4133) := (am_L0_63 4128 (by decide)).trans (by decide +kernel)
theorem at_0_4131 : am_at (am_m 0) 4131 = some (.iconst 0, 0) := (am_L0_63 4131 (by decide)).trans (by decide +kernel)
theorem at_0_4132 : am_at (am_m 0) 4132 = some (.ireturn, 0) := (am_L0_63 4132 (by decide)).trans (by decide +kernel)
theorem at_0_4133 : am_at (am_m 0) 4133 = some (.goto 59, 4192) := (am_L0_63 4133 (by decide)).trans (by decide +kernel)
theorem at_0_4136 : am_at (am_m 0) 4136 = some (.aload_n 1, 0) := (am_L0_63 4136 (by decide)).trans (by decide +kernel)
theorem at_0_4137 : am_at (am_m 0) 4137 = some (.aload_n 0, 0) := (am_L0_63 4137 (by decide)).trans (by decide +kernel)
theorem at_0_4138 : am_at (am_m 0) 4138 = some (.iload 4, 0) := (am_L0_63 4138 (by decide)).trans (by decide +kernel)
theorem at_0_4140 : am_at (am_m 0) 4140 = some (.iconst 1, 0) := (am_L0_63 4140 (by decide)).trans (by decide +kernel)
theorem at_0_4141 : am_at (am_m 0) 4141 = some (.iadd, 0) := (am_L0_63 4141 (by decide)).trans (by decide +kernel)
theorem at_0_4142 : am_at (am_m 0) 4142 = some (.iaload, 0) := (am_L0_63 4142 (by decide)).trans (by decide +kernel)
theorem at_0_4143 : am_at (am_m 0) 4143 = some (.aload_n 3, 0) := (am_L0_64 4143 (by decide)).trans (by decide +kernel)
theorem at_0_4144 : am_at (am_m 0) 4144 = some (.invokestatic 393, 320) := (am_L0_64 4144 (by decide)).trans (by decide +kernel)
theorem at_0_4147 : am_at (am_m 0) 4147 = some (.istore 5, 0) := (am_L0_64 4147 (by decide)).trans (by decide +kernel)
theorem at_0_4149 : am_at (am_m 0) 4149 = some (.aload_n 2, 0) := (am_L0_64 4149 (by decide)).trans (by decide +kernel)
theorem at_0_4150 : am_at (am_m 0) 4150 = some (.aload_n 0, 0) := (am_L0_64 4150 (by decide)).trans (by decide +kernel)
theorem at_0_4151 : am_at (am_m 0) 4151 = some (.iload 4, 0) := (am_L0_64 4151 (by decide)).trans (by decide +kernel)
theorem at_0_4153 : am_at (am_m 0) 4153 = some (.iconst 1, 0) := (am_L0_64 4153 (by decide)).trans (by decide +kernel)
theorem at_0_4154 : am_at (am_m 0) 4154 = some (.iadd, 0) := (am_L0_64 4154 (by decide)).trans (by decide +kernel)
theorem at_0_4155 : am_at (am_m 0) 4155 = some (.iaload, 0) := (am_L0_64 4155 (by decide)).trans (by decide +kernel)
theorem at_0_4156 : am_at (am_m 0) 4156 = some (.invokevirtual 395, 588) := (am_L0_64 4156 (by decide)).trans (by decide +kernel)
theorem at_0_4159 : am_at (am_m 0) 4159 = some (.istore 6, 0) := (am_L0_64 4159 (by decide)).trans (by decide +kernel)
theorem at_0_4161 : am_at (am_m 0) 4161 = some (.aload_n 2, 0) := (am_L0_64 4161 (by decide)).trans (by decide +kernel)
theorem at_0_4162 : am_at (am_m 0) 4162 = some (.invokevirtual 202, 324) := (am_L0_64 4162 (by decide)).trans (by decide +kernel)
theorem at_0_4165 : am_at (am_m 0) 4165 = some (.iload 5, 0) := (am_L0_64 4165 (by decide)).trans (by decide +kernel)
theorem at_0_4167 : am_at (am_m 0) 4167 = some (.if_icmp .eq 5, 4172) := (am_L0_64 4167 (by decide)).trans (by decide +kernel)
theorem at_0_4170 : am_at (am_m 0) 4170 = some (.iconst 0, 0) := (am_L0_64 4170 (by decide)).trans (by decide +kernel)
theorem at_0_4171 : am_at (am_m 0) 4171 = some (.ireturn, 0) := (am_L0_64 4171 (by decide)).trans (by decide +kernel)
theorem at_0_4172 : am_at (am_m 0) 4172 = some (.iload 5, 0) := (am_L0_64 4172 (by decide)).trans (by decide +kernel)
theorem at_0_4174 : am_at (am_m 0) 4174 = some (.ifCond .ne 15, 4189) := (am_L0_64 4174 (by decide)).trans (by decide +kernel)
theorem at_0_4177 : am_at (am_m 0) 4177 = some (.aload_n 3, 0) := (am_L0_64 4177 (by decide)).trans (by decide +kernel)
theorem at_0_4178 : am_at (am_m 0) 4178 = some (.iconst 0, 0) := (am_L0_64 4178 (by decide)).trans (by decide +kernel)
theorem at_0_4179 : am_at (am_m 0) 4179 = some (.laload, 0) := (am_L0_64 4179 (by decide)).trans (by decide +kernel)
theorem at_0_4180 : am_at (am_m 0) 4180 = some (.iload 6, 0) := (am_L0_64 4180 (by decide)).trans (by decide +kernel)
theorem at_0_4182 : am_at (am_m 0) 4182 = some (.i2l, 0) := (am_L0_64 4182 (by decide)).trans (by decide +kernel)
theorem at_0_4183 : am_at (am_m 0) 4183 = some (.lcmp, 0) := (am_L0_64 4183 (by decide)).trans (by decide +kernel)
theorem at_0_4184 : am_at (am_m 0) 4184 = some (.ifCond .eq 5, 4189) := (am_L0_64 4184 (by decide)).trans (by decide +kernel)
theorem at_0_4187 : am_at (am_m 0) 4187 = some (.iconst 0, 0) := (am_L0_64 4187 (by decide)).trans (by decide +kernel)
theorem at_0_4188 : am_at (am_m 0) 4188 = some (.ireturn, 0) := (am_L0_64 4188 (by decide)).trans (by decide +kernel)
theorem at_0_4189 : am_at (am_m 0) 4189 = some (.goto 3, 4192) := (am_L0_64 4189 (by decide)).trans (by decide +kernel)
theorem at_0_4192 : am_at (am_m 0) 4192 = some (.iinc 4 7, 0) := (am_L0_64 4192 (by decide)).trans (by decide +kernel)
theorem at_0_4195 : am_at (am_m 0) 4195 = some (.goto (-4172), 23) := (am_L0_64 4195 (by decide)).trans (by decide +kernel)
theorem at_0_4198 : am_at (am_m 0) 4198 = some (.iconst 1, 0) := (am_L0_64 4198 (by decide)).trans (by decide +kernel)
theorem at_0_4199 : am_at (am_m 0) 4199 = some (.ireturn, 0) := (am_L0_64 4199 (by decide)).trans (by decide +kernel)
theorem at_1_0 : am_at (am_m 1) 0 = some (.aload_n 0, 0) := by decide +kernel
theorem at_1_1 : am_at (am_m 1) 1 = some (.invokespecial 1, 10003) := by decide +kernel
theorem at_1_4 : am_at (am_m 1) 4 = some (.aload_n 0, 0) := by decide +kernel
theorem at_1_5 : am_at (am_m 1) 5 = some (.sipush 600, 0) := by decide +kernel
theorem at_1_8 : am_at (am_m 1) 8 = some (.anewarray 9, 4) := by decide +kernel
theorem at_1_11 : am_at (am_m 1) 11 = some (.putfield 11, 2816) := by decide +kernel
theorem at_1_14 : am_at (am_m 1) 14 = some (.aload_n 0, 0) := by decide +kernel
theorem at_1_15 : am_at (am_m 1) 15 = some (.iconst 0, 0) := by decide +kernel
theorem at_1_16 : am_at (am_m 1) 16 = some (.putfield 15, 2817) := by decide +kernel
theorem at_1_19 : am_at (am_m 1) 19 = some (.aload_n 0, 0) := by decide +kernel
theorem at_1_20 : am_at (am_m 1) 20 = some (.new 19, 9) := by decide +kernel
theorem at_1_23 : am_at (am_m 1) 23 = some (.dup, 0) := by decide +kernel
theorem at_1_24 : am_at (am_m 1) 24 = some (.invokespecial 21, 2) := by decide +kernel
theorem at_1_27 : am_at (am_m 1) 27 = some (.putfield 22, 2818) := by decide +kernel
theorem at_1_30 : am_at (am_m 1) 30 = some (.aload_n 0, 0) := by decide +kernel
theorem at_1_31 : am_at (am_m 1) 31 = some (.new 26, 2) := by decide +kernel
theorem at_1_34 : am_at (am_m 1) 34 = some (.dup, 0) := by decide +kernel
theorem at_1_35 : am_at (am_m 1) 35 = some (.invokespecial 28, 4) := by decide +kernel
theorem at_1_38 : am_at (am_m 1) 38 = some (.putfield 29, 2819) := by decide +kernel
theorem at_1_41 : am_at (am_m 1) 41 = some (.aload_n 0, 0) := by decide +kernel
theorem at_1_42 : am_at (am_m 1) 42 = some (.iconst 5, 0) := by decide +kernel
theorem at_1_43 : am_at (am_m 1) 43 = some (.newarray .int, 0) := by decide +kernel
theorem at_1_45 : am_at (am_m 1) 45 = some (.dup, 0) := by decide +kernel
theorem at_1_46 : am_at (am_m 1) 46 = some (.iconst 0, 0) := by decide +kernel
theorem at_1_47 : am_at (am_m 1) 47 = some (.sipush 200, 0) := by decide +kernel
theorem at_1_50 : am_at (am_m 1) 50 = some (.iastore, 0) := by decide +kernel
theorem at_1_51 : am_at (am_m 1) 51 = some (.dup, 0) := by decide +kernel
theorem at_1_52 : am_at (am_m 1) 52 = some (.iconst 1, 0) := by decide +kernel
theorem at_1_53 : am_at (am_m 1) 53 = some (.iconst 1, 0) := by decide +kernel
theorem at_1_54 : am_at (am_m 1) 54 = some (.iastore, 0) := by decide +kernel
theorem at_1_55 : am_at (am_m 1) 55 = some (.dup, 0) := by decide +kernel
theorem at_1_56 : am_at (am_m 1) 56 = some (.iconst 2, 0) := by decide +kernel
theorem at_1_57 : am_at (am_m 1) 57 = some (.iconst 3, 0) := by decide +kernel
theorem at_1_58 : am_at (am_m 1) 58 = some (.iastore, 0) := by decide +kernel
theorem at_1_59 : am_at (am_m 1) 59 = some (.dup, 0) := by decide +kernel
theorem at_1_60 : am_at (am_m 1) 60 = some (.iconst 3, 0) := by decide +kernel
theorem at_1_61 : am_at (am_m 1) 61 = some (.bipush 30, 0) := by decide +kernel
theorem at_1_63 : am_at (am_m 1) 63 = some (.iastore, 0) := by decide +kernel
theorem at_1_64 : am_at (am_m 1) 64 = some (.dup, 0) := by decide +kernel
theorem at_1_65 : am_at (am_m 1) 65 = some (.iconst 4, 0) := by decide +kernel
theorem at_1_66 : am_at (am_m 1) 66 = some (.iconst 0, 0) := by decide +kernel
theorem at_1_67 : am_at (am_m 1) 67 = some (.iastore, 0) := by decide +kernel
theorem at_1_68 : am_at (am_m 1) 68 = some (.putfield 33, 2820) := by decide +kernel
theorem at_1_71 : am_at (am_m 1) 71 = some (.aload_n 0, 0) := by decide +kernel
theorem at_1_72 : am_at (am_m 1) 72 = some (.iconst 4, 0) := by decide +kernel
theorem at_1_73 : am_at (am_m 1) 73 = some (.anewarray 37, 5) := by decide +kernel
theorem at_1_76 : am_at (am_m 1) 76 = some (.dup, 0) := by decide +kernel
theorem at_1_77 : am_at (am_m 1) 77 = some (.iconst 0, 0) := by decide +kernel
theorem at_1_78 : am_at (am_m 1) 78 = some (.new 37, 1) := by decide +kernel
theorem at_1_81 : am_at (am_m 1) 81 = some (.dup, 0) := by decide +kernel
theorem at_1_82 : am_at (am_m 1) 82 = some (.invokespecial 39, 6) := by decide +kernel
theorem at_1_85 : am_at (am_m 1) 85 = some (.aastore, 0) := by decide +kernel
theorem at_1_86 : am_at (am_m 1) 86 = some (.dup, 0) := by decide +kernel
theorem at_1_87 : am_at (am_m 1) 87 = some (.iconst 1, 0) := by decide +kernel
theorem at_1_88 : am_at (am_m 1) 88 = some (.new 37, 1) := by decide +kernel
theorem at_1_91 : am_at (am_m 1) 91 = some (.dup, 0) := by decide +kernel
theorem at_1_92 : am_at (am_m 1) 92 = some (.invokespecial 39, 6) := by decide +kernel
theorem at_1_95 : am_at (am_m 1) 95 = some (.aastore, 0) := by decide +kernel
theorem at_1_96 : am_at (am_m 1) 96 = some (.dup, 0) := by decide +kernel
theorem at_1_97 : am_at (am_m 1) 97 = some (.iconst 2, 0) := by decide +kernel
theorem at_1_98 : am_at (am_m 1) 98 = some (.new 37, 1) := by decide +kernel
theorem at_1_101 : am_at (am_m 1) 101 = some (.dup, 0) := by decide +kernel
theorem at_1_102 : am_at (am_m 1) 102 = some (.invokespecial 39, 6) := by decide +kernel
theorem at_1_105 : am_at (am_m 1) 105 = some (.aastore, 0) := by decide +kernel
theorem at_1_106 : am_at (am_m 1) 106 = some (.dup, 0) := by decide +kernel
theorem at_1_107 : am_at (am_m 1) 107 = some (.iconst 3, 0) := by decide +kernel
theorem at_1_108 : am_at (am_m 1) 108 = some (.new 37, 1) := by decide +kernel
theorem at_1_111 : am_at (am_m 1) 111 = some (.dup, 0) := by decide +kernel
theorem at_1_112 : am_at (am_m 1) 112 = some (.invokespecial 39, 6) := by decide +kernel
theorem at_1_115 : am_at (am_m 1) 115 = some (.aastore, 0) := by decide +kernel
theorem at_1_116 : am_at (am_m 1) 116 = some (.putfield 40, 2821) := by decide +kernel
theorem at_1_119 : am_at (am_m 1) 119 = some (.aload_n 0, 0) := by decide +kernel
theorem at_1_120 : am_at (am_m 1) 120 = some (.new 44, 4) := by decide +kernel
theorem at_1_123 : am_at (am_m 1) 123 = some (.dup, 0) := by decide +kernel
theorem at_1_124 : am_at (am_m 1) 124 = some (.invokespecial 46, 8) := by decide +kernel
theorem at_1_127 : am_at (am_m 1) 127 = some (.putfield 47, 2822) := by decide +kernel
theorem at_1_130 : am_at (am_m 1) 130 = some (.aload_n 0, 0) := by decide +kernel
theorem at_1_131 : am_at (am_m 1) 131 = some (.new 51, 0) := by decide +kernel
theorem at_1_134 : am_at (am_m 1) 134 = some (.dup, 0) := by decide +kernel
theorem at_1_135 : am_at (am_m 1) 135 = some (.invokespecial 53, 17) := by decide +kernel
theorem at_1_138 : am_at (am_m 1) 138 = some (.putfield 54, 2823) := by decide +kernel
theorem at_1_141 : am_at (am_m 1) 141 = some (.aload_n 0, 0) := by decide +kernel
theorem at_1_142 : am_at (am_m 1) 142 = some (.new 58, 5) := by decide +kernel
theorem at_1_145 : am_at (am_m 1) 145 = some (.dup, 0) := by decide +kernel
theorem at_1_146 : am_at (am_m 1) 146 = some (.invokespecial 60, 19) := by decide +kernel
theorem at_1_149 : am_at (am_m 1) 149 = some (.putfield 61, 2824) := by decide +kernel
theorem at_1_152 : am_at (am_m 1) 152 = some (.aload_n 0, 0) := by decide +kernel
theorem at_1_153 : am_at (am_m 1) 153 = some (.new 65, 10) := by decide +kernel
theorem at_1_156 : am_at (am_m 1) 156 = some (.dup, 0) := by decide +kernel
theorem at_1_157 : am_at (am_m 1) 157 = some (.invokespecial 67, 20) := by decide +kernel
theorem at_1_160 : am_at (am_m 1) 160 = some (.putfield 68, 2825) := by decide +kernel
theorem at_1_163 : am_at (am_m 1) 163 = some (.aload_n 0, 0) := by decide +kernel
theorem at_1_164 : am_at (am_m 1) 164 = some (.bipush 15, 0) := by decide +kernel
theorem at_1_166 : am_at (am_m 1) 166 = some (.newarray .int, 0) := by decide +kernel
theorem at_1_168 : am_at (am_m 1) 168 = some (.putfield 72, 2826) := by decide +kernel
theorem at_1_171 : am_at (am_m 1) 171 = some (.aload_n 0, 0) := by decide +kernel
theorem at_1_172 : am_at (am_m 1) 172 = some (.bipush 15, 0) := by decide +kernel
theorem at_1_174 : am_at (am_m 1) 174 = some (.newarray .int, 0) := by decide +kernel
theorem at_1_176 : am_at (am_m 1) 176 = some (.putfield 75, 2827) := by decide +kernel
theorem at_1_179 : am_at (am_m 1) 179 = some (.aload_n 0, 0) := by decide +kernel
theorem at_1_180 : am_at (am_m 1) 180 = some (.iconst 0, 0) := by decide +kernel
theorem at_1_181 : am_at (am_m 1) 181 = some (.putfield 78, 2828) := by decide +kernel
theorem at_1_184 : am_at (am_m 1) 184 = some (.aload_n 0, 0) := by decide +kernel
theorem at_1_185 : am_at (am_m 1) 185 = some (.iconst 0, 0) := by decide +kernel
theorem at_1_186 : am_at (am_m 1) 186 = some (.putfield 81, 2829) := by decide +kernel
theorem at_1_189 : am_at (am_m 1) 189 = some (.aload_n 0, 0) := by decide +kernel
theorem at_1_190 : am_at (am_m 1) 190 = some (.bipush 15, 0) := by decide +kernel
theorem at_1_192 : am_at (am_m 1) 192 = some (.newarray .int, 0) := by decide +kernel
theorem at_1_194 : am_at (am_m 1) 194 = some (.putfield 84, 2830) := by decide +kernel
theorem at_1_197 : am_at (am_m 1) 197 = some (.aload_n 0, 0) := by decide +kernel
theorem at_1_198 : am_at (am_m 1) 198 = some (.new 9, 3) := by decide +kernel
theorem at_1_201 : am_at (am_m 1) 201 = some (.dup, 0) := by decide +kernel
theorem at_1_202 : am_at (am_m 1) 202 = some (.bipush 120, 0) := by decide +kernel
theorem at_1_204 : am_at (am_m 1) 204 = some (.invokespecial 87, 18) := by decide +kernel
theorem at_1_207 : am_at (am_m 1) 207 = some (.putfield 90, 2831) := by decide +kernel
theorem at_1_210 : am_at (am_m 1) 210 = some (.aload_n 0, 0) := by decide +kernel
theorem at_1_211 : am_at (am_m 1) 211 = some (.new 9, 3) := by decide +kernel
theorem at_1_214 : am_at (am_m 1) 214 = some (.dup, 0) := by decide +kernel
theorem at_1_215 : am_at (am_m 1) 215 = some (.bipush 120, 0) := by decide +kernel
theorem at_1_217 : am_at (am_m 1) 217 = some (.invokespecial 87, 18) := by decide +kernel
theorem at_1_220 : am_at (am_m 1) 220 = some (.putfield 94, 2832) := by decide +kernel
theorem at_1_223 : am_at (am_m 1) 223 = some (.aload_n 0, 0) := by decide +kernel
theorem at_1_224 : am_at (am_m 1) 224 = some (.sipush 600, 0) := by decide +kernel
theorem at_1_227 : am_at (am_m 1) 227 = some (.newarray .int, 0) := by decide +kernel
theorem at_1_229 : am_at (am_m 1) 229 = some (.putfield 97, 2833) := by decide +kernel
theorem at_1_232 : am_at (am_m 1) 232 = some (.aload_n 0, 0) := by decide +kernel
theorem at_1_233 : am_at (am_m 1) 233 = some (.bipush 16, 0) := by decide +kernel
theorem at_1_235 : am_at (am_m 1) 235 = some (.newarray .int, 0) := by decide +kernel
theorem at_1_237 : am_at (am_m 1) 237 = some (.putfield 100, 2834) := by decide +kernel
theorem at_1_240 : am_at (am_m 1) 240 = some (.aload_n 0, 0) := by decide +kernel
theorem at_1_241 : am_at (am_m 1) 241 = some (.new 103, 8) := by decide +kernel
theorem at_1_244 : am_at (am_m 1) 244 = some (.dup, 0) := by decide +kernel
theorem at_1_245 : am_at (am_m 1) 245 = some (.invokespecial 105, 7) := by decide +kernel
theorem at_1_248 : am_at (am_m 1) 248 = some (.putfield 106, 2835) := by decide +kernel
theorem at_1_251 : am_at (am_m 1) 251 = some (.return_, 0) := by decide +kernel
theorem at_2_0 : am_at (am_m 2) 0 = some (.aload_n 0, 0) := by decide +kernel
theorem at_2_1 : am_at (am_m 2) 1 = some (.invokespecial 3, 10003) := by decide +kernel
theorem at_2_4 : am_at (am_m 2) 4 = some (.aload_n 0, 0) := by decide +kernel
theorem at_2_5 : am_at (am_m 2) 5 = some (.sipush 240, 0) := by decide +kernel
theorem at_2_8 : am_at (am_m 2) 8 = some (.newarray .char, 3) := by decide +kernel
theorem at_2_10 : am_at (am_m 2) 10 = some (.putfield 9, 2304) := by decide +kernel
theorem at_2_13 : am_at (am_m 2) 13 = some (.aload_n 0, 0) := by decide +kernel
theorem at_2_14 : am_at (am_m 2) 14 = some (.iconst 0, 0) := by decide +kernel
theorem at_2_15 : am_at (am_m 2) 15 = some (.putfield 15, 2305) := by decide +kernel
theorem at_2_18 : am_at (am_m 2) 18 = some (.aload_n 0, 0) := by decide +kernel
theorem at_2_19 : am_at (am_m 2) 19 = some (.iconst 0, 0) := by decide +kernel
theorem at_2_20 : am_at (am_m 2) 20 = some (.putfield 19, 2306) := by decide +kernel
theorem at_2_23 : am_at (am_m 2) 23 = some (.aload_n 0, 0) := by decide +kernel
theorem at_2_24 : am_at (am_m 2) 24 = some (.iconst (-1), 0) := by decide +kernel
theorem at_2_25 : am_at (am_m 2) 25 = some (.putfield 22, 2307) := by decide +kernel
theorem at_2_28 : am_at (am_m 2) 28 = some (.aload_n 0, 0) := by decide +kernel
theorem at_2_29 : am_at (am_m 2) 29 = some (.aconst_null, 0) := by decide +kernel
theorem at_2_30 : am_at (am_m 2) 30 = some (.putfield 25, 2308) := by decide +kernel
theorem at_2_33 : am_at (am_m 2) 33 = some (.aload_n 0, 0) := by decide +kernel
theorem at_2_34 : am_at (am_m 2) 34 = some (.bipush 60, 0) := by decide +kernel
theorem at_2_36 : am_at (am_m 2) 36 = some (.newarray .int, 0) := by decide +kernel
theorem at_2_38 : am_at (am_m 2) 38 = some (.putfield 29, 2309) := by decide +kernel
theorem at_2_41 : am_at (am_m 2) 41 = some (.aload_n 0, 0) := by decide +kernel
theorem at_2_42 : am_at (am_m 2) 42 = some (.new 33, 7) := by decide +kernel
theorem at_2_45 : am_at (am_m 2) 45 = some (.dup, 0) := by decide +kernel
theorem at_2_46 : am_at (am_m 2) 46 = some (.invokespecial 35, 3) := by decide +kernel
theorem at_2_49 : am_at (am_m 2) 49 = some (.putfield 36, 2310) := by decide +kernel
theorem at_2_52 : am_at (am_m 2) 52 = some (.aload_n 0, 0) := by decide +kernel
theorem at_2_53 : am_at (am_m 2) 53 = some (.sipush 240, 0) := by decide +kernel
theorem at_2_56 : am_at (am_m 2) 56 = some (.newarray .char, 3) := by decide +kernel
theorem at_2_58 : am_at (am_m 2) 58 = some (.putfield 40, 2311) := by decide +kernel
theorem at_2_61 : am_at (am_m 2) 61 = some (.aload_n 0, 0) := by decide +kernel
theorem at_2_62 : am_at (am_m 2) 62 = some (.iconst 0, 0) := by decide +kernel
theorem at_2_63 : am_at (am_m 2) 63 = some (.putfield 43, 2312) := by decide +kernel
theorem at_2_66 : am_at (am_m 2) 66 = some (.return_, 0) := by decide +kernel
theorem at_3_0 : am_at (am_m 3) 0 = some (.aload_n 0, 0) := by decide +kernel
theorem at_3_1 : am_at (am_m 3) 1 = some (.invokespecial 3, 10003) := by decide +kernel
theorem at_3_4 : am_at (am_m 3) 4 = some (.aload_n 0, 0) := by decide +kernel
theorem at_3_5 : am_at (am_m 3) 5 = some (.bipush 60, 0) := by decide +kernel
theorem at_3_7 : am_at (am_m 3) 7 = some (.newarray .int, 0) := by decide +kernel
theorem at_3_9 : am_at (am_m 3) 9 = some (.putfield 9, 1792) := by decide +kernel
theorem at_3_12 : am_at (am_m 3) 12 = some (.aload_n 0, 0) := by decide +kernel
theorem at_3_13 : am_at (am_m 3) 13 = some (.bipush 60, 0) := by decide +kernel
theorem at_3_15 : am_at (am_m 3) 15 = some (.newarray .int, 0) := by decide +kernel
theorem at_3_17 : am_at (am_m 3) 17 = some (.putfield 15, 1793) := by decide +kernel
theorem at_3_20 : am_at (am_m 3) 20 = some (.aload_n 0, 0) := by decide +kernel
theorem at_3_21 : am_at (am_m 3) 21 = some (.bipush 60, 0) := by decide +kernel
theorem at_3_23 : am_at (am_m 3) 23 = some (.newarray .int, 0) := by decide +kernel
theorem at_3_25 : am_at (am_m 3) 25 = some (.putfield 18, 1794) := by decide +kernel
theorem at_3_28 : am_at (am_m 3) 28 = some (.aload_n 0, 0) := by decide +kernel
theorem at_3_29 : am_at (am_m 3) 29 = some (.bipush 60, 0) := by decide +kernel
theorem at_3_31 : am_at (am_m 3) 31 = some (.newarray .boolean, 2) := by decide +kernel
theorem at_3_33 : am_at (am_m 3) 33 = some (.putfield 21, 1795) := by decide +kernel
theorem at_3_36 : am_at (am_m 3) 36 = some (.aload_n 0, 0) := by decide +kernel
theorem at_3_37 : am_at (am_m 3) 37 = some (.bipush 60, 0) := by decide +kernel
theorem at_3_39 : am_at (am_m 3) 39 = some (.newarray .boolean, 2) := by decide +kernel
theorem at_3_41 : am_at (am_m 3) 41 = some (.putfield 25, 1796) := by decide +kernel
theorem at_3_44 : am_at (am_m 3) 44 = some (.aload_n 0, 0) := by decide +kernel
theorem at_3_45 : am_at (am_m 3) 45 = some (.bipush 60, 0) := by decide +kernel
theorem at_3_47 : am_at (am_m 3) 47 = some (.newarray .boolean, 2) := by decide +kernel
theorem at_3_49 : am_at (am_m 3) 49 = some (.putfield 28, 1797) := by decide +kernel
theorem at_3_52 : am_at (am_m 3) 52 = some (.aload_n 0, 0) := by decide +kernel
theorem at_3_53 : am_at (am_m 3) 53 = some (.bipush 61, 0) := by decide +kernel
theorem at_3_55 : am_at (am_m 3) 55 = some (.newarray .int, 0) := by decide +kernel
theorem at_3_57 : am_at (am_m 3) 57 = some (.putfield 31, 1798) := by decide +kernel
theorem at_3_60 : am_at (am_m 3) 60 = some (.aload_n 0, 0) := by decide +kernel
theorem at_3_61 : am_at (am_m 3) 61 = some (.iconst 0, 0) := by decide +kernel
theorem at_3_62 : am_at (am_m 3) 62 = some (.putfield 34, 1799) := by decide +kernel
theorem at_3_65 : am_at (am_m 3) 65 = some (.return_, 0) := by decide +kernel
theorem at_4_0 : am_at (am_m 4) 0 = some (.aload_n 0, 0) := by decide +kernel
theorem at_4_1 : am_at (am_m 4) 1 = some (.invokespecial 3, 10003) := by decide +kernel
theorem at_4_4 : am_at (am_m 4) 4 = some (.aload_n 0, 0) := by decide +kernel
theorem at_4_5 : am_at (am_m 4) 5 = some (.sipush 360, 0) := by decide +kernel
theorem at_4_8 : am_at (am_m 4) 8 = some (.newarray .int, 0) := by decide +kernel
theorem at_4_10 : am_at (am_m 4) 10 = some (.putfield 9, 512) := by decide +kernel
theorem at_4_13 : am_at (am_m 4) 13 = some (.aload_n 0, 0) := by decide +kernel
theorem at_4_14 : am_at (am_m 4) 14 = some (.iconst 0, 0) := by decide +kernel
theorem at_4_15 : am_at (am_m 4) 15 = some (.putfield 15, 513) := by decide +kernel
theorem at_4_18 : am_at (am_m 4) 18 = some (.aload_n 0, 0) := by decide +kernel
theorem at_4_19 : am_at (am_m 4) 19 = some (.new 19, 6) := by decide +kernel
theorem at_4_22 : am_at (am_m 4) 22 = some (.dup, 0) := by decide +kernel
theorem at_4_23 : am_at (am_m 4) 23 = some (.invokespecial 21, 5) := by decide +kernel
theorem at_4_26 : am_at (am_m 4) 26 = some (.putfield 22, 514) := by decide +kernel
theorem at_4_29 : am_at (am_m 4) 29 = some (.aload_n 0, 0) := by decide +kernel
theorem at_4_30 : am_at (am_m 4) 30 = some (.new 19, 6) := by decide +kernel
theorem at_4_33 : am_at (am_m 4) 33 = some (.dup, 0) := by decide +kernel
theorem at_4_34 : am_at (am_m 4) 34 = some (.invokespecial 21, 5) := by decide +kernel
theorem at_4_37 : am_at (am_m 4) 37 = some (.putfield 26, 515) := by decide +kernel
theorem at_4_40 : am_at (am_m 4) 40 = some (.aload_n 0, 0) := by decide +kernel
theorem at_4_41 : am_at (am_m 4) 41 = some (.lconst 0, 0) := by decide +kernel
theorem at_4_42 : am_at (am_m 4) 42 = some (.putfield 29, 516) := by decide +kernel
theorem at_4_45 : am_at (am_m 4) 45 = some (.aload_n 0, 0) := by decide +kernel
theorem at_4_46 : am_at (am_m 4) 46 = some (.lconst 1, 0) := by decide +kernel
theorem at_4_47 : am_at (am_m 4) 47 = some (.putfield 33, 517) := by decide +kernel
theorem at_4_50 : am_at (am_m 4) 50 = some (.return_, 0) := by decide +kernel
theorem at_5_0 : am_at (am_m 5) 0 = some (.aload_n 0, 0) := by decide +kernel
theorem at_5_1 : am_at (am_m 5) 1 = some (.invokespecial 3, 10003) := by decide +kernel
theorem at_5_4 : am_at (am_m 5) 4 = some (.aload_n 0, 0) := by decide +kernel
theorem at_5_5 : am_at (am_m 5) 5 = some (.sipush 200, 0) := by decide +kernel
theorem at_5_8 : am_at (am_m 5) 8 = some (.putfield 9, 1536) := by decide +kernel
theorem at_5_11 : am_at (am_m 5) 11 = some (.aload_n 0, 0) := by decide +kernel
theorem at_5_12 : am_at (am_m 5) 12 = some (.iconst 0, 0) := by decide +kernel
theorem at_5_13 : am_at (am_m 5) 13 = some (.putfield 15, 1537) := by decide +kernel
theorem at_5_16 : am_at (am_m 5) 16 = some (.aload_n 0, 0) := by decide +kernel
theorem at_5_17 : am_at (am_m 5) 17 = some (.iconst 0, 0) := by decide +kernel
theorem at_5_18 : am_at (am_m 5) 18 = some (.putfield 18, 1538) := by decide +kernel
theorem at_5_21 : am_at (am_m 5) 21 = some (.aload_n 0, 0) := by decide +kernel
theorem at_5_22 : am_at (am_m 5) 22 = some (.iconst 0, 0) := by decide +kernel
theorem at_5_23 : am_at (am_m 5) 23 = some (.putfield 21, 1539) := by decide +kernel
theorem at_5_26 : am_at (am_m 5) 26 = some (.aload_n 0, 0) := by decide +kernel
theorem at_5_27 : am_at (am_m 5) 27 = some (.aconst_null, 0) := by decide +kernel
theorem at_5_28 : am_at (am_m 5) 28 = some (.putfield 24, 1540) := by decide +kernel
theorem at_5_31 : am_at (am_m 5) 31 = some (.aload_n 0, 0) := by decide +kernel
theorem at_5_32 : am_at (am_m 5) 32 = some (.new 28, 7) := by decide +kernel
theorem at_5_35 : am_at (am_m 5) 35 = some (.dup, 0) := by decide +kernel
theorem at_5_36 : am_at (am_m 5) 36 = some (.invokespecial 30, 3) := by decide +kernel
theorem at_5_39 : am_at (am_m 5) 39 = some (.putfield 31, 1541) := by decide +kernel
theorem at_5_42 : am_at (am_m 5) 42 = some (.aload_n 0, 0) := by decide +kernel
theorem at_5_43 : am_at (am_m 5) 43 = some (.iconst 0, 0) := by decide +kernel
theorem at_5_44 : am_at (am_m 5) 44 = some (.putfield 35, 1542) := by decide +kernel
theorem at_5_47 : am_at (am_m 5) 47 = some (.aload_n 0, 0) := by decide +kernel
theorem at_5_48 : am_at (am_m 5) 48 = some (.iconst 0, 0) := by decide +kernel
theorem at_5_49 : am_at (am_m 5) 49 = some (.putfield 38, 1543) := by decide +kernel
theorem at_5_52 : am_at (am_m 5) 52 = some (.aload_n 0, 0) := by decide +kernel
theorem at_5_53 : am_at (am_m 5) 53 = some (.iconst 0, 0) := by decide +kernel
theorem at_5_54 : am_at (am_m 5) 54 = some (.putfield 41, 1544) := by decide +kernel
theorem at_5_57 : am_at (am_m 5) 57 = some (.aload_n 0, 0) := by decide +kernel
theorem at_5_58 : am_at (am_m 5) 58 = some (.bipush 8, 0) := by decide +kernel
theorem at_5_60 : am_at (am_m 5) 60 = some (.newarray .int, 0) := by decide +kernel
theorem at_5_62 : am_at (am_m 5) 62 = some (.putfield 44, 1545) := by decide +kernel
theorem at_5_65 : am_at (am_m 5) 65 = some (.aload_n 0, 0) := by decide +kernel
theorem at_5_66 : am_at (am_m 5) 66 = some (.iconst 0, 0) := by decide +kernel
theorem at_5_67 : am_at (am_m 5) 67 = some (.putfield 48, 1546) := by decide +kernel
theorem at_5_70 : am_at (am_m 5) 70 = some (.aload_n 0, 0) := by decide +kernel
theorem at_5_71 : am_at (am_m 5) 71 = some (.iconst 0, 0) := by decide +kernel
theorem at_5_72 : am_at (am_m 5) 72 = some (.putfield 51, 1547) := by decide +kernel
theorem at_5_75 : am_at (am_m 5) 75 = some (.aload_n 0, 0) := by decide +kernel
theorem at_5_76 : am_at (am_m 5) 76 = some (.iconst 0, 0) := by decide +kernel
theorem at_5_77 : am_at (am_m 5) 77 = some (.putfield 54, 1548) := by decide +kernel
theorem at_5_80 : am_at (am_m 5) 80 = some (.aload_n 0, 0) := by decide +kernel
theorem at_5_81 : am_at (am_m 5) 81 = some (.bipush 8, 0) := by decide +kernel
theorem at_5_83 : am_at (am_m 5) 83 = some (.newarray .int, 0) := by decide +kernel
theorem at_5_85 : am_at (am_m 5) 85 = some (.putfield 57, 1549) := by decide +kernel
theorem at_5_88 : am_at (am_m 5) 88 = some (.aload_n 0, 0) := by decide +kernel
theorem at_5_89 : am_at (am_m 5) 89 = some (.iconst 0, 0) := by decide +kernel
theorem at_5_90 : am_at (am_m 5) 90 = some (.putfield 60, 1550) := by decide +kernel
theorem at_5_93 : am_at (am_m 5) 93 = some (.return_, 0) := by decide +kernel
theorem at_6_0 : am_at (am_m 6) 0 = some (.aload_n 0, 0) := by decide +kernel
theorem at_6_1 : am_at (am_m 6) 1 = some (.invokespecial 3, 10003) := by decide +kernel
theorem at_6_4 : am_at (am_m 6) 4 = some (.aload_n 0, 0) := by decide +kernel
theorem at_6_5 : am_at (am_m 6) 5 = some (.iconst 0, 0) := by decide +kernel
theorem at_6_6 : am_at (am_m 6) 6 = some (.putfield 9, 256) := by decide +kernel
theorem at_6_9 : am_at (am_m 6) 9 = some (.aload_n 0, 0) := by decide +kernel
theorem at_6_10 : am_at (am_m 6) 10 = some (.bipush 16, 0) := by decide +kernel
theorem at_6_12 : am_at (am_m 6) 12 = some (.newarray .int, 0) := by decide +kernel
theorem at_6_14 : am_at (am_m 6) 14 = some (.putfield 15, 257) := by decide +kernel
theorem at_6_17 : am_at (am_m 6) 17 = some (.aload_n 0, 0) := by decide +kernel
theorem at_6_18 : am_at (am_m 6) 18 = some (.new 19, 8) := by decide +kernel
theorem at_6_21 : am_at (am_m 6) 21 = some (.dup, 0) := by decide +kernel
theorem at_6_22 : am_at (am_m 6) 22 = some (.invokespecial 21, 7) := by decide +kernel
theorem at_6_25 : am_at (am_m 6) 25 = some (.putfield 22, 258) := by decide +kernel
theorem at_6_28 : am_at (am_m 6) 28 = some (.aload_n 0, 0) := by decide +kernel
theorem at_6_29 : am_at (am_m 6) 29 = some (.iconst 0, 0) := by decide +kernel
theorem at_6_30 : am_at (am_m 6) 30 = some (.putfield 26, 259) := by decide +kernel
theorem at_6_33 : am_at (am_m 6) 33 = some (.aload_n 0, 0) := by decide +kernel
theorem at_6_34 : am_at (am_m 6) 34 = some (.bipush 16, 0) := by decide +kernel
theorem at_6_36 : am_at (am_m 6) 36 = some (.newarray .int, 0) := by decide +kernel
theorem at_6_38 : am_at (am_m 6) 38 = some (.putfield 29, 260) := by decide +kernel
theorem at_6_41 : am_at (am_m 6) 41 = some (.aload_n 0, 0) := by decide +kernel
theorem at_6_42 : am_at (am_m 6) 42 = some (.bipush 16, 0) := by decide +kernel
theorem at_6_44 : am_at (am_m 6) 44 = some (.newarray .long, 1) := by decide +kernel
theorem at_6_46 : am_at (am_m 6) 46 = some (.putfield 32, 261) := by decide +kernel
theorem at_6_49 : am_at (am_m 6) 49 = some (.aload_n 0, 0) := by decide +kernel
theorem at_6_50 : am_at (am_m 6) 50 = some (.bipush 16, 0) := by decide +kernel
theorem at_6_52 : am_at (am_m 6) 52 = some (.newarray .int, 0) := by decide +kernel
theorem at_6_54 : am_at (am_m 6) 54 = some (.putfield 36, 262) := by decide +kernel
theorem at_6_57 : am_at (am_m 6) 57 = some (.aload_n 0, 0) := by decide +kernel
theorem at_6_58 : am_at (am_m 6) 58 = some (.sipush 384, 0) := by decide +kernel
theorem at_6_61 : am_at (am_m 6) 61 = some (.newarray .int, 0) := by decide +kernel
theorem at_6_63 : am_at (am_m 6) 63 = some (.putfield 39, 263) := by decide +kernel
theorem at_6_66 : am_at (am_m 6) 66 = some (.aload_n 0, 0) := by decide +kernel
theorem at_6_67 : am_at (am_m 6) 67 = some (.bipush 24, 0) := by decide +kernel
theorem at_6_69 : am_at (am_m 6) 69 = some (.newarray .int, 0) := by decide +kernel
theorem at_6_71 : am_at (am_m 6) 71 = some (.putfield 42, 264) := by decide +kernel
theorem at_6_74 : am_at (am_m 6) 74 = some (.aload_n 0, 0) := by decide +kernel
theorem at_6_75 : am_at (am_m 6) 75 = some (.bipush 24, 0) := by decide +kernel
theorem at_6_77 : am_at (am_m 6) 77 = some (.newarray .int, 0) := by decide +kernel
theorem at_6_79 : am_at (am_m 6) 79 = some (.putfield 45, 265) := by decide +kernel
theorem at_6_82 : am_at (am_m 6) 82 = some (.return_, 0) := by decide +kernel
theorem at_7_0 : am_at (am_m 7) 0 = some (.aload_n 0, 0) := by decide +kernel
theorem at_7_1 : am_at (am_m 7) 1 = some (.invokespecial 1, 10003) := by decide +kernel
theorem at_7_4 : am_at (am_m 7) 4 = some (.aload_n 0, 0) := by decide +kernel
theorem at_7_5 : am_at (am_m 7) 5 = some (.lconst 0, 0) := by decide +kernel
theorem at_7_6 : am_at (am_m 7) 6 = some (.putfield 7, 2048) := by decide +kernel
theorem at_7_9 : am_at (am_m 7) 9 = some (.return_, 0) := by decide +kernel
theorem at_8_0 : am_at (am_m 8) 0 = some (.aload_n 0, 0) := by decide +kernel
theorem at_8_1 : am_at (am_m 8) 1 = some (.invokespecial 3, 10003) := by decide +kernel
theorem at_8_4 : am_at (am_m 8) 4 = some (.aload_n 0, 0) := by decide +kernel
theorem at_8_5 : am_at (am_m 8) 5 = some (.sipush 1638, 0) := by decide +kernel
theorem at_8_8 : am_at (am_m 8) 8 = some (.newarray .long, 1) := by decide +kernel
theorem at_8_10 : am_at (am_m 8) 10 = some (.putfield 11, 1024) := by decide +kernel
theorem at_8_13 : am_at (am_m 8) 13 = some (.aload_n 0, 0) := by decide +kernel
theorem at_8_14 : am_at (am_m 8) 14 = some (.bipush 78, 0) := by decide +kernel
theorem at_8_16 : am_at (am_m 8) 16 = some (.newarray .long, 1) := by decide +kernel
theorem at_8_18 : am_at (am_m 8) 18 = some (.putfield 15, 1025) := by decide +kernel
theorem at_8_21 : am_at (am_m 8) 21 = some (.aload_n 0, 0) := by decide +kernel
theorem at_8_22 : am_at (am_m 8) 22 = some (.new 18, 7) := by decide +kernel
theorem at_8_25 : am_at (am_m 8) 25 = some (.dup, 0) := by decide +kernel
theorem at_8_26 : am_at (am_m 8) 26 = some (.invokespecial 20, 3) := by decide +kernel
theorem at_8_29 : am_at (am_m 8) 29 = some (.putfield 21, 1026) := by decide +kernel
theorem at_8_32 : am_at (am_m 8) 32 = some (.aload_n 0, 0) := by decide +kernel
theorem at_8_33 : am_at (am_m 8) 33 = some (.aconst_null, 0) := by decide +kernel
theorem at_8_34 : am_at (am_m 8) 34 = some (.putfield 25, 1027) := by decide +kernel
theorem at_8_37 : am_at (am_m 8) 37 = some (.aload_n 0, 0) := by decide +kernel
theorem at_8_38 : am_at (am_m 8) 38 = some (.bipush 24, 0) := by decide +kernel
theorem at_8_40 : am_at (am_m 8) 40 = some (.anewarray 29, 6) := by decide +kernel
theorem at_8_43 : am_at (am_m 8) 43 = some (.putfield 30, 1028) := by decide +kernel
theorem at_8_46 : am_at (am_m 8) 46 = some (.aload_n 0, 0) := by decide +kernel
theorem at_8_47 : am_at (am_m 8) 47 = some (.bipush 24, 0) := by decide +kernel
theorem at_8_49 : am_at (am_m 8) 49 = some (.newarray .int, 0) := by decide +kernel
theorem at_8_51 : am_at (am_m 8) 51 = some (.putfield 34, 1029) := by decide +kernel
theorem at_8_54 : am_at (am_m 8) 54 = some (.aload_n 0, 0) := by decide +kernel
theorem at_8_55 : am_at (am_m 8) 55 = some (.iconst 0, 0) := by decide +kernel
theorem at_8_56 : am_at (am_m 8) 56 = some (.putfield 38, 1030) := by decide +kernel
theorem at_8_59 : am_at (am_m 8) 59 = some (.aload_n 0, 0) := by decide +kernel
theorem at_8_60 : am_at (am_m 8) 60 = some (.aconst_null, 0) := by decide +kernel
theorem at_8_61 : am_at (am_m 8) 61 = some (.putfield 42, 1031) := by decide +kernel
theorem at_8_64 : am_at (am_m 8) 64 = some (.aload_n 0, 0) := by decide +kernel
theorem at_8_65 : am_at (am_m 8) 65 = some (.iconst 0, 0) := by decide +kernel
theorem at_8_66 : am_at (am_m 8) 66 = some (.putfield 46, 1032) := by decide +kernel
theorem at_8_69 : am_at (am_m 8) 69 = some (.iconst 1, 0) := by decide +kernel
theorem at_8_70 : am_at (am_m 8) 70 = some (.istore_n 1, 0) := by decide +kernel
theorem at_8_71 : am_at (am_m 8) 71 = some (.iload_n 1, 0) := by decide +kernel
theorem at_8_72 : am_at (am_m 8) 72 = some (.bipush 13, 0) := by decide +kernel
theorem at_8_74 : am_at (am_m 8) 74 = some (.if_icmp .ge 67, 141) := by decide +kernel
theorem at_8_77 : am_at (am_m 8) 77 = some (.iconst 0, 0) := by decide +kernel
theorem at_8_78 : am_at (am_m 8) 78 = some (.istore_n 2, 0) := by decide +kernel
theorem at_8_79 : am_at (am_m 8) 79 = some (.iload_n 2, 0) := by decide +kernel
theorem at_8_80 : am_at (am_m 8) 80 = some (.bipush 126, 0) := by decide +kernel
theorem at_8_82 : am_at (am_m 8) 82 = some (.if_icmp .ge 53, 135) := by decide +kernel
theorem at_8_85 : am_at (am_m 8) 85 = some (.aload_n 0, 0) := by decide +kernel
theorem at_8_86 : am_at (am_m 8) 86 = some (.iload_n 2, 0) := by decide +kernel
theorem at_8_87 : am_at (am_m 8) 87 = some (.bipush 21, 0) := by decide +kernel
theorem at_8_89 : am_at (am_m 8) 89 = some (.idiv, 0) := by decide +kernel
theorem at_8_90 : am_at (am_m 8) 90 = some (.iload_n 2, 0) := by decide +kernel
theorem at_8_91 : am_at (am_m 8) 91 = some (.bipush 21, 0) := by decide +kernel
theorem at_8_93 : am_at (am_m 8) 93 = some (.irem, 0) := by decide +kernel
theorem at_8_94 : am_at (am_m 8) 94 = some (.iload_n 1, 0) := by decide +kernel
theorem at_8_95 : am_at (am_m 8) 95 = some (.invokevirtual 49, 9) := by decide +kernel
theorem at_8_98 : am_at (am_m 8) 98 = some (.lstore_n 3, 0) := by decide +kernel
theorem at_8_99 : am_at (am_m 8) 99 = some (.aload_n 0, 0) := by decide +kernel
theorem at_8_100 : am_at (am_m 8) 100 = some (.getfield 11, 1024) := by decide +kernel
theorem at_8_103 : am_at (am_m 8) 103 = some (.iload_n 2, 0) := by decide +kernel
theorem at_8_104 : am_at (am_m 8) 104 = some (.bipush 13, 0) := by decide +kernel
theorem at_8_106 : am_at (am_m 8) 106 = some (.imul, 0) := by decide +kernel
theorem at_8_107 : am_at (am_m 8) 107 = some (.iload_n 1, 0) := by decide +kernel
theorem at_8_108 : am_at (am_m 8) 108 = some (.iadd, 0) := by decide +kernel
theorem at_8_109 : am_at (am_m 8) 109 = some (.lload_n 3, 0) := by decide +kernel
theorem at_8_110 : am_at (am_m 8) 110 = some (.lastore, 0) := by decide +kernel
theorem at_8_111 : am_at (am_m 8) 111 = some (.aload_n 0, 0) := by decide +kernel
theorem at_8_112 : am_at (am_m 8) 112 = some (.getfield 15, 1025) := by decide +kernel
theorem at_8_115 : am_at (am_m 8) 115 = some (.iload_n 2, 0) := by decide +kernel
theorem at_8_116 : am_at (am_m 8) 116 = some (.bipush 21, 0) := by decide +kernel
theorem at_8_118 : am_at (am_m 8) 118 = some (.idiv, 0) := by decide +kernel
theorem at_8_119 : am_at (am_m 8) 119 = some (.bipush 13, 0) := by decide +kernel
theorem at_8_121 : am_at (am_m 8) 121 = some (.imul, 0) := by decide +kernel
theorem at_8_122 : am_at (am_m 8) 122 = some (.iload_n 1, 0) := by decide +kernel
theorem at_8_123 : am_at (am_m 8) 123 = some (.iadd, 0) := by decide +kernel
theorem at_8_124 : am_at (am_m 8) 124 = some (.dup2, 0) := by decide +kernel
theorem at_8_125 : am_at (am_m 8) 125 = some (.laload, 0) := by decide +kernel
theorem at_8_126 : am_at (am_m 8) 126 = some (.lload_n 3, 0) := by decide +kernel
theorem at_8_127 : am_at (am_m 8) 127 = some (.ladd, 0) := by decide +kernel
theorem at_8_128 : am_at (am_m 8) 128 = some (.lastore, 0) := by decide +kernel
theorem at_8_129 : am_at (am_m 8) 129 = some (.iinc 2 1, 0) := by decide +kernel
theorem at_8_132 : am_at (am_m 8) 132 = some (.goto (-53), 79) := by decide +kernel
theorem at_8_135 : am_at (am_m 8) 135 = some (.iinc 1 1, 0) := by decide +kernel
theorem at_8_138 : am_at (am_m 8) 138 = some (.goto (-67), 71) := by decide +kernel
theorem at_8_141 : am_at (am_m 8) 141 = some (.return_, 0) := by decide +kernel
theorem at_9_0 : am_at (am_m 9) 0 = some (.iload_n 1, 0) := by decide +kernel
theorem at_9_1 : am_at (am_m 9) 1 = some (.iload_n 2, 0) := by decide +kernel
theorem at_9_2 : am_at (am_m 9) 2 = some (.invokestatic 61, 10) := by decide +kernel
theorem at_9_5 : am_at (am_m 9) 5 = some (.ifCond .ne 5, 10) := by decide +kernel
theorem at_9_8 : am_at (am_m 9) 8 = some (.lconst 0, 0) := by decide +kernel
theorem at_9_9 : am_at (am_m 9) 9 = some (.lreturn, 0) := by decide +kernel
theorem at_9_10 : am_at (am_m 9) 10 = some (.iload_n 1, 0) := by decide +kernel
theorem at_9_11 : am_at (am_m 9) 11 = some (.iload_n 2, 0) := by decide +kernel
theorem at_9_12 : am_at (am_m 9) 12 = some (.iconst 0, 0) := by decide +kernel
theorem at_9_13 : am_at (am_m 9) 13 = some (.invokestatic 64, 12) := by decide +kernel
theorem at_9_16 : am_at (am_m 9) 16 = some (.istore 4, 0) := by decide +kernel
theorem at_9_18 : am_at (am_m 9) 18 = some (.iload_n 1, 0) := by decide +kernel
theorem at_9_19 : am_at (am_m 9) 19 = some (.iload_n 2, 0) := by decide +kernel
theorem at_9_20 : am_at (am_m 9) 20 = some (.iconst 1, 0) := by decide +kernel
theorem at_9_21 : am_at (am_m 9) 21 = some (.invokestatic 64, 12) := by decide +kernel
theorem at_9_24 : am_at (am_m 9) 24 = some (.istore 5, 0) := by decide +kernel
theorem at_9_26 : am_at (am_m 9) 26 = some (.iload_n 2, 0) := by decide +kernel
theorem at_9_27 : am_at (am_m 9) 27 = some (.invokestatic 68, 14) := by decide +kernel
theorem at_9_30 : am_at (am_m 9) 30 = some (.tableswitch 69 0 2 #[26, 47, 57], 0) := by decide +kernel
theorem at_9_56 : am_at (am_m 9) 56 = some (.iload_n 3, 0) := by decide +kernel
theorem at_9_57 : am_at (am_m 9) 57 = some (.iconst 1, 0) := by decide +kernel
theorem at_9_58 : am_at (am_m 9) 58 = some (.if_icmp .le 7, 65) := by decide +kernel
theorem at_9_61 : am_at (am_m 9) 61 = some (.lconst 0, 0) := by decide +kernel
theorem at_9_62 : am_at (am_m 9) 62 = some (.goto 14, 76) := by decide +kernel
theorem at_9_65 : am_at (am_m 9) 65 = some (.iload_n 2, 0) := by decide +kernel
theorem at_9_66 : am_at (am_m 9) 66 = some (.ifCond .ne 9, 75) := by decide +kernel
theorem at_9_69 : am_at (am_m 9) 69 = some (.ldc2_w 72, 1) := by decide +kernel
theorem at_9_72 : am_at (am_m 9) 72 = some (.goto 4, 76) := by decide +kernel
theorem at_9_75 : am_at (am_m 9) 75 = some (.lconst 1, 0) := by decide +kernel
theorem at_9_76 : am_at (am_m 9) 76 = some (.lreturn, 0) := by decide +kernel
theorem at_9_77 : am_at (am_m 9) 77 = some (.aload_n 0, 0) := by decide +kernel
theorem at_9_78 : am_at (am_m 9) 78 = some (.iload 4, 0) := by decide +kernel
theorem at_9_80 : am_at (am_m 9) 80 = some (.iload_n 3, 0) := by decide +kernel
theorem at_9_81 : am_at (am_m 9) 81 = some (.iconst 1, 0) := by decide +kernel
theorem at_9_82 : am_at (am_m 9) 82 = some (.isub, 0) := by decide +kernel
theorem at_9_83 : am_at (am_m 9) 83 = some (.invokevirtual 74, 15) := by decide +kernel
theorem at_9_86 : am_at (am_m 9) 86 = some (.lreturn, 0) := by decide +kernel
theorem at_9_87 : am_at (am_m 9) 87 = some (.aload_n 0, 0) := by decide +kernel
theorem at_9_88 : am_at (am_m 9) 88 = some (.iload 4, 0) := by decide +kernel
theorem at_9_90 : am_at (am_m 9) 90 = some (.iload 5, 0) := by decide +kernel
theorem at_9_92 : am_at (am_m 9) 92 = some (.iload_n 3, 0) := by decide +kernel
theorem at_9_93 : am_at (am_m 9) 93 = some (.iconst 1, 0) := by decide +kernel
theorem at_9_94 : am_at (am_m 9) 94 = some (.isub, 0) := by decide +kernel
theorem at_9_95 : am_at (am_m 9) 95 = some (.invokevirtual 78, 16) := by decide +kernel
theorem at_9_98 : am_at (am_m 9) 98 = some (.lreturn, 0) := by decide +kernel
theorem at_9_99 : am_at (am_m 9) 99 = some (.lconst 0, 0) := by decide +kernel
theorem at_9_100 : am_at (am_m 9) 100 = some (.lstore 6, 0) := by decide +kernel
theorem at_9_102 : am_at (am_m 9) 102 = some (.iconst 1, 0) := by decide +kernel
theorem at_9_103 : am_at (am_m 9) 103 = some (.istore 8, 0) := by decide +kernel
theorem at_9_105 : am_at (am_m 9) 105 = some (.iload 8, 0) := by decide +kernel
theorem at_9_107 : am_at (am_m 9) 107 = some (.iload_n 3, 0) := by decide +kernel
theorem at_9_108 : am_at (am_m 9) 108 = some (.iconst 1, 0) := by decide +kernel
theorem at_9_109 : am_at (am_m 9) 109 = some (.isub, 0) := by decide +kernel
theorem at_9_110 : am_at (am_m 9) 110 = some (.if_icmp .ge 37, 147) := by decide +kernel
theorem at_9_113 : am_at (am_m 9) 113 = some (.lload 6, 0) := by decide +kernel
theorem at_9_115 : am_at (am_m 9) 115 = some (.aload_n 0, 0) := by decide +kernel
theorem at_9_116 : am_at (am_m 9) 116 = some (.iload 4, 0) := by decide +kernel
theorem at_9_118 : am_at (am_m 9) 118 = some (.iload 8, 0) := by decide +kernel
theorem at_9_120 : am_at (am_m 9) 120 = some (.invokevirtual 74, 15) := by decide +kernel
theorem at_9_123 : am_at (am_m 9) 123 = some (.aload_n 0, 0) := by decide +kernel
theorem at_9_124 : am_at (am_m 9) 124 = some (.iload 5, 0) := by decide +kernel
theorem at_9_126 : am_at (am_m 9) 126 = some (.iload 5, 0) := by decide +kernel
theorem at_9_128 : am_at (am_m 9) 128 = some (.iload_n 3, 0) := by decide +kernel
theorem at_9_129 : am_at (am_m 9) 129 = some (.iconst 1, 0) := by decide +kernel
theorem at_9_130 : am_at (am_m 9) 130 = some (.isub, 0) := by decide +kernel
theorem at_9_131 : am_at (am_m 9) 131 = some (.iload 8, 0) := by decide +kernel
theorem at_9_133 : am_at (am_m 9) 133 = some (.isub, 0) := by decide +kernel
theorem at_9_134 : am_at (am_m 9) 134 = some (.invokevirtual 78, 16) := by decide +kernel
theorem at_9_137 : am_at (am_m 9) 137 = some (.lmul, 0) := by decide +kernel
theorem at_9_138 : am_at (am_m 9) 138 = some (.ladd, 0) := by decide +kernel
theorem at_9_139 : am_at (am_m 9) 139 = some (.lstore 6, 0) := by decide +kernel
theorem at_9_141 : am_at (am_m 9) 141 = some (.iinc 8 1, 0) := by decide +kernel
theorem at_9_144 : am_at (am_m 9) 144 = some (.goto (-39), 105) := by decide +kernel
theorem at_9_147 : am_at (am_m 9) 147 = some (.lload 6, 0) := by decide +kernel
theorem at_9_149 : am_at (am_m 9) 149 = some (.lreturn, 0) := by decide +kernel
theorem at_10_0 : am_at (am_m 10) 0 = some (.iload_n 0, 0) := by decide +kernel
theorem at_10_1 : am_at (am_m 10) 1 = some (.iconst 2, 0) := by decide +kernel
theorem at_10_2 : am_at (am_m 10) 2 = some (.idiv, 0) := by decide +kernel
theorem at_10_3 : am_at (am_m 10) 3 = some (.iconst 2, 0) := by decide +kernel
theorem at_10_4 : am_at (am_m 10) 4 = some (.imul, 0) := by decide +kernel
theorem at_10_5 : am_at (am_m 10) 5 = some (.istore_n 2, 0) := by decide +kernel
theorem at_10_6 : am_at (am_m 10) 6 = some (.iload_n 1, 0) := by decide +kernel
theorem at_10_7 : am_at (am_m 10) 7 = some (.invokestatic 57, 11) := by decide +kernel
theorem at_10_10 : am_at (am_m 10) 10 = some (.iload_n 0, 0) := by decide +kernel
theorem at_10_11 : am_at (am_m 10) 11 = some (.iconst 2, 0) := by decide +kernel
theorem at_10_12 : am_at (am_m 10) 12 = some (.irem, 0) := by decide +kernel
theorem at_10_13 : am_at (am_m 10) 13 = some (.iconst 1, 0) := by decide +kernel
theorem at_10_14 : am_at (am_m 10) 14 = some (.if_icmp .ne 7, 21) := by decide +kernel
theorem at_10_17 : am_at (am_m 10) 17 = some (.iconst 1, 0) := by decide +kernel
theorem at_10_18 : am_at (am_m 10) 18 = some (.goto 4, 22) := by decide +kernel
theorem at_10_21 : am_at (am_m 10) 21 = some (.iconst 0, 0) := by decide +kernel
theorem at_10_22 : am_at (am_m 10) 22 = some (.if_icmp .ne 33, 55) := by decide +kernel
theorem at_10_25 : am_at (am_m 10) 25 = some (.iload_n 2, 0) := by decide +kernel
theorem at_10_26 : am_at (am_m 10) 26 = some (.iconst 2, 0) := by decide +kernel
theorem at_10_27 : am_at (am_m 10) 27 = some (.if_icmp .eq 14, 41) := by decide +kernel
theorem at_10_30 : am_at (am_m 10) 30 = some (.iload_n 1, 0) := by decide +kernel
theorem at_10_31 : am_at (am_m 10) 31 = some (.iconst 5, 0) := by decide +kernel
theorem at_10_32 : am_at (am_m 10) 32 = some (.if_icmp .eq 23, 55) := by decide +kernel
theorem at_10_35 : am_at (am_m 10) 35 = some (.iload_n 1, 0) := by decide +kernel
theorem at_10_36 : am_at (am_m 10) 36 = some (.bipush 6, 0) := by decide +kernel
theorem at_10_38 : am_at (am_m 10) 38 = some (.if_icmp .eq 17, 55) := by decide +kernel
theorem at_10_41 : am_at (am_m 10) 41 = some (.iload_n 2, 0) := by decide +kernel
theorem at_10_42 : am_at (am_m 10) 42 = some (.ifCond .eq 9, 51) := by decide +kernel
theorem at_10_45 : am_at (am_m 10) 45 = some (.iload_n 1, 0) := by decide +kernel
theorem at_10_46 : am_at (am_m 10) 46 = some (.bipush 19, 0) := by decide +kernel
theorem at_10_48 : am_at (am_m 10) 48 = some (.if_icmp .eq 7, 55) := by decide +kernel
theorem at_10_51 : am_at (am_m 10) 51 = some (.iconst 1, 0) := by decide +kernel
theorem at_10_52 : am_at (am_m 10) 52 = some (.goto 4, 56) := by decide +kernel
theorem at_10_55 : am_at (am_m 10) 55 = some (.iconst 0, 0) := by decide +kernel
theorem at_10_56 : am_at (am_m 10) 56 = some (.ireturn, 0) := by decide +kernel
theorem at_11_0 : am_at (am_m 11) 0 = some (.iload_n 0, 0) := by decide +kernel
theorem at_11_1 : am_at (am_m 11) 1 = some (.bipush 9, 0) := by decide +kernel
theorem at_11_3 : am_at (am_m 11) 3 = some (.if_icmp .eq 15, 18) := by decide +kernel
theorem at_11_6 : am_at (am_m 11) 6 = some (.iload_n 0, 0) := by decide +kernel
theorem at_11_7 : am_at (am_m 11) 7 = some (.bipush 15, 0) := by decide +kernel
theorem at_11_9 : am_at (am_m 11) 9 = some (.if_icmp .lt 13, 22) := by decide +kernel
theorem at_11_12 : am_at (am_m 11) 12 = some (.iload_n 0, 0) := by decide +kernel
theorem at_11_13 : am_at (am_m 11) 13 = some (.bipush 18, 0) := by decide +kernel
theorem at_11_15 : am_at (am_m 11) 15 = some (.if_icmp .gt 7, 22) := by decide +kernel
theorem at_11_18 : am_at (am_m 11) 18 = some (.iconst 1, 0) := by decide +kernel
theorem at_11_19 : am_at (am_m 11) 19 = some (.goto 4, 23) := by decide +kernel
theorem at_11_22 : am_at (am_m 11) 22 = some (.iconst 0, 0) := by decide +kernel
theorem at_11_23 : am_at (am_m 11) 23 = some (.ireturn, 0) := by decide +kernel
theorem at_12_0 : am_at (am_m 12) 0 = some (.iload_n 1, 0) := by decide +kernel
theorem at_12_1 : am_at (am_m 12) 1 = some (.bipush 19, 0) := by decide +kernel
theorem at_12_3 : am_at (am_m 12) 3 = some (.if_icmp .ne 12, 15) := by decide +kernel
theorem at_12_6 : am_at (am_m 12) 6 = some (.iload_n 2, 0) := by decide +kernel
theorem at_12_7 : am_at (am_m 12) 7 = some (.iconst 1, 0) := by decide +kernel
theorem at_12_8 : am_at (am_m 12) 8 = some (.if_icmp .ne 7, 15) := by decide +kernel
theorem at_12_11 : am_at (am_m 12) 11 = some (.iconst 2, 0) := by decide +kernel
theorem at_12_12 : am_at (am_m 12) 12 = some (.goto 8, 20) := by decide +kernel
theorem at_12_15 : am_at (am_m 12) 15 = some (.iload_n 0, 0) := by decide +kernel
theorem at_12_16 : am_at (am_m 12) 16 = some (.iconst 2, 0) := by decide +kernel
theorem at_12_17 : am_at (am_m 12) 17 = some (.idiv, 0) := by decide +kernel
theorem at_12_18 : am_at (am_m 12) 18 = some (.iconst 2, 0) := by decide +kernel
theorem at_12_19 : am_at (am_m 12) 19 = some (.imul, 0) := by decide +kernel
theorem at_12_20 : am_at (am_m 12) 20 = some (.istore_n 3, 0) := by decide +kernel
theorem at_12_21 : am_at (am_m 12) 21 = some (.iload_n 1, 0) := by decide +kernel
theorem at_12_22 : am_at (am_m 12) 22 = some (.iload_n 2, 0) := by decide +kernel
theorem at_12_23 : am_at (am_m 12) 23 = some (.invokestatic 53, 13) := by decide +kernel
theorem at_12_26 : am_at (am_m 12) 26 = some (.ifCond .eq 9, 35) := by decide +kernel
theorem at_12_29 : am_at (am_m 12) 29 = some (.iload_n 3, 0) := by decide +kernel
theorem at_12_30 : am_at (am_m 12) 30 = some (.iconst 1, 0) := by decide +kernel
theorem at_12_31 : am_at (am_m 12) 31 = some (.iadd, 0) := by decide +kernel
theorem at_12_32 : am_at (am_m 12) 32 = some (.goto 4, 36) := by decide +kernel
theorem at_12_35 : am_at (am_m 12) 35 = some (.iload_n 3, 0) := by decide +kernel
theorem at_12_36 : am_at (am_m 12) 36 = some (.ireturn, 0) := by decide +kernel
theorem at_13_0 : am_at (am_m 13) 0 = some (.iload_n 0, 0) := by decide +kernel
theorem at_13_1 : am_at (am_m 13) 1 = some (.bipush 9, 0) := by decide +kernel
theorem at_13_3 : am_at (am_m 13) 3 = some (.if_icmp .eq 25, 28) := by decide +kernel
theorem at_13_6 : am_at (am_m 13) 6 = some (.iload_n 0, 0) := by decide +kernel
theorem at_13_7 : am_at (am_m 13) 7 = some (.bipush 17, 0) := by decide +kernel
theorem at_13_9 : am_at (am_m 13) 9 = some (.if_icmp .eq 19, 28) := by decide +kernel
theorem at_13_12 : am_at (am_m 13) 12 = some (.iload_n 0, 0) := by decide +kernel
theorem at_13_13 : am_at (am_m 13) 13 = some (.bipush 18, 0) := by decide +kernel
theorem at_13_15 : am_at (am_m 13) 15 = some (.if_icmp .eq 13, 28) := by decide +kernel
theorem at_13_18 : am_at (am_m 13) 18 = some (.iload_n 0, 0) := by decide +kernel
theorem at_13_19 : am_at (am_m 13) 19 = some (.bipush 20, 0) := by decide +kernel
theorem at_13_21 : am_at (am_m 13) 21 = some (.if_icmp .ne 11, 32) := by decide +kernel
theorem at_13_24 : am_at (am_m 13) 24 = some (.iload_n 1, 0) := by decide +kernel
theorem at_13_25 : am_at (am_m 13) 25 = some (.ifCond .ne 7, 32) := by decide +kernel
theorem at_13_28 : am_at (am_m 13) 28 = some (.iconst 1, 0) := by decide +kernel
theorem at_13_29 : am_at (am_m 13) 29 = some (.goto 4, 33) := by decide +kernel
theorem at_13_32 : am_at (am_m 13) 32 = some (.iconst 0, 0) := by decide +kernel
theorem at_13_33 : am_at (am_m 13) 33 = some (.ireturn, 0) := by decide +kernel
theorem at_14_0 : am_at (am_m 14) 0 = some (.iload_n 0, 0) := by decide +kernel
theorem at_14_1 : am_at (am_m 14) 1 = some (.bipush 7, 0) := by decide +kernel
theorem at_14_3 : am_at (am_m 14) 3 = some (.if_icmp .ge 7, 10) := by decide +kernel
theorem at_14_6 : am_at (am_m 14) 6 = some (.iconst 0, 0) := by decide +kernel
theorem at_14_7 : am_at (am_m 14) 7 = some (.goto 24, 31) := by decide +kernel
theorem at_14_10 : am_at (am_m 14) 10 = some (.iload_n 0, 0) := by decide +kernel
theorem at_14_11 : am_at (am_m 14) 11 = some (.bipush 10, 0) := by decide +kernel
theorem at_14_13 : am_at (am_m 14) 13 = some (.if_icmp .ge 7, 20) := by decide +kernel
theorem at_14_16 : am_at (am_m 14) 16 = some (.iconst 1, 0) := by decide +kernel
theorem at_14_17 : am_at (am_m 14) 17 = some (.goto 14, 31) := by decide +kernel
theorem at_14_20 : am_at (am_m 14) 20 = some (.iload_n 0, 0) := by decide +kernel
theorem at_14_21 : am_at (am_m 14) 21 = some (.bipush 20, 0) := by decide +kernel
theorem at_14_23 : am_at (am_m 14) 23 = some (.if_icmp .ge 7, 30) := by decide +kernel
theorem at_14_26 : am_at (am_m 14) 26 = some (.iconst 2, 0) := by decide +kernel
theorem at_14_27 : am_at (am_m 14) 27 = some (.goto 4, 31) := by decide +kernel
theorem at_14_30 : am_at (am_m 14) 30 = some (.iconst 3, 0) := by decide +kernel
theorem at_14_31 : am_at (am_m 14) 31 = some (.ireturn, 0) := by decide +kernel
theorem at_15_0 : am_at (am_m 15) 0 = some (.iload_n 2, 0) := by decide +kernel
theorem at_15_1 : am_at (am_m 15) 1 = some (.ifCond .le 33, 34) := by decide +kernel
theorem at_15_4 : am_at (am_m 15) 4 = some (.iload_n 2, 0) := by decide +kernel
theorem at_15_5 : am_at (am_m 15) 5 = some (.bipush 13, 0) := by decide +kernel
theorem at_15_7 : am_at (am_m 15) 7 = some (.if_icmp .ge 27, 34) := by decide +kernel
theorem at_15_10 : am_at (am_m 15) 10 = some (.iload_n 1, 0) := by decide +kernel
theorem at_15_11 : am_at (am_m 15) 11 = some (.ifCond .lt 23, 34) := by decide +kernel
theorem at_15_14 : am_at (am_m 15) 14 = some (.iload_n 1, 0) := by decide +kernel
theorem at_15_15 : am_at (am_m 15) 15 = some (.bipush 6, 0) := by decide +kernel
theorem at_15_17 : am_at (am_m 15) 17 = some (.if_icmp .ge 17, 34) := by decide +kernel
theorem at_15_20 : am_at (am_m 15) 20 = some (.aload_n 0, 0) := by decide +kernel
theorem at_15_21 : am_at (am_m 15) 21 = some (.getfield 15, 1025) := by decide +kernel
theorem at_15_24 : am_at (am_m 15) 24 = some (.iload_n 1, 0) := by decide +kernel
theorem at_15_25 : am_at (am_m 15) 25 = some (.bipush 13, 0) := by decide +kernel
theorem at_15_27 : am_at (am_m 15) 27 = some (.imul, 0) := by decide +kernel
theorem at_15_28 : am_at (am_m 15) 28 = some (.iload_n 2, 0) := by decide +kernel
theorem at_15_29 : am_at (am_m 15) 29 = some (.iadd, 0) := by decide +kernel
theorem at_15_30 : am_at (am_m 15) 30 = some (.laload, 0) := by decide +kernel
theorem at_15_31 : am_at (am_m 15) 31 = some (.goto 4, 35) := by decide +kernel
theorem at_15_34 : am_at (am_m 15) 34 = some (.lconst 0, 0) := by decide +kernel
theorem at_15_35 : am_at (am_m 15) 35 = some (.lreturn, 0) := by decide +kernel
theorem at_16_0 : am_at (am_m 16) 0 = some (.lconst 0, 0) := by decide +kernel
theorem at_16_1 : am_at (am_m 16) 1 = some (.lstore 4, 0) := by decide +kernel
theorem at_16_3 : am_at (am_m 16) 3 = some (.iconst 1, 0) := by decide +kernel
theorem at_16_4 : am_at (am_m 16) 4 = some (.istore 6, 0) := by decide +kernel
theorem at_16_6 : am_at (am_m 16) 6 = some (.iload 6, 0) := by decide +kernel
theorem at_16_8 : am_at (am_m 16) 8 = some (.iload_n 3, 0) := by decide +kernel
theorem at_16_9 : am_at (am_m 16) 9 = some (.if_icmp .ge 31, 40) := by decide +kernel
theorem at_16_12 : am_at (am_m 16) 12 = some (.lload 4, 0) := by decide +kernel
theorem at_16_14 : am_at (am_m 16) 14 = some (.aload_n 0, 0) := by decide +kernel
theorem at_16_15 : am_at (am_m 16) 15 = some (.iload_n 1, 0) := by decide +kernel
theorem at_16_16 : am_at (am_m 16) 16 = some (.iload 6, 0) := by decide +kernel
theorem at_16_18 : am_at (am_m 16) 18 = some (.invokevirtual 74, 15) := by decide +kernel
theorem at_16_21 : am_at (am_m 16) 21 = some (.aload_n 0, 0) := by decide +kernel
theorem at_16_22 : am_at (am_m 16) 22 = some (.iload_n 2, 0) := by decide +kernel
theorem at_16_23 : am_at (am_m 16) 23 = some (.iload_n 3, 0) := by decide +kernel
theorem at_16_24 : am_at (am_m 16) 24 = some (.iload 6, 0) := by decide +kernel
theorem at_16_26 : am_at (am_m 16) 26 = some (.isub, 0) := by decide +kernel
theorem at_16_27 : am_at (am_m 16) 27 = some (.invokevirtual 74, 15) := by decide +kernel
theorem at_16_30 : am_at (am_m 16) 30 = some (.lmul, 0) := by decide +kernel
theorem at_16_31 : am_at (am_m 16) 31 = some (.ladd, 0) := by decide +kernel
theorem at_16_32 : am_at (am_m 16) 32 = some (.lstore 4, 0) := by decide +kernel
theorem at_16_34 : am_at (am_m 16) 34 = some (.iinc 6 1, 0) := by decide +kernel
theorem at_16_37 : am_at (am_m 16) 37 = some (.goto (-31), 6) := by decide +kernel
theorem at_16_40 : am_at (am_m 16) 40 = some (.lload 4, 0) := by decide +kernel
theorem at_16_42 : am_at (am_m 16) 42 = some (.lreturn, 0) := by decide +kernel
theorem at_17_0 : am_at (am_m 17) 0 = some (.aload_n 0, 0) := by decide +kernel
theorem at_17_1 : am_at (am_m 17) 1 = some (.invokespecial 3, 10003) := by decide +kernel
theorem at_17_4 : am_at (am_m 17) 4 = some (.aload_n 0, 0) := by decide +kernel
theorem at_17_5 : am_at (am_m 17) 5 = some (.new 9, 3) := by decide +kernel
theorem at_17_8 : am_at (am_m 17) 8 = some (.dup, 0) := by decide +kernel
theorem at_17_9 : am_at (am_m 17) 9 = some (.bipush 120, 0) := by decide +kernel
theorem at_17_11 : am_at (am_m 17) 11 = some (.invokespecial 11, 18) := by decide +kernel
theorem at_17_14 : am_at (am_m 17) 14 = some (.putfield 14, 0) := by decide +kernel
theorem at_17_17 : am_at (am_m 17) 17 = some (.aload_n 0, 0) := by decide +kernel
theorem at_17_18 : am_at (am_m 17) 18 = some (.new 9, 3) := by decide +kernel
theorem at_17_21 : am_at (am_m 17) 21 = some (.dup, 0) := by decide +kernel
theorem at_17_22 : am_at (am_m 17) 22 = some (.bipush 120, 0) := by decide +kernel
theorem at_17_24 : am_at (am_m 17) 24 = some (.invokespecial 11, 18) := by decide +kernel
theorem at_17_27 : am_at (am_m 17) 27 = some (.putfield 20, 1) := by decide +kernel
theorem at_17_30 : am_at (am_m 17) 30 = some (.aload_n 0, 0) := by decide +kernel
theorem at_17_31 : am_at (am_m 17) 31 = some (.new 23, 7) := by decide +kernel
theorem at_17_34 : am_at (am_m 17) 34 = some (.dup, 0) := by decide +kernel
theorem at_17_35 : am_at (am_m 17) 35 = some (.invokespecial 25, 3) := by decide +kernel
theorem at_17_38 : am_at (am_m 17) 38 = some (.putfield 26, 2) := by decide +kernel
theorem at_17_41 : am_at (am_m 17) 41 = some (.aload_n 0, 0) := by decide +kernel
theorem at_17_42 : am_at (am_m 17) 42 = some (.new 23, 7) := by decide +kernel
theorem at_17_45 : am_at (am_m 17) 45 = some (.dup, 0) := by decide +kernel
theorem at_17_46 : am_at (am_m 17) 46 = some (.invokespecial 25, 3) := by decide +kernel
theorem at_17_49 : am_at (am_m 17) 49 = some (.putfield 30, 3) := by decide +kernel
theorem at_17_52 : am_at (am_m 17) 52 = some (.aload_n 0, 0) := by decide +kernel
theorem at_17_53 : am_at (am_m 17) 53 = some (.new 23, 7) := by decide +kernel
theorem at_17_56 : am_at (am_m 17) 56 = some (.dup, 0) := by decide +kernel
theorem at_17_57 : am_at (am_m 17) 57 = some (.invokespecial 25, 3) := by decide +kernel
theorem at_17_60 : am_at (am_m 17) 60 = some (.putfield 33, 4) := by decide +kernel
theorem at_17_63 : am_at (am_m 17) 63 = some (.aload_n 0, 0) := by decide +kernel
theorem at_17_64 : am_at (am_m 17) 64 = some (.aconst_null, 0) := by decide +kernel
theorem at_17_65 : am_at (am_m 17) 65 = some (.putfield 36, 5) := by decide +kernel
theorem at_17_68 : am_at (am_m 17) 68 = some (.aload_n 0, 0) := by decide +kernel
theorem at_17_69 : am_at (am_m 17) 69 = some (.aconst_null, 0) := by decide +kernel
theorem at_17_70 : am_at (am_m 17) 70 = some (.putfield 39, 6) := by decide +kernel
theorem at_17_73 : am_at (am_m 17) 73 = some (.aload_n 0, 0) := by decide +kernel
theorem at_17_74 : am_at (am_m 17) 74 = some (.iconst 0, 0) := by decide +kernel
theorem at_17_75 : am_at (am_m 17) 75 = some (.putfield 42, 7) := by decide +kernel
theorem at_17_78 : am_at (am_m 17) 78 = some (.aload_n 0, 0) := by decide +kernel
theorem at_17_79 : am_at (am_m 17) 79 = some (.iconst 1, 0) := by decide +kernel
theorem at_17_80 : am_at (am_m 17) 80 = some (.putfield 46, 8) := by decide +kernel
theorem at_17_83 : am_at (am_m 17) 83 = some (.aload_n 0, 0) := by decide +kernel
theorem at_17_84 : am_at (am_m 17) 84 = some (.iconst 0, 0) := by decide +kernel
theorem at_17_85 : am_at (am_m 17) 85 = some (.putfield 49, 9) := by decide +kernel
theorem at_17_88 : am_at (am_m 17) 88 = some (.aload_n 0, 0) := by decide +kernel
theorem at_17_89 : am_at (am_m 17) 89 = some (.aconst_null, 0) := by decide +kernel
theorem at_17_90 : am_at (am_m 17) 90 = some (.putfield 52, 10) := by decide +kernel
theorem at_17_93 : am_at (am_m 17) 93 = some (.aload_n 0, 0) := by decide +kernel
theorem at_17_94 : am_at (am_m 17) 94 = some (.iconst 0, 0) := by decide +kernel
theorem at_17_95 : am_at (am_m 17) 95 = some (.putfield 55, 11) := by decide +kernel
theorem at_17_98 : am_at (am_m 17) 98 = some (.aload_n 0, 0) := by decide +kernel
theorem at_17_99 : am_at (am_m 17) 99 = some (.iconst 0, 0) := by decide +kernel
theorem at_17_100 : am_at (am_m 17) 100 = some (.putfield 58, 12) := by decide +kernel
theorem at_17_103 : am_at (am_m 17) 103 = some (.return_, 0) := by decide +kernel
theorem at_18_0 : am_at (am_m 18) 0 = some (.aload_n 0, 0) := by decide +kernel
theorem at_18_1 : am_at (am_m 18) 1 = some (.invokespecial 3, 10003) := by decide +kernel
theorem at_18_4 : am_at (am_m 18) 4 = some (.aload_n 0, 0) := by decide +kernel
theorem at_18_5 : am_at (am_m 18) 5 = some (.iconst 0, 0) := by decide +kernel
theorem at_18_6 : am_at (am_m 18) 6 = some (.putfield 9, 769) := by decide +kernel
theorem at_18_9 : am_at (am_m 18) 9 = some (.aload_n 0, 0) := by decide +kernel
theorem at_18_10 : am_at (am_m 18) 10 = some (.iconst 0, 0) := by decide +kernel
theorem at_18_11 : am_at (am_m 18) 11 = some (.putfield 15, 770) := by decide +kernel
theorem at_18_14 : am_at (am_m 18) 14 = some (.aload_n 0, 0) := by decide +kernel
theorem at_18_15 : am_at (am_m 18) 15 = some (.iconst 0, 0) := by decide +kernel
theorem at_18_16 : am_at (am_m 18) 16 = some (.putfield 18, 771) := by decide +kernel
theorem at_18_19 : am_at (am_m 18) 19 = some (.aload_n 0, 0) := by decide +kernel
theorem at_18_20 : am_at (am_m 18) 20 = some (.iconst 2, 0) := by decide +kernel
theorem at_18_21 : am_at (am_m 18) 21 = some (.putfield 21, 772) := by decide +kernel
theorem at_18_24 : am_at (am_m 18) 24 = some (.aload_n 0, 0) := by decide +kernel
theorem at_18_25 : am_at (am_m 18) 25 = some (.iconst 0, 0) := by decide +kernel
theorem at_18_26 : am_at (am_m 18) 26 = some (.putfield 24, 773) := by decide +kernel
theorem at_18_29 : am_at (am_m 18) 29 = some (.aload_n 0, 0) := by decide +kernel
theorem at_18_30 : am_at (am_m 18) 30 = some (.iconst (-1), 0) := by decide +kernel
theorem at_18_31 : am_at (am_m 18) 31 = some (.putfield 27, 774) := by decide +kernel
theorem at_18_34 : am_at (am_m 18) 34 = some (.aload_n 0, 0) := by decide +kernel
theorem at_18_35 : am_at (am_m 18) 35 = some (.iconst (-1), 0) := by decide +kernel
theorem at_18_36 : am_at (am_m 18) 36 = some (.putfield 30, 775) := by decide +kernel
theorem at_18_39 : am_at (am_m 18) 39 = some (.aload_n 0, 0) := by decide +kernel
theorem at_18_40 : am_at (am_m 18) 40 = some (.iconst (-1), 0) := by decide +kernel
theorem at_18_41 : am_at (am_m 18) 41 = some (.putfield 33, 776) := by decide +kernel
theorem at_18_44 : am_at (am_m 18) 44 = some (.aload_n 0, 0) := by decide +kernel
theorem at_18_45 : am_at (am_m 18) 45 = some (.iconst (-1), 0) := by decide +kernel
theorem at_18_46 : am_at (am_m 18) 46 = some (.putfield 36, 777) := by decide +kernel
theorem at_18_49 : am_at (am_m 18) 49 = some (.aload_n 0, 0) := by decide +kernel
theorem at_18_50 : am_at (am_m 18) 50 = some (.lconst 0, 0) := by decide +kernel
theorem at_18_51 : am_at (am_m 18) 51 = some (.putfield 39, 778) := by decide +kernel
theorem at_18_54 : am_at (am_m 18) 54 = some (.aload_n 0, 0) := by decide +kernel
theorem at_18_55 : am_at (am_m 18) 55 = some (.iload_n 1, 0) := by decide +kernel
theorem at_18_56 : am_at (am_m 18) 56 = some (.ifCond .le 7, 63) := by decide +kernel
theorem at_18_59 : am_at (am_m 18) 59 = some (.iload_n 1, 0) := by decide +kernel
theorem at_18_60 : am_at (am_m 18) 60 = some (.goto 4, 64) := by decide +kernel
theorem at_18_63 : am_at (am_m 18) 63 = some (.iconst 0, 0) := by decide +kernel
theorem at_18_64 : am_at (am_m 18) 64 = some (.newarray .int, 0) := by decide +kernel
theorem at_18_66 : am_at (am_m 18) 66 = some (.putfield 43, 768) := by decide +kernel
theorem at_18_69 : am_at (am_m 18) 69 = some (.return_, 0) := by decide +kernel
theorem at_19_0 : am_at (am_m 19) 0 = some (.aload_n 0, 0) := by decide +kernel
theorem at_19_1 : am_at (am_m 19) 1 = some (.invokespecial 3, 10003) := by decide +kernel
theorem at_19_4 : am_at (am_m 19) 4 = some (.aload_n 0, 0) := by decide +kernel
theorem at_19_5 : am_at (am_m 19) 5 = some (.bipush 60, 0) := by decide +kernel
theorem at_19_7 : am_at (am_m 19) 7 = some (.newarray .int, 0) := by decide +kernel
theorem at_19_9 : am_at (am_m 19) 9 = some (.putfield 9, 1280) := by decide +kernel
theorem at_19_12 : am_at (am_m 19) 12 = some (.aload_n 0, 0) := by decide +kernel
theorem at_19_13 : am_at (am_m 19) 13 = some (.bipush 60, 0) := by decide +kernel
theorem at_19_15 : am_at (am_m 19) 15 = some (.newarray .int, 0) := by decide +kernel
theorem at_19_17 : am_at (am_m 19) 17 = some (.putfield 15, 1281) := by decide +kernel
theorem at_19_20 : am_at (am_m 19) 20 = some (.aload_n 0, 0) := by decide +kernel
theorem at_19_21 : am_at (am_m 19) 21 = some (.iconst 0, 0) := by decide +kernel
theorem at_19_22 : am_at (am_m 19) 22 = some (.putfield 18, 1282) := by decide +kernel
theorem at_19_25 : am_at (am_m 19) 25 = some (.aload_n 0, 0) := by decide +kernel
theorem at_19_26 : am_at (am_m 19) 26 = some (.new 22, 7) := by decide +kernel
theorem at_19_29 : am_at (am_m 19) 29 = some (.dup, 0) := by decide +kernel
theorem at_19_30 : am_at (am_m 19) 30 = some (.invokespecial 24, 3) := by decide +kernel
theorem at_19_33 : am_at (am_m 19) 33 = some (.putfield 25, 1283) := by decide +kernel
theorem at_19_36 : am_at (am_m 19) 36 = some (.aload_n 0, 0) := by decide +kernel
theorem at_19_37 : am_at (am_m 19) 37 = some (.new 29, 3) := by decide +kernel
theorem at_19_40 : am_at (am_m 19) 40 = some (.dup, 0) := by decide +kernel
theorem at_19_41 : am_at (am_m 19) 41 = some (.bipush 120, 0) := by decide +kernel
theorem at_19_43 : am_at (am_m 19) 43 = some (.invokespecial 31, 18) := by decide +kernel
theorem at_19_46 : am_at (am_m 19) 46 = some (.putfield 34, 1284) := by decide +kernel
theorem at_19_49 : am_at (am_m 19) 49 = some (.aload_n 0, 0) := by decide +kernel
theorem at_19_50 : am_at (am_m 19) 50 = some (.aconst_null, 0) := by decide +kernel
theorem at_19_51 : am_at (am_m 19) 51 = some (.putfield 38, 1285) := by decide +kernel
theorem at_19_54 : am_at (am_m 19) 54 = some (.aload_n 0, 0) := by decide +kernel
theorem at_19_55 : am_at (am_m 19) 55 = some (.iconst 0, 0) := by decide +kernel
theorem at_19_56 : am_at (am_m 19) 56 = some (.putfield 41, 1286) := by decide +kernel
theorem at_19_59 : am_at (am_m 19) 59 = some (.return_, 0) := by decide +kernel
theorem at_20_0 : am_at (am_m 20) 0 = some (.aload_n 0, 0) := by decide +kernel
theorem at_20_1 : am_at (am_m 20) 1 = some (.invokespecial 3, 10003) := by decide +kernel
theorem at_20_4 : am_at (am_m 20) 4 = some (.aload_n 0, 0) := by decide +kernel
theorem at_20_5 : am_at (am_m 20) 5 = some (.new 9, 7) := by decide +kernel
theorem at_20_8 : am_at (am_m 20) 8 = some (.dup, 0) := by decide +kernel
theorem at_20_9 : am_at (am_m 20) 9 = some (.invokespecial 11, 3) := by decide +kernel
theorem at_20_12 : am_at (am_m 20) 12 = some (.putfield 12, 2560) := by decide +kernel
theorem at_20_15 : am_at (am_m 20) 15 = some (.aload_n 0, 0) := by decide +kernel
theorem at_20_16 : am_at (am_m 20) 16 = some (.bipush 8, 0) := by decide +kernel
theorem at_20_18 : am_at (am_m 20) 18 = some (.anewarray 18, 4) := by decide +kernel
theorem at_20_21 : am_at (am_m 20) 21 = some (.putfield 20, 2561) := by decide +kernel
theorem at_20_24 : am_at (am_m 20) 24 = some (.aload_n 0, 0) := by decide +kernel
theorem at_20_25 : am_at (am_m 20) 25 = some (.new 18, 3) := by decide +kernel
theorem at_20_28 : am_at (am_m 20) 28 = some (.dup, 0) := by decide +kernel
theorem at_20_29 : am_at (am_m 20) 29 = some (.bipush 120, 0) := by decide +kernel
theorem at_20_31 : am_at (am_m 20) 31 = some (.invokespecial 24, 18) := by decide +kernel
theorem at_20_34 : am_at (am_m 20) 34 = some (.putfield 27, 2562) := by decide +kernel
theorem at_20_37 : am_at (am_m 20) 37 = some (.aload_n 0, 0) := by decide +kernel
theorem at_20_38 : am_at (am_m 20) 38 = some (.iconst 0, 0) := by decide +kernel
theorem at_20_39 : am_at (am_m 20) 39 = some (.putfield 31, 2563) := by decide +kernel
theorem at_20_42 : am_at (am_m 20) 42 = some (.aload_n 0, 0) := by decide +kernel
theorem at_20_43 : am_at (am_m 20) 43 = some (.aconst_null, 0) := by decide +kernel
theorem at_20_44 : am_at (am_m 20) 44 = some (.putfield 35, 2564) := by decide +kernel
theorem at_20_47 : am_at (am_m 20) 47 = some (.aload_n 0, 0) := by decide +kernel
theorem at_20_48 : am_at (am_m 20) 48 = some (.aconst_null, 0) := by decide +kernel
theorem at_20_49 : am_at (am_m 20) 49 = some (.putfield 38, 2565) := by decide +kernel
theorem at_20_52 : am_at (am_m 20) 52 = some (.aload_n 0, 0) := by decide +kernel
theorem at_20_53 : am_at (am_m 20) 53 = some (.bipush 36, 0) := by decide +kernel
theorem at_20_55 : am_at (am_m 20) 55 = some (.newarray .boolean, 2) := by decide +kernel
theorem at_20_57 : am_at (am_m 20) 57 = some (.putfield 41, 2566) := by decide +kernel
theorem at_20_60 : am_at (am_m 20) 60 = some (.aload_n 0, 0) := by decide +kernel
theorem at_20_61 : am_at (am_m 20) 61 = some (.bipush 6, 0) := by decide +kernel
theorem at_20_63 : am_at (am_m 20) 63 = some (.newarray .int, 0) := by decide +kernel
theorem at_20_65 : am_at (am_m 20) 65 = some (.putfield 45, 2567) := by decide +kernel
theorem at_20_68 : am_at (am_m 20) 68 = some (.aload_n 0, 0) := by decide +kernel
theorem at_20_69 : am_at (am_m 20) 69 = some (.bipush 36, 0) := by decide +kernel
theorem at_20_71 : am_at (am_m 20) 71 = some (.newarray .int, 0) := by decide +kernel
theorem at_20_73 : am_at (am_m 20) 73 = some (.putfield 49, 2568) := by decide +kernel
theorem at_20_76 : am_at (am_m 20) 76 = some (.aload_n 0, 0) := by decide +kernel
theorem at_20_77 : am_at (am_m 20) 77 = some (.bipush 36, 0) := by decide +kernel
theorem at_20_79 : am_at (am_m 20) 79 = some (.newarray .int, 0) := by decide +kernel
theorem at_20_81 : am_at (am_m 20) 81 = some (.putfield 52, 2569) := by decide +kernel
theorem at_20_84 : am_at (am_m 20) 84 = some (.aload_n 0, 0) := by decide +kernel
theorem at_20_85 : am_at (am_m 20) 85 = some (.bipush 8, 0) := by decide +kernel
theorem at_20_87 : am_at (am_m 20) 87 = some (.newarray .int, 0) := by decide +kernel
theorem at_20_89 : am_at (am_m 20) 89 = some (.putfield 55, 2570) := by decide +kernel
theorem at_20_92 : am_at (am_m 20) 92 = some (.iconst 0, 0) := by decide +kernel
theorem at_20_93 : am_at (am_m 20) 93 = some (.istore_n 1, 0) := by decide +kernel
theorem at_20_94 : am_at (am_m 20) 94 = some (.iload_n 1, 0) := by decide +kernel
theorem at_20_95 : am_at (am_m 20) 95 = some (.bipush 8, 0) := by decide +kernel
theorem at_20_97 : am_at (am_m 20) 97 = some (.if_icmp .ge 24, 121) := by decide +kernel
theorem at_20_100 : am_at (am_m 20) 100 = some (.aload_n 0, 0) := by decide +kernel
theorem at_20_101 : am_at (am_m 20) 101 = some (.getfield 20, 2561) := by decide +kernel
theorem at_20_104 : am_at (am_m 20) 104 = some (.iload_n 1, 0) := by decide +kernel
theorem at_20_105 : am_at (am_m 20) 105 = some (.new 18, 3) := by decide +kernel
theorem at_20_108 : am_at (am_m 20) 108 = some (.dup, 0) := by decide +kernel
theorem at_20_109 : am_at (am_m 20) 109 = some (.bipush 120, 0) := by decide +kernel
theorem at_20_111 : am_at (am_m 20) 111 = some (.invokespecial 24, 18) := by decide +kernel
theorem at_20_114 : am_at (am_m 20) 114 = some (.aastore, 0) := by decide +kernel
theorem at_20_115 : am_at (am_m 20) 115 = some (.iinc 1 1, 0) := by decide +kernel
theorem at_20_118 : am_at (am_m 20) 118 = some (.goto (-24), 94) := by decide +kernel
theorem at_20_121 : am_at (am_m 20) 121 = some (.return_, 0) := by decide +kernel
theorem at_21_0 : am_at (am_m 21) 0 = some (.aload_n 0, 0) := by decide +kernel
theorem at_21_1 : am_at (am_m 21) 1 = some (.getfield 22, 2818) := by decide +kernel
theorem at_21_4 : am_at (am_m 21) 4 = some (.lload_n 1, 0) := by decide +kernel
theorem at_21_5 : am_at (am_m 21) 5 = some (.invokevirtual 110, 22) := by decide +kernel
theorem at_21_8 : am_at (am_m 21) 8 = some (.ireturn, 0) := by decide +kernel
theorem at_22_0 : am_at (am_m 22) 0 = some (.iconst 0, 0) := by decide +kernel
theorem at_22_1 : am_at (am_m 22) 1 = some (.istore_n 3, 0) := by decide +kernel
theorem at_22_2 : am_at (am_m 22) 2 = some (.iload_n 3, 0) := by decide +kernel
theorem at_22_3 : am_at (am_m 22) 3 = some (.bipush 8, 0) := by decide +kernel
theorem at_22_5 : am_at (am_m 22) 5 = some (.if_icmp .ge 24, 29) := by decide +kernel
theorem at_22_8 : am_at (am_m 22) 8 = some (.lload_n 1, 0) := by decide +kernel
theorem at_22_9 : am_at (am_m 22) 9 = some (.bipush 8, 0) := by decide +kernel
theorem at_22_11 : am_at (am_m 22) 11 = some (.iload_n 3, 0) := by decide +kernel
theorem at_22_12 : am_at (am_m 22) 12 = some (.imul, 0) := by decide +kernel
theorem at_22_13 : am_at (am_m 22) 13 = some (.lushr, 0) := by decide +kernel
theorem at_22_14 : am_at (am_m 22) 14 = some (.ldc2_w 46, 2) := by decide +kernel
theorem at_22_17 : am_at (am_m 22) 17 = some (.land, 0) := by decide +kernel
theorem at_22_18 : am_at (am_m 22) 18 = some (.lconst 0, 0) := by decide +kernel
theorem at_22_19 : am_at (am_m 22) 19 = some (.lcmp, 0) := by decide +kernel
theorem at_22_20 : am_at (am_m 22) 20 = some (.ifCond .eq 9, 29) := by decide +kernel
theorem at_22_23 : am_at (am_m 22) 23 = some (.iinc 3 1, 0) := by decide +kernel
theorem at_22_26 : am_at (am_m 22) 26 = some (.goto (-24), 2) := by decide +kernel
theorem at_22_29 : am_at (am_m 22) 29 = some (.aload_n 0, 0) := by decide +kernel
theorem at_22_30 : am_at (am_m 22) 30 = some (.getfield 15, 2305) := by decide +kernel
theorem at_22_33 : am_at (am_m 22) 33 = some (.iload_n 3, 0) := by decide +kernel
theorem at_22_34 : am_at (am_m 22) 34 = some (.iadd, 0) := by decide +kernel
theorem at_22_35 : am_at (am_m 22) 35 = some (.sipush 240, 0) := by decide +kernel
theorem at_22_38 : am_at (am_m 22) 38 = some (.if_icmp .le 5, 43) := by decide +kernel
theorem at_22_41 : am_at (am_m 22) 41 = some (.iconst (-1), 0) := by decide +kernel
theorem at_22_42 : am_at (am_m 22) 42 = some (.ireturn, 0) := by decide +kernel
theorem at_22_43 : am_at (am_m 22) 43 = some (.iconst 0, 0) := by decide +kernel
theorem at_22_44 : am_at (am_m 22) 44 = some (.istore 4, 0) := by decide +kernel
theorem at_22_46 : am_at (am_m 22) 46 = some (.iload 4, 0) := by decide +kernel
theorem at_22_48 : am_at (am_m 22) 48 = some (.iload_n 3, 0) := by decide +kernel
theorem at_22_49 : am_at (am_m 22) 49 = some (.if_icmp .ge 41, 90) := by decide +kernel
theorem at_22_52 : am_at (am_m 22) 52 = some (.aload_n 0, 0) := by decide +kernel
theorem at_22_53 : am_at (am_m 22) 53 = some (.getfield 9, 2304) := by decide +kernel
theorem at_22_56 : am_at (am_m 22) 56 = some (.aload_n 0, 0) := by decide +kernel
theorem at_22_57 : am_at (am_m 22) 57 = some (.getfield 15, 2305) := by decide +kernel
theorem at_22_60 : am_at (am_m 22) 60 = some (.lload_n 1, 0) := by decide +kernel
theorem at_22_61 : am_at (am_m 22) 61 = some (.bipush 8, 0) := by decide +kernel
theorem at_22_63 : am_at (am_m 22) 63 = some (.iload 4, 0) := by decide +kernel
theorem at_22_65 : am_at (am_m 22) 65 = some (.imul, 0) := by decide +kernel
theorem at_22_66 : am_at (am_m 22) 66 = some (.lushr, 0) := by decide +kernel
theorem at_22_67 : am_at (am_m 22) 67 = some (.ldc2_w 46, 2) := by decide +kernel
theorem at_22_70 : am_at (am_m 22) 70 = some (.land, 0) := by decide +kernel
theorem at_22_71 : am_at (am_m 22) 71 = some (.l2i, 0) := by decide +kernel
theorem at_22_72 : am_at (am_m 22) 72 = some (.i2c, 0) := by decide +kernel
theorem at_22_73 : am_at (am_m 22) 73 = some (.castore, 0) := by decide +kernel
theorem at_22_74 : am_at (am_m 22) 74 = some (.aload_n 0, 0) := by decide +kernel
theorem at_22_75 : am_at (am_m 22) 75 = some (.dup, 0) := by decide +kernel
theorem at_22_76 : am_at (am_m 22) 76 = some (.getfield 15, 2305) := by decide +kernel
theorem at_22_79 : am_at (am_m 22) 79 = some (.iconst 1, 0) := by decide +kernel
theorem at_22_80 : am_at (am_m 22) 80 = some (.iadd, 0) := by decide +kernel
theorem at_22_81 : am_at (am_m 22) 81 = some (.putfield 15, 2305) := by decide +kernel
theorem at_22_84 : am_at (am_m 22) 84 = some (.iinc 4 1, 0) := by decide +kernel
theorem at_22_87 : am_at (am_m 22) 87 = some (.goto (-41), 46) := by decide +kernel
theorem at_22_90 : am_at (am_m 22) 90 = some (.aload_n 0, 0) := by decide +kernel
theorem at_22_91 : am_at (am_m 22) 91 = some (.getfield 15, 2305) := by decide +kernel
theorem at_22_94 : am_at (am_m 22) 94 = some (.ireturn, 0) := by decide +kernel
theorem at_23_0 : am_at (am_m 23) 0 = some (.aload_n 0, 0) := by decide +kernel
theorem at_23_1 : am_at (am_m 23) 1 = some (.getfield 15, 2817) := by decide +kernel
theorem at_23_4 : am_at (am_m 23) 4 = some (.ireturn, 0) := by decide +kernel
theorem at_24_0 : am_at (am_m 24) 0 = some (.aload_n 0, 0) := by decide +kernel
theorem at_24_1 : am_at (am_m 24) 1 = some (.getfield 72, 2826) := by decide +kernel
theorem at_24_4 : am_at (am_m 24) 4 = some (.bipush 6, 0) := by decide +kernel
theorem at_24_6 : am_at (am_m 24) 6 = some (.iaload, 0) := by decide +kernel
theorem at_24_7 : am_at (am_m 24) 7 = some (.istore_n 2, 0) := by decide +kernel
theorem at_24_8 : am_at (am_m 24) 8 = some (.iload_n 2, 0) := by decide +kernel
theorem at_24_9 : am_at (am_m 24) 9 = some (.bipush 8, 0) := by decide +kernel
theorem at_24_11 : am_at (am_m 24) 11 = some (.if_icmp .lt 5, 16) := by decide +kernel
theorem at_24_14 : am_at (am_m 24) 14 = some (.iconst (-1), 0) := by decide +kernel
theorem at_24_15 : am_at (am_m 24) 15 = some (.ireturn, 0) := by decide +kernel
theorem at_24_16 : am_at (am_m 24) 16 = some (.aload_n 0, 0) := by decide +kernel
theorem at_24_17 : am_at (am_m 24) 17 = some (.getfield 72, 2826) := by decide +kernel
theorem at_24_20 : am_at (am_m 24) 20 = some (.bipush 7, 0) := by decide +kernel
theorem at_24_22 : am_at (am_m 24) 22 = some (.iload_n 2, 0) := by decide +kernel
theorem at_24_23 : am_at (am_m 24) 23 = some (.iadd, 0) := by decide +kernel
theorem at_24_24 : am_at (am_m 24) 24 = some (.iload_n 1, 0) := by decide +kernel
theorem at_24_25 : am_at (am_m 24) 25 = some (.iastore, 0) := by decide +kernel
theorem at_24_26 : am_at (am_m 24) 26 = some (.aload_n 0, 0) := by decide +kernel
theorem at_24_27 : am_at (am_m 24) 27 = some (.getfield 72, 2826) := by decide +kernel
theorem at_24_30 : am_at (am_m 24) 30 = some (.bipush 6, 0) := by decide +kernel
theorem at_24_32 : am_at (am_m 24) 32 = some (.iload_n 2, 0) := by decide +kernel
theorem at_24_33 : am_at (am_m 24) 33 = some (.iconst 1, 0) := by decide +kernel
theorem at_24_34 : am_at (am_m 24) 34 = some (.iadd, 0) := by decide +kernel
theorem at_24_35 : am_at (am_m 24) 35 = some (.iastore, 0) := by decide +kernel
theorem at_24_36 : am_at (am_m 24) 36 = some (.iload_n 2, 0) := by decide +kernel
theorem at_24_37 : am_at (am_m 24) 37 = some (.iconst 1, 0) := by decide +kernel
theorem at_24_38 : am_at (am_m 24) 38 = some (.iadd, 0) := by decide +kernel
theorem at_24_39 : am_at (am_m 24) 39 = some (.ireturn, 0) := by decide +kernel
theorem at_25_0 : am_at (am_m 25) 0 = some (.aload_n 0, 0) := by decide +kernel
theorem at_25_1 : am_at (am_m 25) 1 = some (.getfield 29, 2819) := by decide +kernel
theorem at_25_4 : am_at (am_m 25) 4 = some (.getfield 210, 513) := by decide +kernel
theorem at_25_7 : am_at (am_m 25) 7 = some (.ireturn, 0) := by decide +kernel
theorem at_26_0 : am_at (am_m 26) 0 = some (.aload_n 0, 0) := by decide +kernel
theorem at_26_1 : am_at (am_m 26) 1 = some (.getfield 78, 2828) := by decide +kernel
theorem at_26_4 : am_at (am_m 26) 4 = some (.ireturn, 0) := by decide +kernel
theorem at_27_0 : am_at (am_m 27) 0 = some (.aload_n 0, 0) := by decide +kernel
theorem at_27_1 : am_at (am_m 27) 1 = some (.getfield 81, 2829) := by decide +kernel
theorem at_27_4 : am_at (am_m 27) 4 = some (.ireturn, 0) := by decide +kernel
theorem at_28_0 : am_at (am_m 28) 0 = some (.aload_n 0, 0) := by decide +kernel
theorem at_28_1 : am_at (am_m 28) 1 = some (.getfield 61, 2824) := by decide +kernel
theorem at_28_4 : am_at (am_m 28) 4 = some (.getfield 431, 1282) := by decide +kernel
theorem at_28_7 : am_at (am_m 28) 7 = some (.ireturn, 0) := by decide +kernel
theorem at_29_0 : am_at (am_m 29) 0 = some (.iload_n 1, 0) := by decide +kernel
theorem at_29_1 : am_at (am_m 29) 1 = some (.ifCond .lt 23, 24) := by decide +kernel
theorem at_29_4 : am_at (am_m 29) 4 = some (.iload_n 1, 0) := by decide +kernel
theorem at_29_5 : am_at (am_m 29) 5 = some (.aload_n 0, 0) := by decide +kernel
theorem at_29_6 : am_at (am_m 29) 6 = some (.getfield 61, 2824) := by decide +kernel
theorem at_29_9 : am_at (am_m 29) 9 = some (.getfield 431, 1282) := by decide +kernel
theorem at_29_12 : am_at (am_m 29) 12 = some (.if_icmp .ge 12, 24) := by decide +kernel
theorem at_29_15 : am_at (am_m 29) 15 = some (.iload_n 2, 0) := by decide +kernel
theorem at_29_16 : am_at (am_m 29) 16 = some (.ifCond .lt 8, 24) := by decide +kernel
theorem at_29_19 : am_at (am_m 29) 19 = some (.iload_n 2, 0) := by decide +kernel
theorem at_29_20 : am_at (am_m 29) 20 = some (.iconst 1, 0) := by decide +kernel
theorem at_29_21 : am_at (am_m 29) 21 = some (.if_icmp .le 5, 26) := by decide +kernel
theorem at_29_24 : am_at (am_m 29) 24 = some (.iconst (-1), 0) := by decide +kernel
theorem at_29_25 : am_at (am_m 29) 25 = some (.ireturn, 0) := by decide +kernel
theorem at_29_26 : am_at (am_m 29) 26 = some (.iload_n 2, 0) := by decide +kernel
theorem at_29_27 : am_at (am_m 29) 27 = some (.ifCond .ne 15, 42) := by decide +kernel
theorem at_29_30 : am_at (am_m 29) 30 = some (.aload_n 0, 0) := by decide +kernel
theorem at_29_31 : am_at (am_m 29) 31 = some (.getfield 61, 2824) := by decide +kernel
theorem at_29_34 : am_at (am_m 29) 34 = some (.getfield 432, 1280) := by decide +kernel
theorem at_29_37 : am_at (am_m 29) 37 = some (.iload_n 1, 0) := by decide +kernel
theorem at_29_38 : am_at (am_m 29) 38 = some (.iaload, 0) := by decide +kernel
theorem at_29_39 : am_at (am_m 29) 39 = some (.goto 12, 51) := by decide +kernel
theorem at_29_42 : am_at (am_m 29) 42 = some (.aload_n 0, 0) := by decide +kernel
theorem at_29_43 : am_at (am_m 29) 43 = some (.getfield 61, 2824) := by decide +kernel
theorem at_29_46 : am_at (am_m 29) 46 = some (.getfield 435, 1281) := by decide +kernel
theorem at_29_49 : am_at (am_m 29) 49 = some (.iload_n 1, 0) := by decide +kernel
theorem at_29_50 : am_at (am_m 29) 50 = some (.iaload, 0) := by decide +kernel
theorem at_29_51 : am_at (am_m 29) 51 = some (.ireturn, 0) := by decide +kernel
theorem at_30_0 : am_at (am_m 30) 0 = some (.aload_n 2, 0) := by decide +kernel
theorem at_30_1 : am_at (am_m 30) 1 = some (.iconst 0, 0) := by decide +kernel
theorem at_30_2 : am_at (am_m 30) 2 = some (.aload_n 0, 0) := by decide +kernel
theorem at_30_3 : am_at (am_m 30) 3 = some (.iload_n 1, 0) := by decide +kernel
theorem at_30_4 : am_at (am_m 30) 4 = some (.invokevirtual 7, 31) := by decide +kernel
theorem at_30_7 : am_at (am_m 30) 7 = some (.i2l, 0) := by decide +kernel
theorem at_30_8 : am_at (am_m 30) 8 = some (.lastore, 0) := by decide +kernel
theorem at_30_9 : am_at (am_m 30) 9 = some (.goto 9, 18) := by decide +kernel
theorem at_30_13 : am_at (am_m 30) 13 = some (.iconst 1, 0) := by decide +kernel
theorem at_30_14 : am_at (am_m 30) 14 = some (.ireturn, 0) := by decide +kernel
theorem at_30_16 : am_at (am_m 30) 16 = some (.iconst 2, 0) := by decide +kernel
theorem at_30_17 : am_at (am_m 30) 17 = some (.ireturn, 0) := by decide +kernel
theorem at_30_18 : am_at (am_m 30) 18 = some (.iconst 0, 0) := by decide +kernel
theorem at_30_19 : am_at (am_m 30) 19 = some (.ireturn, 0) := by decide +kernel
theorem at_31_0 : am_at (am_m 31) 0 = some (.iload_n 1, 0) := by decide +kernel
theorem at_31_1 : am_at (am_m 31) 1 = some (.ifCond .lt 8, 9) := by decide +kernel
theorem at_31_4 : am_at (am_m 31) 4 = some (.iload_n 1, 0) := by decide +kernel
theorem at_31_5 : am_at (am_m 31) 5 = some (.iconst 3, 0) := by decide +kernel
theorem at_31_6 : am_at (am_m 31) 6 = some (.if_icmp .le 13, 19) := by decide +kernel
theorem at_31_9 : am_at (am_m 31) 9 = some (.new 114, 100) := by decide +kernel
theorem at_31_19 : am_at (am_m 31) 19 = some (.aload_n 0, 0) := by decide +kernel
theorem at_31_20 : am_at (am_m 31) 20 = some (.iconst 1, 0) := by decide +kernel
theorem at_31_21 : am_at (am_m 31) 21 = some (.invokevirtual 121, 32) := by decide +kernel
theorem at_31_24 : am_at (am_m 31) 24 = some (.aload_n 0, 0) := by decide +kernel
theorem at_31_25 : am_at (am_m 31) 25 = some (.getfield 22, 2818) := by decide +kernel
theorem at_31_28 : am_at (am_m 31) 28 = some (.iload_n 1, 0) := by decide +kernel
theorem at_31_29 : am_at (am_m 31) 29 = some (.aload_n 0, 0) := by decide +kernel
theorem at_31_30 : am_at (am_m 31) 30 = some (.getfield 90, 2831) := by decide +kernel
theorem at_31_33 : am_at (am_m 31) 33 = some (.invokevirtual 124, 33) := by decide +kernel
theorem at_31_36 : am_at (am_m 31) 36 = some (.istore_n 2, 0) := by decide +kernel
theorem at_31_37 : am_at (am_m 31) 37 = some (.iload_n 2, 0) := by decide +kernel
theorem at_31_38 : am_at (am_m 31) 38 = some (.ifCond .lt 9, 47) := by decide +kernel
theorem at_31_41 : am_at (am_m 31) 41 = some (.iconst (-1), 0) := by decide +kernel
theorem at_31_42 : am_at (am_m 31) 42 = some (.iload_n 2, 0) := by decide +kernel
theorem at_31_43 : am_at (am_m 31) 43 = some (.isub, 0) := by decide +kernel
theorem at_31_44 : am_at (am_m 31) 44 = some (.goto 17, 61) := by decide +kernel
theorem at_31_47 : am_at (am_m 31) 47 = some (.aload_n 0, 0) := by decide +kernel
theorem at_31_48 : am_at (am_m 31) 48 = some (.aload_n 0, 0) := by decide +kernel
theorem at_31_49 : am_at (am_m 31) 49 = some (.getfield 90, 2831) := by decide +kernel
theorem at_31_52 : am_at (am_m 31) 52 = some (.iconst 0, 0) := by decide +kernel
theorem at_31_53 : am_at (am_m 31) 53 = some (.iconst (-1), 0) := by decide +kernel
theorem at_31_54 : am_at (am_m 31) 54 = some (.iconst (-1), 0) := by decide +kernel
theorem at_31_55 : am_at (am_m 31) 55 = some (.iconst (-1), 0) := by decide +kernel
theorem at_31_56 : am_at (am_m 31) 56 = some (.iconst (-1), 0) := by decide +kernel
theorem at_31_57 : am_at (am_m 31) 57 = some (.lconst 0, 0) := by decide +kernel
theorem at_31_58 : am_at (am_m 31) 58 = some (.invokevirtual 128, 59) := by decide +kernel
theorem at_31_61 : am_at (am_m 31) 61 = some (.ireturn, 0) := by decide +kernel
theorem at_32_0 : am_at (am_m 32) 0 = some (.aload_n 0, 0) := by decide +kernel
theorem at_32_1 : am_at (am_m 32) 1 = some (.getfield 15, 2817) := by decide +kernel
theorem at_32_4 : am_at (am_m 32) 4 = some (.iload_n 1, 0) := by decide +kernel
theorem at_32_5 : am_at (am_m 32) 5 = some (.iadd, 0) := by decide +kernel
theorem at_32_6 : am_at (am_m 32) 6 = some (.sipush 600, 0) := by decide +kernel
theorem at_32_9 : am_at (am_m 32) 9 = some (.if_icmp .le 14, 23) := by decide +kernel
theorem at_32_12 : am_at (am_m 32) 12 = some (.new 213, 101) := by decide +kernel
theorem at_32_23 : am_at (am_m 32) 23 = some (.return_, 0) := by decide +kernel
theorem at_33_0 : am_at (am_m 33) 0 = some (.aload_n 0, 0) := by decide +kernel
theorem at_33_1 : am_at (am_m 33) 1 = some (.aload_n 2, 0) := by decide +kernel
theorem at_33_2 : am_at (am_m 33) 2 = some (.putfield 25, 2308) := by decide +kernel
theorem at_33_5 : am_at (am_m 33) 5 = some (.aload_n 0, 0) := by decide +kernel
theorem at_33_6 : am_at (am_m 33) 6 = some (.getfield 25, 2308) := by decide +kernel
theorem at_33_9 : am_at (am_m 33) 9 = some (.iload_n 1, 0) := by decide +kernel
theorem at_33_10 : am_at (am_m 33) 10 = some (.iconst 0, 0) := by decide +kernel
theorem at_33_11 : am_at (am_m 33) 11 = some (.invokevirtual 48, 34) := by decide +kernel
theorem at_33_14 : am_at (am_m 33) 14 = some (.aload_n 0, 0) := by decide +kernel
theorem at_33_15 : am_at (am_m 33) 15 = some (.iconst 0, 0) := by decide +kernel
theorem at_33_16 : am_at (am_m 33) 16 = some (.putfield 19, 2306) := by decide +kernel
theorem at_33_19 : am_at (am_m 33) 19 = some (.aload_n 0, 0) := by decide +kernel
theorem at_33_20 : am_at (am_m 33) 20 = some (.iconst (-1), 0) := by decide +kernel
theorem at_33_21 : am_at (am_m 33) 21 = some (.putfield 22, 2307) := by decide +kernel
theorem at_33_24 : am_at (am_m 33) 24 = some (.iload_n 1, 0) := by decide +kernel
theorem at_33_25 : am_at (am_m 33) 25 = some (.ifCond .ne 13, 38) := by decide +kernel
theorem at_33_28 : am_at (am_m 33) 28 = some (.aload_n 0, 0) := by decide +kernel
theorem at_33_29 : am_at (am_m 33) 29 = some (.iconst 0, 0) := by decide +kernel
theorem at_33_30 : am_at (am_m 33) 30 = some (.iconst 1, 0) := by decide +kernel
theorem at_33_31 : am_at (am_m 33) 31 = some (.iconst 0, 0) := by decide +kernel
theorem at_33_32 : am_at (am_m 33) 32 = some (.invokevirtual 54, 35) := by decide +kernel
theorem at_33_35 : am_at (am_m 33) 35 = some (.goto 20, 55) := by decide +kernel
theorem at_33_38 : am_at (am_m 33) 38 = some (.iload_n 1, 0) := by decide +kernel
theorem at_33_39 : am_at (am_m 33) 39 = some (.iconst 3, 0) := by decide +kernel
theorem at_33_40 : am_at (am_m 33) 40 = some (.if_icmp .ne 10, 50) := by decide +kernel
theorem at_33_43 : am_at (am_m 33) 43 = some (.aload_n 0, 0) := by decide +kernel
theorem at_33_44 : am_at (am_m 33) 44 = some (.invokevirtual 58, 46) := by decide +kernel
theorem at_33_47 : am_at (am_m 33) 47 = some (.goto 8, 55) := by decide +kernel
theorem at_33_50 : am_at (am_m 33) 50 = some (.aload_n 0, 0) := by decide +kernel
theorem at_33_51 : am_at (am_m 33) 51 = some (.iload_n 1, 0) := by decide +kernel
theorem at_33_52 : am_at (am_m 33) 52 = some (.invokevirtual 61, 48) := by decide +kernel
theorem at_33_55 : am_at (am_m 33) 55 = some (.aload_n 0, 0) := by decide +kernel
theorem at_33_56 : am_at (am_m 33) 56 = some (.getfield 22, 2307) := by decide +kernel
theorem at_33_59 : am_at (am_m 33) 59 = some (.ifCond .ge 18, 77) := by decide +kernel
theorem at_33_62 : am_at (am_m 33) 62 = some (.aload_n 0, 0) := by decide +kernel
theorem at_33_63 : am_at (am_m 33) 63 = some (.getfield 19, 2306) := by decide +kernel
theorem at_33_66 : am_at (am_m 33) 66 = some (.aload_n 0, 0) := by decide +kernel
theorem at_33_67 : am_at (am_m 33) 67 = some (.getfield 15, 2305) := by decide +kernel
theorem at_33_70 : am_at (am_m 33) 70 = some (.if_icmp .ge 7, 77) := by decide +kernel
theorem at_33_73 : am_at (am_m 33) 73 = some (.aload_n 0, 0) := by decide +kernel
theorem at_33_74 : am_at (am_m 33) 74 = some (.invokevirtual 65, 39) := by decide +kernel
theorem at_33_77 : am_at (am_m 33) 77 = some (.aload_n 0, 0) := by decide +kernel
theorem at_33_78 : am_at (am_m 33) 78 = some (.getfield 22, 2307) := by decide +kernel
theorem at_33_81 : am_at (am_m 33) 81 = some (.ifCond .ge 38, 119) := by decide +kernel
theorem at_33_84 : am_at (am_m 33) 84 = some (.iload_n 1, 0) := by decide +kernel
theorem at_33_85 : am_at (am_m 33) 85 = some (.iconst 1, 0) := by decide +kernel
theorem at_33_86 : am_at (am_m 33) 86 = some (.if_icmp .ne 33, 119) := by decide +kernel
theorem at_33_89 : am_at (am_m 33) 89 = some (.aload_n 0, 0) := by decide +kernel
theorem at_33_90 : am_at (am_m 33) 90 = some (.getfield 36, 2310) := by decide +kernel
theorem at_33_93 : am_at (am_m 33) 93 = some (.aload_n 0, 0) := by decide +kernel
theorem at_33_94 : am_at (am_m 33) 94 = some (.getfield 25, 2308) := by decide +kernel
theorem at_33_97 : am_at (am_m 33) 97 = some (.invokevirtual 68, 52) := by decide +kernel
theorem at_33_100 : am_at (am_m 33) 100 = some (.istore_n 3, 0) := by decide +kernel
theorem at_33_101 : am_at (am_m 33) 101 = some (.aload_n 0, 0) := by decide +kernel
theorem at_33_102 : am_at (am_m 33) 102 = some (.iload_n 3, 0) := by decide +kernel
theorem at_33_103 : am_at (am_m 33) 103 = some (.ifCond .ge 7, 110) := by decide +kernel
theorem at_33_106 : am_at (am_m 33) 106 = some (.iconst (-1), 0) := by decide +kernel
theorem at_33_107 : am_at (am_m 33) 107 = some (.goto 9, 116) := by decide +kernel
theorem at_33_110 : am_at (am_m 33) 110 = some (.aload_n 0, 0) := by decide +kernel
theorem at_33_111 : am_at (am_m 33) 111 = some (.getfield 29, 2309) := by decide +kernel
theorem at_33_114 : am_at (am_m 33) 114 = some (.iload_n 3, 0) := by decide +kernel
theorem at_33_115 : am_at (am_m 33) 115 = some (.iaload, 0) := by decide +kernel
theorem at_33_116 : am_at (am_m 33) 116 = some (.putfield 22, 2307) := by decide +kernel
theorem at_33_119 : am_at (am_m 33) 119 = some (.aload_n 0, 0) := by decide +kernel
theorem at_33_120 : am_at (am_m 33) 120 = some (.getfield 22, 2307) := by decide +kernel
theorem at_33_123 : am_at (am_m 33) 123 = some (.ifCond .ge 16, 139) := by decide +kernel
theorem at_33_126 : am_at (am_m 33) 126 = some (.iload_n 1, 0) := by decide +kernel
theorem at_33_127 : am_at (am_m 33) 127 = some (.iconst 2, 0) := by decide +kernel
theorem at_33_128 : am_at (am_m 33) 128 = some (.if_icmp .ne 11, 139) := by decide +kernel
theorem at_33_131 : am_at (am_m 33) 131 = some (.aload_n 0, 0) := by decide +kernel
theorem at_33_132 : am_at (am_m 33) 132 = some (.aload_n 0, 0) := by decide +kernel
theorem at_33_133 : am_at (am_m 33) 133 = some (.invokevirtual 72, 58) := by decide +kernel
theorem at_33_136 : am_at (am_m 33) 136 = some (.putfield 22, 2307) := by decide +kernel
theorem at_33_139 : am_at (am_m 33) 139 = some (.aload_n 0, 0) := by decide +kernel
theorem at_33_140 : am_at (am_m 33) 140 = some (.iconst 0, 0) := by decide +kernel
theorem at_33_141 : am_at (am_m 33) 141 = some (.putfield 15, 2305) := by decide +kernel
theorem at_33_144 : am_at (am_m 33) 144 = some (.aload_n 0, 0) := by decide +kernel
theorem at_33_145 : am_at (am_m 33) 145 = some (.getfield 22, 2307) := by decide +kernel
theorem at_33_148 : am_at (am_m 33) 148 = some (.ireturn, 0) := by decide +kernel
theorem at_34_0 : am_at (am_m 34) 0 = some (.aload_n 0, 0) := by decide +kernel
theorem at_34_1 : am_at (am_m 34) 1 = some (.iload_n 1, 0) := by decide +kernel
theorem at_34_2 : am_at (am_m 34) 2 = some (.putfield 9, 769) := by decide +kernel
theorem at_34_5 : am_at (am_m 34) 5 = some (.aload_n 0, 0) := by decide +kernel
theorem at_34_6 : am_at (am_m 34) 6 = some (.iload_n 2, 0) := by decide +kernel
theorem at_34_7 : am_at (am_m 34) 7 = some (.putfield 15, 770) := by decide +kernel
theorem at_34_10 : am_at (am_m 34) 10 = some (.aload_n 0, 0) := by decide +kernel
theorem at_34_11 : am_at (am_m 34) 11 = some (.iconst 0, 0) := by decide +kernel
theorem at_34_12 : am_at (am_m 34) 12 = some (.putfield 18, 771) := by decide +kernel
theorem at_34_15 : am_at (am_m 34) 15 = some (.aload_n 0, 0) := by decide +kernel
theorem at_34_16 : am_at (am_m 34) 16 = some (.iload_n 1, 0) := by decide +kernel
theorem at_34_17 : am_at (am_m 34) 17 = some (.iconst 2, 0) := by decide +kernel
theorem at_34_18 : am_at (am_m 34) 18 = some (.if_icmp .ne 7, 25) := by decide +kernel
theorem at_34_21 : am_at (am_m 34) 21 = some (.iconst 5, 0) := by decide +kernel
theorem at_34_22 : am_at (am_m 34) 22 = some (.goto 4, 26) := by decide +kernel
theorem at_34_25 : am_at (am_m 34) 25 = some (.iconst 2, 0) := by decide +kernel
theorem at_34_26 : am_at (am_m 34) 26 = some (.putfield 21, 772) := by decide +kernel
theorem at_34_29 : am_at (am_m 34) 29 = some (.return_, 0) := by decide +kernel
theorem at_35_0 : am_at (am_m 35) 0 = some (.aload_n 0, 0) := by decide +kernel
theorem at_35_1 : am_at (am_m 35) 1 = some (.invokevirtual 76, 36) := by decide +kernel
theorem at_35_4 : am_at (am_m 35) 4 = some (.istore 4, 0) := by decide +kernel
theorem at_35_6 : am_at (am_m 35) 6 = some (.ldc 87, 5) := by decide +kernel
theorem at_35_8 : am_at (am_m 35) 8 = some (.iload 4, 0) := by decide +kernel
theorem at_35_10 : am_at (am_m 35) 10 = some (.invokevirtual 89, 10001) := by decide +kernel
theorem at_35_13 : am_at (am_m 35) 13 = some (.iconst 1, 0) := by decide +kernel
theorem at_35_14 : am_at (am_m 35) 14 = some (.iadd, 0) := by decide +kernel
theorem at_35_15 : am_at (am_m 35) 15 = some (.istore 5, 0) := by decide +kernel
theorem at_35_17 : am_at (am_m 35) 17 = some (.aload_n 0, 0) := by decide +kernel
theorem at_35_18 : am_at (am_m 35) 18 = some (.getfield 25, 2308) := by decide +kernel
theorem at_35_21 : am_at (am_m 35) 21 = some (.getfield 95, 771) := by decide +kernel
theorem at_35_24 : am_at (am_m 35) 24 = some (.bipush 60, 0) := by decide +kernel
theorem at_35_26 : am_at (am_m 35) 26 = some (.if_icmp .ge 9, 35) := by decide +kernel
theorem at_35_29 : am_at (am_m 35) 29 = some (.iload_n 2, 0) := by decide +kernel
theorem at_35_30 : am_at (am_m 35) 30 = some (.bipush 12, 0) := by decide +kernel
theorem at_35_32 : am_at (am_m 35) 32 = some (.if_icmp .le 10, 42) := by decide +kernel
theorem at_35_35 : am_at (am_m 35) 35 = some (.aload_n 0, 0) := by decide +kernel
theorem at_35_36 : am_at (am_m 35) 36 = some (.invokevirtual 65, 39) := by decide +kernel
theorem at_35_39 : am_at (am_m 35) 39 = some (.goto 93, 132) := by decide +kernel
theorem at_35_42 : am_at (am_m 35) 42 = some (.iload 4, 0) := by decide +kernel
theorem at_35_44 : am_at (am_m 35) 44 = some (.bipush 40, 0) := by decide +kernel
theorem at_35_46 : am_at (am_m 35) 46 = some (.if_icmp .ne 23, 69) := by decide +kernel
theorem at_35_49 : am_at (am_m 35) 49 = some (.aload_n 0, 0) := by decide +kernel
theorem at_35_50 : am_at (am_m 35) 50 = some (.dup, 0) := by decide +kernel
theorem at_35_51 : am_at (am_m 35) 51 = some (.getfield 19, 2306) := by decide +kernel
theorem at_35_54 : am_at (am_m 35) 54 = some (.iconst 1, 0) := by decide +kernel
theorem at_35_55 : am_at (am_m 35) 55 = some (.iadd, 0) := by decide +kernel
theorem at_35_56 : am_at (am_m 35) 56 = some (.putfield 19, 2306) := by decide +kernel
theorem at_35_59 : am_at (am_m 35) 59 = some (.aload_n 0, 0) := by decide +kernel
theorem at_35_60 : am_at (am_m 35) 60 = some (.iload_n 1, 0) := by decide +kernel
theorem at_35_61 : am_at (am_m 35) 61 = some (.iload_n 2, 0) := by decide +kernel
theorem at_35_62 : am_at (am_m 35) 62 = some (.iload_n 3, 0) := by decide +kernel
theorem at_35_63 : am_at (am_m 35) 63 = some (.invokevirtual 98, 40) := by decide +kernel
theorem at_35_66 : am_at (am_m 35) 66 = some (.goto 66, 132) := by decide +kernel
theorem at_35_69 : am_at (am_m 35) 69 = some (.iload_n 1, 0) := by decide +kernel
theorem at_35_70 : am_at (am_m 35) 70 = some (.ifCond .ne 13, 83) := by decide +kernel
theorem at_35_73 : am_at (am_m 35) 73 = some (.iload 5, 0) := by decide +kernel
theorem at_35_75 : am_at (am_m 35) 75 = some (.iconst 5, 0) := by decide +kernel
theorem at_35_76 : am_at (am_m 35) 76 = some (.if_icmp .lt 14, 90) := by decide +kernel
theorem at_35_79 : am_at (am_m 35) 79 = some (.iload_n 3, 0) := by decide +kernel
theorem at_35_80 : am_at (am_m 35) 80 = some (.ifCond .ne 10, 90) := by decide +kernel
theorem at_35_83 : am_at (am_m 35) 83 = some (.aload_n 0, 0) := by decide +kernel
theorem at_35_84 : am_at (am_m 35) 84 = some (.invokevirtual 65, 39) := by decide +kernel
theorem at_35_87 : am_at (am_m 35) 87 = some (.goto 45, 132) := by decide +kernel
theorem at_35_90 : am_at (am_m 35) 90 = some (.iload 5, 0) := by decide +kernel
theorem at_35_92 : am_at (am_m 35) 92 = some (.ifCond .le 27, 119) := by decide +kernel
theorem at_35_95 : am_at (am_m 35) 95 = some (.aload_n 0, 0) := by decide +kernel
theorem at_35_96 : am_at (am_m 35) 96 = some (.dup, 0) := by decide +kernel
theorem at_35_97 : am_at (am_m 35) 97 = some (.getfield 19, 2306) := by decide +kernel
theorem at_35_100 : am_at (am_m 35) 100 = some (.iconst 1, 0) := by decide +kernel
theorem at_35_101 : am_at (am_m 35) 101 = some (.iadd, 0) := by decide +kernel
theorem at_35_102 : am_at (am_m 35) 102 = some (.putfield 19, 2306) := by decide +kernel
theorem at_35_105 : am_at (am_m 35) 105 = some (.aload_n 0, 0) := by decide +kernel
theorem at_35_106 : am_at (am_m 35) 106 = some (.getfield 25, 2308) := by decide +kernel
theorem at_35_109 : am_at (am_m 35) 109 = some (.iload 5, 0) := by decide +kernel
theorem at_35_111 : am_at (am_m 35) 111 = some (.iconst 0, 0) := by decide +kernel
theorem at_35_112 : am_at (am_m 35) 112 = some (.invokevirtual 101, 41) := by decide +kernel
theorem at_35_115 : am_at (am_m 35) 115 = some (.pop, 0) := by decide +kernel
theorem at_35_116 : am_at (am_m 35) 116 = some (.goto 16, 132) := by decide +kernel
theorem at_35_119 : am_at (am_m 35) 119 = some (.aload_n 0, 0) := by decide +kernel
theorem at_35_120 : am_at (am_m 35) 120 = some (.getfield 25, 2308) := by decide +kernel
theorem at_35_123 : am_at (am_m 35) 123 = some (.iconst 0, 0) := by decide +kernel
theorem at_35_124 : am_at (am_m 35) 124 = some (.aload_n 0, 0) := by decide +kernel
theorem at_35_125 : am_at (am_m 35) 125 = some (.invokevirtual 105, 43) := by decide +kernel
theorem at_35_128 : am_at (am_m 35) 128 = some (.invokevirtual 101, 41) := by decide +kernel
theorem at_35_131 : am_at (am_m 35) 131 = some (.pop, 0) := by decide +kernel
theorem at_35_132 : am_at (am_m 35) 132 = some (.return_, 0) := by decide +kernel
theorem at_36_0 : am_at (am_m 36) 0 = some (.aload_n 0, 0) := by decide +kernel
theorem at_36_1 : am_at (am_m 36) 1 = some (.getfield 19, 2306) := by decide +kernel
theorem at_36_4 : am_at (am_m 36) 4 = some (.aload_n 0, 0) := by decide +kernel
theorem at_36_5 : am_at (am_m 36) 5 = some (.getfield 15, 2305) := by decide +kernel
theorem at_36_8 : am_at (am_m 36) 8 = some (.if_icmp .ge 15, 23) := by decide +kernel
theorem at_36_11 : am_at (am_m 36) 11 = some (.aload_n 0, 0) := by decide +kernel
theorem at_36_12 : am_at (am_m 36) 12 = some (.getfield 9, 2304) := by decide +kernel
theorem at_36_15 : am_at (am_m 36) 15 = some (.aload_n 0, 0) := by decide +kernel
theorem at_36_16 : am_at (am_m 36) 16 = some (.getfield 19, 2306) := by decide +kernel
theorem at_36_19 : am_at (am_m 36) 19 = some (.caload, 0) := by decide +kernel
theorem at_36_20 : am_at (am_m 36) 20 = some (.goto 4, 24) := by decide +kernel
theorem at_36_23 : am_at (am_m 36) 23 = some (.iconst 0, 0) := by decide +kernel
theorem at_36_24 : am_at (am_m 36) 24 = some (.ireturn, 0) := by decide +kernel
theorem at_37_0 : am_at (am_m 37) 0 = some (.iload_n 0, 0) := by decide +kernel
theorem at_37_1 : am_at (am_m 37) 1 = some (.iload_n 1, 0) := by decide +kernel
theorem at_37_2 : am_at (am_m 37) 2 = some (.if_icmp .lt 7, 9) := by decide +kernel
theorem at_37_5 : am_at (am_m 37) 5 = some (.iload_n 0, 0) := by decide +kernel
theorem at_37_6 : am_at (am_m 37) 6 = some (.goto 4, 10) := by decide +kernel
theorem at_37_9 : am_at (am_m 37) 9 = some (.iload_n 1, 0) := by decide +kernel
theorem at_37_10 : am_at (am_m 37) 10 = some (.ireturn, 0) := by decide +kernel
theorem at_38_0 : am_at (am_m 38) 0 = some (.iload_n 0, 0) := by decide +kernel
theorem at_38_1 : am_at (am_m 38) 1 = some (.iload_n 1, 0) := by decide +kernel
theorem at_38_2 : am_at (am_m 38) 2 = some (.if_icmp .gt 7, 9) := by decide +kernel
theorem at_38_5 : am_at (am_m 38) 5 = some (.iload_n 0, 0) := by decide +kernel
theorem at_38_6 : am_at (am_m 38) 6 = some (.goto 4, 10) := by decide +kernel
theorem at_38_9 : am_at (am_m 38) 9 = some (.iload_n 1, 0) := by decide +kernel
theorem at_38_10 : am_at (am_m 38) 10 = some (.ireturn, 0) := by decide +kernel
theorem at_39_0 : am_at (am_m 39) 0 = some (.aload_n 0, 0) := by decide +kernel
theorem at_39_1 : am_at (am_m 39) 1 = some (.getfield 22, 2307) := by decide +kernel
theorem at_39_4 : am_at (am_m 39) 4 = some (.ifCond .ge 11, 15) := by decide +kernel
theorem at_39_7 : am_at (am_m 39) 7 = some (.aload_n 0, 0) := by decide +kernel
theorem at_39_8 : am_at (am_m 39) 8 = some (.aload_n 0, 0) := by decide +kernel
theorem at_39_9 : am_at (am_m 39) 9 = some (.getfield 19, 2306) := by decide +kernel
theorem at_39_12 : am_at (am_m 39) 12 = some (.putfield 22, 2307) := by decide +kernel
theorem at_39_15 : am_at (am_m 39) 15 = some (.return_, 0) := by decide +kernel
theorem at_40_0 : am_at (am_m 40) 0 = some (.ldc 108, 6) := by decide +kernel
theorem at_40_2 : am_at (am_m 40) 2 = some (.aload_n 0, 0) := by decide +kernel
theorem at_40_3 : am_at (am_m 40) 3 = some (.invokevirtual 76, 36) := by decide +kernel
theorem at_40_6 : am_at (am_m 40) 6 = some (.invokevirtual 89, 10001) := by decide +kernel
theorem at_40_9 : am_at (am_m 40) 9 = some (.istore 4, 0) := by decide +kernel
theorem at_40_11 : am_at (am_m 40) 11 = some (.iload 4, 0) := by decide +kernel
theorem at_40_13 : am_at (am_m 40) 13 = some (.bipush 7, 0) := by decide +kernel
theorem at_40_15 : am_at (am_m 40) 15 = some (.iadd, 0) := by decide +kernel
theorem at_40_16 : am_at (am_m 40) 16 = some (.istore 5, 0) := by decide +kernel
theorem at_40_18 : am_at (am_m 40) 18 = some (.iload 4, 0) := by decide +kernel
theorem at_40_20 : am_at (am_m 40) 20 = some (.ifCond .lt 23, 43) := by decide +kernel
theorem at_40_23 : am_at (am_m 40) 23 = some (.iload 5, 0) := by decide +kernel
theorem at_40_25 : am_at (am_m 40) 25 = some (.invokestatic 110, 11) := by decide +kernel
theorem at_40_28 : am_at (am_m 40) 28 = some (.iload_n 1, 0) := by decide +kernel
theorem at_40_29 : am_at (am_m 40) 29 = some (.if_icmp .ne 14, 43) := by decide +kernel
theorem at_40_32 : am_at (am_m 40) 32 = some (.iload 5, 0) := by decide +kernel
theorem at_40_34 : am_at (am_m 40) 34 = some (.bipush 19, 0) := by decide +kernel
theorem at_40_36 : am_at (am_m 40) 36 = some (.if_icmp .ne 12, 48) := by decide +kernel
theorem at_40_39 : am_at (am_m 40) 39 = some (.iload_n 3, 0) := by decide +kernel
theorem at_40_40 : am_at (am_m 40) 40 = some (.ifCond .eq 8, 48) := by decide +kernel
theorem at_40_43 : am_at (am_m 40) 43 = some (.aload_n 0, 0) := by decide +kernel
theorem at_40_44 : am_at (am_m 40) 44 = some (.invokevirtual 65, 39) := by decide +kernel
theorem at_40_47 : am_at (am_m 40) 47 = some (.return_, 0) := by decide +kernel
theorem at_40_48 : am_at (am_m 40) 48 = some (.aload_n 0, 0) := by decide +kernel
theorem at_40_49 : am_at (am_m 40) 49 = some (.dup, 0) := by decide +kernel
theorem at_40_50 : am_at (am_m 40) 50 = some (.getfield 19, 2306) := by decide +kernel
theorem at_40_53 : am_at (am_m 40) 53 = some (.iconst 1, 0) := by decide +kernel
theorem at_40_54 : am_at (am_m 40) 54 = some (.iadd, 0) := by decide +kernel
theorem at_40_55 : am_at (am_m 40) 55 = some (.putfield 19, 2306) := by decide +kernel
theorem at_40_58 : am_at (am_m 40) 58 = some (.aload_n 0, 0) := by decide +kernel
theorem at_40_59 : am_at (am_m 40) 59 = some (.getfield 25, 2308) := by decide +kernel
theorem at_40_62 : am_at (am_m 40) 62 = some (.iload 5, 0) := by decide +kernel
theorem at_40_64 : am_at (am_m 40) 64 = some (.iconst 0, 0) := by decide +kernel
theorem at_40_65 : am_at (am_m 40) 65 = some (.invokevirtual 101, 41) := by decide +kernel
theorem at_40_68 : am_at (am_m 40) 68 = some (.pop, 0) := by decide +kernel
theorem at_40_69 : am_at (am_m 40) 69 = some (.iconst 0, 0) := by decide +kernel
theorem at_40_70 : am_at (am_m 40) 70 = some (.istore 6, 0) := by decide +kernel
theorem at_40_72 : am_at (am_m 40) 72 = some (.iload 6, 0) := by decide +kernel
theorem at_40_74 : am_at (am_m 40) 74 = some (.iload 5, 0) := by decide +kernel
theorem at_40_76 : am_at (am_m 40) 76 = some (.invokestatic 114, 14) := by decide +kernel
theorem at_40_79 : am_at (am_m 40) 79 = some (.if_icmp .ge 54, 133) := by decide +kernel
theorem at_40_82 : am_at (am_m 40) 82 = some (.aload_n 0, 0) := by decide +kernel
theorem at_40_83 : am_at (am_m 40) 83 = some (.bipush 32, 0) := by decide +kernel
theorem at_40_85 : am_at (am_m 40) 85 = some (.invokevirtual 117, 42) := by decide +kernel
theorem at_40_88 : am_at (am_m 40) 88 = some (.ifCond .eq 45, 133) := by decide +kernel
theorem at_40_91 : am_at (am_m 40) 91 = some (.aload_n 0, 0) := by decide +kernel
theorem at_40_92 : am_at (am_m 40) 92 = some (.iload 5, 0) := by decide +kernel
theorem at_40_94 : am_at (am_m 40) 94 = some (.iload 6, 0) := by decide +kernel
theorem at_40_96 : am_at (am_m 40) 96 = some (.invokestatic 120, 13) := by decide +kernel
theorem at_40_99 : am_at (am_m 40) 99 = some (.iload_n 2, 0) := by decide +kernel
theorem at_40_100 : am_at (am_m 40) 100 = some (.iconst 1, 0) := by decide +kernel
theorem at_40_101 : am_at (am_m 40) 101 = some (.iadd, 0) := by decide +kernel
theorem at_40_102 : am_at (am_m 40) 102 = some (.iload_n 3, 0) := by decide +kernel
theorem at_40_103 : am_at (am_m 40) 103 = some (.ifCond .ne 16, 119) := by decide +kernel
theorem at_40_106 : am_at (am_m 40) 106 = some (.iload 5, 0) := by decide +kernel
theorem at_40_108 : am_at (am_m 40) 108 = some (.bipush 19, 0) := by decide +kernel
theorem at_40_110 : am_at (am_m 40) 110 = some (.if_icmp .ne 13, 123) := by decide +kernel
theorem at_40_113 : am_at (am_m 40) 113 = some (.iload 6, 0) := by decide +kernel
theorem at_40_115 : am_at (am_m 40) 115 = some (.iconst 1, 0) := by decide +kernel
theorem at_40_116 : am_at (am_m 40) 116 = some (.if_icmp .ne 7, 123) := by decide +kernel
theorem at_40_119 : am_at (am_m 40) 119 = some (.iconst 1, 0) := by decide +kernel
theorem at_40_120 : am_at (am_m 40) 120 = some (.goto 4, 124) := by decide +kernel
theorem at_40_123 : am_at (am_m 40) 123 = some (.iconst 0, 0) := by decide +kernel
theorem at_40_124 : am_at (am_m 40) 124 = some (.invokevirtual 54, 35) := by decide +kernel
theorem at_40_127 : am_at (am_m 40) 127 = some (.iinc 6 1, 0) := by decide +kernel
theorem at_40_130 : am_at (am_m 40) 130 = some (.goto (-58), 72) := by decide +kernel
theorem at_40_133 : am_at (am_m 40) 133 = some (.aload_n 0, 0) := by decide +kernel
theorem at_40_134 : am_at (am_m 40) 134 = some (.bipush 41, 0) := by decide +kernel
theorem at_40_136 : am_at (am_m 40) 136 = some (.invokevirtual 117, 42) := by decide +kernel
theorem at_40_139 : am_at (am_m 40) 139 = some (.pop, 0) := by decide +kernel
theorem at_40_140 : am_at (am_m 40) 140 = some (.return_, 0) := by decide +kernel
theorem at_41_0 : am_at (am_m 41) 0 = some (.aload_n 0, 0) := by decide +kernel
theorem at_41_1 : am_at (am_m 41) 1 = some (.getfield 18, 771) := by decide +kernel
theorem at_41_4 : am_at (am_m 41) 4 = some (.aload_n 0, 0) := by decide +kernel
theorem at_41_5 : am_at (am_m 41) 5 = some (.getfield 21, 772) := by decide +kernel
theorem at_41_8 : am_at (am_m 41) 8 = some (.imul, 0) := by decide +kernel
theorem at_41_9 : am_at (am_m 41) 9 = some (.istore_n 3, 0) := by decide +kernel
theorem at_41_10 : am_at (am_m 41) 10 = some (.iload_n 3, 0) := by decide +kernel
theorem at_41_11 : am_at (am_m 41) 11 = some (.aload_n 0, 0) := by decide +kernel
theorem at_41_12 : am_at (am_m 41) 12 = some (.getfield 21, 772) := by decide +kernel
theorem at_41_15 : am_at (am_m 41) 15 = some (.iadd, 0) := by decide +kernel
theorem at_41_16 : am_at (am_m 41) 16 = some (.aload_n 0, 0) := by decide +kernel
theorem at_41_17 : am_at (am_m 41) 17 = some (.getfield 43, 768) := by decide +kernel
theorem at_41_20 : am_at (am_m 41) 20 = some (.arraylength, 0) := by decide +kernel
theorem at_41_21 : am_at (am_m 41) 21 = some (.if_icmp .le 5, 26) := by decide +kernel
theorem at_41_24 : am_at (am_m 41) 24 = some (.iconst 0, 0) := by decide +kernel
theorem at_41_25 : am_at (am_m 41) 25 = some (.ireturn, 0) := by decide +kernel
theorem at_41_26 : am_at (am_m 41) 26 = some (.iconst 2, 0) := by decide +kernel
theorem at_41_27 : am_at (am_m 41) 27 = some (.istore 4, 0) := by decide +kernel
theorem at_41_29 : am_at (am_m 41) 29 = some (.iload 4, 0) := by decide +kernel
theorem at_41_31 : am_at (am_m 41) 31 = some (.aload_n 0, 0) := by decide +kernel
theorem at_41_32 : am_at (am_m 41) 32 = some (.getfield 21, 772) := by decide +kernel
theorem at_41_35 : am_at (am_m 41) 35 = some (.if_icmp .ge 19, 54) := by decide +kernel
theorem at_41_38 : am_at (am_m 41) 38 = some (.aload_n 0, 0) := by decide +kernel
theorem at_41_39 : am_at (am_m 41) 39 = some (.getfield 43, 768) := by decide +kernel
theorem at_41_42 : am_at (am_m 41) 42 = some (.iload_n 3, 0) := by decide +kernel
theorem at_41_43 : am_at (am_m 41) 43 = some (.iload 4, 0) := by decide +kernel
theorem at_41_45 : am_at (am_m 41) 45 = some (.iadd, 0) := by decide +kernel
theorem at_41_46 : am_at (am_m 41) 46 = some (.iconst 0, 0) := by decide +kernel
theorem at_41_47 : am_at (am_m 41) 47 = some (.iastore, 0) := by decide +kernel
theorem at_41_48 : am_at (am_m 41) 48 = some (.iinc 4 1, 0) := by decide +kernel
theorem at_41_51 : am_at (am_m 41) 51 = some (.goto (-22), 29) := by decide +kernel
theorem at_41_54 : am_at (am_m 41) 54 = some (.aload_n 0, 0) := by decide +kernel
theorem at_41_55 : am_at (am_m 41) 55 = some (.getfield 43, 768) := by decide +kernel
theorem at_41_58 : am_at (am_m 41) 58 = some (.iload_n 3, 0) := by decide +kernel
theorem at_41_59 : am_at (am_m 41) 59 = some (.iload_n 1, 0) := by decide +kernel
theorem at_41_60 : am_at (am_m 41) 60 = some (.iastore, 0) := by decide +kernel
theorem at_41_61 : am_at (am_m 41) 61 = some (.aload_n 0, 0) := by decide +kernel
theorem at_41_62 : am_at (am_m 41) 62 = some (.getfield 43, 768) := by decide +kernel
theorem at_41_65 : am_at (am_m 41) 65 = some (.iload_n 3, 0) := by decide +kernel
theorem at_41_66 : am_at (am_m 41) 66 = some (.iconst 1, 0) := by decide +kernel
theorem at_41_67 : am_at (am_m 41) 67 = some (.iadd, 0) := by decide +kernel
theorem at_41_68 : am_at (am_m 41) 68 = some (.iload_n 2, 0) := by decide +kernel
theorem at_41_69 : am_at (am_m 41) 69 = some (.iastore, 0) := by decide +kernel
theorem at_41_70 : am_at (am_m 41) 70 = some (.aload_n 0, 0) := by decide +kernel
theorem at_41_71 : am_at (am_m 41) 71 = some (.dup, 0) := by decide +kernel
theorem at_41_72 : am_at (am_m 41) 72 = some (.getfield 18, 771) := by decide +kernel
theorem at_41_75 : am_at (am_m 41) 75 = some (.iconst 1, 0) := by decide +kernel
theorem at_41_76 : am_at (am_m 41) 76 = some (.iadd, 0) := by decide +kernel
theorem at_41_77 : am_at (am_m 41) 77 = some (.putfield 18, 771) := by decide +kernel
theorem at_41_80 : am_at (am_m 41) 80 = some (.iconst 1, 0) := by decide +kernel
theorem at_41_81 : am_at (am_m 41) 81 = some (.ireturn, 0) := by decide +kernel
theorem at_42_0 : am_at (am_m 42) 0 = some (.aload_n 0, 0) := by decide +kernel
theorem at_42_1 : am_at (am_m 42) 1 = some (.getfield 22, 2307) := by decide +kernel
theorem at_42_4 : am_at (am_m 42) 4 = some (.ifCond .ge 23, 27) := by decide +kernel
theorem at_42_7 : am_at (am_m 42) 7 = some (.aload_n 0, 0) := by decide +kernel
theorem at_42_8 : am_at (am_m 42) 8 = some (.invokevirtual 76, 36) := by decide +kernel
theorem at_42_11 : am_at (am_m 42) 11 = some (.iload_n 1, 0) := by decide +kernel
theorem at_42_12 : am_at (am_m 42) 12 = some (.if_icmp .ne 15, 27) := by decide +kernel
theorem at_42_15 : am_at (am_m 42) 15 = some (.aload_n 0, 0) := by decide +kernel
theorem at_42_16 : am_at (am_m 42) 16 = some (.dup, 0) := by decide +kernel
theorem at_42_17 : am_at (am_m 42) 17 = some (.getfield 19, 2306) := by decide +kernel
theorem at_42_20 : am_at (am_m 42) 20 = some (.iconst 1, 0) := by decide +kernel
theorem at_42_21 : am_at (am_m 42) 21 = some (.iadd, 0) := by decide +kernel
theorem at_42_22 : am_at (am_m 42) 22 = some (.putfield 19, 2306) := by decide +kernel
theorem at_42_25 : am_at (am_m 42) 25 = some (.iconst 1, 0) := by decide +kernel
theorem at_42_26 : am_at (am_m 42) 26 = some (.ireturn, 0) := by decide +kernel
theorem at_42_27 : am_at (am_m 42) 27 = some (.aload_n 0, 0) := by decide +kernel
theorem at_42_28 : am_at (am_m 42) 28 = some (.invokevirtual 65, 39) := by decide +kernel
theorem at_42_31 : am_at (am_m 42) 31 = some (.iconst 0, 0) := by decide +kernel
theorem at_42_32 : am_at (am_m 42) 32 = some (.ireturn, 0) := by decide +kernel
theorem at_43_0 : am_at (am_m 43) 0 = some (.aload_n 0, 0) := by decide +kernel
theorem at_43_1 : am_at (am_m 43) 1 = some (.invokevirtual 76, 36) := by decide +kernel
theorem at_43_4 : am_at (am_m 43) 4 = some (.bipush 45, 0) := by decide +kernel
theorem at_43_6 : am_at (am_m 43) 6 = some (.if_icmp .ne 7, 13) := by decide +kernel
theorem at_43_9 : am_at (am_m 43) 9 = some (.iconst 1, 0) := by decide +kernel
theorem at_43_10 : am_at (am_m 43) 10 = some (.goto 4, 14) := by decide +kernel
theorem at_43_13 : am_at (am_m 43) 13 = some (.iconst 0, 0) := by decide +kernel
theorem at_43_14 : am_at (am_m 43) 14 = some (.istore_n 1, 0) := by decide +kernel
theorem at_43_15 : am_at (am_m 43) 15 = some (.iload_n 1, 0) := by decide +kernel
theorem at_43_16 : am_at (am_m 43) 16 = some (.ifCond .eq 13, 29) := by decide +kernel
theorem at_43_19 : am_at (am_m 43) 19 = some (.aload_n 0, 0) := by decide +kernel
theorem at_43_20 : am_at (am_m 43) 20 = some (.dup, 0) := by decide +kernel
theorem at_43_21 : am_at (am_m 43) 21 = some (.getfield 19, 2306) := by decide +kernel
theorem at_43_24 : am_at (am_m 43) 24 = some (.iconst 1, 0) := by decide +kernel
theorem at_43_25 : am_at (am_m 43) 25 = some (.iadd, 0) := by decide +kernel
theorem at_43_26 : am_at (am_m 43) 26 = some (.putfield 19, 2306) := by decide +kernel
theorem at_43_29 : am_at (am_m 43) 29 = some (.aload_n 0, 0) := by decide +kernel
theorem at_43_30 : am_at (am_m 43) 30 = some (.invokevirtual 84, 44) := by decide +kernel
theorem at_43_33 : am_at (am_m 43) 33 = some (.istore_n 2, 0) := by decide +kernel
theorem at_43_34 : am_at (am_m 43) 34 = some (.iload_n 1, 0) := by decide +kernel
theorem at_43_35 : am_at (am_m 43) 35 = some (.ifCond .eq 8, 43) := by decide +kernel
theorem at_43_38 : am_at (am_m 43) 38 = some (.iload_n 2, 0) := by decide +kernel
theorem at_43_39 : am_at (am_m 43) 39 = some (.ineg, 0) := by decide +kernel
theorem at_43_40 : am_at (am_m 43) 40 = some (.goto 4, 44) := by decide +kernel
theorem at_43_43 : am_at (am_m 43) 43 = some (.iload_n 2, 0) := by decide +kernel
theorem at_43_44 : am_at (am_m 43) 44 = some (.ireturn, 0) := by decide +kernel
theorem at_44_0 : am_at (am_m 44) 0 = some (.iconst 0, 0) := by decide +kernel
theorem at_44_1 : am_at (am_m 44) 1 = some (.istore_n 1, 0) := by decide +kernel
theorem at_44_2 : am_at (am_m 44) 2 = some (.aload_n 0, 0) := by decide +kernel
theorem at_44_3 : am_at (am_m 44) 3 = some (.getfield 22, 2307) := by decide +kernel
theorem at_44_6 : am_at (am_m 44) 6 = some (.ifCond .ge 13, 19) := by decide +kernel
theorem at_44_9 : am_at (am_m 44) 9 = some (.aload_n 0, 0) := by decide +kernel
theorem at_44_10 : am_at (am_m 44) 10 = some (.invokevirtual 76, 36) := by decide +kernel
theorem at_44_13 : am_at (am_m 44) 13 = some (.invokestatic 80, 45) := by decide +kernel
theorem at_44_16 : am_at (am_m 44) 16 = some (.ifCond .ne 7, 23) := by decide +kernel
theorem at_44_19 : am_at (am_m 44) 19 = some (.aload_n 0, 0) := by decide +kernel
theorem at_44_20 : am_at (am_m 44) 20 = some (.invokevirtual 65, 39) := by decide +kernel
theorem at_44_23 : am_at (am_m 44) 23 = some (.iconst 0, 0) := by decide +kernel
theorem at_44_24 : am_at (am_m 44) 24 = some (.istore_n 2, 0) := by decide +kernel
theorem at_44_25 : am_at (am_m 44) 25 = some (.iload_n 2, 0) := by decide +kernel
theorem at_44_26 : am_at (am_m 44) 26 = some (.iconst 2, 0) := by decide +kernel
theorem at_44_27 : am_at (am_m 44) 27 = some (.if_icmp .ge 49, 76) := by decide +kernel
theorem at_44_30 : am_at (am_m 44) 30 = some (.aload_n 0, 0) := by decide +kernel
theorem at_44_31 : am_at (am_m 44) 31 = some (.getfield 22, 2307) := by decide +kernel
theorem at_44_34 : am_at (am_m 44) 34 = some (.ifCond .ge 42, 76) := by decide +kernel
theorem at_44_37 : am_at (am_m 44) 37 = some (.aload_n 0, 0) := by decide +kernel
theorem at_44_38 : am_at (am_m 44) 38 = some (.invokevirtual 76, 36) := by decide +kernel
theorem at_44_41 : am_at (am_m 44) 41 = some (.invokestatic 80, 45) := by decide +kernel
