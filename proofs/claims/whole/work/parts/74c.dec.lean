theorem dL_law_0 : decode cL_law 0 = .ok (.new 8, 3) := dk_187 cL_0 cL_1 cL_2 (by decide +kernel)
theorem dL_law_3 : decode cL_law 3 = .ok (.dup, 1) := dk_89 cL_3
theorem dL_law_4 : decode cL_law 4 = .ok (.invokespecial 194, 3) := dk_183 cL_4 cL_5 cL_6 (by decide +kernel)
theorem dL_law_7 : decode cL_law 7 = .ok (.astore_n 1, 1) := dk_76 cL_7
theorem dL_law_8 : decode cL_law 8 = .ok (.new 195, 3) := dk_187 cL_8 cL_9 cL_10 (by decide +kernel)
theorem dL_law_11 : decode cL_law 11 = .ok (.dup, 1) := dk_89 cL_11
theorem dL_law_12 : decode cL_law 12 = .ok (.invokespecial 197, 3) := dk_183 cL_12 cL_13 cL_14 (by decide +kernel)
theorem dL_law_15 : decode cL_law 15 = .ok (.astore_n 2, 1) := dk_77 cL_15
theorem dL_law_16 : decode cL_law 16 = .ok (.iconst 1, 1) := dk_4 cL_16
theorem dL_law_17 : decode cL_law 17 = .ok (.newarray .long, 2) := by decide +kernel
theorem dL_law_19 : decode cL_law 19 = .ok (.astore_n 3, 1) := dk_78 cL_19
theorem dL_law_20 : decode cL_law 20 = .ok (.iconst 1, 1) := dk_4 cL_20
theorem dL_law_21 : decode cL_law 21 = .ok (.newarray .double, 2) := by decide +kernel
theorem dL_law_23 : decode cL_law 23 = .ok (.astore 4, 2) := dk_58 cL_23 cL_24
theorem dL_law_25 : decode cL_law 25 = .ok (.iconst 0, 1) := dk_3 cL_25
theorem dL_law_26 : decode cL_law 26 = .ok (.istore 5, 2) := dk_54 cL_26 cL_27
theorem dL_law_28 : decode cL_law 28 = .ok (.iload 5, 2) := dk_21 cL_28 cL_29
theorem dL_law_30 : decode cL_law 30 = .ok (.aload_n 0, 1) := dk_42 cL_30
theorem dL_law_31 : decode cL_law 31 = .ok (.arraylength, 1) := dk_190 cL_31
theorem dL_law_32 : decode cL_law 32 = .ok (.bipush 7, 2) := dk_16 cL_32 cL_33 (by decide +kernel)
theorem dL_law_34 : decode cL_law 34 = .ok (.isub, 1) := dk_100 cL_34
theorem dL_law_35 : decode cL_law 35 = .ok (.if_icmp .gt 3588, 3) := dk_163 cL_35 cL_36 cL_37 (by decide +kernel)
theorem dL_law_38 : decode cL_law 38 = .ok (.aload_n 0, 1) := dk_42 cL_38
theorem dL_law_39 : decode cL_law 39 = .ok (.iload 5, 2) := dk_21 cL_39 cL_40
theorem dL_law_41 : decode cL_law 41 = .ok (.iaload, 1) := dk_46 cL_41
theorem dL_law_42 : decode cL_law 42 = .ok (.bipush 63, 2) := dk_16 cL_42 cL_43 (by decide +kernel)
theorem dL_law_44 : decode cL_law 44 = .ok (.iand, 1) := dk_126 cL_44
theorem dL_law_45 : decode cL_law 45 = .ok (.tableswitch 3572 0 61 #[263, 319, 375, 509, 565, 645, 708, 764, 820, 876, 932, 988, 1044, 1100, 1163, 1219, 1275, 1352, 1415, 1471, 1527, 1583, 1646, 1709, 1772, 1828, 1884, 1952, 2008, 2064, 2120, 2176, 2232, 2309, 2389, 2476, 2532, 2588, 2644, 2712, 2768, 2781, 2837, 2850, 2863, 2876, 2889, 2955, 2968, 3024, 3080, 3136, 3194, 3238, 3282, 3326, 3370, 3414, 3458, 3502, 3515, 3528], 263) := by decide +kernel
theorem dL_law_308 : decode cL_law 308 = .ok (.aload_n 1, 1) := dk_43 cL_308
theorem dL_law_309 : decode cL_law 309 = .ok (.aload_n 0, 1) := dk_42 cL_309
theorem dL_law_310 : decode cL_law 310 = .ok (.iload 5, 2) := dk_21 cL_310 cL_311
theorem dL_law_312 : decode cL_law 312 = .ok (.iconst 1, 1) := dk_4 cL_312
theorem dL_law_313 : decode cL_law 313 = .ok (.iadd, 1) := dk_96 cL_313
theorem dL_law_314 : decode cL_law 314 = .ok (.iaload, 1) := dk_46 cL_314
theorem dL_law_315 : decode cL_law 315 = .ok (.aload_n 3, 1) := dk_45 cL_315
theorem dL_law_316 : decode cL_law 316 = .ok (.invokestatic 198, 3) := dk_184 cL_316 cL_317 cL_318 (by decide +kernel)
theorem dL_law_319 : decode cL_law 319 = .ok (.istore 6, 2) := dk_54 cL_319 cL_320
theorem dL_law_321 : decode cL_law 321 = .ok (.aload_n 2, 1) := dk_44 cL_321
theorem dL_law_322 : decode cL_law 322 = .ok (.aload_n 0, 1) := dk_42 cL_322
theorem dL_law_323 : decode cL_law 323 = .ok (.iload 5, 2) := dk_21 cL_323 cL_324
theorem dL_law_325 : decode cL_law 325 = .ok (.iconst 1, 1) := dk_4 cL_325
theorem dL_law_326 : decode cL_law 326 = .ok (.iadd, 1) := dk_96 cL_326
theorem dL_law_327 : decode cL_law 327 = .ok (.iaload, 1) := dk_46 cL_327
theorem dL_law_328 : decode cL_law 328 = .ok (.invokevirtual 203, 3) := dk_182 cL_328 cL_329 cL_330 (by decide +kernel)
theorem dL_law_331 : decode cL_law 331 = .ok (.istore 7, 2) := dk_54 cL_331 cL_332
theorem dL_law_333 : decode cL_law 333 = .ok (.aload_n 2, 1) := dk_44 cL_333
theorem dL_law_334 : decode cL_law 334 = .ok (.invokevirtual 204, 3) := dk_182 cL_334 cL_335 cL_336 (by decide +kernel)
theorem dL_law_337 : decode cL_law 337 = .ok (.iload 6, 2) := dk_21 cL_337 cL_338
theorem dL_law_339 : decode cL_law 339 = .ok (.if_icmp .eq 5, 3) := dk_159 cL_339 cL_340 cL_341 (by decide +kernel)
theorem dL_law_342 : decode cL_law 342 = .ok (.iconst 0, 1) := dk_3 cL_342
theorem dL_law_343 : decode cL_law 343 = .ok (.ireturn, 1) := dk_172 cL_343
theorem dL_law_344 : decode cL_law 344 = .ok (.iload 6, 2) := dk_21 cL_344 cL_345
theorem dL_law_346 : decode cL_law 346 = .ok (.ifCond .ne 15, 3) := dk_154 cL_346 cL_347 cL_348 (by decide +kernel)
theorem dL_law_349 : decode cL_law 349 = .ok (.aload_n 3, 1) := dk_45 cL_349
theorem dL_law_350 : decode cL_law 350 = .ok (.iconst 0, 1) := dk_3 cL_350
theorem dL_law_351 : decode cL_law 351 = .ok (.laload, 1) := dk_47 cL_351
theorem dL_law_352 : decode cL_law 352 = .ok (.iload 7, 2) := dk_21 cL_352 cL_353
theorem dL_law_354 : decode cL_law 354 = .ok (.i2l, 1) := dk_133 cL_354
theorem dL_law_355 : decode cL_law 355 = .ok (.lcmp, 1) := dk_148 cL_355
theorem dL_law_356 : decode cL_law 356 = .ok (.ifCond .eq 5, 3) := dk_153 cL_356 cL_357 cL_358 (by decide +kernel)
theorem dL_law_359 : decode cL_law 359 = .ok (.iconst 0, 1) := dk_3 cL_359
theorem dL_law_360 : decode cL_law 360 = .ok (.ireturn, 1) := dk_172 cL_360
theorem dL_law_361 : decode cL_law 361 = .ok (.goto 3256, 3) := dk_167 cL_361 cL_362 cL_363 (by decide +kernel)
theorem dL_law_364 : decode cL_law 364 = .ok (.aload_n 1, 1) := dk_43 cL_364
theorem dL_law_365 : decode cL_law 365 = .ok (.aload_n 0, 1) := dk_42 cL_365
theorem dL_law_366 : decode cL_law 366 = .ok (.iload 5, 2) := dk_21 cL_366 cL_367
theorem dL_law_368 : decode cL_law 368 = .ok (.iconst 1, 1) := dk_4 cL_368
theorem dL_law_369 : decode cL_law 369 = .ok (.iadd, 1) := dk_96 cL_369
theorem dL_law_370 : decode cL_law 370 = .ok (.iaload, 1) := dk_46 cL_370
theorem dL_law_371 : decode cL_law 371 = .ok (.aload_n 3, 1) := dk_45 cL_371
theorem dL_law_372 : decode cL_law 372 = .ok (.invokestatic 207, 3) := dk_184 cL_372 cL_373 cL_374 (by decide +kernel)
theorem dL_law_375 : decode cL_law 375 = .ok (.istore 6, 2) := dk_54 cL_375 cL_376
theorem dL_law_377 : decode cL_law 377 = .ok (.aload_n 2, 1) := dk_44 cL_377
theorem dL_law_378 : decode cL_law 378 = .ok (.aload_n 0, 1) := dk_42 cL_378
theorem dL_law_379 : decode cL_law 379 = .ok (.iload 5, 2) := dk_21 cL_379 cL_380
theorem dL_law_381 : decode cL_law 381 = .ok (.iconst 1, 1) := dk_4 cL_381
theorem dL_law_382 : decode cL_law 382 = .ok (.iadd, 1) := dk_96 cL_382
theorem dL_law_383 : decode cL_law 383 = .ok (.iaload, 1) := dk_46 cL_383
theorem dL_law_384 : decode cL_law 384 = .ok (.invokevirtual 209, 3) := dk_182 cL_384 cL_385 cL_386 (by decide +kernel)
theorem dL_law_387 : decode cL_law 387 = .ok (.istore 7, 2) := dk_54 cL_387 cL_388
theorem dL_law_389 : decode cL_law 389 = .ok (.aload_n 2, 1) := dk_44 cL_389
theorem dL_law_390 : decode cL_law 390 = .ok (.invokevirtual 204, 3) := dk_182 cL_390 cL_391 cL_392 (by decide +kernel)
theorem dL_law_393 : decode cL_law 393 = .ok (.iload 6, 2) := dk_21 cL_393 cL_394
theorem dL_law_395 : decode cL_law 395 = .ok (.if_icmp .eq 5, 3) := dk_159 cL_395 cL_396 cL_397 (by decide +kernel)
theorem dL_law_398 : decode cL_law 398 = .ok (.iconst 0, 1) := dk_3 cL_398
theorem dL_law_399 : decode cL_law 399 = .ok (.ireturn, 1) := dk_172 cL_399
theorem dL_law_400 : decode cL_law 400 = .ok (.iload 6, 2) := dk_21 cL_400 cL_401
theorem dL_law_402 : decode cL_law 402 = .ok (.ifCond .ne 15, 3) := dk_154 cL_402 cL_403 cL_404 (by decide +kernel)
theorem dL_law_405 : decode cL_law 405 = .ok (.aload_n 3, 1) := dk_45 cL_405
theorem dL_law_406 : decode cL_law 406 = .ok (.iconst 0, 1) := dk_3 cL_406
theorem dL_law_407 : decode cL_law 407 = .ok (.laload, 1) := dk_47 cL_407
theorem dL_law_408 : decode cL_law 408 = .ok (.iload 7, 2) := dk_21 cL_408 cL_409
theorem dL_law_410 : decode cL_law 410 = .ok (.i2l, 1) := dk_133 cL_410
theorem dL_law_411 : decode cL_law 411 = .ok (.lcmp, 1) := dk_148 cL_411
theorem dL_law_412 : decode cL_law 412 = .ok (.ifCond .eq 5, 3) := dk_153 cL_412 cL_413 cL_414 (by decide +kernel)
theorem dL_law_415 : decode cL_law 415 = .ok (.iconst 0, 1) := dk_3 cL_415
theorem dL_law_416 : decode cL_law 416 = .ok (.ireturn, 1) := dk_172 cL_416
theorem dL_law_417 : decode cL_law 417 = .ok (.goto 3200, 3) := dk_167 cL_417 cL_418 cL_419 (by decide +kernel)
theorem dL_law_420 : decode cL_law 420 = .ok (.aload_n 1, 1) := dk_43 cL_420
theorem dL_law_421 : decode cL_law 421 = .ok (.aload_n 0, 1) := dk_42 cL_421
theorem dL_law_422 : decode cL_law 422 = .ok (.iload 5, 2) := dk_21 cL_422 cL_423
theorem dL_law_424 : decode cL_law 424 = .ok (.iconst 1, 1) := dk_4 cL_424
theorem dL_law_425 : decode cL_law 425 = .ok (.iadd, 1) := dk_96 cL_425
theorem dL_law_426 : decode cL_law 426 = .ok (.iaload, 1) := dk_46 cL_426
theorem dL_law_427 : decode cL_law 427 = .ok (.aload_n 0, 1) := dk_42 cL_427
theorem dL_law_428 : decode cL_law 428 = .ok (.iload 5, 2) := dk_21 cL_428 cL_429
theorem dL_law_430 : decode cL_law 430 = .ok (.iconst 2, 1) := dk_5 cL_430
theorem dL_law_431 : decode cL_law 431 = .ok (.iadd, 1) := dk_96 cL_431
theorem dL_law_432 : decode cL_law 432 = .ok (.iaload, 1) := dk_46 cL_432
theorem dL_law_433 : decode cL_law 433 = .ok (.aload_n 0, 1) := dk_42 cL_433
theorem dL_law_434 : decode cL_law 434 = .ok (.iload 5, 2) := dk_21 cL_434 cL_435
theorem dL_law_436 : decode cL_law 436 = .ok (.iconst 3, 1) := dk_6 cL_436
theorem dL_law_437 : decode cL_law 437 = .ok (.iadd, 1) := dk_96 cL_437
theorem dL_law_438 : decode cL_law 438 = .ok (.iaload, 1) := dk_46 cL_438
theorem dL_law_439 : decode cL_law 439 = .ok (.aload_n 0, 1) := dk_42 cL_439
theorem dL_law_440 : decode cL_law 440 = .ok (.iload 5, 2) := dk_21 cL_440 cL_441
theorem dL_law_442 : decode cL_law 442 = .ok (.iconst 4, 1) := dk_7 cL_442
theorem dL_law_443 : decode cL_law 443 = .ok (.iadd, 1) := dk_96 cL_443
theorem dL_law_444 : decode cL_law 444 = .ok (.iaload, 1) := dk_46 cL_444
theorem dL_law_445 : decode cL_law 445 = .ok (.aload_n 0, 1) := dk_42 cL_445
theorem dL_law_446 : decode cL_law 446 = .ok (.iload 5, 2) := dk_21 cL_446 cL_447
theorem dL_law_448 : decode cL_law 448 = .ok (.iconst 5, 1) := dk_8 cL_448
theorem dL_law_449 : decode cL_law 449 = .ok (.iadd, 1) := dk_96 cL_449
theorem dL_law_450 : decode cL_law 450 = .ok (.iaload, 1) := dk_46 cL_450
theorem dL_law_451 : decode cL_law 451 = .ok (.ifCond .eq 7, 3) := dk_153 cL_451 cL_452 cL_453 (by decide +kernel)
theorem dL_law_454 : decode cL_law 454 = .ok (.iconst 1, 1) := dk_4 cL_454
theorem dL_law_455 : decode cL_law 455 = .ok (.goto 4, 3) := dk_167 cL_455 cL_456 cL_457 (by decide +kernel)
theorem dL_law_458 : decode cL_law 458 = .ok (.iconst 0, 1) := dk_3 cL_458
theorem dL_law_459 : decode cL_law 459 = .ok (.aload_n 0, 1) := dk_42 cL_459
theorem dL_law_460 : decode cL_law 460 = .ok (.iload 5, 2) := dk_21 cL_460 cL_461
theorem dL_law_462 : decode cL_law 462 = .ok (.bipush 6, 2) := dk_16 cL_462 cL_463 (by decide +kernel)
theorem dL_law_464 : decode cL_law 464 = .ok (.iadd, 1) := dk_96 cL_464
theorem dL_law_465 : decode cL_law 465 = .ok (.iaload, 1) := dk_46 cL_465
theorem dL_law_466 : decode cL_law 466 = .ok (.aload_n 3, 1) := dk_45 cL_466
theorem dL_law_467 : decode cL_law 467 = .ok (.invokestatic 210, 3) := dk_184 cL_467 cL_468 cL_469 (by decide +kernel)
theorem dL_law_470 : decode cL_law 470 = .ok (.istore 6, 2) := dk_54 cL_470 cL_471
theorem dL_law_472 : decode cL_law 472 = .ok (.aload_n 2, 1) := dk_44 cL_472
theorem dL_law_473 : decode cL_law 473 = .ok (.aload_n 0, 1) := dk_42 cL_473
theorem dL_law_474 : decode cL_law 474 = .ok (.iload 5, 2) := dk_21 cL_474 cL_475
theorem dL_law_476 : decode cL_law 476 = .ok (.iconst 1, 1) := dk_4 cL_476
theorem dL_law_477 : decode cL_law 477 = .ok (.iadd, 1) := dk_96 cL_477
theorem dL_law_478 : decode cL_law 478 = .ok (.iaload, 1) := dk_46 cL_478
theorem dL_law_479 : decode cL_law 479 = .ok (.aload_n 0, 1) := dk_42 cL_479
theorem dL_law_480 : decode cL_law 480 = .ok (.iload 5, 2) := dk_21 cL_480 cL_481
theorem dL_law_482 : decode cL_law 482 = .ok (.iconst 2, 1) := dk_5 cL_482
theorem dL_law_483 : decode cL_law 483 = .ok (.iadd, 1) := dk_96 cL_483
theorem dL_law_484 : decode cL_law 484 = .ok (.iaload, 1) := dk_46 cL_484
theorem dL_law_485 : decode cL_law 485 = .ok (.aload_n 0, 1) := dk_42 cL_485
theorem dL_law_486 : decode cL_law 486 = .ok (.iload 5, 2) := dk_21 cL_486 cL_487
theorem dL_law_488 : decode cL_law 488 = .ok (.iconst 3, 1) := dk_6 cL_488
theorem dL_law_489 : decode cL_law 489 = .ok (.iadd, 1) := dk_96 cL_489
theorem dL_law_490 : decode cL_law 490 = .ok (.iaload, 1) := dk_46 cL_490
theorem dL_law_491 : decode cL_law 491 = .ok (.aload_n 0, 1) := dk_42 cL_491
theorem dL_law_492 : decode cL_law 492 = .ok (.iload 5, 2) := dk_21 cL_492 cL_493
theorem dL_law_494 : decode cL_law 494 = .ok (.iconst 4, 1) := dk_7 cL_494
theorem dL_law_495 : decode cL_law 495 = .ok (.iadd, 1) := dk_96 cL_495
theorem dL_law_496 : decode cL_law 496 = .ok (.iaload, 1) := dk_46 cL_496
theorem dL_law_497 : decode cL_law 497 = .ok (.aload_n 0, 1) := dk_42 cL_497
theorem dL_law_498 : decode cL_law 498 = .ok (.iload 5, 2) := dk_21 cL_498 cL_499
theorem dL_law_500 : decode cL_law 500 = .ok (.iconst 5, 1) := dk_8 cL_500
theorem dL_law_501 : decode cL_law 501 = .ok (.iadd, 1) := dk_96 cL_501
theorem dL_law_502 : decode cL_law 502 = .ok (.iaload, 1) := dk_46 cL_502
theorem dL_law_503 : decode cL_law 503 = .ok (.ifCond .eq 7, 3) := dk_153 cL_503 cL_504 cL_505 (by decide +kernel)
theorem dL_law_506 : decode cL_law 506 = .ok (.iconst 1, 1) := dk_4 cL_506
theorem dL_law_507 : decode cL_law 507 = .ok (.goto 4, 3) := dk_167 cL_507 cL_508 cL_509 (by decide +kernel)
theorem dL_law_510 : decode cL_law 510 = .ok (.iconst 0, 1) := dk_3 cL_510
theorem dL_law_511 : decode cL_law 511 = .ok (.aload_n 0, 1) := dk_42 cL_511
theorem dL_law_512 : decode cL_law 512 = .ok (.iload 5, 2) := dk_21 cL_512 cL_513
theorem dL_law_514 : decode cL_law 514 = .ok (.bipush 6, 2) := dk_16 cL_514 cL_515 (by decide +kernel)
theorem dL_law_516 : decode cL_law 516 = .ok (.iadd, 1) := dk_96 cL_516
theorem dL_law_517 : decode cL_law 517 = .ok (.iaload, 1) := dk_46 cL_517
theorem dL_law_518 : decode cL_law 518 = .ok (.invokevirtual 213, 3) := dk_182 cL_518 cL_519 cL_520 (by decide +kernel)
theorem dL_law_521 : decode cL_law 521 = .ok (.istore 7, 2) := dk_54 cL_521 cL_522
theorem dL_law_523 : decode cL_law 523 = .ok (.aload_n 2, 1) := dk_44 cL_523
theorem dL_law_524 : decode cL_law 524 = .ok (.invokevirtual 204, 3) := dk_182 cL_524 cL_525 cL_526 (by decide +kernel)
theorem dL_law_527 : decode cL_law 527 = .ok (.iload 6, 2) := dk_21 cL_527 cL_528
theorem dL_law_529 : decode cL_law 529 = .ok (.if_icmp .eq 5, 3) := dk_159 cL_529 cL_530 cL_531 (by decide +kernel)
theorem dL_law_532 : decode cL_law 532 = .ok (.iconst 0, 1) := dk_3 cL_532
theorem dL_law_533 : decode cL_law 533 = .ok (.ireturn, 1) := dk_172 cL_533
theorem dL_law_534 : decode cL_law 534 = .ok (.iload 6, 2) := dk_21 cL_534 cL_535
theorem dL_law_536 : decode cL_law 536 = .ok (.ifCond .ne 15, 3) := dk_154 cL_536 cL_537 cL_538 (by decide +kernel)
theorem dL_law_539 : decode cL_law 539 = .ok (.aload_n 3, 1) := dk_45 cL_539
theorem dL_law_540 : decode cL_law 540 = .ok (.iconst 0, 1) := dk_3 cL_540
theorem dL_law_541 : decode cL_law 541 = .ok (.laload, 1) := dk_47 cL_541
theorem dL_law_542 : decode cL_law 542 = .ok (.iload 7, 2) := dk_21 cL_542 cL_543
theorem dL_law_544 : decode cL_law 544 = .ok (.i2l, 1) := dk_133 cL_544
theorem dL_law_545 : decode cL_law 545 = .ok (.lcmp, 1) := dk_148 cL_545
theorem dL_law_546 : decode cL_law 546 = .ok (.ifCond .eq 5, 3) := dk_153 cL_546 cL_547 cL_548 (by decide +kernel)
theorem dL_law_549 : decode cL_law 549 = .ok (.iconst 0, 1) := dk_3 cL_549
theorem dL_law_550 : decode cL_law 550 = .ok (.ireturn, 1) := dk_172 cL_550
theorem dL_law_551 : decode cL_law 551 = .ok (.goto 3066, 3) := dk_167 cL_551 cL_552 cL_553 (by decide +kernel)
theorem dL_law_554 : decode cL_law 554 = .ok (.aload_n 1, 1) := dk_43 cL_554
theorem dL_law_555 : decode cL_law 555 = .ok (.aload_n 0, 1) := dk_42 cL_555
theorem dL_law_556 : decode cL_law 556 = .ok (.iload 5, 2) := dk_21 cL_556 cL_557
theorem dL_law_558 : decode cL_law 558 = .ok (.iconst 1, 1) := dk_4 cL_558
theorem dL_law_559 : decode cL_law 559 = .ok (.iadd, 1) := dk_96 cL_559
theorem dL_law_560 : decode cL_law 560 = .ok (.iaload, 1) := dk_46 cL_560
theorem dL_law_561 : decode cL_law 561 = .ok (.aload_n 3, 1) := dk_45 cL_561
theorem dL_law_562 : decode cL_law 562 = .ok (.invokestatic 214, 3) := dk_184 cL_562 cL_563 cL_564 (by decide +kernel)
theorem dL_law_565 : decode cL_law 565 = .ok (.istore 6, 2) := dk_54 cL_565 cL_566
theorem dL_law_567 : decode cL_law 567 = .ok (.aload_n 2, 1) := dk_44 cL_567
theorem dL_law_568 : decode cL_law 568 = .ok (.aload_n 0, 1) := dk_42 cL_568
theorem dL_law_569 : decode cL_law 569 = .ok (.iload 5, 2) := dk_21 cL_569 cL_570
theorem dL_law_571 : decode cL_law 571 = .ok (.iconst 1, 1) := dk_4 cL_571
theorem dL_law_572 : decode cL_law 572 = .ok (.iadd, 1) := dk_96 cL_572
theorem dL_law_573 : decode cL_law 573 = .ok (.iaload, 1) := dk_46 cL_573
theorem dL_law_574 : decode cL_law 574 = .ok (.invokevirtual 216, 3) := dk_182 cL_574 cL_575 cL_576 (by decide +kernel)
theorem dL_law_577 : decode cL_law 577 = .ok (.istore 7, 2) := dk_54 cL_577 cL_578
theorem dL_law_579 : decode cL_law 579 = .ok (.aload_n 2, 1) := dk_44 cL_579
theorem dL_law_580 : decode cL_law 580 = .ok (.invokevirtual 204, 3) := dk_182 cL_580 cL_581 cL_582 (by decide +kernel)
theorem dL_law_583 : decode cL_law 583 = .ok (.iload 6, 2) := dk_21 cL_583 cL_584
theorem dL_law_585 : decode cL_law 585 = .ok (.if_icmp .eq 5, 3) := dk_159 cL_585 cL_586 cL_587 (by decide +kernel)
theorem dL_law_588 : decode cL_law 588 = .ok (.iconst 0, 1) := dk_3 cL_588
theorem dL_law_589 : decode cL_law 589 = .ok (.ireturn, 1) := dk_172 cL_589
theorem dL_law_590 : decode cL_law 590 = .ok (.iload 6, 2) := dk_21 cL_590 cL_591
theorem dL_law_592 : decode cL_law 592 = .ok (.ifCond .ne 15, 3) := dk_154 cL_592 cL_593 cL_594 (by decide +kernel)
theorem dL_law_595 : decode cL_law 595 = .ok (.aload_n 3, 1) := dk_45 cL_595
theorem dL_law_596 : decode cL_law 596 = .ok (.iconst 0, 1) := dk_3 cL_596
theorem dL_law_597 : decode cL_law 597 = .ok (.laload, 1) := dk_47 cL_597
theorem dL_law_598 : decode cL_law 598 = .ok (.iload 7, 2) := dk_21 cL_598 cL_599
theorem dL_law_600 : decode cL_law 600 = .ok (.i2l, 1) := dk_133 cL_600
theorem dL_law_601 : decode cL_law 601 = .ok (.lcmp, 1) := dk_148 cL_601
theorem dL_law_602 : decode cL_law 602 = .ok (.ifCond .eq 5, 3) := dk_153 cL_602 cL_603 cL_604 (by decide +kernel)
theorem dL_law_605 : decode cL_law 605 = .ok (.iconst 0, 1) := dk_3 cL_605
theorem dL_law_606 : decode cL_law 606 = .ok (.ireturn, 1) := dk_172 cL_606
theorem dL_law_607 : decode cL_law 607 = .ok (.goto 3010, 3) := dk_167 cL_607 cL_608 cL_609 (by decide +kernel)
theorem dL_law_610 : decode cL_law 610 = .ok (.aload_n 1, 1) := dk_43 cL_610
theorem dL_law_611 : decode cL_law 611 = .ok (.aload_n 0, 1) := dk_42 cL_611
theorem dL_law_612 : decode cL_law 612 = .ok (.iload 5, 2) := dk_21 cL_612 cL_613
theorem dL_law_614 : decode cL_law 614 = .ok (.iconst 1, 1) := dk_4 cL_614
theorem dL_law_615 : decode cL_law 615 = .ok (.iadd, 1) := dk_96 cL_615
theorem dL_law_616 : decode cL_law 616 = .ok (.iaload, 1) := dk_46 cL_616
theorem dL_law_617 : decode cL_law 617 = .ok (.aload_n 0, 1) := dk_42 cL_617
theorem dL_law_618 : decode cL_law 618 = .ok (.iload 5, 2) := dk_21 cL_618 cL_619
theorem dL_law_620 : decode cL_law 620 = .ok (.iconst 2, 1) := dk_5 cL_620
theorem dL_law_621 : decode cL_law 621 = .ok (.iadd, 1) := dk_96 cL_621
theorem dL_law_622 : decode cL_law 622 = .ok (.iaload, 1) := dk_46 cL_622
theorem dL_law_623 : decode cL_law 623 = .ok (.aload_n 0, 1) := dk_42 cL_623
theorem dL_law_624 : decode cL_law 624 = .ok (.iload 5, 2) := dk_21 cL_624 cL_625
theorem dL_law_626 : decode cL_law 626 = .ok (.iconst 3, 1) := dk_6 cL_626
theorem dL_law_627 : decode cL_law 627 = .ok (.iadd, 1) := dk_96 cL_627
theorem dL_law_628 : decode cL_law 628 = .ok (.iaload, 1) := dk_46 cL_628
theorem dL_law_629 : decode cL_law 629 = .ok (.aload_n 3, 1) := dk_45 cL_629
theorem dL_law_630 : decode cL_law 630 = .ok (.invokestatic 217, 3) := dk_184 cL_630 cL_631 cL_632 (by decide +kernel)
theorem dL_law_633 : decode cL_law 633 = .ok (.istore 6, 2) := dk_54 cL_633 cL_634
theorem dL_law_635 : decode cL_law 635 = .ok (.aload_n 2, 1) := dk_44 cL_635
theorem dL_law_636 : decode cL_law 636 = .ok (.aload_n 0, 1) := dk_42 cL_636
theorem dL_law_637 : decode cL_law 637 = .ok (.iload 5, 2) := dk_21 cL_637 cL_638
theorem dL_law_639 : decode cL_law 639 = .ok (.iconst 1, 1) := dk_4 cL_639
theorem dL_law_640 : decode cL_law 640 = .ok (.iadd, 1) := dk_96 cL_640
theorem dL_law_641 : decode cL_law 641 = .ok (.iaload, 1) := dk_46 cL_641
theorem dL_law_642 : decode cL_law 642 = .ok (.aload_n 0, 1) := dk_42 cL_642
theorem dL_law_643 : decode cL_law 643 = .ok (.iload 5, 2) := dk_21 cL_643 cL_644
theorem dL_law_645 : decode cL_law 645 = .ok (.iconst 2, 1) := dk_5 cL_645
theorem dL_law_646 : decode cL_law 646 = .ok (.iadd, 1) := dk_96 cL_646
theorem dL_law_647 : decode cL_law 647 = .ok (.iaload, 1) := dk_46 cL_647
theorem dL_law_648 : decode cL_law 648 = .ok (.aload_n 0, 1) := dk_42 cL_648
theorem dL_law_649 : decode cL_law 649 = .ok (.iload 5, 2) := dk_21 cL_649 cL_650
theorem dL_law_651 : decode cL_law 651 = .ok (.iconst 3, 1) := dk_6 cL_651
theorem dL_law_652 : decode cL_law 652 = .ok (.iadd, 1) := dk_96 cL_652
theorem dL_law_653 : decode cL_law 653 = .ok (.iaload, 1) := dk_46 cL_653
theorem dL_law_654 : decode cL_law 654 = .ok (.invokevirtual 220, 3) := dk_182 cL_654 cL_655 cL_656 (by decide +kernel)
theorem dL_law_657 : decode cL_law 657 = .ok (.istore 7, 2) := dk_54 cL_657 cL_658
theorem dL_law_659 : decode cL_law 659 = .ok (.aload_n 2, 1) := dk_44 cL_659
theorem dL_law_660 : decode cL_law 660 = .ok (.invokevirtual 204, 3) := dk_182 cL_660 cL_661 cL_662 (by decide +kernel)
theorem dL_law_663 : decode cL_law 663 = .ok (.iload 6, 2) := dk_21 cL_663 cL_664
theorem dL_law_665 : decode cL_law 665 = .ok (.if_icmp .eq 5, 3) := dk_159 cL_665 cL_666 cL_667 (by decide +kernel)
theorem dL_law_668 : decode cL_law 668 = .ok (.iconst 0, 1) := dk_3 cL_668
theorem dL_law_669 : decode cL_law 669 = .ok (.ireturn, 1) := dk_172 cL_669
theorem dL_law_670 : decode cL_law 670 = .ok (.iload 6, 2) := dk_21 cL_670 cL_671
theorem dL_law_672 : decode cL_law 672 = .ok (.ifCond .ne 15, 3) := dk_154 cL_672 cL_673 cL_674 (by decide +kernel)
theorem dL_law_675 : decode cL_law 675 = .ok (.aload_n 3, 1) := dk_45 cL_675
theorem dL_law_676 : decode cL_law 676 = .ok (.iconst 0, 1) := dk_3 cL_676
theorem dL_law_677 : decode cL_law 677 = .ok (.laload, 1) := dk_47 cL_677
theorem dL_law_678 : decode cL_law 678 = .ok (.iload 7, 2) := dk_21 cL_678 cL_679
theorem dL_law_680 : decode cL_law 680 = .ok (.i2l, 1) := dk_133 cL_680
theorem dL_law_681 : decode cL_law 681 = .ok (.lcmp, 1) := dk_148 cL_681
theorem dL_law_682 : decode cL_law 682 = .ok (.ifCond .eq 5, 3) := dk_153 cL_682 cL_683 cL_684 (by decide +kernel)
theorem dL_law_685 : decode cL_law 685 = .ok (.iconst 0, 1) := dk_3 cL_685
theorem dL_law_686 : decode cL_law 686 = .ok (.ireturn, 1) := dk_172 cL_686
theorem dL_law_687 : decode cL_law 687 = .ok (.goto 2930, 3) := dk_167 cL_687 cL_688 cL_689 (by decide +kernel)
theorem dL_law_690 : decode cL_law 690 = .ok (.aload_n 1, 1) := dk_43 cL_690
theorem dL_law_691 : decode cL_law 691 = .ok (.aload_n 0, 1) := dk_42 cL_691
theorem dL_law_692 : decode cL_law 692 = .ok (.iload 5, 2) := dk_21 cL_692 cL_693
theorem dL_law_694 : decode cL_law 694 = .ok (.iconst 1, 1) := dk_4 cL_694
theorem dL_law_695 : decode cL_law 695 = .ok (.iadd, 1) := dk_96 cL_695
theorem dL_law_696 : decode cL_law 696 = .ok (.iaload, 1) := dk_46 cL_696
theorem dL_law_697 : decode cL_law 697 = .ok (.aload_n 3, 1) := dk_45 cL_697
theorem dL_law_698 : decode cL_law 698 = .ok (.invokestatic 221, 3) := dk_184 cL_698 cL_699 cL_700 (by decide +kernel)
theorem dL_law_701 : decode cL_law 701 = .ok (.istore 6, 2) := dk_54 cL_701 cL_702
theorem dL_law_703 : decode cL_law 703 = .ok (.aload_n 2, 1) := dk_44 cL_703
theorem dL_law_704 : decode cL_law 704 = .ok (.aload_n 0, 1) := dk_42 cL_704
theorem dL_law_705 : decode cL_law 705 = .ok (.iload 5, 2) := dk_21 cL_705 cL_706
theorem dL_law_707 : decode cL_law 707 = .ok (.iconst 1, 1) := dk_4 cL_707
theorem dL_law_708 : decode cL_law 708 = .ok (.iadd, 1) := dk_96 cL_708
theorem dL_law_709 : decode cL_law 709 = .ok (.iaload, 1) := dk_46 cL_709
theorem dL_law_710 : decode cL_law 710 = .ok (.invokevirtual 223, 3) := dk_182 cL_710 cL_711 cL_712 (by decide +kernel)
theorem dL_law_713 : decode cL_law 713 = .ok (.istore 7, 2) := dk_54 cL_713 cL_714
theorem dL_law_715 : decode cL_law 715 = .ok (.aload_n 2, 1) := dk_44 cL_715
theorem dL_law_716 : decode cL_law 716 = .ok (.invokevirtual 204, 3) := dk_182 cL_716 cL_717 cL_718 (by decide +kernel)
theorem dL_law_719 : decode cL_law 719 = .ok (.iload 6, 2) := dk_21 cL_719 cL_720
theorem dL_law_721 : decode cL_law 721 = .ok (.if_icmp .eq 5, 3) := dk_159 cL_721 cL_722 cL_723 (by decide +kernel)
theorem dL_law_724 : decode cL_law 724 = .ok (.iconst 0, 1) := dk_3 cL_724
theorem dL_law_725 : decode cL_law 725 = .ok (.ireturn, 1) := dk_172 cL_725
theorem dL_law_726 : decode cL_law 726 = .ok (.iload 6, 2) := dk_21 cL_726 cL_727
theorem dL_law_728 : decode cL_law 728 = .ok (.ifCond .ne 22, 3) := dk_154 cL_728 cL_729 cL_730 (by decide +kernel)
theorem dL_law_731 : decode cL_law 731 = .ok (.aload_n 3, 1) := dk_45 cL_731
theorem dL_law_732 : decode cL_law 732 = .ok (.iconst 0, 1) := dk_3 cL_732
theorem dL_law_733 : decode cL_law 733 = .ok (.laload, 1) := dk_47 cL_733
theorem dL_law_734 : decode cL_law 734 = .ok (.iload 7, 2) := dk_21 cL_734 cL_735
theorem dL_law_736 : decode cL_law 736 = .ok (.ifCond .eq 7, 3) := dk_153 cL_736 cL_737 cL_738 (by decide +kernel)
theorem dL_law_739 : decode cL_law 739 = .ok (.lconst 1, 1) := dk_10 cL_739
theorem dL_law_740 : decode cL_law 740 = .ok (.goto 4, 3) := dk_167 cL_740 cL_741 cL_742 (by decide +kernel)
theorem dL_law_743 : decode cL_law 743 = .ok (.lconst 0, 1) := dk_9 cL_743
theorem dL_law_744 : decode cL_law 744 = .ok (.lcmp, 1) := dk_148 cL_744
theorem dL_law_745 : decode cL_law 745 = .ok (.ifCond .eq 5, 3) := dk_153 cL_745 cL_746 cL_747 (by decide +kernel)
theorem dL_law_748 : decode cL_law 748 = .ok (.iconst 0, 1) := dk_3 cL_748
theorem dL_law_749 : decode cL_law 749 = .ok (.ireturn, 1) := dk_172 cL_749
theorem dL_law_750 : decode cL_law 750 = .ok (.goto 2867, 3) := dk_167 cL_750 cL_751 cL_752 (by decide +kernel)
theorem dL_law_753 : decode cL_law 753 = .ok (.aload_n 1, 1) := dk_43 cL_753
theorem dL_law_754 : decode cL_law 754 = .ok (.aload_n 0, 1) := dk_42 cL_754
theorem dL_law_755 : decode cL_law 755 = .ok (.iload 5, 2) := dk_21 cL_755 cL_756
theorem dL_law_757 : decode cL_law 757 = .ok (.iconst 1, 1) := dk_4 cL_757
theorem dL_law_758 : decode cL_law 758 = .ok (.iadd, 1) := dk_96 cL_758
theorem dL_law_759 : decode cL_law 759 = .ok (.iaload, 1) := dk_46 cL_759
theorem dL_law_760 : decode cL_law 760 = .ok (.aload_n 3, 1) := dk_45 cL_760
theorem dL_law_761 : decode cL_law 761 = .ok (.invokestatic 224, 3) := dk_184 cL_761 cL_762 cL_763 (by decide +kernel)
theorem dL_law_764 : decode cL_law 764 = .ok (.istore 6, 2) := dk_54 cL_764 cL_765
theorem dL_law_766 : decode cL_law 766 = .ok (.aload_n 2, 1) := dk_44 cL_766
theorem dL_law_767 : decode cL_law 767 = .ok (.aload_n 0, 1) := dk_42 cL_767
theorem dL_law_768 : decode cL_law 768 = .ok (.iload 5, 2) := dk_21 cL_768 cL_769
theorem dL_law_770 : decode cL_law 770 = .ok (.iconst 1, 1) := dk_4 cL_770
theorem dL_law_771 : decode cL_law 771 = .ok (.iadd, 1) := dk_96 cL_771
theorem dL_law_772 : decode cL_law 772 = .ok (.iaload, 1) := dk_46 cL_772
theorem dL_law_773 : decode cL_law 773 = .ok (.invokevirtual 226, 3) := dk_182 cL_773 cL_774 cL_775 (by decide +kernel)
theorem dL_law_776 : decode cL_law 776 = .ok (.istore 7, 2) := dk_54 cL_776 cL_777
theorem dL_law_778 : decode cL_law 778 = .ok (.aload_n 2, 1) := dk_44 cL_778
theorem dL_law_779 : decode cL_law 779 = .ok (.invokevirtual 204, 3) := dk_182 cL_779 cL_780 cL_781 (by decide +kernel)
theorem dL_law_782 : decode cL_law 782 = .ok (.iload 6, 2) := dk_21 cL_782 cL_783
theorem dL_law_784 : decode cL_law 784 = .ok (.if_icmp .eq 5, 3) := dk_159 cL_784 cL_785 cL_786 (by decide +kernel)
theorem dL_law_787 : decode cL_law 787 = .ok (.iconst 0, 1) := dk_3 cL_787
theorem dL_law_788 : decode cL_law 788 = .ok (.ireturn, 1) := dk_172 cL_788
theorem dL_law_789 : decode cL_law 789 = .ok (.iload 6, 2) := dk_21 cL_789 cL_790
theorem dL_law_791 : decode cL_law 791 = .ok (.ifCond .ne 15, 3) := dk_154 cL_791 cL_792 cL_793 (by decide +kernel)
theorem dL_law_794 : decode cL_law 794 = .ok (.aload_n 3, 1) := dk_45 cL_794
theorem dL_law_795 : decode cL_law 795 = .ok (.iconst 0, 1) := dk_3 cL_795
theorem dL_law_796 : decode cL_law 796 = .ok (.laload, 1) := dk_47 cL_796
theorem dL_law_797 : decode cL_law 797 = .ok (.iload 7, 2) := dk_21 cL_797 cL_798
theorem dL_law_799 : decode cL_law 799 = .ok (.i2l, 1) := dk_133 cL_799
theorem dL_law_800 : decode cL_law 800 = .ok (.lcmp, 1) := dk_148 cL_800
theorem dL_law_801 : decode cL_law 801 = .ok (.ifCond .eq 5, 3) := dk_153 cL_801 cL_802 cL_803 (by decide +kernel)
theorem dL_law_804 : decode cL_law 804 = .ok (.iconst 0, 1) := dk_3 cL_804
theorem dL_law_805 : decode cL_law 805 = .ok (.ireturn, 1) := dk_172 cL_805
theorem dL_law_806 : decode cL_law 806 = .ok (.goto 2811, 3) := dk_167 cL_806 cL_807 cL_808 (by decide +kernel)
theorem dL_law_809 : decode cL_law 809 = .ok (.aload_n 1, 1) := dk_43 cL_809
theorem dL_law_810 : decode cL_law 810 = .ok (.aload_n 0, 1) := dk_42 cL_810
theorem dL_law_811 : decode cL_law 811 = .ok (.iload 5, 2) := dk_21 cL_811 cL_812
theorem dL_law_813 : decode cL_law 813 = .ok (.iconst 1, 1) := dk_4 cL_813
theorem dL_law_814 : decode cL_law 814 = .ok (.iadd, 1) := dk_96 cL_814
theorem dL_law_815 : decode cL_law 815 = .ok (.iaload, 1) := dk_46 cL_815
theorem dL_law_816 : decode cL_law 816 = .ok (.aload_n 3, 1) := dk_45 cL_816
theorem dL_law_817 : decode cL_law 817 = .ok (.invokestatic 227, 3) := dk_184 cL_817 cL_818 cL_819 (by decide +kernel)
theorem dL_law_820 : decode cL_law 820 = .ok (.istore 6, 2) := dk_54 cL_820 cL_821
theorem dL_law_822 : decode cL_law 822 = .ok (.aload_n 2, 1) := dk_44 cL_822
theorem dL_law_823 : decode cL_law 823 = .ok (.aload_n 0, 1) := dk_42 cL_823
theorem dL_law_824 : decode cL_law 824 = .ok (.iload 5, 2) := dk_21 cL_824 cL_825
theorem dL_law_826 : decode cL_law 826 = .ok (.iconst 1, 1) := dk_4 cL_826
theorem dL_law_827 : decode cL_law 827 = .ok (.iadd, 1) := dk_96 cL_827
theorem dL_law_828 : decode cL_law 828 = .ok (.iaload, 1) := dk_46 cL_828
theorem dL_law_829 : decode cL_law 829 = .ok (.invokevirtual 229, 3) := dk_182 cL_829 cL_830 cL_831 (by decide +kernel)
theorem dL_law_832 : decode cL_law 832 = .ok (.istore 7, 2) := dk_54 cL_832 cL_833
theorem dL_law_834 : decode cL_law 834 = .ok (.aload_n 2, 1) := dk_44 cL_834
theorem dL_law_835 : decode cL_law 835 = .ok (.invokevirtual 204, 3) := dk_182 cL_835 cL_836 cL_837 (by decide +kernel)
theorem dL_law_838 : decode cL_law 838 = .ok (.iload 6, 2) := dk_21 cL_838 cL_839
theorem dL_law_840 : decode cL_law 840 = .ok (.if_icmp .eq 5, 3) := dk_159 cL_840 cL_841 cL_842 (by decide +kernel)
theorem dL_law_843 : decode cL_law 843 = .ok (.iconst 0, 1) := dk_3 cL_843
theorem dL_law_844 : decode cL_law 844 = .ok (.ireturn, 1) := dk_172 cL_844
theorem dL_law_845 : decode cL_law 845 = .ok (.iload 6, 2) := dk_21 cL_845 cL_846
theorem dL_law_847 : decode cL_law 847 = .ok (.ifCond .ne 15, 3) := dk_154 cL_847 cL_848 cL_849 (by decide +kernel)
theorem dL_law_850 : decode cL_law 850 = .ok (.aload_n 3, 1) := dk_45 cL_850
theorem dL_law_851 : decode cL_law 851 = .ok (.iconst 0, 1) := dk_3 cL_851
theorem dL_law_852 : decode cL_law 852 = .ok (.laload, 1) := dk_47 cL_852
theorem dL_law_853 : decode cL_law 853 = .ok (.iload 7, 2) := dk_21 cL_853 cL_854
theorem dL_law_855 : decode cL_law 855 = .ok (.i2l, 1) := dk_133 cL_855
theorem dL_law_856 : decode cL_law 856 = .ok (.lcmp, 1) := dk_148 cL_856
theorem dL_law_857 : decode cL_law 857 = .ok (.ifCond .eq 5, 3) := dk_153 cL_857 cL_858 cL_859 (by decide +kernel)
theorem dL_law_860 : decode cL_law 860 = .ok (.iconst 0, 1) := dk_3 cL_860
theorem dL_law_861 : decode cL_law 861 = .ok (.ireturn, 1) := dk_172 cL_861
theorem dL_law_862 : decode cL_law 862 = .ok (.goto 2755, 3) := dk_167 cL_862 cL_863 cL_864 (by decide +kernel)
theorem dL_law_865 : decode cL_law 865 = .ok (.aload_n 1, 1) := dk_43 cL_865
theorem dL_law_866 : decode cL_law 866 = .ok (.aload_n 0, 1) := dk_42 cL_866
theorem dL_law_867 : decode cL_law 867 = .ok (.iload 5, 2) := dk_21 cL_867 cL_868
theorem dL_law_869 : decode cL_law 869 = .ok (.iconst 1, 1) := dk_4 cL_869
theorem dL_law_870 : decode cL_law 870 = .ok (.iadd, 1) := dk_96 cL_870
theorem dL_law_871 : decode cL_law 871 = .ok (.iaload, 1) := dk_46 cL_871
theorem dL_law_872 : decode cL_law 872 = .ok (.aload_n 3, 1) := dk_45 cL_872
theorem dL_law_873 : decode cL_law 873 = .ok (.invokestatic 230, 3) := dk_184 cL_873 cL_874 cL_875 (by decide +kernel)
theorem dL_law_876 : decode cL_law 876 = .ok (.istore 6, 2) := dk_54 cL_876 cL_877
theorem dL_law_878 : decode cL_law 878 = .ok (.aload_n 2, 1) := dk_44 cL_878
theorem dL_law_879 : decode cL_law 879 = .ok (.aload_n 0, 1) := dk_42 cL_879
theorem dL_law_880 : decode cL_law 880 = .ok (.iload 5, 2) := dk_21 cL_880 cL_881
theorem dL_law_882 : decode cL_law 882 = .ok (.iconst 1, 1) := dk_4 cL_882
theorem dL_law_883 : decode cL_law 883 = .ok (.iadd, 1) := dk_96 cL_883
theorem dL_law_884 : decode cL_law 884 = .ok (.iaload, 1) := dk_46 cL_884
theorem dL_law_885 : decode cL_law 885 = .ok (.invokevirtual 232, 3) := dk_182 cL_885 cL_886 cL_887 (by decide +kernel)
theorem dL_law_888 : decode cL_law 888 = .ok (.istore 7, 2) := dk_54 cL_888 cL_889
theorem dL_law_890 : decode cL_law 890 = .ok (.aload_n 2, 1) := dk_44 cL_890
theorem dL_law_891 : decode cL_law 891 = .ok (.invokevirtual 204, 3) := dk_182 cL_891 cL_892 cL_893 (by decide +kernel)
theorem dL_law_894 : decode cL_law 894 = .ok (.iload 6, 2) := dk_21 cL_894 cL_895
theorem dL_law_896 : decode cL_law 896 = .ok (.if_icmp .eq 5, 3) := dk_159 cL_896 cL_897 cL_898 (by decide +kernel)
theorem dL_law_899 : decode cL_law 899 = .ok (.iconst 0, 1) := dk_3 cL_899
theorem dL_law_900 : decode cL_law 900 = .ok (.ireturn, 1) := dk_172 cL_900
theorem dL_law_901 : decode cL_law 901 = .ok (.iload 6, 2) := dk_21 cL_901 cL_902
theorem dL_law_903 : decode cL_law 903 = .ok (.ifCond .ne 15, 3) := dk_154 cL_903 cL_904 cL_905 (by decide +kernel)
theorem dL_law_906 : decode cL_law 906 = .ok (.aload_n 3, 1) := dk_45 cL_906
theorem dL_law_907 : decode cL_law 907 = .ok (.iconst 0, 1) := dk_3 cL_907
theorem dL_law_908 : decode cL_law 908 = .ok (.laload, 1) := dk_47 cL_908
theorem dL_law_909 : decode cL_law 909 = .ok (.iload 7, 2) := dk_21 cL_909 cL_910
theorem dL_law_911 : decode cL_law 911 = .ok (.i2l, 1) := dk_133 cL_911
theorem dL_law_912 : decode cL_law 912 = .ok (.lcmp, 1) := dk_148 cL_912
theorem dL_law_913 : decode cL_law 913 = .ok (.ifCond .eq 5, 3) := dk_153 cL_913 cL_914 cL_915 (by decide +kernel)
theorem dL_law_916 : decode cL_law 916 = .ok (.iconst 0, 1) := dk_3 cL_916
theorem dL_law_917 : decode cL_law 917 = .ok (.ireturn, 1) := dk_172 cL_917
theorem dL_law_918 : decode cL_law 918 = .ok (.goto 2699, 3) := dk_167 cL_918 cL_919 cL_920 (by decide +kernel)
theorem dL_law_921 : decode cL_law 921 = .ok (.aload_n 1, 1) := dk_43 cL_921
theorem dL_law_922 : decode cL_law 922 = .ok (.aload_n 0, 1) := dk_42 cL_922
theorem dL_law_923 : decode cL_law 923 = .ok (.iload 5, 2) := dk_21 cL_923 cL_924
theorem dL_law_925 : decode cL_law 925 = .ok (.iconst 1, 1) := dk_4 cL_925
theorem dL_law_926 : decode cL_law 926 = .ok (.iadd, 1) := dk_96 cL_926
theorem dL_law_927 : decode cL_law 927 = .ok (.iaload, 1) := dk_46 cL_927
theorem dL_law_928 : decode cL_law 928 = .ok (.aload_n 3, 1) := dk_45 cL_928
theorem dL_law_929 : decode cL_law 929 = .ok (.invokestatic 233, 3) := dk_184 cL_929 cL_930 cL_931 (by decide +kernel)
theorem dL_law_932 : decode cL_law 932 = .ok (.istore 6, 2) := dk_54 cL_932 cL_933
theorem dL_law_934 : decode cL_law 934 = .ok (.aload_n 2, 1) := dk_44 cL_934
theorem dL_law_935 : decode cL_law 935 = .ok (.aload_n 0, 1) := dk_42 cL_935
theorem dL_law_936 : decode cL_law 936 = .ok (.iload 5, 2) := dk_21 cL_936 cL_937
theorem dL_law_938 : decode cL_law 938 = .ok (.iconst 1, 1) := dk_4 cL_938
theorem dL_law_939 : decode cL_law 939 = .ok (.iadd, 1) := dk_96 cL_939
theorem dL_law_940 : decode cL_law 940 = .ok (.iaload, 1) := dk_46 cL_940
theorem dL_law_941 : decode cL_law 941 = .ok (.invokevirtual 235, 3) := dk_182 cL_941 cL_942 cL_943 (by decide +kernel)
theorem dL_law_944 : decode cL_law 944 = .ok (.istore 7, 2) := dk_54 cL_944 cL_945
theorem dL_law_946 : decode cL_law 946 = .ok (.aload_n 2, 1) := dk_44 cL_946
theorem dL_law_947 : decode cL_law 947 = .ok (.invokevirtual 204, 3) := dk_182 cL_947 cL_948 cL_949 (by decide +kernel)
theorem dL_law_950 : decode cL_law 950 = .ok (.iload 6, 2) := dk_21 cL_950 cL_951
theorem dL_law_952 : decode cL_law 952 = .ok (.if_icmp .eq 5, 3) := dk_159 cL_952 cL_953 cL_954 (by decide +kernel)
theorem dL_law_955 : decode cL_law 955 = .ok (.iconst 0, 1) := dk_3 cL_955
theorem dL_law_956 : decode cL_law 956 = .ok (.ireturn, 1) := dk_172 cL_956
theorem dL_law_957 : decode cL_law 957 = .ok (.iload 6, 2) := dk_21 cL_957 cL_958
theorem dL_law_959 : decode cL_law 959 = .ok (.ifCond .ne 15, 3) := dk_154 cL_959 cL_960 cL_961 (by decide +kernel)
theorem dL_law_962 : decode cL_law 962 = .ok (.aload_n 3, 1) := dk_45 cL_962
theorem dL_law_963 : decode cL_law 963 = .ok (.iconst 0, 1) := dk_3 cL_963
theorem dL_law_964 : decode cL_law 964 = .ok (.laload, 1) := dk_47 cL_964
theorem dL_law_965 : decode cL_law 965 = .ok (.iload 7, 2) := dk_21 cL_965 cL_966
theorem dL_law_967 : decode cL_law 967 = .ok (.i2l, 1) := dk_133 cL_967
theorem dL_law_968 : decode cL_law 968 = .ok (.lcmp, 1) := dk_148 cL_968
theorem dL_law_969 : decode cL_law 969 = .ok (.ifCond .eq 5, 3) := dk_153 cL_969 cL_970 cL_971 (by decide +kernel)
theorem dL_law_972 : decode cL_law 972 = .ok (.iconst 0, 1) := dk_3 cL_972
theorem dL_law_973 : decode cL_law 973 = .ok (.ireturn, 1) := dk_172 cL_973
theorem dL_law_974 : decode cL_law 974 = .ok (.goto 2643, 3) := dk_167 cL_974 cL_975 cL_976 (by decide +kernel)
theorem dL_law_977 : decode cL_law 977 = .ok (.aload_n 1, 1) := dk_43 cL_977
theorem dL_law_978 : decode cL_law 978 = .ok (.aload_n 0, 1) := dk_42 cL_978
theorem dL_law_979 : decode cL_law 979 = .ok (.iload 5, 2) := dk_21 cL_979 cL_980
theorem dL_law_981 : decode cL_law 981 = .ok (.iconst 1, 1) := dk_4 cL_981
theorem dL_law_982 : decode cL_law 982 = .ok (.iadd, 1) := dk_96 cL_982
theorem dL_law_983 : decode cL_law 983 = .ok (.iaload, 1) := dk_46 cL_983
theorem dL_law_984 : decode cL_law 984 = .ok (.aload_n 3, 1) := dk_45 cL_984
theorem dL_law_985 : decode cL_law 985 = .ok (.invokestatic 236, 3) := dk_184 cL_985 cL_986 cL_987 (by decide +kernel)
theorem dL_law_988 : decode cL_law 988 = .ok (.istore 6, 2) := dk_54 cL_988 cL_989
theorem dL_law_990 : decode cL_law 990 = .ok (.aload_n 2, 1) := dk_44 cL_990
theorem dL_law_991 : decode cL_law 991 = .ok (.aload_n 0, 1) := dk_42 cL_991
theorem dL_law_992 : decode cL_law 992 = .ok (.iload 5, 2) := dk_21 cL_992 cL_993
theorem dL_law_994 : decode cL_law 994 = .ok (.iconst 1, 1) := dk_4 cL_994
theorem dL_law_995 : decode cL_law 995 = .ok (.iadd, 1) := dk_96 cL_995
theorem dL_law_996 : decode cL_law 996 = .ok (.iaload, 1) := dk_46 cL_996
theorem dL_law_997 : decode cL_law 997 = .ok (.invokevirtual 238, 3) := dk_182 cL_997 cL_998 cL_999 (by decide +kernel)
theorem dL_law_1000 : decode cL_law 1000 = .ok (.istore 7, 2) := dk_54 cL_1000 cL_1001
theorem dL_law_1002 : decode cL_law 1002 = .ok (.aload_n 2, 1) := dk_44 cL_1002
theorem dL_law_1003 : decode cL_law 1003 = .ok (.invokevirtual 204, 3) := dk_182 cL_1003 cL_1004 cL_1005 (by decide +kernel)
theorem dL_law_1006 : decode cL_law 1006 = .ok (.iload 6, 2) := dk_21 cL_1006 cL_1007
theorem dL_law_1008 : decode cL_law 1008 = .ok (.if_icmp .eq 5, 3) := dk_159 cL_1008 cL_1009 cL_1010 (by decide +kernel)
theorem dL_law_1011 : decode cL_law 1011 = .ok (.iconst 0, 1) := dk_3 cL_1011
theorem dL_law_1012 : decode cL_law 1012 = .ok (.ireturn, 1) := dk_172 cL_1012
theorem dL_law_1013 : decode cL_law 1013 = .ok (.iload 6, 2) := dk_21 cL_1013 cL_1014
theorem dL_law_1015 : decode cL_law 1015 = .ok (.ifCond .ne 15, 3) := dk_154 cL_1015 cL_1016 cL_1017 (by decide +kernel)
theorem dL_law_1018 : decode cL_law 1018 = .ok (.aload_n 3, 1) := dk_45 cL_1018
theorem dL_law_1019 : decode cL_law 1019 = .ok (.iconst 0, 1) := dk_3 cL_1019
theorem dL_law_1020 : decode cL_law 1020 = .ok (.laload, 1) := dk_47 cL_1020
theorem dL_law_1021 : decode cL_law 1021 = .ok (.iload 7, 2) := dk_21 cL_1021 cL_1022
theorem dL_law_1023 : decode cL_law 1023 = .ok (.i2l, 1) := dk_133 cL_1023
theorem dL_law_1024 : decode cL_law 1024 = .ok (.lcmp, 1) := dk_148 cL_1024
theorem dL_law_1025 : decode cL_law 1025 = .ok (.ifCond .eq 5, 3) := dk_153 cL_1025 cL_1026 cL_1027 (by decide +kernel)
theorem dL_law_1028 : decode cL_law 1028 = .ok (.iconst 0, 1) := dk_3 cL_1028
theorem dL_law_1029 : decode cL_law 1029 = .ok (.ireturn, 1) := dk_172 cL_1029
theorem dL_law_1030 : decode cL_law 1030 = .ok (.goto 2587, 3) := dk_167 cL_1030 cL_1031 cL_1032 (by decide +kernel)
theorem dL_law_1033 : decode cL_law 1033 = .ok (.aload_n 1, 1) := dk_43 cL_1033
theorem dL_law_1034 : decode cL_law 1034 = .ok (.aload_n 0, 1) := dk_42 cL_1034
theorem dL_law_1035 : decode cL_law 1035 = .ok (.iload 5, 2) := dk_21 cL_1035 cL_1036
theorem dL_law_1037 : decode cL_law 1037 = .ok (.iconst 1, 1) := dk_4 cL_1037
theorem dL_law_1038 : decode cL_law 1038 = .ok (.iadd, 1) := dk_96 cL_1038
theorem dL_law_1039 : decode cL_law 1039 = .ok (.iaload, 1) := dk_46 cL_1039
theorem dL_law_1040 : decode cL_law 1040 = .ok (.aload_n 3, 1) := dk_45 cL_1040
theorem dL_law_1041 : decode cL_law 1041 = .ok (.invokestatic 239, 3) := dk_184 cL_1041 cL_1042 cL_1043 (by decide +kernel)
theorem dL_law_1044 : decode cL_law 1044 = .ok (.istore 6, 2) := dk_54 cL_1044 cL_1045
theorem dL_law_1046 : decode cL_law 1046 = .ok (.aload_n 2, 1) := dk_44 cL_1046
theorem dL_law_1047 : decode cL_law 1047 = .ok (.aload_n 0, 1) := dk_42 cL_1047
theorem dL_law_1048 : decode cL_law 1048 = .ok (.iload 5, 2) := dk_21 cL_1048 cL_1049
theorem dL_law_1050 : decode cL_law 1050 = .ok (.iconst 1, 1) := dk_4 cL_1050
theorem dL_law_1051 : decode cL_law 1051 = .ok (.iadd, 1) := dk_96 cL_1051
theorem dL_law_1052 : decode cL_law 1052 = .ok (.iaload, 1) := dk_46 cL_1052
theorem dL_law_1053 : decode cL_law 1053 = .ok (.invokevirtual 241, 3) := dk_182 cL_1053 cL_1054 cL_1055 (by decide +kernel)
theorem dL_law_1056 : decode cL_law 1056 = .ok (.istore 7, 2) := dk_54 cL_1056 cL_1057
theorem dL_law_1058 : decode cL_law 1058 = .ok (.aload_n 2, 1) := dk_44 cL_1058
theorem dL_law_1059 : decode cL_law 1059 = .ok (.invokevirtual 204, 3) := dk_182 cL_1059 cL_1060 cL_1061 (by decide +kernel)
theorem dL_law_1062 : decode cL_law 1062 = .ok (.iload 6, 2) := dk_21 cL_1062 cL_1063
theorem dL_law_1064 : decode cL_law 1064 = .ok (.if_icmp .eq 5, 3) := dk_159 cL_1064 cL_1065 cL_1066 (by decide +kernel)
theorem dL_law_1067 : decode cL_law 1067 = .ok (.iconst 0, 1) := dk_3 cL_1067
theorem dL_law_1068 : decode cL_law 1068 = .ok (.ireturn, 1) := dk_172 cL_1068
theorem dL_law_1069 : decode cL_law 1069 = .ok (.iload 6, 2) := dk_21 cL_1069 cL_1070
theorem dL_law_1071 : decode cL_law 1071 = .ok (.ifCond .ne 15, 3) := dk_154 cL_1071 cL_1072 cL_1073 (by decide +kernel)
theorem dL_law_1074 : decode cL_law 1074 = .ok (.aload_n 3, 1) := dk_45 cL_1074
theorem dL_law_1075 : decode cL_law 1075 = .ok (.iconst 0, 1) := dk_3 cL_1075
theorem dL_law_1076 : decode cL_law 1076 = .ok (.laload, 1) := dk_47 cL_1076
theorem dL_law_1077 : decode cL_law 1077 = .ok (.iload 7, 2) := dk_21 cL_1077 cL_1078
theorem dL_law_1079 : decode cL_law 1079 = .ok (.i2l, 1) := dk_133 cL_1079
theorem dL_law_1080 : decode cL_law 1080 = .ok (.lcmp, 1) := dk_148 cL_1080
theorem dL_law_1081 : decode cL_law 1081 = .ok (.ifCond .eq 5, 3) := dk_153 cL_1081 cL_1082 cL_1083 (by decide +kernel)
theorem dL_law_1084 : decode cL_law 1084 = .ok (.iconst 0, 1) := dk_3 cL_1084
theorem dL_law_1085 : decode cL_law 1085 = .ok (.ireturn, 1) := dk_172 cL_1085
theorem dL_law_1086 : decode cL_law 1086 = .ok (.goto 2531, 3) := dk_167 cL_1086 cL_1087 cL_1088 (by decide +kernel)
theorem dL_law_1089 : decode cL_law 1089 = .ok (.aload_n 1, 1) := dk_43 cL_1089
theorem dL_law_1090 : decode cL_law 1090 = .ok (.aload_n 0, 1) := dk_42 cL_1090
theorem dL_law_1091 : decode cL_law 1091 = .ok (.iload 5, 2) := dk_21 cL_1091 cL_1092
theorem dL_law_1093 : decode cL_law 1093 = .ok (.iconst 1, 1) := dk_4 cL_1093
theorem dL_law_1094 : decode cL_law 1094 = .ok (.iadd, 1) := dk_96 cL_1094
theorem dL_law_1095 : decode cL_law 1095 = .ok (.iaload, 1) := dk_46 cL_1095
theorem dL_law_1096 : decode cL_law 1096 = .ok (.aload_n 3, 1) := dk_45 cL_1096
theorem dL_law_1097 : decode cL_law 1097 = .ok (.invokestatic 242, 3) := dk_184 cL_1097 cL_1098 cL_1099 (by decide +kernel)
theorem dL_law_1100 : decode cL_law 1100 = .ok (.istore 6, 2) := dk_54 cL_1100 cL_1101
theorem dL_law_1102 : decode cL_law 1102 = .ok (.aload_n 2, 1) := dk_44 cL_1102
theorem dL_law_1103 : decode cL_law 1103 = .ok (.aload_n 0, 1) := dk_42 cL_1103
theorem dL_law_1104 : decode cL_law 1104 = .ok (.iload 5, 2) := dk_21 cL_1104 cL_1105
theorem dL_law_1106 : decode cL_law 1106 = .ok (.iconst 1, 1) := dk_4 cL_1106
theorem dL_law_1107 : decode cL_law 1107 = .ok (.iadd, 1) := dk_96 cL_1107
theorem dL_law_1108 : decode cL_law 1108 = .ok (.iaload, 1) := dk_46 cL_1108
theorem dL_law_1109 : decode cL_law 1109 = .ok (.invokevirtual 244, 3) := dk_182 cL_1109 cL_1110 cL_1111 (by decide +kernel)
theorem dL_law_1112 : decode cL_law 1112 = .ok (.istore 7, 2) := dk_54 cL_1112 cL_1113
theorem dL_law_1114 : decode cL_law 1114 = .ok (.aload_n 2, 1) := dk_44 cL_1114
theorem dL_law_1115 : decode cL_law 1115 = .ok (.invokevirtual 204, 3) := dk_182 cL_1115 cL_1116 cL_1117 (by decide +kernel)
theorem dL_law_1118 : decode cL_law 1118 = .ok (.iload 6, 2) := dk_21 cL_1118 cL_1119
theorem dL_law_1120 : decode cL_law 1120 = .ok (.if_icmp .eq 5, 3) := dk_159 cL_1120 cL_1121 cL_1122 (by decide +kernel)
theorem dL_law_1123 : decode cL_law 1123 = .ok (.iconst 0, 1) := dk_3 cL_1123
theorem dL_law_1124 : decode cL_law 1124 = .ok (.ireturn, 1) := dk_172 cL_1124
theorem dL_law_1125 : decode cL_law 1125 = .ok (.iload 6, 2) := dk_21 cL_1125 cL_1126
theorem dL_law_1127 : decode cL_law 1127 = .ok (.ifCond .ne 15, 3) := dk_154 cL_1127 cL_1128 cL_1129 (by decide +kernel)
theorem dL_law_1130 : decode cL_law 1130 = .ok (.aload_n 3, 1) := dk_45 cL_1130
theorem dL_law_1131 : decode cL_law 1131 = .ok (.iconst 0, 1) := dk_3 cL_1131
theorem dL_law_1132 : decode cL_law 1132 = .ok (.laload, 1) := dk_47 cL_1132
theorem dL_law_1133 : decode cL_law 1133 = .ok (.iload 7, 2) := dk_21 cL_1133 cL_1134
theorem dL_law_1135 : decode cL_law 1135 = .ok (.i2l, 1) := dk_133 cL_1135
theorem dL_law_1136 : decode cL_law 1136 = .ok (.lcmp, 1) := dk_148 cL_1136
theorem dL_law_1137 : decode cL_law 1137 = .ok (.ifCond .eq 5, 3) := dk_153 cL_1137 cL_1138 cL_1139 (by decide +kernel)
theorem dL_law_1140 : decode cL_law 1140 = .ok (.iconst 0, 1) := dk_3 cL_1140
theorem dL_law_1141 : decode cL_law 1141 = .ok (.ireturn, 1) := dk_172 cL_1141
theorem dL_law_1142 : decode cL_law 1142 = .ok (.goto 2475, 3) := dk_167 cL_1142 cL_1143 cL_1144 (by decide +kernel)
theorem dL_law_1145 : decode cL_law 1145 = .ok (.aload_n 1, 1) := dk_43 cL_1145
theorem dL_law_1146 : decode cL_law 1146 = .ok (.aload_n 0, 1) := dk_42 cL_1146
theorem dL_law_1147 : decode cL_law 1147 = .ok (.iload 5, 2) := dk_21 cL_1147 cL_1148
theorem dL_law_1149 : decode cL_law 1149 = .ok (.iconst 1, 1) := dk_4 cL_1149
theorem dL_law_1150 : decode cL_law 1150 = .ok (.iadd, 1) := dk_96 cL_1150
theorem dL_law_1151 : decode cL_law 1151 = .ok (.iaload, 1) := dk_46 cL_1151
theorem dL_law_1152 : decode cL_law 1152 = .ok (.aload_n 3, 1) := dk_45 cL_1152
theorem dL_law_1153 : decode cL_law 1153 = .ok (.invokestatic 245, 3) := dk_184 cL_1153 cL_1154 cL_1155 (by decide +kernel)
theorem dL_law_1156 : decode cL_law 1156 = .ok (.istore 6, 2) := dk_54 cL_1156 cL_1157
theorem dL_law_1158 : decode cL_law 1158 = .ok (.aload_n 2, 1) := dk_44 cL_1158
theorem dL_law_1159 : decode cL_law 1159 = .ok (.aload_n 0, 1) := dk_42 cL_1159
theorem dL_law_1160 : decode cL_law 1160 = .ok (.iload 5, 2) := dk_21 cL_1160 cL_1161
theorem dL_law_1162 : decode cL_law 1162 = .ok (.iconst 1, 1) := dk_4 cL_1162
theorem dL_law_1163 : decode cL_law 1163 = .ok (.iadd, 1) := dk_96 cL_1163
theorem dL_law_1164 : decode cL_law 1164 = .ok (.iaload, 1) := dk_46 cL_1164
theorem dL_law_1165 : decode cL_law 1165 = .ok (.invokevirtual 247, 3) := dk_182 cL_1165 cL_1166 cL_1167 (by decide +kernel)
theorem dL_law_1168 : decode cL_law 1168 = .ok (.istore 7, 2) := dk_54 cL_1168 cL_1169
theorem dL_law_1170 : decode cL_law 1170 = .ok (.aload_n 2, 1) := dk_44 cL_1170
theorem dL_law_1171 : decode cL_law 1171 = .ok (.invokevirtual 204, 3) := dk_182 cL_1171 cL_1172 cL_1173 (by decide +kernel)
theorem dL_law_1174 : decode cL_law 1174 = .ok (.iload 6, 2) := dk_21 cL_1174 cL_1175
theorem dL_law_1176 : decode cL_law 1176 = .ok (.if_icmp .eq 5, 3) := dk_159 cL_1176 cL_1177 cL_1178 (by decide +kernel)
theorem dL_law_1179 : decode cL_law 1179 = .ok (.iconst 0, 1) := dk_3 cL_1179
theorem dL_law_1180 : decode cL_law 1180 = .ok (.ireturn, 1) := dk_172 cL_1180
theorem dL_law_1181 : decode cL_law 1181 = .ok (.iload 6, 2) := dk_21 cL_1181 cL_1182
theorem dL_law_1183 : decode cL_law 1183 = .ok (.ifCond .ne 22, 3) := dk_154 cL_1183 cL_1184 cL_1185 (by decide +kernel)
theorem dL_law_1186 : decode cL_law 1186 = .ok (.aload_n 3, 1) := dk_45 cL_1186
theorem dL_law_1187 : decode cL_law 1187 = .ok (.iconst 0, 1) := dk_3 cL_1187
theorem dL_law_1188 : decode cL_law 1188 = .ok (.laload, 1) := dk_47 cL_1188
theorem dL_law_1189 : decode cL_law 1189 = .ok (.iload 7, 2) := dk_21 cL_1189 cL_1190
theorem dL_law_1191 : decode cL_law 1191 = .ok (.ifCond .eq 7, 3) := dk_153 cL_1191 cL_1192 cL_1193 (by decide +kernel)
theorem dL_law_1194 : decode cL_law 1194 = .ok (.lconst 1, 1) := dk_10 cL_1194
theorem dL_law_1195 : decode cL_law 1195 = .ok (.goto 4, 3) := dk_167 cL_1195 cL_1196 cL_1197 (by decide +kernel)
theorem dL_law_1198 : decode cL_law 1198 = .ok (.lconst 0, 1) := dk_9 cL_1198
theorem dL_law_1199 : decode cL_law 1199 = .ok (.lcmp, 1) := dk_148 cL_1199
theorem dL_law_1200 : decode cL_law 1200 = .ok (.ifCond .eq 5, 3) := dk_153 cL_1200 cL_1201 cL_1202 (by decide +kernel)
theorem dL_law_1203 : decode cL_law 1203 = .ok (.iconst 0, 1) := dk_3 cL_1203
theorem dL_law_1204 : decode cL_law 1204 = .ok (.ireturn, 1) := dk_172 cL_1204
theorem dL_law_1205 : decode cL_law 1205 = .ok (.goto 2412, 3) := dk_167 cL_1205 cL_1206 cL_1207 (by decide +kernel)
theorem dL_law_1208 : decode cL_law 1208 = .ok (.aload_n 1, 1) := dk_43 cL_1208
theorem dL_law_1209 : decode cL_law 1209 = .ok (.aload_n 0, 1) := dk_42 cL_1209
theorem dL_law_1210 : decode cL_law 1210 = .ok (.iload 5, 2) := dk_21 cL_1210 cL_1211
theorem dL_law_1212 : decode cL_law 1212 = .ok (.iconst 1, 1) := dk_4 cL_1212
theorem dL_law_1213 : decode cL_law 1213 = .ok (.iadd, 1) := dk_96 cL_1213
theorem dL_law_1214 : decode cL_law 1214 = .ok (.iaload, 1) := dk_46 cL_1214
theorem dL_law_1215 : decode cL_law 1215 = .ok (.aload_n 3, 1) := dk_45 cL_1215
theorem dL_law_1216 : decode cL_law 1216 = .ok (.invokestatic 248, 3) := dk_184 cL_1216 cL_1217 cL_1218 (by decide +kernel)
theorem dL_law_1219 : decode cL_law 1219 = .ok (.istore 6, 2) := dk_54 cL_1219 cL_1220
theorem dL_law_1221 : decode cL_law 1221 = .ok (.aload_n 2, 1) := dk_44 cL_1221
theorem dL_law_1222 : decode cL_law 1222 = .ok (.aload_n 0, 1) := dk_42 cL_1222
theorem dL_law_1223 : decode cL_law 1223 = .ok (.iload 5, 2) := dk_21 cL_1223 cL_1224
theorem dL_law_1225 : decode cL_law 1225 = .ok (.iconst 1, 1) := dk_4 cL_1225
theorem dL_law_1226 : decode cL_law 1226 = .ok (.iadd, 1) := dk_96 cL_1226
theorem dL_law_1227 : decode cL_law 1227 = .ok (.iaload, 1) := dk_46 cL_1227
theorem dL_law_1228 : decode cL_law 1228 = .ok (.invokevirtual 250, 3) := dk_182 cL_1228 cL_1229 cL_1230 (by decide +kernel)
theorem dL_law_1231 : decode cL_law 1231 = .ok (.istore 7, 2) := dk_54 cL_1231 cL_1232
theorem dL_law_1233 : decode cL_law 1233 = .ok (.aload_n 2, 1) := dk_44 cL_1233
theorem dL_law_1234 : decode cL_law 1234 = .ok (.invokevirtual 204, 3) := dk_182 cL_1234 cL_1235 cL_1236 (by decide +kernel)
theorem dL_law_1237 : decode cL_law 1237 = .ok (.iload 6, 2) := dk_21 cL_1237 cL_1238
theorem dL_law_1239 : decode cL_law 1239 = .ok (.if_icmp .eq 5, 3) := dk_159 cL_1239 cL_1240 cL_1241 (by decide +kernel)
theorem dL_law_1242 : decode cL_law 1242 = .ok (.iconst 0, 1) := dk_3 cL_1242
theorem dL_law_1243 : decode cL_law 1243 = .ok (.ireturn, 1) := dk_172 cL_1243
theorem dL_law_1244 : decode cL_law 1244 = .ok (.iload 6, 2) := dk_21 cL_1244 cL_1245
theorem dL_law_1246 : decode cL_law 1246 = .ok (.ifCond .ne 15, 3) := dk_154 cL_1246 cL_1247 cL_1248 (by decide +kernel)
theorem dL_law_1249 : decode cL_law 1249 = .ok (.aload_n 3, 1) := dk_45 cL_1249
theorem dL_law_1250 : decode cL_law 1250 = .ok (.iconst 0, 1) := dk_3 cL_1250
theorem dL_law_1251 : decode cL_law 1251 = .ok (.laload, 1) := dk_47 cL_1251
theorem dL_law_1252 : decode cL_law 1252 = .ok (.iload 7, 2) := dk_21 cL_1252 cL_1253
theorem dL_law_1254 : decode cL_law 1254 = .ok (.i2l, 1) := dk_133 cL_1254
theorem dL_law_1255 : decode cL_law 1255 = .ok (.lcmp, 1) := dk_148 cL_1255
theorem dL_law_1256 : decode cL_law 1256 = .ok (.ifCond .eq 5, 3) := dk_153 cL_1256 cL_1257 cL_1258 (by decide +kernel)
theorem dL_law_1259 : decode cL_law 1259 = .ok (.iconst 0, 1) := dk_3 cL_1259
theorem dL_law_1260 : decode cL_law 1260 = .ok (.ireturn, 1) := dk_172 cL_1260
theorem dL_law_1261 : decode cL_law 1261 = .ok (.goto 2356, 3) := dk_167 cL_1261 cL_1262 cL_1263 (by decide +kernel)
theorem dL_law_1264 : decode cL_law 1264 = .ok (.aload_n 1, 1) := dk_43 cL_1264
theorem dL_law_1265 : decode cL_law 1265 = .ok (.aload_n 0, 1) := dk_42 cL_1265
theorem dL_law_1266 : decode cL_law 1266 = .ok (.iload 5, 2) := dk_21 cL_1266 cL_1267
theorem dL_law_1268 : decode cL_law 1268 = .ok (.iconst 1, 1) := dk_4 cL_1268
theorem dL_law_1269 : decode cL_law 1269 = .ok (.iadd, 1) := dk_96 cL_1269
theorem dL_law_1270 : decode cL_law 1270 = .ok (.iaload, 1) := dk_46 cL_1270
theorem dL_law_1271 : decode cL_law 1271 = .ok (.aload_n 3, 1) := dk_45 cL_1271
theorem dL_law_1272 : decode cL_law 1272 = .ok (.invokestatic 251, 3) := dk_184 cL_1272 cL_1273 cL_1274 (by decide +kernel)
theorem dL_law_1275 : decode cL_law 1275 = .ok (.istore 6, 2) := dk_54 cL_1275 cL_1276
theorem dL_law_1277 : decode cL_law 1277 = .ok (.aload_n 2, 1) := dk_44 cL_1277
theorem dL_law_1278 : decode cL_law 1278 = .ok (.aload_n 0, 1) := dk_42 cL_1278
theorem dL_law_1279 : decode cL_law 1279 = .ok (.iload 5, 2) := dk_21 cL_1279 cL_1280
theorem dL_law_1281 : decode cL_law 1281 = .ok (.iconst 1, 1) := dk_4 cL_1281
theorem dL_law_1282 : decode cL_law 1282 = .ok (.iadd, 1) := dk_96 cL_1282
theorem dL_law_1283 : decode cL_law 1283 = .ok (.iaload, 1) := dk_46 cL_1283
theorem dL_law_1284 : decode cL_law 1284 = .ok (.invokevirtual 253, 3) := dk_182 cL_1284 cL_1285 cL_1286 (by decide +kernel)
theorem dL_law_1287 : decode cL_law 1287 = .ok (.istore 7, 2) := dk_54 cL_1287 cL_1288
theorem dL_law_1289 : decode cL_law 1289 = .ok (.aload_n 2, 1) := dk_44 cL_1289
theorem dL_law_1290 : decode cL_law 1290 = .ok (.invokevirtual 204, 3) := dk_182 cL_1290 cL_1291 cL_1292 (by decide +kernel)
theorem dL_law_1293 : decode cL_law 1293 = .ok (.iload 6, 2) := dk_21 cL_1293 cL_1294
theorem dL_law_1295 : decode cL_law 1295 = .ok (.if_icmp .eq 5, 3) := dk_159 cL_1295 cL_1296 cL_1297 (by decide +kernel)
theorem dL_law_1298 : decode cL_law 1298 = .ok (.iconst 0, 1) := dk_3 cL_1298
theorem dL_law_1299 : decode cL_law 1299 = .ok (.ireturn, 1) := dk_172 cL_1299
theorem dL_law_1300 : decode cL_law 1300 = .ok (.iload 6, 2) := dk_21 cL_1300 cL_1301
theorem dL_law_1302 : decode cL_law 1302 = .ok (.ifCond .ne 15, 3) := dk_154 cL_1302 cL_1303 cL_1304 (by decide +kernel)
theorem dL_law_1305 : decode cL_law 1305 = .ok (.aload_n 3, 1) := dk_45 cL_1305
theorem dL_law_1306 : decode cL_law 1306 = .ok (.iconst 0, 1) := dk_3 cL_1306
theorem dL_law_1307 : decode cL_law 1307 = .ok (.laload, 1) := dk_47 cL_1307
theorem dL_law_1308 : decode cL_law 1308 = .ok (.iload 7, 2) := dk_21 cL_1308 cL_1309
theorem dL_law_1310 : decode cL_law 1310 = .ok (.i2l, 1) := dk_133 cL_1310
theorem dL_law_1311 : decode cL_law 1311 = .ok (.lcmp, 1) := dk_148 cL_1311
theorem dL_law_1312 : decode cL_law 1312 = .ok (.ifCond .eq 5, 3) := dk_153 cL_1312 cL_1313 cL_1314 (by decide +kernel)
theorem dL_law_1315 : decode cL_law 1315 = .ok (.iconst 0, 1) := dk_3 cL_1315
theorem dL_law_1316 : decode cL_law 1316 = .ok (.ireturn, 1) := dk_172 cL_1316
theorem dL_law_1317 : decode cL_law 1317 = .ok (.goto 2300, 3) := dk_167 cL_1317 cL_1318 cL_1319 (by decide +kernel)
theorem dL_law_1320 : decode cL_law 1320 = .ok (.aload_n 1, 1) := dk_43 cL_1320
theorem dL_law_1321 : decode cL_law 1321 = .ok (.aload_n 0, 1) := dk_42 cL_1321
theorem dL_law_1322 : decode cL_law 1322 = .ok (.iload 5, 2) := dk_21 cL_1322 cL_1323
theorem dL_law_1324 : decode cL_law 1324 = .ok (.iconst 1, 1) := dk_4 cL_1324
theorem dL_law_1325 : decode cL_law 1325 = .ok (.iadd, 1) := dk_96 cL_1325
theorem dL_law_1326 : decode cL_law 1326 = .ok (.iaload, 1) := dk_46 cL_1326
theorem dL_law_1327 : decode cL_law 1327 = .ok (.aload 4, 2) := dk_25 cL_1327 cL_1328
theorem dL_law_1329 : decode cL_law 1329 = .ok (.invokestatic 254, 3) := dk_184 cL_1329 cL_1330 cL_1331 (by decide +kernel)
theorem dL_law_1332 : decode cL_law 1332 = .ok (.istore 6, 2) := dk_54 cL_1332 cL_1333
theorem dL_law_1334 : decode cL_law 1334 = .ok (.aload_n 2, 1) := dk_44 cL_1334
theorem dL_law_1335 : decode cL_law 1335 = .ok (.aload_n 0, 1) := dk_42 cL_1335
theorem dL_law_1336 : decode cL_law 1336 = .ok (.iload 5, 2) := dk_21 cL_1336 cL_1337
theorem dL_law_1338 : decode cL_law 1338 = .ok (.iconst 1, 1) := dk_4 cL_1338
theorem dL_law_1339 : decode cL_law 1339 = .ok (.iadd, 1) := dk_96 cL_1339
theorem dL_law_1340 : decode cL_law 1340 = .ok (.iaload, 1) := dk_46 cL_1340
theorem dL_law_1341 : decode cL_law 1341 = .ok (.invokevirtual 257, 3) := dk_182 cL_1341 cL_1342 cL_1343 (by decide +kernel)
theorem dL_law_1344 : decode cL_law 1344 = .ok (.dstore 7, 2) := dk_57 cL_1344 cL_1345
theorem dL_law_1346 : decode cL_law 1346 = .ok (.aload_n 2, 1) := dk_44 cL_1346
theorem dL_law_1347 : decode cL_law 1347 = .ok (.invokevirtual 204, 3) := dk_182 cL_1347 cL_1348 cL_1349 (by decide +kernel)
theorem dL_law_1350 : decode cL_law 1350 = .ok (.iload 6, 2) := dk_21 cL_1350 cL_1351
theorem dL_law_1352 : decode cL_law 1352 = .ok (.if_icmp .eq 5, 3) := dk_159 cL_1352 cL_1353 cL_1354 (by decide +kernel)
theorem dL_law_1355 : decode cL_law 1355 = .ok (.iconst 0, 1) := dk_3 cL_1355
theorem dL_law_1356 : decode cL_law 1356 = .ok (.ireturn, 1) := dk_172 cL_1356
theorem dL_law_1357 : decode cL_law 1357 = .ok (.iload 6, 2) := dk_21 cL_1357 cL_1358
theorem dL_law_1359 : decode cL_law 1359 = .ok (.ifCond .ne 35, 3) := dk_154 cL_1359 cL_1360 cL_1361 (by decide +kernel)
theorem dL_law_1362 : decode cL_law 1362 = .ok (.aload 4, 2) := dk_25 cL_1362 cL_1363
theorem dL_law_1364 : decode cL_law 1364 = .ok (.iconst 0, 1) := dk_3 cL_1364
theorem dL_law_1365 : decode cL_law 1365 = .ok (.daload, 1) := dk_49 cL_1365
theorem dL_law_1366 : decode cL_law 1366 = .ok (.dload 7, 2) := dk_24 cL_1366 cL_1367
theorem dL_law_1368 : decode cL_law 1368 = .ok (.dcmp .l, 1) := dk_151 cL_1368
theorem dL_law_1369 : decode cL_law 1369 = .ok (.ifCond .eq 25, 3) := dk_153 cL_1369 cL_1370 cL_1371 (by decide +kernel)
theorem dL_law_1372 : decode cL_law 1372 = .ok (.aload 4, 2) := dk_25 cL_1372 cL_1373
theorem dL_law_1374 : decode cL_law 1374 = .ok (.iconst 0, 1) := dk_3 cL_1374
theorem dL_law_1375 : decode cL_law 1375 = .ok (.daload, 1) := dk_49 cL_1375
theorem dL_law_1376 : decode cL_law 1376 = .ok (.aload 4, 2) := dk_25 cL_1376 cL_1377
theorem dL_law_1378 : decode cL_law 1378 = .ok (.iconst 0, 1) := dk_3 cL_1378
theorem dL_law_1379 : decode cL_law 1379 = .ok (.daload, 1) := dk_49 cL_1379
theorem dL_law_1380 : decode cL_law 1380 = .ok (.dcmp .l, 1) := dk_151 cL_1380
theorem dL_law_1381 : decode cL_law 1381 = .ok (.ifCond .eq 11, 3) := dk_153 cL_1381 cL_1382 cL_1383 (by decide +kernel)
theorem dL_law_1384 : decode cL_law 1384 = .ok (.dload 7, 2) := dk_24 cL_1384 cL_1385
theorem dL_law_1386 : decode cL_law 1386 = .ok (.dload 7, 2) := dk_24 cL_1386 cL_1387
theorem dL_law_1388 : decode cL_law 1388 = .ok (.dcmp .l, 1) := dk_151 cL_1388
theorem dL_law_1389 : decode cL_law 1389 = .ok (.ifCond .ne 5, 3) := dk_154 cL_1389 cL_1390 cL_1391 (by decide +kernel)
theorem dL_law_1392 : decode cL_law 1392 = .ok (.iconst 0, 1) := dk_3 cL_1392
theorem dL_law_1393 : decode cL_law 1393 = .ok (.ireturn, 1) := dk_172 cL_1393
theorem dL_law_1394 : decode cL_law 1394 = .ok (.goto 2223, 3) := dk_167 cL_1394 cL_1395 cL_1396 (by decide +kernel)
theorem dL_law_1397 : decode cL_law 1397 = .ok (.aload_n 1, 1) := dk_43 cL_1397
theorem dL_law_1398 : decode cL_law 1398 = .ok (.aload_n 0, 1) := dk_42 cL_1398
theorem dL_law_1399 : decode cL_law 1399 = .ok (.iload 5, 2) := dk_21 cL_1399 cL_1400
theorem dL_law_1401 : decode cL_law 1401 = .ok (.iconst 1, 1) := dk_4 cL_1401
theorem dL_law_1402 : decode cL_law 1402 = .ok (.iadd, 1) := dk_96 cL_1402
theorem dL_law_1403 : decode cL_law 1403 = .ok (.iaload, 1) := dk_46 cL_1403
theorem dL_law_1404 : decode cL_law 1404 = .ok (.aload_n 3, 1) := dk_45 cL_1404
theorem dL_law_1405 : decode cL_law 1405 = .ok (.invokestatic 258, 3) := dk_184 cL_1405 cL_1406 cL_1407 (by decide +kernel)
theorem dL_law_1408 : decode cL_law 1408 = .ok (.istore 6, 2) := dk_54 cL_1408 cL_1409
theorem dL_law_1410 : decode cL_law 1410 = .ok (.aload_n 2, 1) := dk_44 cL_1410
theorem dL_law_1411 : decode cL_law 1411 = .ok (.aload_n 0, 1) := dk_42 cL_1411
theorem dL_law_1412 : decode cL_law 1412 = .ok (.iload 5, 2) := dk_21 cL_1412 cL_1413
theorem dL_law_1414 : decode cL_law 1414 = .ok (.iconst 1, 1) := dk_4 cL_1414
theorem dL_law_1415 : decode cL_law 1415 = .ok (.iadd, 1) := dk_96 cL_1415
theorem dL_law_1416 : decode cL_law 1416 = .ok (.iaload, 1) := dk_46 cL_1416
theorem dL_law_1417 : decode cL_law 1417 = .ok (.invokevirtual 260, 3) := dk_182 cL_1417 cL_1418 cL_1419 (by decide +kernel)
theorem dL_law_1420 : decode cL_law 1420 = .ok (.istore 7, 2) := dk_54 cL_1420 cL_1421
theorem dL_law_1422 : decode cL_law 1422 = .ok (.aload_n 2, 1) := dk_44 cL_1422
theorem dL_law_1423 : decode cL_law 1423 = .ok (.invokevirtual 204, 3) := dk_182 cL_1423 cL_1424 cL_1425 (by decide +kernel)
theorem dL_law_1426 : decode cL_law 1426 = .ok (.iload 6, 2) := dk_21 cL_1426 cL_1427
theorem dL_law_1428 : decode cL_law 1428 = .ok (.if_icmp .eq 5, 3) := dk_159 cL_1428 cL_1429 cL_1430 (by decide +kernel)
theorem dL_law_1431 : decode cL_law 1431 = .ok (.iconst 0, 1) := dk_3 cL_1431
theorem dL_law_1432 : decode cL_law 1432 = .ok (.ireturn, 1) := dk_172 cL_1432
theorem dL_law_1433 : decode cL_law 1433 = .ok (.iload 6, 2) := dk_21 cL_1433 cL_1434
theorem dL_law_1435 : decode cL_law 1435 = .ok (.ifCond .ne 22, 3) := dk_154 cL_1435 cL_1436 cL_1437 (by decide +kernel)
theorem dL_law_1438 : decode cL_law 1438 = .ok (.aload_n 3, 1) := dk_45 cL_1438
theorem dL_law_1439 : decode cL_law 1439 = .ok (.iconst 0, 1) := dk_3 cL_1439
theorem dL_law_1440 : decode cL_law 1440 = .ok (.laload, 1) := dk_47 cL_1440
theorem dL_law_1441 : decode cL_law 1441 = .ok (.iload 7, 2) := dk_21 cL_1441 cL_1442
theorem dL_law_1443 : decode cL_law 1443 = .ok (.ifCond .eq 7, 3) := dk_153 cL_1443 cL_1444 cL_1445 (by decide +kernel)
theorem dL_law_1446 : decode cL_law 1446 = .ok (.lconst 1, 1) := dk_10 cL_1446
theorem dL_law_1447 : decode cL_law 1447 = .ok (.goto 4, 3) := dk_167 cL_1447 cL_1448 cL_1449 (by decide +kernel)
theorem dL_law_1450 : decode cL_law 1450 = .ok (.lconst 0, 1) := dk_9 cL_1450
theorem dL_law_1451 : decode cL_law 1451 = .ok (.lcmp, 1) := dk_148 cL_1451
theorem dL_law_1452 : decode cL_law 1452 = .ok (.ifCond .eq 5, 3) := dk_153 cL_1452 cL_1453 cL_1454 (by decide +kernel)
theorem dL_law_1455 : decode cL_law 1455 = .ok (.iconst 0, 1) := dk_3 cL_1455
theorem dL_law_1456 : decode cL_law 1456 = .ok (.ireturn, 1) := dk_172 cL_1456
theorem dL_law_1457 : decode cL_law 1457 = .ok (.goto 2160, 3) := dk_167 cL_1457 cL_1458 cL_1459 (by decide +kernel)
theorem dL_law_1460 : decode cL_law 1460 = .ok (.aload_n 1, 1) := dk_43 cL_1460
theorem dL_law_1461 : decode cL_law 1461 = .ok (.aload_n 0, 1) := dk_42 cL_1461
theorem dL_law_1462 : decode cL_law 1462 = .ok (.iload 5, 2) := dk_21 cL_1462 cL_1463
theorem dL_law_1464 : decode cL_law 1464 = .ok (.iconst 1, 1) := dk_4 cL_1464
theorem dL_law_1465 : decode cL_law 1465 = .ok (.iadd, 1) := dk_96 cL_1465
theorem dL_law_1466 : decode cL_law 1466 = .ok (.iaload, 1) := dk_46 cL_1466
theorem dL_law_1467 : decode cL_law 1467 = .ok (.aload_n 3, 1) := dk_45 cL_1467
theorem dL_law_1468 : decode cL_law 1468 = .ok (.invokestatic 261, 3) := dk_184 cL_1468 cL_1469 cL_1470 (by decide +kernel)
theorem dL_law_1471 : decode cL_law 1471 = .ok (.istore 6, 2) := dk_54 cL_1471 cL_1472
theorem dL_law_1473 : decode cL_law 1473 = .ok (.aload_n 2, 1) := dk_44 cL_1473
theorem dL_law_1474 : decode cL_law 1474 = .ok (.aload_n 0, 1) := dk_42 cL_1474
theorem dL_law_1475 : decode cL_law 1475 = .ok (.iload 5, 2) := dk_21 cL_1475 cL_1476
theorem dL_law_1477 : decode cL_law 1477 = .ok (.iconst 1, 1) := dk_4 cL_1477
theorem dL_law_1478 : decode cL_law 1478 = .ok (.iadd, 1) := dk_96 cL_1478
theorem dL_law_1479 : decode cL_law 1479 = .ok (.iaload, 1) := dk_46 cL_1479
theorem dL_law_1480 : decode cL_law 1480 = .ok (.invokevirtual 263, 3) := dk_182 cL_1480 cL_1481 cL_1482 (by decide +kernel)
theorem dL_law_1483 : decode cL_law 1483 = .ok (.istore 7, 2) := dk_54 cL_1483 cL_1484
theorem dL_law_1485 : decode cL_law 1485 = .ok (.aload_n 2, 1) := dk_44 cL_1485
theorem dL_law_1486 : decode cL_law 1486 = .ok (.invokevirtual 204, 3) := dk_182 cL_1486 cL_1487 cL_1488 (by decide +kernel)
theorem dL_law_1489 : decode cL_law 1489 = .ok (.iload 6, 2) := dk_21 cL_1489 cL_1490
theorem dL_law_1491 : decode cL_law 1491 = .ok (.if_icmp .eq 5, 3) := dk_159 cL_1491 cL_1492 cL_1493 (by decide +kernel)
theorem dL_law_1494 : decode cL_law 1494 = .ok (.iconst 0, 1) := dk_3 cL_1494
theorem dL_law_1495 : decode cL_law 1495 = .ok (.ireturn, 1) := dk_172 cL_1495
theorem dL_law_1496 : decode cL_law 1496 = .ok (.iload 6, 2) := dk_21 cL_1496 cL_1497
theorem dL_law_1498 : decode cL_law 1498 = .ok (.ifCond .ne 15, 3) := dk_154 cL_1498 cL_1499 cL_1500 (by decide +kernel)
theorem dL_law_1501 : decode cL_law 1501 = .ok (.aload_n 3, 1) := dk_45 cL_1501
theorem dL_law_1502 : decode cL_law 1502 = .ok (.iconst 0, 1) := dk_3 cL_1502
theorem dL_law_1503 : decode cL_law 1503 = .ok (.laload, 1) := dk_47 cL_1503
theorem dL_law_1504 : decode cL_law 1504 = .ok (.iload 7, 2) := dk_21 cL_1504 cL_1505
theorem dL_law_1506 : decode cL_law 1506 = .ok (.i2l, 1) := dk_133 cL_1506
theorem dL_law_1507 : decode cL_law 1507 = .ok (.lcmp, 1) := dk_148 cL_1507
theorem dL_law_1508 : decode cL_law 1508 = .ok (.ifCond .eq 5, 3) := dk_153 cL_1508 cL_1509 cL_1510 (by decide +kernel)
theorem dL_law_1511 : decode cL_law 1511 = .ok (.iconst 0, 1) := dk_3 cL_1511
theorem dL_law_1512 : decode cL_law 1512 = .ok (.ireturn, 1) := dk_172 cL_1512
theorem dL_law_1513 : decode cL_law 1513 = .ok (.goto 2104, 3) := dk_167 cL_1513 cL_1514 cL_1515 (by decide +kernel)
theorem dL_law_1516 : decode cL_law 1516 = .ok (.aload_n 1, 1) := dk_43 cL_1516
theorem dL_law_1517 : decode cL_law 1517 = .ok (.aload_n 0, 1) := dk_42 cL_1517
theorem dL_law_1518 : decode cL_law 1518 = .ok (.iload 5, 2) := dk_21 cL_1518 cL_1519
theorem dL_law_1520 : decode cL_law 1520 = .ok (.iconst 1, 1) := dk_4 cL_1520
theorem dL_law_1521 : decode cL_law 1521 = .ok (.iadd, 1) := dk_96 cL_1521
theorem dL_law_1522 : decode cL_law 1522 = .ok (.iaload, 1) := dk_46 cL_1522
theorem dL_law_1523 : decode cL_law 1523 = .ok (.aload_n 3, 1) := dk_45 cL_1523
theorem dL_law_1524 : decode cL_law 1524 = .ok (.invokestatic 264, 3) := dk_184 cL_1524 cL_1525 cL_1526 (by decide +kernel)
theorem dL_law_1527 : decode cL_law 1527 = .ok (.istore 6, 2) := dk_54 cL_1527 cL_1528
theorem dL_law_1529 : decode cL_law 1529 = .ok (.aload_n 2, 1) := dk_44 cL_1529
theorem dL_law_1530 : decode cL_law 1530 = .ok (.aload_n 0, 1) := dk_42 cL_1530
theorem dL_law_1531 : decode cL_law 1531 = .ok (.iload 5, 2) := dk_21 cL_1531 cL_1532
theorem dL_law_1533 : decode cL_law 1533 = .ok (.iconst 1, 1) := dk_4 cL_1533
theorem dL_law_1534 : decode cL_law 1534 = .ok (.iadd, 1) := dk_96 cL_1534
theorem dL_law_1535 : decode cL_law 1535 = .ok (.iaload, 1) := dk_46 cL_1535
theorem dL_law_1536 : decode cL_law 1536 = .ok (.invokevirtual 266, 3) := dk_182 cL_1536 cL_1537 cL_1538 (by decide +kernel)
theorem dL_law_1539 : decode cL_law 1539 = .ok (.istore 7, 2) := dk_54 cL_1539 cL_1540
theorem dL_law_1541 : decode cL_law 1541 = .ok (.aload_n 2, 1) := dk_44 cL_1541
theorem dL_law_1542 : decode cL_law 1542 = .ok (.invokevirtual 204, 3) := dk_182 cL_1542 cL_1543 cL_1544 (by decide +kernel)
theorem dL_law_1545 : decode cL_law 1545 = .ok (.iload 6, 2) := dk_21 cL_1545 cL_1546
theorem dL_law_1547 : decode cL_law 1547 = .ok (.if_icmp .eq 5, 3) := dk_159 cL_1547 cL_1548 cL_1549 (by decide +kernel)
theorem dL_law_1550 : decode cL_law 1550 = .ok (.iconst 0, 1) := dk_3 cL_1550
theorem dL_law_1551 : decode cL_law 1551 = .ok (.ireturn, 1) := dk_172 cL_1551
theorem dL_law_1552 : decode cL_law 1552 = .ok (.iload 6, 2) := dk_21 cL_1552 cL_1553
theorem dL_law_1554 : decode cL_law 1554 = .ok (.ifCond .ne 15, 3) := dk_154 cL_1554 cL_1555 cL_1556 (by decide +kernel)
theorem dL_law_1557 : decode cL_law 1557 = .ok (.aload_n 3, 1) := dk_45 cL_1557
theorem dL_law_1558 : decode cL_law 1558 = .ok (.iconst 0, 1) := dk_3 cL_1558
theorem dL_law_1559 : decode cL_law 1559 = .ok (.laload, 1) := dk_47 cL_1559
theorem dL_law_1560 : decode cL_law 1560 = .ok (.iload 7, 2) := dk_21 cL_1560 cL_1561
theorem dL_law_1562 : decode cL_law 1562 = .ok (.i2l, 1) := dk_133 cL_1562
theorem dL_law_1563 : decode cL_law 1563 = .ok (.lcmp, 1) := dk_148 cL_1563
theorem dL_law_1564 : decode cL_law 1564 = .ok (.ifCond .eq 5, 3) := dk_153 cL_1564 cL_1565 cL_1566 (by decide +kernel)
theorem dL_law_1567 : decode cL_law 1567 = .ok (.iconst 0, 1) := dk_3 cL_1567
theorem dL_law_1568 : decode cL_law 1568 = .ok (.ireturn, 1) := dk_172 cL_1568
theorem dL_law_1569 : decode cL_law 1569 = .ok (.goto 2048, 3) := dk_167 cL_1569 cL_1570 cL_1571 (by decide +kernel)
theorem dL_law_1572 : decode cL_law 1572 = .ok (.aload_n 1, 1) := dk_43 cL_1572
theorem dL_law_1573 : decode cL_law 1573 = .ok (.aload_n 0, 1) := dk_42 cL_1573
theorem dL_law_1574 : decode cL_law 1574 = .ok (.iload 5, 2) := dk_21 cL_1574 cL_1575
theorem dL_law_1576 : decode cL_law 1576 = .ok (.iconst 1, 1) := dk_4 cL_1576
theorem dL_law_1577 : decode cL_law 1577 = .ok (.iadd, 1) := dk_96 cL_1577
theorem dL_law_1578 : decode cL_law 1578 = .ok (.iaload, 1) := dk_46 cL_1578
theorem dL_law_1579 : decode cL_law 1579 = .ok (.aload_n 3, 1) := dk_45 cL_1579
theorem dL_law_1580 : decode cL_law 1580 = .ok (.invokestatic 267, 3) := dk_184 cL_1580 cL_1581 cL_1582 (by decide +kernel)
theorem dL_law_1583 : decode cL_law 1583 = .ok (.istore 6, 2) := dk_54 cL_1583 cL_1584
theorem dL_law_1585 : decode cL_law 1585 = .ok (.aload_n 2, 1) := dk_44 cL_1585
theorem dL_law_1586 : decode cL_law 1586 = .ok (.aload_n 0, 1) := dk_42 cL_1586
theorem dL_law_1587 : decode cL_law 1587 = .ok (.iload 5, 2) := dk_21 cL_1587 cL_1588
theorem dL_law_1589 : decode cL_law 1589 = .ok (.iconst 1, 1) := dk_4 cL_1589
theorem dL_law_1590 : decode cL_law 1590 = .ok (.iadd, 1) := dk_96 cL_1590
theorem dL_law_1591 : decode cL_law 1591 = .ok (.iaload, 1) := dk_46 cL_1591
theorem dL_law_1592 : decode cL_law 1592 = .ok (.invokevirtual 269, 3) := dk_182 cL_1592 cL_1593 cL_1594 (by decide +kernel)
theorem dL_law_1595 : decode cL_law 1595 = .ok (.istore 7, 2) := dk_54 cL_1595 cL_1596
theorem dL_law_1597 : decode cL_law 1597 = .ok (.aload_n 2, 1) := dk_44 cL_1597
theorem dL_law_1598 : decode cL_law 1598 = .ok (.invokevirtual 204, 3) := dk_182 cL_1598 cL_1599 cL_1600 (by decide +kernel)
theorem dL_law_1601 : decode cL_law 1601 = .ok (.iload 6, 2) := dk_21 cL_1601 cL_1602
theorem dL_law_1603 : decode cL_law 1603 = .ok (.if_icmp .eq 5, 3) := dk_159 cL_1603 cL_1604 cL_1605 (by decide +kernel)
theorem dL_law_1606 : decode cL_law 1606 = .ok (.iconst 0, 1) := dk_3 cL_1606
theorem dL_law_1607 : decode cL_law 1607 = .ok (.ireturn, 1) := dk_172 cL_1607
theorem dL_law_1608 : decode cL_law 1608 = .ok (.iload 6, 2) := dk_21 cL_1608 cL_1609
theorem dL_law_1610 : decode cL_law 1610 = .ok (.ifCond .ne 15, 3) := dk_154 cL_1610 cL_1611 cL_1612 (by decide +kernel)
theorem dL_law_1613 : decode cL_law 1613 = .ok (.aload_n 3, 1) := dk_45 cL_1613
theorem dL_law_1614 : decode cL_law 1614 = .ok (.iconst 0, 1) := dk_3 cL_1614
theorem dL_law_1615 : decode cL_law 1615 = .ok (.laload, 1) := dk_47 cL_1615
theorem dL_law_1616 : decode cL_law 1616 = .ok (.iload 7, 2) := dk_21 cL_1616 cL_1617
theorem dL_law_1618 : decode cL_law 1618 = .ok (.i2l, 1) := dk_133 cL_1618
theorem dL_law_1619 : decode cL_law 1619 = .ok (.lcmp, 1) := dk_148 cL_1619
theorem dL_law_1620 : decode cL_law 1620 = .ok (.ifCond .eq 5, 3) := dk_153 cL_1620 cL_1621 cL_1622 (by decide +kernel)
theorem dL_law_1623 : decode cL_law 1623 = .ok (.iconst 0, 1) := dk_3 cL_1623
theorem dL_law_1624 : decode cL_law 1624 = .ok (.ireturn, 1) := dk_172 cL_1624
theorem dL_law_1625 : decode cL_law 1625 = .ok (.goto 1992, 3) := dk_167 cL_1625 cL_1626 cL_1627 (by decide +kernel)
theorem dL_law_1628 : decode cL_law 1628 = .ok (.aload_n 1, 1) := dk_43 cL_1628
theorem dL_law_1629 : decode cL_law 1629 = .ok (.aload_n 0, 1) := dk_42 cL_1629
theorem dL_law_1630 : decode cL_law 1630 = .ok (.iload 5, 2) := dk_21 cL_1630 cL_1631
theorem dL_law_1632 : decode cL_law 1632 = .ok (.iconst 1, 1) := dk_4 cL_1632
theorem dL_law_1633 : decode cL_law 1633 = .ok (.iadd, 1) := dk_96 cL_1633
theorem dL_law_1634 : decode cL_law 1634 = .ok (.iaload, 1) := dk_46 cL_1634
theorem dL_law_1635 : decode cL_law 1635 = .ok (.aload_n 3, 1) := dk_45 cL_1635
theorem dL_law_1636 : decode cL_law 1636 = .ok (.invokestatic 270, 3) := dk_184 cL_1636 cL_1637 cL_1638 (by decide +kernel)
theorem dL_law_1639 : decode cL_law 1639 = .ok (.istore 6, 2) := dk_54 cL_1639 cL_1640
theorem dL_law_1641 : decode cL_law 1641 = .ok (.aload_n 2, 1) := dk_44 cL_1641
theorem dL_law_1642 : decode cL_law 1642 = .ok (.aload_n 0, 1) := dk_42 cL_1642
theorem dL_law_1643 : decode cL_law 1643 = .ok (.iload 5, 2) := dk_21 cL_1643 cL_1644
theorem dL_law_1645 : decode cL_law 1645 = .ok (.iconst 1, 1) := dk_4 cL_1645
theorem dL_law_1646 : decode cL_law 1646 = .ok (.iadd, 1) := dk_96 cL_1646
theorem dL_law_1647 : decode cL_law 1647 = .ok (.iaload, 1) := dk_46 cL_1647
theorem dL_law_1648 : decode cL_law 1648 = .ok (.invokevirtual 272, 3) := dk_182 cL_1648 cL_1649 cL_1650 (by decide +kernel)
theorem dL_law_1651 : decode cL_law 1651 = .ok (.istore 7, 2) := dk_54 cL_1651 cL_1652
theorem dL_law_1653 : decode cL_law 1653 = .ok (.aload_n 2, 1) := dk_44 cL_1653
theorem dL_law_1654 : decode cL_law 1654 = .ok (.invokevirtual 204, 3) := dk_182 cL_1654 cL_1655 cL_1656 (by decide +kernel)
theorem dL_law_1657 : decode cL_law 1657 = .ok (.iload 6, 2) := dk_21 cL_1657 cL_1658
theorem dL_law_1659 : decode cL_law 1659 = .ok (.if_icmp .eq 5, 3) := dk_159 cL_1659 cL_1660 cL_1661 (by decide +kernel)
theorem dL_law_1662 : decode cL_law 1662 = .ok (.iconst 0, 1) := dk_3 cL_1662
theorem dL_law_1663 : decode cL_law 1663 = .ok (.ireturn, 1) := dk_172 cL_1663
theorem dL_law_1664 : decode cL_law 1664 = .ok (.iload 6, 2) := dk_21 cL_1664 cL_1665
theorem dL_law_1666 : decode cL_law 1666 = .ok (.ifCond .ne 22, 3) := dk_154 cL_1666 cL_1667 cL_1668 (by decide +kernel)
theorem dL_law_1669 : decode cL_law 1669 = .ok (.aload_n 3, 1) := dk_45 cL_1669
theorem dL_law_1670 : decode cL_law 1670 = .ok (.iconst 0, 1) := dk_3 cL_1670
theorem dL_law_1671 : decode cL_law 1671 = .ok (.laload, 1) := dk_47 cL_1671
theorem dL_law_1672 : decode cL_law 1672 = .ok (.iload 7, 2) := dk_21 cL_1672 cL_1673
theorem dL_law_1674 : decode cL_law 1674 = .ok (.ifCond .eq 7, 3) := dk_153 cL_1674 cL_1675 cL_1676 (by decide +kernel)
theorem dL_law_1677 : decode cL_law 1677 = .ok (.lconst 1, 1) := dk_10 cL_1677
theorem dL_law_1678 : decode cL_law 1678 = .ok (.goto 4, 3) := dk_167 cL_1678 cL_1679 cL_1680 (by decide +kernel)
theorem dL_law_1681 : decode cL_law 1681 = .ok (.lconst 0, 1) := dk_9 cL_1681
theorem dL_law_1682 : decode cL_law 1682 = .ok (.lcmp, 1) := dk_148 cL_1682
theorem dL_law_1683 : decode cL_law 1683 = .ok (.ifCond .eq 5, 3) := dk_153 cL_1683 cL_1684 cL_1685 (by decide +kernel)
theorem dL_law_1686 : decode cL_law 1686 = .ok (.iconst 0, 1) := dk_3 cL_1686
theorem dL_law_1687 : decode cL_law 1687 = .ok (.ireturn, 1) := dk_172 cL_1687
theorem dL_law_1688 : decode cL_law 1688 = .ok (.goto 1929, 3) := dk_167 cL_1688 cL_1689 cL_1690 (by decide +kernel)
theorem dL_law_1691 : decode cL_law 1691 = .ok (.aload_n 1, 1) := dk_43 cL_1691
theorem dL_law_1692 : decode cL_law 1692 = .ok (.aload_n 0, 1) := dk_42 cL_1692
theorem dL_law_1693 : decode cL_law 1693 = .ok (.iload 5, 2) := dk_21 cL_1693 cL_1694
theorem dL_law_1695 : decode cL_law 1695 = .ok (.iconst 1, 1) := dk_4 cL_1695
theorem dL_law_1696 : decode cL_law 1696 = .ok (.iadd, 1) := dk_96 cL_1696
theorem dL_law_1697 : decode cL_law 1697 = .ok (.iaload, 1) := dk_46 cL_1697
theorem dL_law_1698 : decode cL_law 1698 = .ok (.aload_n 3, 1) := dk_45 cL_1698
theorem dL_law_1699 : decode cL_law 1699 = .ok (.invokestatic 273, 3) := dk_184 cL_1699 cL_1700 cL_1701 (by decide +kernel)
theorem dL_law_1702 : decode cL_law 1702 = .ok (.istore 6, 2) := dk_54 cL_1702 cL_1703
theorem dL_law_1704 : decode cL_law 1704 = .ok (.aload_n 2, 1) := dk_44 cL_1704
theorem dL_law_1705 : decode cL_law 1705 = .ok (.aload_n 0, 1) := dk_42 cL_1705
theorem dL_law_1706 : decode cL_law 1706 = .ok (.iload 5, 2) := dk_21 cL_1706 cL_1707
theorem dL_law_1708 : decode cL_law 1708 = .ok (.iconst 1, 1) := dk_4 cL_1708
theorem dL_law_1709 : decode cL_law 1709 = .ok (.iadd, 1) := dk_96 cL_1709
theorem dL_law_1710 : decode cL_law 1710 = .ok (.iaload, 1) := dk_46 cL_1710
theorem dL_law_1711 : decode cL_law 1711 = .ok (.invokevirtual 275, 3) := dk_182 cL_1711 cL_1712 cL_1713 (by decide +kernel)
theorem dL_law_1714 : decode cL_law 1714 = .ok (.istore 7, 2) := dk_54 cL_1714 cL_1715
theorem dL_law_1716 : decode cL_law 1716 = .ok (.aload_n 2, 1) := dk_44 cL_1716
theorem dL_law_1717 : decode cL_law 1717 = .ok (.invokevirtual 204, 3) := dk_182 cL_1717 cL_1718 cL_1719 (by decide +kernel)
theorem dL_law_1720 : decode cL_law 1720 = .ok (.iload 6, 2) := dk_21 cL_1720 cL_1721
theorem dL_law_1722 : decode cL_law 1722 = .ok (.if_icmp .eq 5, 3) := dk_159 cL_1722 cL_1723 cL_1724 (by decide +kernel)
theorem dL_law_1725 : decode cL_law 1725 = .ok (.iconst 0, 1) := dk_3 cL_1725
theorem dL_law_1726 : decode cL_law 1726 = .ok (.ireturn, 1) := dk_172 cL_1726
theorem dL_law_1727 : decode cL_law 1727 = .ok (.iload 6, 2) := dk_21 cL_1727 cL_1728
theorem dL_law_1729 : decode cL_law 1729 = .ok (.ifCond .ne 22, 3) := dk_154 cL_1729 cL_1730 cL_1731 (by decide +kernel)
theorem dL_law_1732 : decode cL_law 1732 = .ok (.aload_n 3, 1) := dk_45 cL_1732
theorem dL_law_1733 : decode cL_law 1733 = .ok (.iconst 0, 1) := dk_3 cL_1733
theorem dL_law_1734 : decode cL_law 1734 = .ok (.laload, 1) := dk_47 cL_1734
theorem dL_law_1735 : decode cL_law 1735 = .ok (.iload 7, 2) := dk_21 cL_1735 cL_1736
theorem dL_law_1737 : decode cL_law 1737 = .ok (.ifCond .eq 7, 3) := dk_153 cL_1737 cL_1738 cL_1739 (by decide +kernel)
theorem dL_law_1740 : decode cL_law 1740 = .ok (.lconst 1, 1) := dk_10 cL_1740
theorem dL_law_1741 : decode cL_law 1741 = .ok (.goto 4, 3) := dk_167 cL_1741 cL_1742 cL_1743 (by decide +kernel)
theorem dL_law_1744 : decode cL_law 1744 = .ok (.lconst 0, 1) := dk_9 cL_1744
theorem dL_law_1745 : decode cL_law 1745 = .ok (.lcmp, 1) := dk_148 cL_1745
theorem dL_law_1746 : decode cL_law 1746 = .ok (.ifCond .eq 5, 3) := dk_153 cL_1746 cL_1747 cL_1748 (by decide +kernel)
theorem dL_law_1749 : decode cL_law 1749 = .ok (.iconst 0, 1) := dk_3 cL_1749
theorem dL_law_1750 : decode cL_law 1750 = .ok (.ireturn, 1) := dk_172 cL_1750
theorem dL_law_1751 : decode cL_law 1751 = .ok (.goto 1866, 3) := dk_167 cL_1751 cL_1752 cL_1753 (by decide +kernel)
theorem dL_law_1754 : decode cL_law 1754 = .ok (.aload_n 1, 1) := dk_43 cL_1754
theorem dL_law_1755 : decode cL_law 1755 = .ok (.aload_n 0, 1) := dk_42 cL_1755
theorem dL_law_1756 : decode cL_law 1756 = .ok (.iload 5, 2) := dk_21 cL_1756 cL_1757
theorem dL_law_1758 : decode cL_law 1758 = .ok (.iconst 1, 1) := dk_4 cL_1758
theorem dL_law_1759 : decode cL_law 1759 = .ok (.iadd, 1) := dk_96 cL_1759
theorem dL_law_1760 : decode cL_law 1760 = .ok (.iaload, 1) := dk_46 cL_1760
theorem dL_law_1761 : decode cL_law 1761 = .ok (.aload_n 3, 1) := dk_45 cL_1761
theorem dL_law_1762 : decode cL_law 1762 = .ok (.invokestatic 276, 3) := dk_184 cL_1762 cL_1763 cL_1764 (by decide +kernel)
theorem dL_law_1765 : decode cL_law 1765 = .ok (.istore 6, 2) := dk_54 cL_1765 cL_1766
theorem dL_law_1767 : decode cL_law 1767 = .ok (.aload_n 2, 1) := dk_44 cL_1767
theorem dL_law_1768 : decode cL_law 1768 = .ok (.aload_n 0, 1) := dk_42 cL_1768
theorem dL_law_1769 : decode cL_law 1769 = .ok (.iload 5, 2) := dk_21 cL_1769 cL_1770
theorem dL_law_1771 : decode cL_law 1771 = .ok (.iconst 1, 1) := dk_4 cL_1771
theorem dL_law_1772 : decode cL_law 1772 = .ok (.iadd, 1) := dk_96 cL_1772
theorem dL_law_1773 : decode cL_law 1773 = .ok (.iaload, 1) := dk_46 cL_1773
theorem dL_law_1774 : decode cL_law 1774 = .ok (.invokevirtual 278, 3) := dk_182 cL_1774 cL_1775 cL_1776 (by decide +kernel)
theorem dL_law_1777 : decode cL_law 1777 = .ok (.istore 7, 2) := dk_54 cL_1777 cL_1778
theorem dL_law_1779 : decode cL_law 1779 = .ok (.aload_n 2, 1) := dk_44 cL_1779
theorem dL_law_1780 : decode cL_law 1780 = .ok (.invokevirtual 204, 3) := dk_182 cL_1780 cL_1781 cL_1782 (by decide +kernel)
theorem dL_law_1783 : decode cL_law 1783 = .ok (.iload 6, 2) := dk_21 cL_1783 cL_1784
theorem dL_law_1785 : decode cL_law 1785 = .ok (.if_icmp .eq 5, 3) := dk_159 cL_1785 cL_1786 cL_1787 (by decide +kernel)
theorem dL_law_1788 : decode cL_law 1788 = .ok (.iconst 0, 1) := dk_3 cL_1788
theorem dL_law_1789 : decode cL_law 1789 = .ok (.ireturn, 1) := dk_172 cL_1789
theorem dL_law_1790 : decode cL_law 1790 = .ok (.iload 6, 2) := dk_21 cL_1790 cL_1791
theorem dL_law_1792 : decode cL_law 1792 = .ok (.ifCond .ne 22, 3) := dk_154 cL_1792 cL_1793 cL_1794 (by decide +kernel)
theorem dL_law_1795 : decode cL_law 1795 = .ok (.aload_n 3, 1) := dk_45 cL_1795
theorem dL_law_1796 : decode cL_law 1796 = .ok (.iconst 0, 1) := dk_3 cL_1796
theorem dL_law_1797 : decode cL_law 1797 = .ok (.laload, 1) := dk_47 cL_1797
theorem dL_law_1798 : decode cL_law 1798 = .ok (.iload 7, 2) := dk_21 cL_1798 cL_1799
theorem dL_law_1800 : decode cL_law 1800 = .ok (.ifCond .eq 7, 3) := dk_153 cL_1800 cL_1801 cL_1802 (by decide +kernel)
theorem dL_law_1803 : decode cL_law 1803 = .ok (.lconst 1, 1) := dk_10 cL_1803
theorem dL_law_1804 : decode cL_law 1804 = .ok (.goto 4, 3) := dk_167 cL_1804 cL_1805 cL_1806 (by decide +kernel)
theorem dL_law_1807 : decode cL_law 1807 = .ok (.lconst 0, 1) := dk_9 cL_1807
theorem dL_law_1808 : decode cL_law 1808 = .ok (.lcmp, 1) := dk_148 cL_1808
theorem dL_law_1809 : decode cL_law 1809 = .ok (.ifCond .eq 5, 3) := dk_153 cL_1809 cL_1810 cL_1811 (by decide +kernel)
theorem dL_law_1812 : decode cL_law 1812 = .ok (.iconst 0, 1) := dk_3 cL_1812
theorem dL_law_1813 : decode cL_law 1813 = .ok (.ireturn, 1) := dk_172 cL_1813
theorem dL_law_1814 : decode cL_law 1814 = .ok (.goto 1803, 3) := dk_167 cL_1814 cL_1815 cL_1816 (by decide +kernel)
theorem dL_law_1817 : decode cL_law 1817 = .ok (.aload_n 1, 1) := dk_43 cL_1817
theorem dL_law_1818 : decode cL_law 1818 = .ok (.aload_n 0, 1) := dk_42 cL_1818
theorem dL_law_1819 : decode cL_law 1819 = .ok (.iload 5, 2) := dk_21 cL_1819 cL_1820
theorem dL_law_1821 : decode cL_law 1821 = .ok (.iconst 1, 1) := dk_4 cL_1821
theorem dL_law_1822 : decode cL_law 1822 = .ok (.iadd, 1) := dk_96 cL_1822
theorem dL_law_1823 : decode cL_law 1823 = .ok (.iaload, 1) := dk_46 cL_1823
theorem dL_law_1824 : decode cL_law 1824 = .ok (.aload_n 3, 1) := dk_45 cL_1824
theorem dL_law_1825 : decode cL_law 1825 = .ok (.invokestatic 279, 3) := dk_184 cL_1825 cL_1826 cL_1827 (by decide +kernel)
theorem dL_law_1828 : decode cL_law 1828 = .ok (.istore 6, 2) := dk_54 cL_1828 cL_1829
theorem dL_law_1830 : decode cL_law 1830 = .ok (.aload_n 2, 1) := dk_44 cL_1830
theorem dL_law_1831 : decode cL_law 1831 = .ok (.aload_n 0, 1) := dk_42 cL_1831
theorem dL_law_1832 : decode cL_law 1832 = .ok (.iload 5, 2) := dk_21 cL_1832 cL_1833
theorem dL_law_1834 : decode cL_law 1834 = .ok (.iconst 1, 1) := dk_4 cL_1834
theorem dL_law_1835 : decode cL_law 1835 = .ok (.iadd, 1) := dk_96 cL_1835
theorem dL_law_1836 : decode cL_law 1836 = .ok (.iaload, 1) := dk_46 cL_1836
theorem dL_law_1837 : decode cL_law 1837 = .ok (.invokevirtual 281, 3) := dk_182 cL_1837 cL_1838 cL_1839 (by decide +kernel)
theorem dL_law_1840 : decode cL_law 1840 = .ok (.istore 7, 2) := dk_54 cL_1840 cL_1841
theorem dL_law_1842 : decode cL_law 1842 = .ok (.aload_n 2, 1) := dk_44 cL_1842
theorem dL_law_1843 : decode cL_law 1843 = .ok (.invokevirtual 204, 3) := dk_182 cL_1843 cL_1844 cL_1845 (by decide +kernel)
theorem dL_law_1846 : decode cL_law 1846 = .ok (.iload 6, 2) := dk_21 cL_1846 cL_1847
theorem dL_law_1848 : decode cL_law 1848 = .ok (.if_icmp .eq 5, 3) := dk_159 cL_1848 cL_1849 cL_1850 (by decide +kernel)
theorem dL_law_1851 : decode cL_law 1851 = .ok (.iconst 0, 1) := dk_3 cL_1851
theorem dL_law_1852 : decode cL_law 1852 = .ok (.ireturn, 1) := dk_172 cL_1852
theorem dL_law_1853 : decode cL_law 1853 = .ok (.iload 6, 2) := dk_21 cL_1853 cL_1854
theorem dL_law_1855 : decode cL_law 1855 = .ok (.ifCond .ne 15, 3) := dk_154 cL_1855 cL_1856 cL_1857 (by decide +kernel)
theorem dL_law_1858 : decode cL_law 1858 = .ok (.aload_n 3, 1) := dk_45 cL_1858
theorem dL_law_1859 : decode cL_law 1859 = .ok (.iconst 0, 1) := dk_3 cL_1859
theorem dL_law_1860 : decode cL_law 1860 = .ok (.laload, 1) := dk_47 cL_1860
theorem dL_law_1861 : decode cL_law 1861 = .ok (.iload 7, 2) := dk_21 cL_1861 cL_1862
theorem dL_law_1863 : decode cL_law 1863 = .ok (.i2l, 1) := dk_133 cL_1863
theorem dL_law_1864 : decode cL_law 1864 = .ok (.lcmp, 1) := dk_148 cL_1864
theorem dL_law_1865 : decode cL_law 1865 = .ok (.ifCond .eq 5, 3) := dk_153 cL_1865 cL_1866 cL_1867 (by decide +kernel)
theorem dL_law_1868 : decode cL_law 1868 = .ok (.iconst 0, 1) := dk_3 cL_1868
theorem dL_law_1869 : decode cL_law 1869 = .ok (.ireturn, 1) := dk_172 cL_1869
theorem dL_law_1870 : decode cL_law 1870 = .ok (.goto 1747, 3) := dk_167 cL_1870 cL_1871 cL_1872 (by decide +kernel)
theorem dL_law_1873 : decode cL_law 1873 = .ok (.aload_n 1, 1) := dk_43 cL_1873
theorem dL_law_1874 : decode cL_law 1874 = .ok (.aload_n 0, 1) := dk_42 cL_1874
theorem dL_law_1875 : decode cL_law 1875 = .ok (.iload 5, 2) := dk_21 cL_1875 cL_1876
theorem dL_law_1877 : decode cL_law 1877 = .ok (.iconst 1, 1) := dk_4 cL_1877
theorem dL_law_1878 : decode cL_law 1878 = .ok (.iadd, 1) := dk_96 cL_1878
theorem dL_law_1879 : decode cL_law 1879 = .ok (.iaload, 1) := dk_46 cL_1879
theorem dL_law_1880 : decode cL_law 1880 = .ok (.aload_n 3, 1) := dk_45 cL_1880
theorem dL_law_1881 : decode cL_law 1881 = .ok (.invokestatic 282, 3) := dk_184 cL_1881 cL_1882 cL_1883 (by decide +kernel)
theorem dL_law_1884 : decode cL_law 1884 = .ok (.istore 6, 2) := dk_54 cL_1884 cL_1885
theorem dL_law_1886 : decode cL_law 1886 = .ok (.aload_n 2, 1) := dk_44 cL_1886
theorem dL_law_1887 : decode cL_law 1887 = .ok (.aload_n 0, 1) := dk_42 cL_1887
theorem dL_law_1888 : decode cL_law 1888 = .ok (.iload 5, 2) := dk_21 cL_1888 cL_1889
theorem dL_law_1890 : decode cL_law 1890 = .ok (.iconst 1, 1) := dk_4 cL_1890
theorem dL_law_1891 : decode cL_law 1891 = .ok (.iadd, 1) := dk_96 cL_1891
theorem dL_law_1892 : decode cL_law 1892 = .ok (.iaload, 1) := dk_46 cL_1892
theorem dL_law_1893 : decode cL_law 1893 = .ok (.invokevirtual 284, 3) := dk_182 cL_1893 cL_1894 cL_1895 (by decide +kernel)
theorem dL_law_1896 : decode cL_law 1896 = .ok (.istore 7, 2) := dk_54 cL_1896 cL_1897
theorem dL_law_1898 : decode cL_law 1898 = .ok (.aload_n 2, 1) := dk_44 cL_1898
theorem dL_law_1899 : decode cL_law 1899 = .ok (.invokevirtual 204, 3) := dk_182 cL_1899 cL_1900 cL_1901 (by decide +kernel)
theorem dL_law_1902 : decode cL_law 1902 = .ok (.iload 6, 2) := dk_21 cL_1902 cL_1903
theorem dL_law_1904 : decode cL_law 1904 = .ok (.if_icmp .eq 5, 3) := dk_159 cL_1904 cL_1905 cL_1906 (by decide +kernel)
theorem dL_law_1907 : decode cL_law 1907 = .ok (.iconst 0, 1) := dk_3 cL_1907
theorem dL_law_1908 : decode cL_law 1908 = .ok (.ireturn, 1) := dk_172 cL_1908
theorem dL_law_1909 : decode cL_law 1909 = .ok (.iload 6, 2) := dk_21 cL_1909 cL_1910
theorem dL_law_1911 : decode cL_law 1911 = .ok (.ifCond .ne 15, 3) := dk_154 cL_1911 cL_1912 cL_1913 (by decide +kernel)
theorem dL_law_1914 : decode cL_law 1914 = .ok (.aload_n 3, 1) := dk_45 cL_1914
theorem dL_law_1915 : decode cL_law 1915 = .ok (.iconst 0, 1) := dk_3 cL_1915
theorem dL_law_1916 : decode cL_law 1916 = .ok (.laload, 1) := dk_47 cL_1916
theorem dL_law_1917 : decode cL_law 1917 = .ok (.iload 7, 2) := dk_21 cL_1917 cL_1918
theorem dL_law_1919 : decode cL_law 1919 = .ok (.i2l, 1) := dk_133 cL_1919
theorem dL_law_1920 : decode cL_law 1920 = .ok (.lcmp, 1) := dk_148 cL_1920
theorem dL_law_1921 : decode cL_law 1921 = .ok (.ifCond .eq 5, 3) := dk_153 cL_1921 cL_1922 cL_1923 (by decide +kernel)
theorem dL_law_1924 : decode cL_law 1924 = .ok (.iconst 0, 1) := dk_3 cL_1924
theorem dL_law_1925 : decode cL_law 1925 = .ok (.ireturn, 1) := dk_172 cL_1925
theorem dL_law_1926 : decode cL_law 1926 = .ok (.goto 1691, 3) := dk_167 cL_1926 cL_1927 cL_1928 (by decide +kernel)
theorem dL_law_1929 : decode cL_law 1929 = .ok (.aload_n 1, 1) := dk_43 cL_1929
theorem dL_law_1930 : decode cL_law 1930 = .ok (.aload_n 0, 1) := dk_42 cL_1930
theorem dL_law_1931 : decode cL_law 1931 = .ok (.iload 5, 2) := dk_21 cL_1931 cL_1932
theorem dL_law_1933 : decode cL_law 1933 = .ok (.iconst 1, 1) := dk_4 cL_1933
theorem dL_law_1934 : decode cL_law 1934 = .ok (.iadd, 1) := dk_96 cL_1934
theorem dL_law_1935 : decode cL_law 1935 = .ok (.iaload, 1) := dk_46 cL_1935
theorem dL_law_1936 : decode cL_law 1936 = .ok (.aload_n 0, 1) := dk_42 cL_1936
theorem dL_law_1937 : decode cL_law 1937 = .ok (.iload 5, 2) := dk_21 cL_1937 cL_1938
theorem dL_law_1939 : decode cL_law 1939 = .ok (.iconst 2, 1) := dk_5 cL_1939
theorem dL_law_1940 : decode cL_law 1940 = .ok (.iadd, 1) := dk_96 cL_1940
theorem dL_law_1941 : decode cL_law 1941 = .ok (.iaload, 1) := dk_46 cL_1941
theorem dL_law_1942 : decode cL_law 1942 = .ok (.aload_n 3, 1) := dk_45 cL_1942
theorem dL_law_1943 : decode cL_law 1943 = .ok (.invokestatic 285, 3) := dk_184 cL_1943 cL_1944 cL_1945 (by decide +kernel)
theorem dL_law_1946 : decode cL_law 1946 = .ok (.istore 6, 2) := dk_54 cL_1946 cL_1947
theorem dL_law_1948 : decode cL_law 1948 = .ok (.aload_n 2, 1) := dk_44 cL_1948
theorem dL_law_1949 : decode cL_law 1949 = .ok (.aload_n 0, 1) := dk_42 cL_1949
theorem dL_law_1950 : decode cL_law 1950 = .ok (.iload 5, 2) := dk_21 cL_1950 cL_1951
theorem dL_law_1952 : decode cL_law 1952 = .ok (.iconst 1, 1) := dk_4 cL_1952
theorem dL_law_1953 : decode cL_law 1953 = .ok (.iadd, 1) := dk_96 cL_1953
theorem dL_law_1954 : decode cL_law 1954 = .ok (.iaload, 1) := dk_46 cL_1954
theorem dL_law_1955 : decode cL_law 1955 = .ok (.aload_n 0, 1) := dk_42 cL_1955
theorem dL_law_1956 : decode cL_law 1956 = .ok (.iload 5, 2) := dk_21 cL_1956 cL_1957
theorem dL_law_1958 : decode cL_law 1958 = .ok (.iconst 2, 1) := dk_5 cL_1958
theorem dL_law_1959 : decode cL_law 1959 = .ok (.iadd, 1) := dk_96 cL_1959
theorem dL_law_1960 : decode cL_law 1960 = .ok (.iaload, 1) := dk_46 cL_1960
theorem dL_law_1961 : decode cL_law 1961 = .ok (.invokevirtual 288, 3) := dk_182 cL_1961 cL_1962 cL_1963 (by decide +kernel)
theorem dL_law_1964 : decode cL_law 1964 = .ok (.istore 7, 2) := dk_54 cL_1964 cL_1965
theorem dL_law_1966 : decode cL_law 1966 = .ok (.aload_n 2, 1) := dk_44 cL_1966
theorem dL_law_1967 : decode cL_law 1967 = .ok (.invokevirtual 204, 3) := dk_182 cL_1967 cL_1968 cL_1969 (by decide +kernel)
theorem dL_law_1970 : decode cL_law 1970 = .ok (.iload 6, 2) := dk_21 cL_1970 cL_1971
theorem dL_law_1972 : decode cL_law 1972 = .ok (.if_icmp .eq 5, 3) := dk_159 cL_1972 cL_1973 cL_1974 (by decide +kernel)
theorem dL_law_1975 : decode cL_law 1975 = .ok (.iconst 0, 1) := dk_3 cL_1975
theorem dL_law_1976 : decode cL_law 1976 = .ok (.ireturn, 1) := dk_172 cL_1976
theorem dL_law_1977 : decode cL_law 1977 = .ok (.iload 6, 2) := dk_21 cL_1977 cL_1978
theorem dL_law_1979 : decode cL_law 1979 = .ok (.ifCond .ne 15, 3) := dk_154 cL_1979 cL_1980 cL_1981 (by decide +kernel)
theorem dL_law_1982 : decode cL_law 1982 = .ok (.aload_n 3, 1) := dk_45 cL_1982
theorem dL_law_1983 : decode cL_law 1983 = .ok (.iconst 0, 1) := dk_3 cL_1983
theorem dL_law_1984 : decode cL_law 1984 = .ok (.laload, 1) := dk_47 cL_1984
theorem dL_law_1985 : decode cL_law 1985 = .ok (.iload 7, 2) := dk_21 cL_1985 cL_1986
theorem dL_law_1987 : decode cL_law 1987 = .ok (.i2l, 1) := dk_133 cL_1987
theorem dL_law_1988 : decode cL_law 1988 = .ok (.lcmp, 1) := dk_148 cL_1988
theorem dL_law_1989 : decode cL_law 1989 = .ok (.ifCond .eq 5, 3) := dk_153 cL_1989 cL_1990 cL_1991 (by decide +kernel)
theorem dL_law_1992 : decode cL_law 1992 = .ok (.iconst 0, 1) := dk_3 cL_1992
theorem dL_law_1993 : decode cL_law 1993 = .ok (.ireturn, 1) := dk_172 cL_1993
theorem dL_law_1994 : decode cL_law 1994 = .ok (.goto 1623, 3) := dk_167 cL_1994 cL_1995 cL_1996 (by decide +kernel)
theorem dL_law_1997 : decode cL_law 1997 = .ok (.aload_n 1, 1) := dk_43 cL_1997
theorem dL_law_1998 : decode cL_law 1998 = .ok (.aload_n 0, 1) := dk_42 cL_1998
theorem dL_law_1999 : decode cL_law 1999 = .ok (.iload 5, 2) := dk_21 cL_1999 cL_2000
theorem dL_law_2001 : decode cL_law 2001 = .ok (.iconst 1, 1) := dk_4 cL_2001
theorem dL_law_2002 : decode cL_law 2002 = .ok (.iadd, 1) := dk_96 cL_2002
theorem dL_law_2003 : decode cL_law 2003 = .ok (.iaload, 1) := dk_46 cL_2003
theorem dL_law_2004 : decode cL_law 2004 = .ok (.aload_n 3, 1) := dk_45 cL_2004
theorem dL_law_2005 : decode cL_law 2005 = .ok (.invokestatic 289, 3) := dk_184 cL_2005 cL_2006 cL_2007 (by decide +kernel)
theorem dL_law_2008 : decode cL_law 2008 = .ok (.istore 6, 2) := dk_54 cL_2008 cL_2009
theorem dL_law_2010 : decode cL_law 2010 = .ok (.aload_n 2, 1) := dk_44 cL_2010
theorem dL_law_2011 : decode cL_law 2011 = .ok (.aload_n 0, 1) := dk_42 cL_2011
theorem dL_law_2012 : decode cL_law 2012 = .ok (.iload 5, 2) := dk_21 cL_2012 cL_2013
theorem dL_law_2014 : decode cL_law 2014 = .ok (.iconst 1, 1) := dk_4 cL_2014
theorem dL_law_2015 : decode cL_law 2015 = .ok (.iadd, 1) := dk_96 cL_2015
theorem dL_law_2016 : decode cL_law 2016 = .ok (.iaload, 1) := dk_46 cL_2016
theorem dL_law_2017 : decode cL_law 2017 = .ok (.invokevirtual 291, 3) := dk_182 cL_2017 cL_2018 cL_2019 (by decide +kernel)
theorem dL_law_2020 : decode cL_law 2020 = .ok (.istore 7, 2) := dk_54 cL_2020 cL_2021
theorem dL_law_2022 : decode cL_law 2022 = .ok (.aload_n 2, 1) := dk_44 cL_2022
theorem dL_law_2023 : decode cL_law 2023 = .ok (.invokevirtual 204, 3) := dk_182 cL_2023 cL_2024 cL_2025 (by decide +kernel)
theorem dL_law_2026 : decode cL_law 2026 = .ok (.iload 6, 2) := dk_21 cL_2026 cL_2027
theorem dL_law_2028 : decode cL_law 2028 = .ok (.if_icmp .eq 5, 3) := dk_159 cL_2028 cL_2029 cL_2030 (by decide +kernel)
theorem dL_law_2031 : decode cL_law 2031 = .ok (.iconst 0, 1) := dk_3 cL_2031
theorem dL_law_2032 : decode cL_law 2032 = .ok (.ireturn, 1) := dk_172 cL_2032
theorem dL_law_2033 : decode cL_law 2033 = .ok (.iload 6, 2) := dk_21 cL_2033 cL_2034
theorem dL_law_2035 : decode cL_law 2035 = .ok (.ifCond .ne 15, 3) := dk_154 cL_2035 cL_2036 cL_2037 (by decide +kernel)
theorem dL_law_2038 : decode cL_law 2038 = .ok (.aload_n 3, 1) := dk_45 cL_2038
theorem dL_law_2039 : decode cL_law 2039 = .ok (.iconst 0, 1) := dk_3 cL_2039
theorem dL_law_2040 : decode cL_law 2040 = .ok (.laload, 1) := dk_47 cL_2040
theorem dL_law_2041 : decode cL_law 2041 = .ok (.iload 7, 2) := dk_21 cL_2041 cL_2042
theorem dL_law_2043 : decode cL_law 2043 = .ok (.i2l, 1) := dk_133 cL_2043
theorem dL_law_2044 : decode cL_law 2044 = .ok (.lcmp, 1) := dk_148 cL_2044
theorem dL_law_2045 : decode cL_law 2045 = .ok (.ifCond .eq 5, 3) := dk_153 cL_2045 cL_2046 cL_2047 (by decide +kernel)
theorem dL_law_2048 : decode cL_law 2048 = .ok (.iconst 0, 1) := dk_3 cL_2048
theorem dL_law_2049 : decode cL_law 2049 = .ok (.ireturn, 1) := dk_172 cL_2049
theorem dL_law_2050 : decode cL_law 2050 = .ok (.goto 1567, 3) := dk_167 cL_2050 cL_2051 cL_2052 (by decide +kernel)
theorem dL_law_2053 : decode cL_law 2053 = .ok (.aload_n 1, 1) := dk_43 cL_2053
theorem dL_law_2054 : decode cL_law 2054 = .ok (.aload_n 0, 1) := dk_42 cL_2054
theorem dL_law_2055 : decode cL_law 2055 = .ok (.iload 5, 2) := dk_21 cL_2055 cL_2056
theorem dL_law_2057 : decode cL_law 2057 = .ok (.iconst 1, 1) := dk_4 cL_2057
theorem dL_law_2058 : decode cL_law 2058 = .ok (.iadd, 1) := dk_96 cL_2058
theorem dL_law_2059 : decode cL_law 2059 = .ok (.iaload, 1) := dk_46 cL_2059
theorem dL_law_2060 : decode cL_law 2060 = .ok (.aload_n 3, 1) := dk_45 cL_2060
theorem dL_law_2061 : decode cL_law 2061 = .ok (.invokestatic 292, 3) := dk_184 cL_2061 cL_2062 cL_2063 (by decide +kernel)
theorem dL_law_2064 : decode cL_law 2064 = .ok (.istore 6, 2) := dk_54 cL_2064 cL_2065
theorem dL_law_2066 : decode cL_law 2066 = .ok (.aload_n 2, 1) := dk_44 cL_2066
theorem dL_law_2067 : decode cL_law 2067 = .ok (.aload_n 0, 1) := dk_42 cL_2067
theorem dL_law_2068 : decode cL_law 2068 = .ok (.iload 5, 2) := dk_21 cL_2068 cL_2069
theorem dL_law_2070 : decode cL_law 2070 = .ok (.iconst 1, 1) := dk_4 cL_2070
theorem dL_law_2071 : decode cL_law 2071 = .ok (.iadd, 1) := dk_96 cL_2071
theorem dL_law_2072 : decode cL_law 2072 = .ok (.iaload, 1) := dk_46 cL_2072
theorem dL_law_2073 : decode cL_law 2073 = .ok (.invokevirtual 294, 3) := dk_182 cL_2073 cL_2074 cL_2075 (by decide +kernel)
theorem dL_law_2076 : decode cL_law 2076 = .ok (.istore 7, 2) := dk_54 cL_2076 cL_2077
theorem dL_law_2078 : decode cL_law 2078 = .ok (.aload_n 2, 1) := dk_44 cL_2078
theorem dL_law_2079 : decode cL_law 2079 = .ok (.invokevirtual 204, 3) := dk_182 cL_2079 cL_2080 cL_2081 (by decide +kernel)
theorem dL_law_2082 : decode cL_law 2082 = .ok (.iload 6, 2) := dk_21 cL_2082 cL_2083
theorem dL_law_2084 : decode cL_law 2084 = .ok (.if_icmp .eq 5, 3) := dk_159 cL_2084 cL_2085 cL_2086 (by decide +kernel)
theorem dL_law_2087 : decode cL_law 2087 = .ok (.iconst 0, 1) := dk_3 cL_2087
theorem dL_law_2088 : decode cL_law 2088 = .ok (.ireturn, 1) := dk_172 cL_2088
theorem dL_law_2089 : decode cL_law 2089 = .ok (.iload 6, 2) := dk_21 cL_2089 cL_2090
theorem dL_law_2091 : decode cL_law 2091 = .ok (.ifCond .ne 15, 3) := dk_154 cL_2091 cL_2092 cL_2093 (by decide +kernel)
theorem dL_law_2094 : decode cL_law 2094 = .ok (.aload_n 3, 1) := dk_45 cL_2094
theorem dL_law_2095 : decode cL_law 2095 = .ok (.iconst 0, 1) := dk_3 cL_2095
theorem dL_law_2096 : decode cL_law 2096 = .ok (.laload, 1) := dk_47 cL_2096
theorem dL_law_2097 : decode cL_law 2097 = .ok (.iload 7, 2) := dk_21 cL_2097 cL_2098
theorem dL_law_2099 : decode cL_law 2099 = .ok (.i2l, 1) := dk_133 cL_2099
theorem dL_law_2100 : decode cL_law 2100 = .ok (.lcmp, 1) := dk_148 cL_2100
theorem dL_law_2101 : decode cL_law 2101 = .ok (.ifCond .eq 5, 3) := dk_153 cL_2101 cL_2102 cL_2103 (by decide +kernel)
theorem dL_law_2104 : decode cL_law 2104 = .ok (.iconst 0, 1) := dk_3 cL_2104
theorem dL_law_2105 : decode cL_law 2105 = .ok (.ireturn, 1) := dk_172 cL_2105
theorem dL_law_2106 : decode cL_law 2106 = .ok (.goto 1511, 3) := dk_167 cL_2106 cL_2107 cL_2108 (by decide +kernel)
theorem dL_law_2109 : decode cL_law 2109 = .ok (.aload_n 1, 1) := dk_43 cL_2109
theorem dL_law_2110 : decode cL_law 2110 = .ok (.aload_n 0, 1) := dk_42 cL_2110
theorem dL_law_2111 : decode cL_law 2111 = .ok (.iload 5, 2) := dk_21 cL_2111 cL_2112
theorem dL_law_2113 : decode cL_law 2113 = .ok (.iconst 1, 1) := dk_4 cL_2113
theorem dL_law_2114 : decode cL_law 2114 = .ok (.iadd, 1) := dk_96 cL_2114
theorem dL_law_2115 : decode cL_law 2115 = .ok (.iaload, 1) := dk_46 cL_2115
theorem dL_law_2116 : decode cL_law 2116 = .ok (.aload_n 3, 1) := dk_45 cL_2116
theorem dL_law_2117 : decode cL_law 2117 = .ok (.invokestatic 295, 3) := dk_184 cL_2117 cL_2118 cL_2119 (by decide +kernel)
theorem dL_law_2120 : decode cL_law 2120 = .ok (.istore 6, 2) := dk_54 cL_2120 cL_2121
theorem dL_law_2122 : decode cL_law 2122 = .ok (.aload_n 2, 1) := dk_44 cL_2122
theorem dL_law_2123 : decode cL_law 2123 = .ok (.aload_n 0, 1) := dk_42 cL_2123
theorem dL_law_2124 : decode cL_law 2124 = .ok (.iload 5, 2) := dk_21 cL_2124 cL_2125
theorem dL_law_2126 : decode cL_law 2126 = .ok (.iconst 1, 1) := dk_4 cL_2126
theorem dL_law_2127 : decode cL_law 2127 = .ok (.iadd, 1) := dk_96 cL_2127
theorem dL_law_2128 : decode cL_law 2128 = .ok (.iaload, 1) := dk_46 cL_2128
theorem dL_law_2129 : decode cL_law 2129 = .ok (.invokevirtual 297, 3) := dk_182 cL_2129 cL_2130 cL_2131 (by decide +kernel)
theorem dL_law_2132 : decode cL_law 2132 = .ok (.istore 7, 2) := dk_54 cL_2132 cL_2133
theorem dL_law_2134 : decode cL_law 2134 = .ok (.aload_n 2, 1) := dk_44 cL_2134
theorem dL_law_2135 : decode cL_law 2135 = .ok (.invokevirtual 204, 3) := dk_182 cL_2135 cL_2136 cL_2137 (by decide +kernel)
theorem dL_law_2138 : decode cL_law 2138 = .ok (.iload 6, 2) := dk_21 cL_2138 cL_2139
theorem dL_law_2140 : decode cL_law 2140 = .ok (.if_icmp .eq 5, 3) := dk_159 cL_2140 cL_2141 cL_2142 (by decide +kernel)
theorem dL_law_2143 : decode cL_law 2143 = .ok (.iconst 0, 1) := dk_3 cL_2143
theorem dL_law_2144 : decode cL_law 2144 = .ok (.ireturn, 1) := dk_172 cL_2144
theorem dL_law_2145 : decode cL_law 2145 = .ok (.iload 6, 2) := dk_21 cL_2145 cL_2146
theorem dL_law_2147 : decode cL_law 2147 = .ok (.ifCond .ne 15, 3) := dk_154 cL_2147 cL_2148 cL_2149 (by decide +kernel)
theorem dL_law_2150 : decode cL_law 2150 = .ok (.aload_n 3, 1) := dk_45 cL_2150
theorem dL_law_2151 : decode cL_law 2151 = .ok (.iconst 0, 1) := dk_3 cL_2151
theorem dL_law_2152 : decode cL_law 2152 = .ok (.laload, 1) := dk_47 cL_2152
theorem dL_law_2153 : decode cL_law 2153 = .ok (.iload 7, 2) := dk_21 cL_2153 cL_2154
theorem dL_law_2155 : decode cL_law 2155 = .ok (.i2l, 1) := dk_133 cL_2155
theorem dL_law_2156 : decode cL_law 2156 = .ok (.lcmp, 1) := dk_148 cL_2156
theorem dL_law_2157 : decode cL_law 2157 = .ok (.ifCond .eq 5, 3) := dk_153 cL_2157 cL_2158 cL_2159 (by decide +kernel)
theorem dL_law_2160 : decode cL_law 2160 = .ok (.iconst 0, 1) := dk_3 cL_2160
theorem dL_law_2161 : decode cL_law 2161 = .ok (.ireturn, 1) := dk_172 cL_2161
theorem dL_law_2162 : decode cL_law 2162 = .ok (.goto 1455, 3) := dk_167 cL_2162 cL_2163 cL_2164 (by decide +kernel)
theorem dL_law_2165 : decode cL_law 2165 = .ok (.aload_n 1, 1) := dk_43 cL_2165
theorem dL_law_2166 : decode cL_law 2166 = .ok (.aload_n 0, 1) := dk_42 cL_2166
theorem dL_law_2167 : decode cL_law 2167 = .ok (.iload 5, 2) := dk_21 cL_2167 cL_2168
theorem dL_law_2169 : decode cL_law 2169 = .ok (.iconst 1, 1) := dk_4 cL_2169
theorem dL_law_2170 : decode cL_law 2170 = .ok (.iadd, 1) := dk_96 cL_2170
theorem dL_law_2171 : decode cL_law 2171 = .ok (.iaload, 1) := dk_46 cL_2171
theorem dL_law_2172 : decode cL_law 2172 = .ok (.aload_n 3, 1) := dk_45 cL_2172
theorem dL_law_2173 : decode cL_law 2173 = .ok (.invokestatic 298, 3) := dk_184 cL_2173 cL_2174 cL_2175 (by decide +kernel)
theorem dL_law_2176 : decode cL_law 2176 = .ok (.istore 6, 2) := dk_54 cL_2176 cL_2177
theorem dL_law_2178 : decode cL_law 2178 = .ok (.aload_n 2, 1) := dk_44 cL_2178
theorem dL_law_2179 : decode cL_law 2179 = .ok (.aload_n 0, 1) := dk_42 cL_2179
theorem dL_law_2180 : decode cL_law 2180 = .ok (.iload 5, 2) := dk_21 cL_2180 cL_2181
theorem dL_law_2182 : decode cL_law 2182 = .ok (.iconst 1, 1) := dk_4 cL_2182
theorem dL_law_2183 : decode cL_law 2183 = .ok (.iadd, 1) := dk_96 cL_2183
theorem dL_law_2184 : decode cL_law 2184 = .ok (.iaload, 1) := dk_46 cL_2184
theorem dL_law_2185 : decode cL_law 2185 = .ok (.invokevirtual 300, 3) := dk_182 cL_2185 cL_2186 cL_2187 (by decide +kernel)
theorem dL_law_2188 : decode cL_law 2188 = .ok (.istore 7, 2) := dk_54 cL_2188 cL_2189
theorem dL_law_2190 : decode cL_law 2190 = .ok (.aload_n 2, 1) := dk_44 cL_2190
theorem dL_law_2191 : decode cL_law 2191 = .ok (.invokevirtual 204, 3) := dk_182 cL_2191 cL_2192 cL_2193 (by decide +kernel)
theorem dL_law_2194 : decode cL_law 2194 = .ok (.iload 6, 2) := dk_21 cL_2194 cL_2195
theorem dL_law_2196 : decode cL_law 2196 = .ok (.if_icmp .eq 5, 3) := dk_159 cL_2196 cL_2197 cL_2198 (by decide +kernel)
theorem dL_law_2199 : decode cL_law 2199 = .ok (.iconst 0, 1) := dk_3 cL_2199
theorem dL_law_2200 : decode cL_law 2200 = .ok (.ireturn, 1) := dk_172 cL_2200
theorem dL_law_2201 : decode cL_law 2201 = .ok (.iload 6, 2) := dk_21 cL_2201 cL_2202
theorem dL_law_2203 : decode cL_law 2203 = .ok (.ifCond .ne 15, 3) := dk_154 cL_2203 cL_2204 cL_2205 (by decide +kernel)
theorem dL_law_2206 : decode cL_law 2206 = .ok (.aload_n 3, 1) := dk_45 cL_2206
theorem dL_law_2207 : decode cL_law 2207 = .ok (.iconst 0, 1) := dk_3 cL_2207
theorem dL_law_2208 : decode cL_law 2208 = .ok (.laload, 1) := dk_47 cL_2208
theorem dL_law_2209 : decode cL_law 2209 = .ok (.iload 7, 2) := dk_21 cL_2209 cL_2210
theorem dL_law_2211 : decode cL_law 2211 = .ok (.i2l, 1) := dk_133 cL_2211
theorem dL_law_2212 : decode cL_law 2212 = .ok (.lcmp, 1) := dk_148 cL_2212
theorem dL_law_2213 : decode cL_law 2213 = .ok (.ifCond .eq 5, 3) := dk_153 cL_2213 cL_2214 cL_2215 (by decide +kernel)
theorem dL_law_2216 : decode cL_law 2216 = .ok (.iconst 0, 1) := dk_3 cL_2216
theorem dL_law_2217 : decode cL_law 2217 = .ok (.ireturn, 1) := dk_172 cL_2217
theorem dL_law_2218 : decode cL_law 2218 = .ok (.goto 1399, 3) := dk_167 cL_2218 cL_2219 cL_2220 (by decide +kernel)
theorem dL_law_2221 : decode cL_law 2221 = .ok (.aload_n 1, 1) := dk_43 cL_2221
theorem dL_law_2222 : decode cL_law 2222 = .ok (.aload_n 0, 1) := dk_42 cL_2222
theorem dL_law_2223 : decode cL_law 2223 = .ok (.iload 5, 2) := dk_21 cL_2223 cL_2224
theorem dL_law_2225 : decode cL_law 2225 = .ok (.iconst 1, 1) := dk_4 cL_2225
theorem dL_law_2226 : decode cL_law 2226 = .ok (.iadd, 1) := dk_96 cL_2226
theorem dL_law_2227 : decode cL_law 2227 = .ok (.iaload, 1) := dk_46 cL_2227
theorem dL_law_2228 : decode cL_law 2228 = .ok (.aload_n 3, 1) := dk_45 cL_2228
theorem dL_law_2229 : decode cL_law 2229 = .ok (.invokestatic 301, 3) := dk_184 cL_2229 cL_2230 cL_2231 (by decide +kernel)
theorem dL_law_2232 : decode cL_law 2232 = .ok (.istore 6, 2) := dk_54 cL_2232 cL_2233
theorem dL_law_2234 : decode cL_law 2234 = .ok (.aload_n 2, 1) := dk_44 cL_2234
theorem dL_law_2235 : decode cL_law 2235 = .ok (.aload_n 0, 1) := dk_42 cL_2235
theorem dL_law_2236 : decode cL_law 2236 = .ok (.iload 5, 2) := dk_21 cL_2236 cL_2237
theorem dL_law_2238 : decode cL_law 2238 = .ok (.iconst 1, 1) := dk_4 cL_2238
theorem dL_law_2239 : decode cL_law 2239 = .ok (.iadd, 1) := dk_96 cL_2239
theorem dL_law_2240 : decode cL_law 2240 = .ok (.iaload, 1) := dk_46 cL_2240
theorem dL_law_2241 : decode cL_law 2241 = .ok (.invokevirtual 303, 3) := dk_182 cL_2241 cL_2242 cL_2243 (by decide +kernel)
theorem dL_law_2244 : decode cL_law 2244 = .ok (.istore 7, 2) := dk_54 cL_2244 cL_2245
theorem dL_law_2246 : decode cL_law 2246 = .ok (.aload_n 2, 1) := dk_44 cL_2246
theorem dL_law_2247 : decode cL_law 2247 = .ok (.invokevirtual 204, 3) := dk_182 cL_2247 cL_2248 cL_2249 (by decide +kernel)
theorem dL_law_2250 : decode cL_law 2250 = .ok (.iload 6, 2) := dk_21 cL_2250 cL_2251
theorem dL_law_2252 : decode cL_law 2252 = .ok (.if_icmp .eq 5, 3) := dk_159 cL_2252 cL_2253 cL_2254 (by decide +kernel)
theorem dL_law_2255 : decode cL_law 2255 = .ok (.iconst 0, 1) := dk_3 cL_2255
theorem dL_law_2256 : decode cL_law 2256 = .ok (.ireturn, 1) := dk_172 cL_2256
theorem dL_law_2257 : decode cL_law 2257 = .ok (.iload 6, 2) := dk_21 cL_2257 cL_2258
theorem dL_law_2259 : decode cL_law 2259 = .ok (.ifCond .ne 15, 3) := dk_154 cL_2259 cL_2260 cL_2261 (by decide +kernel)
theorem dL_law_2262 : decode cL_law 2262 = .ok (.aload_n 3, 1) := dk_45 cL_2262
theorem dL_law_2263 : decode cL_law 2263 = .ok (.iconst 0, 1) := dk_3 cL_2263
theorem dL_law_2264 : decode cL_law 2264 = .ok (.laload, 1) := dk_47 cL_2264
theorem dL_law_2265 : decode cL_law 2265 = .ok (.iload 7, 2) := dk_21 cL_2265 cL_2266
theorem dL_law_2267 : decode cL_law 2267 = .ok (.i2l, 1) := dk_133 cL_2267
theorem dL_law_2268 : decode cL_law 2268 = .ok (.lcmp, 1) := dk_148 cL_2268
theorem dL_law_2269 : decode cL_law 2269 = .ok (.ifCond .eq 5, 3) := dk_153 cL_2269 cL_2270 cL_2271 (by decide +kernel)
theorem dL_law_2272 : decode cL_law 2272 = .ok (.iconst 0, 1) := dk_3 cL_2272
theorem dL_law_2273 : decode cL_law 2273 = .ok (.ireturn, 1) := dk_172 cL_2273
theorem dL_law_2274 : decode cL_law 2274 = .ok (.goto 1343, 3) := dk_167 cL_2274 cL_2275 cL_2276 (by decide +kernel)
theorem dL_law_2277 : decode cL_law 2277 = .ok (.aload_n 1, 1) := dk_43 cL_2277
theorem dL_law_2278 : decode cL_law 2278 = .ok (.aload_n 0, 1) := dk_42 cL_2278
theorem dL_law_2279 : decode cL_law 2279 = .ok (.iload 5, 2) := dk_21 cL_2279 cL_2280
theorem dL_law_2281 : decode cL_law 2281 = .ok (.iconst 1, 1) := dk_4 cL_2281
theorem dL_law_2282 : decode cL_law 2282 = .ok (.iadd, 1) := dk_96 cL_2282
theorem dL_law_2283 : decode cL_law 2283 = .ok (.iaload, 1) := dk_46 cL_2283
theorem dL_law_2284 : decode cL_law 2284 = .ok (.aload 4, 2) := dk_25 cL_2284 cL_2285
theorem dL_law_2286 : decode cL_law 2286 = .ok (.invokestatic 304, 3) := dk_184 cL_2286 cL_2287 cL_2288 (by decide +kernel)
theorem dL_law_2289 : decode cL_law 2289 = .ok (.istore 6, 2) := dk_54 cL_2289 cL_2290
theorem dL_law_2291 : decode cL_law 2291 = .ok (.aload_n 2, 1) := dk_44 cL_2291
theorem dL_law_2292 : decode cL_law 2292 = .ok (.aload_n 0, 1) := dk_42 cL_2292
theorem dL_law_2293 : decode cL_law 2293 = .ok (.iload 5, 2) := dk_21 cL_2293 cL_2294
theorem dL_law_2295 : decode cL_law 2295 = .ok (.iconst 1, 1) := dk_4 cL_2295
theorem dL_law_2296 : decode cL_law 2296 = .ok (.iadd, 1) := dk_96 cL_2296
theorem dL_law_2297 : decode cL_law 2297 = .ok (.iaload, 1) := dk_46 cL_2297
theorem dL_law_2298 : decode cL_law 2298 = .ok (.invokevirtual 306, 3) := dk_182 cL_2298 cL_2299 cL_2300 (by decide +kernel)
theorem dL_law_2301 : decode cL_law 2301 = .ok (.dstore 7, 2) := dk_57 cL_2301 cL_2302
theorem dL_law_2303 : decode cL_law 2303 = .ok (.aload_n 2, 1) := dk_44 cL_2303
theorem dL_law_2304 : decode cL_law 2304 = .ok (.invokevirtual 204, 3) := dk_182 cL_2304 cL_2305 cL_2306 (by decide +kernel)
theorem dL_law_2307 : decode cL_law 2307 = .ok (.iload 6, 2) := dk_21 cL_2307 cL_2308
theorem dL_law_2309 : decode cL_law 2309 = .ok (.if_icmp .eq 5, 3) := dk_159 cL_2309 cL_2310 cL_2311 (by decide +kernel)
theorem dL_law_2312 : decode cL_law 2312 = .ok (.iconst 0, 1) := dk_3 cL_2312
theorem dL_law_2313 : decode cL_law 2313 = .ok (.ireturn, 1) := dk_172 cL_2313
theorem dL_law_2314 : decode cL_law 2314 = .ok (.iload 6, 2) := dk_21 cL_2314 cL_2315
theorem dL_law_2316 : decode cL_law 2316 = .ok (.ifCond .ne 35, 3) := dk_154 cL_2316 cL_2317 cL_2318 (by decide +kernel)
theorem dL_law_2319 : decode cL_law 2319 = .ok (.aload 4, 2) := dk_25 cL_2319 cL_2320
theorem dL_law_2321 : decode cL_law 2321 = .ok (.iconst 0, 1) := dk_3 cL_2321
theorem dL_law_2322 : decode cL_law 2322 = .ok (.daload, 1) := dk_49 cL_2322
theorem dL_law_2323 : decode cL_law 2323 = .ok (.dload 7, 2) := dk_24 cL_2323 cL_2324
theorem dL_law_2325 : decode cL_law 2325 = .ok (.dcmp .l, 1) := dk_151 cL_2325
theorem dL_law_2326 : decode cL_law 2326 = .ok (.ifCond .eq 25, 3) := dk_153 cL_2326 cL_2327 cL_2328 (by decide +kernel)
theorem dL_law_2329 : decode cL_law 2329 = .ok (.aload 4, 2) := dk_25 cL_2329 cL_2330
theorem dL_law_2331 : decode cL_law 2331 = .ok (.iconst 0, 1) := dk_3 cL_2331
theorem dL_law_2332 : decode cL_law 2332 = .ok (.daload, 1) := dk_49 cL_2332
theorem dL_law_2333 : decode cL_law 2333 = .ok (.aload 4, 2) := dk_25 cL_2333 cL_2334
theorem dL_law_2335 : decode cL_law 2335 = .ok (.iconst 0, 1) := dk_3 cL_2335
theorem dL_law_2336 : decode cL_law 2336 = .ok (.daload, 1) := dk_49 cL_2336
theorem dL_law_2337 : decode cL_law 2337 = .ok (.dcmp .l, 1) := dk_151 cL_2337
theorem dL_law_2338 : decode cL_law 2338 = .ok (.ifCond .eq 11, 3) := dk_153 cL_2338 cL_2339 cL_2340 (by decide +kernel)
theorem dL_law_2341 : decode cL_law 2341 = .ok (.dload 7, 2) := dk_24 cL_2341 cL_2342
theorem dL_law_2343 : decode cL_law 2343 = .ok (.dload 7, 2) := dk_24 cL_2343 cL_2344
theorem dL_law_2345 : decode cL_law 2345 = .ok (.dcmp .l, 1) := dk_151 cL_2345
theorem dL_law_2346 : decode cL_law 2346 = .ok (.ifCond .ne 5, 3) := dk_154 cL_2346 cL_2347 cL_2348 (by decide +kernel)
theorem dL_law_2349 : decode cL_law 2349 = .ok (.iconst 0, 1) := dk_3 cL_2349
theorem dL_law_2350 : decode cL_law 2350 = .ok (.ireturn, 1) := dk_172 cL_2350
theorem dL_law_2351 : decode cL_law 2351 = .ok (.goto 1266, 3) := dk_167 cL_2351 cL_2352 cL_2353 (by decide +kernel)
theorem dL_law_2354 : decode cL_law 2354 = .ok (.aload_n 1, 1) := dk_43 cL_2354
theorem dL_law_2355 : decode cL_law 2355 = .ok (.aload_n 0, 1) := dk_42 cL_2355
theorem dL_law_2356 : decode cL_law 2356 = .ok (.iload 5, 2) := dk_21 cL_2356 cL_2357
theorem dL_law_2358 : decode cL_law 2358 = .ok (.iconst 1, 1) := dk_4 cL_2358
theorem dL_law_2359 : decode cL_law 2359 = .ok (.iadd, 1) := dk_96 cL_2359
theorem dL_law_2360 : decode cL_law 2360 = .ok (.iaload, 1) := dk_46 cL_2360
theorem dL_law_2361 : decode cL_law 2361 = .ok (.aload_n 0, 1) := dk_42 cL_2361
theorem dL_law_2362 : decode cL_law 2362 = .ok (.iload 5, 2) := dk_21 cL_2362 cL_2363
theorem dL_law_2364 : decode cL_law 2364 = .ok (.iconst 2, 1) := dk_5 cL_2364
theorem dL_law_2365 : decode cL_law 2365 = .ok (.iadd, 1) := dk_96 cL_2365
theorem dL_law_2366 : decode cL_law 2366 = .ok (.iaload, 1) := dk_46 cL_2366
theorem dL_law_2367 : decode cL_law 2367 = .ok (.aload_n 0, 1) := dk_42 cL_2367
theorem dL_law_2368 : decode cL_law 2368 = .ok (.iload 5, 2) := dk_21 cL_2368 cL_2369
theorem dL_law_2370 : decode cL_law 2370 = .ok (.iconst 3, 1) := dk_6 cL_2370
theorem dL_law_2371 : decode cL_law 2371 = .ok (.iadd, 1) := dk_96 cL_2371
theorem dL_law_2372 : decode cL_law 2372 = .ok (.iaload, 1) := dk_46 cL_2372
theorem dL_law_2373 : decode cL_law 2373 = .ok (.aload_n 3, 1) := dk_45 cL_2373
theorem dL_law_2374 : decode cL_law 2374 = .ok (.invokestatic 307, 3) := dk_184 cL_2374 cL_2375 cL_2376 (by decide +kernel)
theorem dL_law_2377 : decode cL_law 2377 = .ok (.istore 6, 2) := dk_54 cL_2377 cL_2378
theorem dL_law_2379 : decode cL_law 2379 = .ok (.aload_n 2, 1) := dk_44 cL_2379
theorem dL_law_2380 : decode cL_law 2380 = .ok (.aload_n 0, 1) := dk_42 cL_2380
theorem dL_law_2381 : decode cL_law 2381 = .ok (.iload 5, 2) := dk_21 cL_2381 cL_2382
theorem dL_law_2383 : decode cL_law 2383 = .ok (.iconst 1, 1) := dk_4 cL_2383
theorem dL_law_2384 : decode cL_law 2384 = .ok (.iadd, 1) := dk_96 cL_2384
theorem dL_law_2385 : decode cL_law 2385 = .ok (.iaload, 1) := dk_46 cL_2385
theorem dL_law_2386 : decode cL_law 2386 = .ok (.aload_n 0, 1) := dk_42 cL_2386
theorem dL_law_2387 : decode cL_law 2387 = .ok (.iload 5, 2) := dk_21 cL_2387 cL_2388
theorem dL_law_2389 : decode cL_law 2389 = .ok (.iconst 2, 1) := dk_5 cL_2389
theorem dL_law_2390 : decode cL_law 2390 = .ok (.iadd, 1) := dk_96 cL_2390
theorem dL_law_2391 : decode cL_law 2391 = .ok (.iaload, 1) := dk_46 cL_2391
theorem dL_law_2392 : decode cL_law 2392 = .ok (.aload_n 0, 1) := dk_42 cL_2392
theorem dL_law_2393 : decode cL_law 2393 = .ok (.iload 5, 2) := dk_21 cL_2393 cL_2394
theorem dL_law_2395 : decode cL_law 2395 = .ok (.iconst 3, 1) := dk_6 cL_2395
theorem dL_law_2396 : decode cL_law 2396 = .ok (.iadd, 1) := dk_96 cL_2396
theorem dL_law_2397 : decode cL_law 2397 = .ok (.iaload, 1) := dk_46 cL_2397
theorem dL_law_2398 : decode cL_law 2398 = .ok (.invokevirtual 309, 3) := dk_182 cL_2398 cL_2399 cL_2400 (by decide +kernel)
theorem dL_law_2401 : decode cL_law 2401 = .ok (.istore 7, 2) := dk_54 cL_2401 cL_2402
theorem dL_law_2403 : decode cL_law 2403 = .ok (.aload_n 2, 1) := dk_44 cL_2403
theorem dL_law_2404 : decode cL_law 2404 = .ok (.invokevirtual 204, 3) := dk_182 cL_2404 cL_2405 cL_2406 (by decide +kernel)
theorem dL_law_2407 : decode cL_law 2407 = .ok (.iload 6, 2) := dk_21 cL_2407 cL_2408
theorem dL_law_2409 : decode cL_law 2409 = .ok (.if_icmp .eq 5, 3) := dk_159 cL_2409 cL_2410 cL_2411 (by decide +kernel)
theorem dL_law_2412 : decode cL_law 2412 = .ok (.iconst 0, 1) := dk_3 cL_2412
theorem dL_law_2413 : decode cL_law 2413 = .ok (.ireturn, 1) := dk_172 cL_2413
theorem dL_law_2414 : decode cL_law 2414 = .ok (.iload 6, 2) := dk_21 cL_2414 cL_2415
theorem dL_law_2416 : decode cL_law 2416 = .ok (.ifCond .ne 15, 3) := dk_154 cL_2416 cL_2417 cL_2418 (by decide +kernel)
theorem dL_law_2419 : decode cL_law 2419 = .ok (.aload_n 3, 1) := dk_45 cL_2419
theorem dL_law_2420 : decode cL_law 2420 = .ok (.iconst 0, 1) := dk_3 cL_2420
theorem dL_law_2421 : decode cL_law 2421 = .ok (.laload, 1) := dk_47 cL_2421
theorem dL_law_2422 : decode cL_law 2422 = .ok (.iload 7, 2) := dk_21 cL_2422 cL_2423
theorem dL_law_2424 : decode cL_law 2424 = .ok (.i2l, 1) := dk_133 cL_2424
theorem dL_law_2425 : decode cL_law 2425 = .ok (.lcmp, 1) := dk_148 cL_2425
theorem dL_law_2426 : decode cL_law 2426 = .ok (.ifCond .eq 5, 3) := dk_153 cL_2426 cL_2427 cL_2428 (by decide +kernel)
theorem dL_law_2429 : decode cL_law 2429 = .ok (.iconst 0, 1) := dk_3 cL_2429
theorem dL_law_2430 : decode cL_law 2430 = .ok (.ireturn, 1) := dk_172 cL_2430
theorem dL_law_2431 : decode cL_law 2431 = .ok (.goto 1186, 3) := dk_167 cL_2431 cL_2432 cL_2433 (by decide +kernel)
theorem dL_law_2434 : decode cL_law 2434 = .ok (.aload_n 1, 1) := dk_43 cL_2434
theorem dL_law_2435 : decode cL_law 2435 = .ok (.aload_n 0, 1) := dk_42 cL_2435
theorem dL_law_2436 : decode cL_law 2436 = .ok (.iload 5, 2) := dk_21 cL_2436 cL_2437
theorem dL_law_2438 : decode cL_law 2438 = .ok (.iconst 1, 1) := dk_4 cL_2438
theorem dL_law_2439 : decode cL_law 2439 = .ok (.iadd, 1) := dk_96 cL_2439
theorem dL_law_2440 : decode cL_law 2440 = .ok (.iaload, 1) := dk_46 cL_2440
theorem dL_law_2441 : decode cL_law 2441 = .ok (.aload_n 0, 1) := dk_42 cL_2441
theorem dL_law_2442 : decode cL_law 2442 = .ok (.iload 5, 2) := dk_21 cL_2442 cL_2443
theorem dL_law_2444 : decode cL_law 2444 = .ok (.iconst 2, 1) := dk_5 cL_2444
theorem dL_law_2445 : decode cL_law 2445 = .ok (.iadd, 1) := dk_96 cL_2445
theorem dL_law_2446 : decode cL_law 2446 = .ok (.iaload, 1) := dk_46 cL_2446
theorem dL_law_2447 : decode cL_law 2447 = .ok (.aload_n 0, 1) := dk_42 cL_2447
theorem dL_law_2448 : decode cL_law 2448 = .ok (.iload 5, 2) := dk_21 cL_2448 cL_2449
theorem dL_law_2450 : decode cL_law 2450 = .ok (.iconst 3, 1) := dk_6 cL_2450
theorem dL_law_2451 : decode cL_law 2451 = .ok (.iadd, 1) := dk_96 cL_2451
theorem dL_law_2452 : decode cL_law 2452 = .ok (.iaload, 1) := dk_46 cL_2452
theorem dL_law_2453 : decode cL_law 2453 = .ok (.aload_n 3, 1) := dk_45 cL_2453
theorem dL_law_2454 : decode cL_law 2454 = .ok (.invokestatic 310, 3) := dk_184 cL_2454 cL_2455 cL_2456 (by decide +kernel)
theorem dL_law_2457 : decode cL_law 2457 = .ok (.istore 6, 2) := dk_54 cL_2457 cL_2458
theorem dL_law_2459 : decode cL_law 2459 = .ok (.aload_n 2, 1) := dk_44 cL_2459
theorem dL_law_2460 : decode cL_law 2460 = .ok (.aload_n 0, 1) := dk_42 cL_2460
theorem dL_law_2461 : decode cL_law 2461 = .ok (.iload 5, 2) := dk_21 cL_2461 cL_2462
theorem dL_law_2463 : decode cL_law 2463 = .ok (.iconst 1, 1) := dk_4 cL_2463
theorem dL_law_2464 : decode cL_law 2464 = .ok (.iadd, 1) := dk_96 cL_2464
theorem dL_law_2465 : decode cL_law 2465 = .ok (.iaload, 1) := dk_46 cL_2465
theorem dL_law_2466 : decode cL_law 2466 = .ok (.aload_n 0, 1) := dk_42 cL_2466
theorem dL_law_2467 : decode cL_law 2467 = .ok (.iload 5, 2) := dk_21 cL_2467 cL_2468
theorem dL_law_2469 : decode cL_law 2469 = .ok (.iconst 2, 1) := dk_5 cL_2469
theorem dL_law_2470 : decode cL_law 2470 = .ok (.iadd, 1) := dk_96 cL_2470
theorem dL_law_2471 : decode cL_law 2471 = .ok (.iaload, 1) := dk_46 cL_2471
theorem dL_law_2472 : decode cL_law 2472 = .ok (.aload_n 0, 1) := dk_42 cL_2472
theorem dL_law_2473 : decode cL_law 2473 = .ok (.iload 5, 2) := dk_21 cL_2473 cL_2474
theorem dL_law_2475 : decode cL_law 2475 = .ok (.iconst 3, 1) := dk_6 cL_2475
theorem dL_law_2476 : decode cL_law 2476 = .ok (.iadd, 1) := dk_96 cL_2476
theorem dL_law_2477 : decode cL_law 2477 = .ok (.iaload, 1) := dk_46 cL_2477
theorem dL_law_2478 : decode cL_law 2478 = .ok (.invokevirtual 312, 3) := dk_182 cL_2478 cL_2479 cL_2480 (by decide +kernel)
theorem dL_law_2481 : decode cL_law 2481 = .ok (.istore 7, 2) := dk_54 cL_2481 cL_2482
theorem dL_law_2483 : decode cL_law 2483 = .ok (.aload_n 2, 1) := dk_44 cL_2483
theorem dL_law_2484 : decode cL_law 2484 = .ok (.invokevirtual 204, 3) := dk_182 cL_2484 cL_2485 cL_2486 (by decide +kernel)
theorem dL_law_2487 : decode cL_law 2487 = .ok (.iload 6, 2) := dk_21 cL_2487 cL_2488
theorem dL_law_2489 : decode cL_law 2489 = .ok (.if_icmp .eq 5, 3) := dk_159 cL_2489 cL_2490 cL_2491 (by decide +kernel)
theorem dL_law_2492 : decode cL_law 2492 = .ok (.iconst 0, 1) := dk_3 cL_2492
theorem dL_law_2493 : decode cL_law 2493 = .ok (.ireturn, 1) := dk_172 cL_2493
theorem dL_law_2494 : decode cL_law 2494 = .ok (.iload 6, 2) := dk_21 cL_2494 cL_2495
theorem dL_law_2496 : decode cL_law 2496 = .ok (.ifCond .ne 22, 3) := dk_154 cL_2496 cL_2497 cL_2498 (by decide +kernel)
theorem dL_law_2499 : decode cL_law 2499 = .ok (.aload_n 3, 1) := dk_45 cL_2499
theorem dL_law_2500 : decode cL_law 2500 = .ok (.iconst 0, 1) := dk_3 cL_2500
theorem dL_law_2501 : decode cL_law 2501 = .ok (.laload, 1) := dk_47 cL_2501
theorem dL_law_2502 : decode cL_law 2502 = .ok (.iload 7, 2) := dk_21 cL_2502 cL_2503
theorem dL_law_2504 : decode cL_law 2504 = .ok (.ifCond .eq 7, 3) := dk_153 cL_2504 cL_2505 cL_2506 (by decide +kernel)
theorem dL_law_2507 : decode cL_law 2507 = .ok (.lconst 1, 1) := dk_10 cL_2507
theorem dL_law_2508 : decode cL_law 2508 = .ok (.goto 4, 3) := dk_167 cL_2508 cL_2509 cL_2510 (by decide +kernel)
theorem dL_law_2511 : decode cL_law 2511 = .ok (.lconst 0, 1) := dk_9 cL_2511
theorem dL_law_2512 : decode cL_law 2512 = .ok (.lcmp, 1) := dk_148 cL_2512
theorem dL_law_2513 : decode cL_law 2513 = .ok (.ifCond .eq 5, 3) := dk_153 cL_2513 cL_2514 cL_2515 (by decide +kernel)
theorem dL_law_2516 : decode cL_law 2516 = .ok (.iconst 0, 1) := dk_3 cL_2516
theorem dL_law_2517 : decode cL_law 2517 = .ok (.ireturn, 1) := dk_172 cL_2517
theorem dL_law_2518 : decode cL_law 2518 = .ok (.goto 1099, 3) := dk_167 cL_2518 cL_2519 cL_2520 (by decide +kernel)
theorem dL_law_2521 : decode cL_law 2521 = .ok (.aload_n 1, 1) := dk_43 cL_2521
theorem dL_law_2522 : decode cL_law 2522 = .ok (.aload_n 0, 1) := dk_42 cL_2522
theorem dL_law_2523 : decode cL_law 2523 = .ok (.iload 5, 2) := dk_21 cL_2523 cL_2524
theorem dL_law_2525 : decode cL_law 2525 = .ok (.iconst 1, 1) := dk_4 cL_2525
theorem dL_law_2526 : decode cL_law 2526 = .ok (.iadd, 1) := dk_96 cL_2526
theorem dL_law_2527 : decode cL_law 2527 = .ok (.iaload, 1) := dk_46 cL_2527
theorem dL_law_2528 : decode cL_law 2528 = .ok (.aload_n 3, 1) := dk_45 cL_2528
theorem dL_law_2529 : decode cL_law 2529 = .ok (.invokestatic 313, 3) := dk_184 cL_2529 cL_2530 cL_2531 (by decide +kernel)
theorem dL_law_2532 : decode cL_law 2532 = .ok (.istore 6, 2) := dk_54 cL_2532 cL_2533
theorem dL_law_2534 : decode cL_law 2534 = .ok (.aload_n 2, 1) := dk_44 cL_2534
theorem dL_law_2535 : decode cL_law 2535 = .ok (.aload_n 0, 1) := dk_42 cL_2535
theorem dL_law_2536 : decode cL_law 2536 = .ok (.iload 5, 2) := dk_21 cL_2536 cL_2537
theorem dL_law_2538 : decode cL_law 2538 = .ok (.iconst 1, 1) := dk_4 cL_2538
theorem dL_law_2539 : decode cL_law 2539 = .ok (.iadd, 1) := dk_96 cL_2539
theorem dL_law_2540 : decode cL_law 2540 = .ok (.iaload, 1) := dk_46 cL_2540
theorem dL_law_2541 : decode cL_law 2541 = .ok (.invokevirtual 315, 3) := dk_182 cL_2541 cL_2542 cL_2543 (by decide +kernel)
theorem dL_law_2544 : decode cL_law 2544 = .ok (.istore 7, 2) := dk_54 cL_2544 cL_2545
theorem dL_law_2546 : decode cL_law 2546 = .ok (.aload_n 2, 1) := dk_44 cL_2546
theorem dL_law_2547 : decode cL_law 2547 = .ok (.invokevirtual 204, 3) := dk_182 cL_2547 cL_2548 cL_2549 (by decide +kernel)
theorem dL_law_2550 : decode cL_law 2550 = .ok (.iload 6, 2) := dk_21 cL_2550 cL_2551
theorem dL_law_2552 : decode cL_law 2552 = .ok (.if_icmp .eq 5, 3) := dk_159 cL_2552 cL_2553 cL_2554 (by decide +kernel)
theorem dL_law_2555 : decode cL_law 2555 = .ok (.iconst 0, 1) := dk_3 cL_2555
theorem dL_law_2556 : decode cL_law 2556 = .ok (.ireturn, 1) := dk_172 cL_2556
theorem dL_law_2557 : decode cL_law 2557 = .ok (.iload 6, 2) := dk_21 cL_2557 cL_2558
theorem dL_law_2559 : decode cL_law 2559 = .ok (.ifCond .ne 15, 3) := dk_154 cL_2559 cL_2560 cL_2561 (by decide +kernel)
theorem dL_law_2562 : decode cL_law 2562 = .ok (.aload_n 3, 1) := dk_45 cL_2562
theorem dL_law_2563 : decode cL_law 2563 = .ok (.iconst 0, 1) := dk_3 cL_2563
theorem dL_law_2564 : decode cL_law 2564 = .ok (.laload, 1) := dk_47 cL_2564
theorem dL_law_2565 : decode cL_law 2565 = .ok (.iload 7, 2) := dk_21 cL_2565 cL_2566
theorem dL_law_2567 : decode cL_law 2567 = .ok (.i2l, 1) := dk_133 cL_2567
theorem dL_law_2568 : decode cL_law 2568 = .ok (.lcmp, 1) := dk_148 cL_2568
theorem dL_law_2569 : decode cL_law 2569 = .ok (.ifCond .eq 5, 3) := dk_153 cL_2569 cL_2570 cL_2571 (by decide +kernel)
theorem dL_law_2572 : decode cL_law 2572 = .ok (.iconst 0, 1) := dk_3 cL_2572
theorem dL_law_2573 : decode cL_law 2573 = .ok (.ireturn, 1) := dk_172 cL_2573
theorem dL_law_2574 : decode cL_law 2574 = .ok (.goto 1043, 3) := dk_167 cL_2574 cL_2575 cL_2576 (by decide +kernel)
theorem dL_law_2577 : decode cL_law 2577 = .ok (.aload_n 1, 1) := dk_43 cL_2577
theorem dL_law_2578 : decode cL_law 2578 = .ok (.aload_n 0, 1) := dk_42 cL_2578
theorem dL_law_2579 : decode cL_law 2579 = .ok (.iload 5, 2) := dk_21 cL_2579 cL_2580
theorem dL_law_2581 : decode cL_law 2581 = .ok (.iconst 1, 1) := dk_4 cL_2581
theorem dL_law_2582 : decode cL_law 2582 = .ok (.iadd, 1) := dk_96 cL_2582
theorem dL_law_2583 : decode cL_law 2583 = .ok (.iaload, 1) := dk_46 cL_2583
theorem dL_law_2584 : decode cL_law 2584 = .ok (.aload_n 3, 1) := dk_45 cL_2584
theorem dL_law_2585 : decode cL_law 2585 = .ok (.invokestatic 316, 3) := dk_184 cL_2585 cL_2586 cL_2587 (by decide +kernel)
theorem dL_law_2588 : decode cL_law 2588 = .ok (.istore 6, 2) := dk_54 cL_2588 cL_2589
theorem dL_law_2590 : decode cL_law 2590 = .ok (.aload_n 2, 1) := dk_44 cL_2590
theorem dL_law_2591 : decode cL_law 2591 = .ok (.aload_n 0, 1) := dk_42 cL_2591
theorem dL_law_2592 : decode cL_law 2592 = .ok (.iload 5, 2) := dk_21 cL_2592 cL_2593
theorem dL_law_2594 : decode cL_law 2594 = .ok (.iconst 1, 1) := dk_4 cL_2594
theorem dL_law_2595 : decode cL_law 2595 = .ok (.iadd, 1) := dk_96 cL_2595
theorem dL_law_2596 : decode cL_law 2596 = .ok (.iaload, 1) := dk_46 cL_2596
theorem dL_law_2597 : decode cL_law 2597 = .ok (.invokevirtual 318, 3) := dk_182 cL_2597 cL_2598 cL_2599 (by decide +kernel)
theorem dL_law_2600 : decode cL_law 2600 = .ok (.istore 7, 2) := dk_54 cL_2600 cL_2601
theorem dL_law_2602 : decode cL_law 2602 = .ok (.aload_n 2, 1) := dk_44 cL_2602
theorem dL_law_2603 : decode cL_law 2603 = .ok (.invokevirtual 204, 3) := dk_182 cL_2603 cL_2604 cL_2605 (by decide +kernel)
theorem dL_law_2606 : decode cL_law 2606 = .ok (.iload 6, 2) := dk_21 cL_2606 cL_2607
theorem dL_law_2608 : decode cL_law 2608 = .ok (.if_icmp .eq 5, 3) := dk_159 cL_2608 cL_2609 cL_2610 (by decide +kernel)
theorem dL_law_2611 : decode cL_law 2611 = .ok (.iconst 0, 1) := dk_3 cL_2611
theorem dL_law_2612 : decode cL_law 2612 = .ok (.ireturn, 1) := dk_172 cL_2612
theorem dL_law_2613 : decode cL_law 2613 = .ok (.iload 6, 2) := dk_21 cL_2613 cL_2614
theorem dL_law_2615 : decode cL_law 2615 = .ok (.ifCond .ne 15, 3) := dk_154 cL_2615 cL_2616 cL_2617 (by decide +kernel)
theorem dL_law_2618 : decode cL_law 2618 = .ok (.aload_n 3, 1) := dk_45 cL_2618
theorem dL_law_2619 : decode cL_law 2619 = .ok (.iconst 0, 1) := dk_3 cL_2619
theorem dL_law_2620 : decode cL_law 2620 = .ok (.laload, 1) := dk_47 cL_2620
theorem dL_law_2621 : decode cL_law 2621 = .ok (.iload 7, 2) := dk_21 cL_2621 cL_2622
theorem dL_law_2623 : decode cL_law 2623 = .ok (.i2l, 1) := dk_133 cL_2623
theorem dL_law_2624 : decode cL_law 2624 = .ok (.lcmp, 1) := dk_148 cL_2624
theorem dL_law_2625 : decode cL_law 2625 = .ok (.ifCond .eq 5, 3) := dk_153 cL_2625 cL_2626 cL_2627 (by decide +kernel)
theorem dL_law_2628 : decode cL_law 2628 = .ok (.iconst 0, 1) := dk_3 cL_2628
theorem dL_law_2629 : decode cL_law 2629 = .ok (.ireturn, 1) := dk_172 cL_2629
theorem dL_law_2630 : decode cL_law 2630 = .ok (.goto 987, 3) := dk_167 cL_2630 cL_2631 cL_2632 (by decide +kernel)
theorem dL_law_2633 : decode cL_law 2633 = .ok (.aload_n 1, 1) := dk_43 cL_2633
theorem dL_law_2634 : decode cL_law 2634 = .ok (.aload_n 0, 1) := dk_42 cL_2634
theorem dL_law_2635 : decode cL_law 2635 = .ok (.iload 5, 2) := dk_21 cL_2635 cL_2636
theorem dL_law_2637 : decode cL_law 2637 = .ok (.iconst 1, 1) := dk_4 cL_2637
theorem dL_law_2638 : decode cL_law 2638 = .ok (.iadd, 1) := dk_96 cL_2638
theorem dL_law_2639 : decode cL_law 2639 = .ok (.iaload, 1) := dk_46 cL_2639
theorem dL_law_2640 : decode cL_law 2640 = .ok (.aload_n 3, 1) := dk_45 cL_2640
theorem dL_law_2641 : decode cL_law 2641 = .ok (.invokestatic 319, 3) := dk_184 cL_2641 cL_2642 cL_2643 (by decide +kernel)
theorem dL_law_2644 : decode cL_law 2644 = .ok (.istore 6, 2) := dk_54 cL_2644 cL_2645
theorem dL_law_2646 : decode cL_law 2646 = .ok (.aload_n 2, 1) := dk_44 cL_2646
theorem dL_law_2647 : decode cL_law 2647 = .ok (.aload_n 0, 1) := dk_42 cL_2647
theorem dL_law_2648 : decode cL_law 2648 = .ok (.iload 5, 2) := dk_21 cL_2648 cL_2649
theorem dL_law_2650 : decode cL_law 2650 = .ok (.iconst 1, 1) := dk_4 cL_2650
theorem dL_law_2651 : decode cL_law 2651 = .ok (.iadd, 1) := dk_96 cL_2651
theorem dL_law_2652 : decode cL_law 2652 = .ok (.iaload, 1) := dk_46 cL_2652
theorem dL_law_2653 : decode cL_law 2653 = .ok (.invokevirtual 321, 3) := dk_182 cL_2653 cL_2654 cL_2655 (by decide +kernel)
theorem dL_law_2656 : decode cL_law 2656 = .ok (.istore 7, 2) := dk_54 cL_2656 cL_2657
theorem dL_law_2658 : decode cL_law 2658 = .ok (.aload_n 2, 1) := dk_44 cL_2658
theorem dL_law_2659 : decode cL_law 2659 = .ok (.invokevirtual 204, 3) := dk_182 cL_2659 cL_2660 cL_2661 (by decide +kernel)
theorem dL_law_2662 : decode cL_law 2662 = .ok (.iload 6, 2) := dk_21 cL_2662 cL_2663
theorem dL_law_2664 : decode cL_law 2664 = .ok (.if_icmp .eq 5, 3) := dk_159 cL_2664 cL_2665 cL_2666 (by decide +kernel)
theorem dL_law_2667 : decode cL_law 2667 = .ok (.iconst 0, 1) := dk_3 cL_2667
theorem dL_law_2668 : decode cL_law 2668 = .ok (.ireturn, 1) := dk_172 cL_2668
theorem dL_law_2669 : decode cL_law 2669 = .ok (.iload 6, 2) := dk_21 cL_2669 cL_2670
theorem dL_law_2671 : decode cL_law 2671 = .ok (.ifCond .ne 15, 3) := dk_154 cL_2671 cL_2672 cL_2673 (by decide +kernel)
theorem dL_law_2674 : decode cL_law 2674 = .ok (.aload_n 3, 1) := dk_45 cL_2674
theorem dL_law_2675 : decode cL_law 2675 = .ok (.iconst 0, 1) := dk_3 cL_2675
theorem dL_law_2676 : decode cL_law 2676 = .ok (.laload, 1) := dk_47 cL_2676
theorem dL_law_2677 : decode cL_law 2677 = .ok (.iload 7, 2) := dk_21 cL_2677 cL_2678
theorem dL_law_2679 : decode cL_law 2679 = .ok (.i2l, 1) := dk_133 cL_2679
theorem dL_law_2680 : decode cL_law 2680 = .ok (.lcmp, 1) := dk_148 cL_2680
theorem dL_law_2681 : decode cL_law 2681 = .ok (.ifCond .eq 5, 3) := dk_153 cL_2681 cL_2682 cL_2683 (by decide +kernel)
theorem dL_law_2684 : decode cL_law 2684 = .ok (.iconst 0, 1) := dk_3 cL_2684
theorem dL_law_2685 : decode cL_law 2685 = .ok (.ireturn, 1) := dk_172 cL_2685
theorem dL_law_2686 : decode cL_law 2686 = .ok (.goto 931, 3) := dk_167 cL_2686 cL_2687 cL_2688 (by decide +kernel)
theorem dL_law_2689 : decode cL_law 2689 = .ok (.aload_n 1, 1) := dk_43 cL_2689
theorem dL_law_2690 : decode cL_law 2690 = .ok (.aload_n 0, 1) := dk_42 cL_2690
theorem dL_law_2691 : decode cL_law 2691 = .ok (.iload 5, 2) := dk_21 cL_2691 cL_2692
theorem dL_law_2693 : decode cL_law 2693 = .ok (.iconst 1, 1) := dk_4 cL_2693
theorem dL_law_2694 : decode cL_law 2694 = .ok (.iadd, 1) := dk_96 cL_2694
theorem dL_law_2695 : decode cL_law 2695 = .ok (.iaload, 1) := dk_46 cL_2695
theorem dL_law_2696 : decode cL_law 2696 = .ok (.aload_n 0, 1) := dk_42 cL_2696
theorem dL_law_2697 : decode cL_law 2697 = .ok (.iload 5, 2) := dk_21 cL_2697 cL_2698
theorem dL_law_2699 : decode cL_law 2699 = .ok (.iconst 2, 1) := dk_5 cL_2699
theorem dL_law_2700 : decode cL_law 2700 = .ok (.iadd, 1) := dk_96 cL_2700
theorem dL_law_2701 : decode cL_law 2701 = .ok (.iaload, 1) := dk_46 cL_2701
theorem dL_law_2702 : decode cL_law 2702 = .ok (.aload_n 3, 1) := dk_45 cL_2702
theorem dL_law_2703 : decode cL_law 2703 = .ok (.invokestatic 322, 3) := dk_184 cL_2703 cL_2704 cL_2705 (by decide +kernel)
theorem dL_law_2706 : decode cL_law 2706 = .ok (.istore 6, 2) := dk_54 cL_2706 cL_2707
theorem dL_law_2708 : decode cL_law 2708 = .ok (.aload_n 2, 1) := dk_44 cL_2708
theorem dL_law_2709 : decode cL_law 2709 = .ok (.aload_n 0, 1) := dk_42 cL_2709
theorem dL_law_2710 : decode cL_law 2710 = .ok (.iload 5, 2) := dk_21 cL_2710 cL_2711
theorem dL_law_2712 : decode cL_law 2712 = .ok (.iconst 1, 1) := dk_4 cL_2712
theorem dL_law_2713 : decode cL_law 2713 = .ok (.iadd, 1) := dk_96 cL_2713
theorem dL_law_2714 : decode cL_law 2714 = .ok (.iaload, 1) := dk_46 cL_2714
theorem dL_law_2715 : decode cL_law 2715 = .ok (.aload_n 0, 1) := dk_42 cL_2715
theorem dL_law_2716 : decode cL_law 2716 = .ok (.iload 5, 2) := dk_21 cL_2716 cL_2717
theorem dL_law_2718 : decode cL_law 2718 = .ok (.iconst 2, 1) := dk_5 cL_2718
theorem dL_law_2719 : decode cL_law 2719 = .ok (.iadd, 1) := dk_96 cL_2719
theorem dL_law_2720 : decode cL_law 2720 = .ok (.iaload, 1) := dk_46 cL_2720
theorem dL_law_2721 : decode cL_law 2721 = .ok (.invokevirtual 324, 3) := dk_182 cL_2721 cL_2722 cL_2723 (by decide +kernel)
theorem dL_law_2724 : decode cL_law 2724 = .ok (.istore 7, 2) := dk_54 cL_2724 cL_2725
theorem dL_law_2726 : decode cL_law 2726 = .ok (.aload_n 2, 1) := dk_44 cL_2726
theorem dL_law_2727 : decode cL_law 2727 = .ok (.invokevirtual 204, 3) := dk_182 cL_2727 cL_2728 cL_2729 (by decide +kernel)
theorem dL_law_2730 : decode cL_law 2730 = .ok (.iload 6, 2) := dk_21 cL_2730 cL_2731
theorem dL_law_2732 : decode cL_law 2732 = .ok (.if_icmp .eq 5, 3) := dk_159 cL_2732 cL_2733 cL_2734 (by decide +kernel)
theorem dL_law_2735 : decode cL_law 2735 = .ok (.iconst 0, 1) := dk_3 cL_2735
theorem dL_law_2736 : decode cL_law 2736 = .ok (.ireturn, 1) := dk_172 cL_2736
theorem dL_law_2737 : decode cL_law 2737 = .ok (.iload 6, 2) := dk_21 cL_2737 cL_2738
theorem dL_law_2739 : decode cL_law 2739 = .ok (.ifCond .ne 15, 3) := dk_154 cL_2739 cL_2740 cL_2741 (by decide +kernel)
theorem dL_law_2742 : decode cL_law 2742 = .ok (.aload_n 3, 1) := dk_45 cL_2742
theorem dL_law_2743 : decode cL_law 2743 = .ok (.iconst 0, 1) := dk_3 cL_2743
theorem dL_law_2744 : decode cL_law 2744 = .ok (.laload, 1) := dk_47 cL_2744
theorem dL_law_2745 : decode cL_law 2745 = .ok (.iload 7, 2) := dk_21 cL_2745 cL_2746
theorem dL_law_2747 : decode cL_law 2747 = .ok (.i2l, 1) := dk_133 cL_2747
theorem dL_law_2748 : decode cL_law 2748 = .ok (.lcmp, 1) := dk_148 cL_2748
theorem dL_law_2749 : decode cL_law 2749 = .ok (.ifCond .eq 5, 3) := dk_153 cL_2749 cL_2750 cL_2751 (by decide +kernel)
theorem dL_law_2752 : decode cL_law 2752 = .ok (.iconst 0, 1) := dk_3 cL_2752
theorem dL_law_2753 : decode cL_law 2753 = .ok (.ireturn, 1) := dk_172 cL_2753
theorem dL_law_2754 : decode cL_law 2754 = .ok (.goto 863, 3) := dk_167 cL_2754 cL_2755 cL_2756 (by decide +kernel)
theorem dL_law_2757 : decode cL_law 2757 = .ok (.aload_n 1, 1) := dk_43 cL_2757
theorem dL_law_2758 : decode cL_law 2758 = .ok (.aload_n 0, 1) := dk_42 cL_2758
theorem dL_law_2759 : decode cL_law 2759 = .ok (.iload 5, 2) := dk_21 cL_2759 cL_2760
theorem dL_law_2761 : decode cL_law 2761 = .ok (.iconst 1, 1) := dk_4 cL_2761
theorem dL_law_2762 : decode cL_law 2762 = .ok (.iadd, 1) := dk_96 cL_2762
theorem dL_law_2763 : decode cL_law 2763 = .ok (.iaload, 1) := dk_46 cL_2763
theorem dL_law_2764 : decode cL_law 2764 = .ok (.aload_n 3, 1) := dk_45 cL_2764
theorem dL_law_2765 : decode cL_law 2765 = .ok (.invokestatic 325, 3) := dk_184 cL_2765 cL_2766 cL_2767 (by decide +kernel)
theorem dL_law_2768 : decode cL_law 2768 = .ok (.istore 6, 2) := dk_54 cL_2768 cL_2769
theorem dL_law_2770 : decode cL_law 2770 = .ok (.aload_n 2, 1) := dk_44 cL_2770
theorem dL_law_2771 : decode cL_law 2771 = .ok (.aload_n 0, 1) := dk_42 cL_2771
theorem dL_law_2772 : decode cL_law 2772 = .ok (.iload 5, 2) := dk_21 cL_2772 cL_2773
theorem dL_law_2774 : decode cL_law 2774 = .ok (.iconst 1, 1) := dk_4 cL_2774
theorem dL_law_2775 : decode cL_law 2775 = .ok (.iadd, 1) := dk_96 cL_2775
theorem dL_law_2776 : decode cL_law 2776 = .ok (.iaload, 1) := dk_46 cL_2776
theorem dL_law_2777 : decode cL_law 2777 = .ok (.invokevirtual 327, 3) := dk_182 cL_2777 cL_2778 cL_2779 (by decide +kernel)
theorem dL_law_2780 : decode cL_law 2780 = .ok (.istore 7, 2) := dk_54 cL_2780 cL_2781
theorem dL_law_2782 : decode cL_law 2782 = .ok (.aload_n 2, 1) := dk_44 cL_2782
theorem dL_law_2783 : decode cL_law 2783 = .ok (.invokevirtual 204, 3) := dk_182 cL_2783 cL_2784 cL_2785 (by decide +kernel)
theorem dL_law_2786 : decode cL_law 2786 = .ok (.iload 6, 2) := dk_21 cL_2786 cL_2787
theorem dL_law_2788 : decode cL_law 2788 = .ok (.if_icmp .eq 5, 3) := dk_159 cL_2788 cL_2789 cL_2790 (by decide +kernel)
theorem dL_law_2791 : decode cL_law 2791 = .ok (.iconst 0, 1) := dk_3 cL_2791
theorem dL_law_2792 : decode cL_law 2792 = .ok (.ireturn, 1) := dk_172 cL_2792
theorem dL_law_2793 : decode cL_law 2793 = .ok (.iload 6, 2) := dk_21 cL_2793 cL_2794
theorem dL_law_2795 : decode cL_law 2795 = .ok (.ifCond .ne 15, 3) := dk_154 cL_2795 cL_2796 cL_2797 (by decide +kernel)
theorem dL_law_2798 : decode cL_law 2798 = .ok (.aload_n 3, 1) := dk_45 cL_2798
theorem dL_law_2799 : decode cL_law 2799 = .ok (.iconst 0, 1) := dk_3 cL_2799
theorem dL_law_2800 : decode cL_law 2800 = .ok (.laload, 1) := dk_47 cL_2800
theorem dL_law_2801 : decode cL_law 2801 = .ok (.iload 7, 2) := dk_21 cL_2801 cL_2802
theorem dL_law_2803 : decode cL_law 2803 = .ok (.i2l, 1) := dk_133 cL_2803
theorem dL_law_2804 : decode cL_law 2804 = .ok (.lcmp, 1) := dk_148 cL_2804
theorem dL_law_2805 : decode cL_law 2805 = .ok (.ifCond .eq 5, 3) := dk_153 cL_2805 cL_2806 cL_2807 (by decide +kernel)
theorem dL_law_2808 : decode cL_law 2808 = .ok (.iconst 0, 1) := dk_3 cL_2808
theorem dL_law_2809 : decode cL_law 2809 = .ok (.ireturn, 1) := dk_172 cL_2809
theorem dL_law_2810 : decode cL_law 2810 = .ok (.goto 807, 3) := dk_167 cL_2810 cL_2811 cL_2812 (by decide +kernel)
theorem dL_law_2813 : decode cL_law 2813 = .ok (.aload_n 1, 1) := dk_43 cL_2813
theorem dL_law_2814 : decode cL_law 2814 = .ok (.invokevirtual 328, 3) := dk_182 cL_2814 cL_2815 cL_2816 (by decide +kernel)
theorem dL_law_2817 : decode cL_law 2817 = .ok (.aload_n 2, 1) := dk_44 cL_2817
theorem dL_law_2818 : decode cL_law 2818 = .ok (.invokevirtual 331, 3) := dk_182 cL_2818 cL_2819 cL_2820 (by decide +kernel)
theorem dL_law_2821 : decode cL_law 2821 = .ok (.if_icmp .eq 796, 3) := dk_159 cL_2821 cL_2822 cL_2823 (by decide +kernel)
theorem dL_law_2824 : decode cL_law 2824 = .ok (.iconst 0, 1) := dk_3 cL_2824
theorem dL_law_2825 : decode cL_law 2825 = .ok (.ireturn, 1) := dk_172 cL_2825
theorem dL_law_2826 : decode cL_law 2826 = .ok (.aload_n 1, 1) := dk_43 cL_2826
theorem dL_law_2827 : decode cL_law 2827 = .ok (.aload_n 0, 1) := dk_42 cL_2827
theorem dL_law_2828 : decode cL_law 2828 = .ok (.iload 5, 2) := dk_21 cL_2828 cL_2829
theorem dL_law_2830 : decode cL_law 2830 = .ok (.iconst 1, 1) := dk_4 cL_2830
theorem dL_law_2831 : decode cL_law 2831 = .ok (.iadd, 1) := dk_96 cL_2831
theorem dL_law_2832 : decode cL_law 2832 = .ok (.iaload, 1) := dk_46 cL_2832
theorem dL_law_2833 : decode cL_law 2833 = .ok (.aload_n 3, 1) := dk_45 cL_2833
theorem dL_law_2834 : decode cL_law 2834 = .ok (.invokestatic 332, 3) := dk_184 cL_2834 cL_2835 cL_2836 (by decide +kernel)
theorem dL_law_2837 : decode cL_law 2837 = .ok (.istore 6, 2) := dk_54 cL_2837 cL_2838
theorem dL_law_2839 : decode cL_law 2839 = .ok (.aload_n 2, 1) := dk_44 cL_2839
theorem dL_law_2840 : decode cL_law 2840 = .ok (.aload_n 0, 1) := dk_42 cL_2840
theorem dL_law_2841 : decode cL_law 2841 = .ok (.iload 5, 2) := dk_21 cL_2841 cL_2842
theorem dL_law_2843 : decode cL_law 2843 = .ok (.iconst 1, 1) := dk_4 cL_2843
theorem dL_law_2844 : decode cL_law 2844 = .ok (.iadd, 1) := dk_96 cL_2844
theorem dL_law_2845 : decode cL_law 2845 = .ok (.iaload, 1) := dk_46 cL_2845
theorem dL_law_2846 : decode cL_law 2846 = .ok (.invokevirtual 334, 3) := dk_182 cL_2846 cL_2847 cL_2848 (by decide +kernel)
theorem dL_law_2849 : decode cL_law 2849 = .ok (.istore 7, 2) := dk_54 cL_2849 cL_2850
theorem dL_law_2851 : decode cL_law 2851 = .ok (.aload_n 2, 1) := dk_44 cL_2851
theorem dL_law_2852 : decode cL_law 2852 = .ok (.invokevirtual 204, 3) := dk_182 cL_2852 cL_2853 cL_2854 (by decide +kernel)
theorem dL_law_2855 : decode cL_law 2855 = .ok (.iload 6, 2) := dk_21 cL_2855 cL_2856
theorem dL_law_2857 : decode cL_law 2857 = .ok (.if_icmp .eq 5, 3) := dk_159 cL_2857 cL_2858 cL_2859 (by decide +kernel)
theorem dL_law_2860 : decode cL_law 2860 = .ok (.iconst 0, 1) := dk_3 cL_2860
theorem dL_law_2861 : decode cL_law 2861 = .ok (.ireturn, 1) := dk_172 cL_2861
theorem dL_law_2862 : decode cL_law 2862 = .ok (.iload 6, 2) := dk_21 cL_2862 cL_2863
theorem dL_law_2864 : decode cL_law 2864 = .ok (.ifCond .ne 15, 3) := dk_154 cL_2864 cL_2865 cL_2866 (by decide +kernel)
theorem dL_law_2867 : decode cL_law 2867 = .ok (.aload_n 3, 1) := dk_45 cL_2867
theorem dL_law_2868 : decode cL_law 2868 = .ok (.iconst 0, 1) := dk_3 cL_2868
theorem dL_law_2869 : decode cL_law 2869 = .ok (.laload, 1) := dk_47 cL_2869
theorem dL_law_2870 : decode cL_law 2870 = .ok (.iload 7, 2) := dk_21 cL_2870 cL_2871
theorem dL_law_2872 : decode cL_law 2872 = .ok (.i2l, 1) := dk_133 cL_2872
theorem dL_law_2873 : decode cL_law 2873 = .ok (.lcmp, 1) := dk_148 cL_2873
theorem dL_law_2874 : decode cL_law 2874 = .ok (.ifCond .eq 5, 3) := dk_153 cL_2874 cL_2875 cL_2876 (by decide +kernel)
theorem dL_law_2877 : decode cL_law 2877 = .ok (.iconst 0, 1) := dk_3 cL_2877
theorem dL_law_2878 : decode cL_law 2878 = .ok (.ireturn, 1) := dk_172 cL_2878
theorem dL_law_2879 : decode cL_law 2879 = .ok (.goto 738, 3) := dk_167 cL_2879 cL_2880 cL_2881 (by decide +kernel)
theorem dL_law_2882 : decode cL_law 2882 = .ok (.aload_n 1, 1) := dk_43 cL_2882
theorem dL_law_2883 : decode cL_law 2883 = .ok (.invokevirtual 335, 3) := dk_182 cL_2883 cL_2884 cL_2885 (by decide +kernel)
theorem dL_law_2886 : decode cL_law 2886 = .ok (.aload_n 2, 1) := dk_44 cL_2886
theorem dL_law_2887 : decode cL_law 2887 = .ok (.invokevirtual 338, 3) := dk_182 cL_2887 cL_2888 cL_2889 (by decide +kernel)
theorem dL_law_2890 : decode cL_law 2890 = .ok (.if_icmp .eq 727, 3) := dk_159 cL_2890 cL_2891 cL_2892 (by decide +kernel)
theorem dL_law_2893 : decode cL_law 2893 = .ok (.iconst 0, 1) := dk_3 cL_2893
theorem dL_law_2894 : decode cL_law 2894 = .ok (.ireturn, 1) := dk_172 cL_2894
theorem dL_law_2895 : decode cL_law 2895 = .ok (.aload_n 1, 1) := dk_43 cL_2895
theorem dL_law_2896 : decode cL_law 2896 = .ok (.invokevirtual 339, 3) := dk_182 cL_2896 cL_2897 cL_2898 (by decide +kernel)
theorem dL_law_2899 : decode cL_law 2899 = .ok (.aload_n 2, 1) := dk_44 cL_2899
theorem dL_law_2900 : decode cL_law 2900 = .ok (.invokevirtual 342, 3) := dk_182 cL_2900 cL_2901 cL_2902 (by decide +kernel)
theorem dL_law_2903 : decode cL_law 2903 = .ok (.if_icmp .eq 714, 3) := dk_159 cL_2903 cL_2904 cL_2905 (by decide +kernel)
theorem dL_law_2906 : decode cL_law 2906 = .ok (.iconst 0, 1) := dk_3 cL_2906
theorem dL_law_2907 : decode cL_law 2907 = .ok (.ireturn, 1) := dk_172 cL_2907
theorem dL_law_2908 : decode cL_law 2908 = .ok (.aload_n 1, 1) := dk_43 cL_2908
theorem dL_law_2909 : decode cL_law 2909 = .ok (.invokevirtual 343, 3) := dk_182 cL_2909 cL_2910 cL_2911 (by decide +kernel)
theorem dL_law_2912 : decode cL_law 2912 = .ok (.aload_n 2, 1) := dk_44 cL_2912
theorem dL_law_2913 : decode cL_law 2913 = .ok (.invokevirtual 346, 3) := dk_182 cL_2913 cL_2914 cL_2915 (by decide +kernel)
theorem dL_law_2916 : decode cL_law 2916 = .ok (.if_icmp .eq 701, 3) := dk_159 cL_2916 cL_2917 cL_2918 (by decide +kernel)
theorem dL_law_2919 : decode cL_law 2919 = .ok (.iconst 0, 1) := dk_3 cL_2919
theorem dL_law_2920 : decode cL_law 2920 = .ok (.ireturn, 1) := dk_172 cL_2920
theorem dL_law_2921 : decode cL_law 2921 = .ok (.aload_n 1, 1) := dk_43 cL_2921
theorem dL_law_2922 : decode cL_law 2922 = .ok (.invokevirtual 347, 3) := dk_182 cL_2922 cL_2923 cL_2924 (by decide +kernel)
theorem dL_law_2925 : decode cL_law 2925 = .ok (.aload_n 2, 1) := dk_44 cL_2925
theorem dL_law_2926 : decode cL_law 2926 = .ok (.invokevirtual 350, 3) := dk_182 cL_2926 cL_2927 cL_2928 (by decide +kernel)
theorem dL_law_2929 : decode cL_law 2929 = .ok (.if_icmp .eq 688, 3) := dk_159 cL_2929 cL_2930 cL_2931 (by decide +kernel)
theorem dL_law_2932 : decode cL_law 2932 = .ok (.iconst 0, 1) := dk_3 cL_2932
theorem dL_law_2933 : decode cL_law 2933 = .ok (.ireturn, 1) := dk_172 cL_2933
theorem dL_law_2934 : decode cL_law 2934 = .ok (.aload_n 1, 1) := dk_43 cL_2934
theorem dL_law_2935 : decode cL_law 2935 = .ok (.aload 4, 2) := dk_25 cL_2935 cL_2936
theorem dL_law_2937 : decode cL_law 2937 = .ok (.invokestatic 351, 3) := dk_184 cL_2937 cL_2938 cL_2939 (by decide +kernel)
theorem dL_law_2940 : decode cL_law 2940 = .ok (.istore 6, 2) := dk_54 cL_2940 cL_2941
theorem dL_law_2942 : decode cL_law 2942 = .ok (.aload_n 2, 1) := dk_44 cL_2942
theorem dL_law_2943 : decode cL_law 2943 = .ok (.invokevirtual 354, 3) := dk_182 cL_2943 cL_2944 cL_2945 (by decide +kernel)
theorem dL_law_2946 : decode cL_law 2946 = .ok (.fstore 7, 2) := dk_56 cL_2946 cL_2947
theorem dL_law_2948 : decode cL_law 2948 = .ok (.aload_n 2, 1) := dk_44 cL_2948
theorem dL_law_2949 : decode cL_law 2949 = .ok (.invokevirtual 204, 3) := dk_182 cL_2949 cL_2950 cL_2951 (by decide +kernel)
theorem dL_law_2952 : decode cL_law 2952 = .ok (.iload 6, 2) := dk_21 cL_2952 cL_2953
theorem dL_law_2954 : decode cL_law 2954 = .ok (.if_icmp .eq 5, 3) := dk_159 cL_2954 cL_2955 cL_2956 (by decide +kernel)
theorem dL_law_2957 : decode cL_law 2957 = .ok (.iconst 0, 1) := dk_3 cL_2957
theorem dL_law_2958 : decode cL_law 2958 = .ok (.ireturn, 1) := dk_172 cL_2958
theorem dL_law_2959 : decode cL_law 2959 = .ok (.iload 6, 2) := dk_21 cL_2959 cL_2960
theorem dL_law_2961 : decode cL_law 2961 = .ok (.ifCond .ne 36, 3) := dk_154 cL_2961 cL_2962 cL_2963 (by decide +kernel)
theorem dL_law_2964 : decode cL_law 2964 = .ok (.aload 4, 2) := dk_25 cL_2964 cL_2965
theorem dL_law_2966 : decode cL_law 2966 = .ok (.iconst 0, 1) := dk_3 cL_2966
theorem dL_law_2967 : decode cL_law 2967 = .ok (.daload, 1) := dk_49 cL_2967
theorem dL_law_2968 : decode cL_law 2968 = .ok (.fload 7, 2) := dk_23 cL_2968 cL_2969
theorem dL_law_2970 : decode cL_law 2970 = .ok (.f2d, 1) := dk_141 cL_2970
theorem dL_law_2971 : decode cL_law 2971 = .ok (.dcmp .l, 1) := dk_151 cL_2971
theorem dL_law_2972 : decode cL_law 2972 = .ok (.ifCond .eq 25, 3) := dk_153 cL_2972 cL_2973 cL_2974 (by decide +kernel)
theorem dL_law_2975 : decode cL_law 2975 = .ok (.aload 4, 2) := dk_25 cL_2975 cL_2976
theorem dL_law_2977 : decode cL_law 2977 = .ok (.iconst 0, 1) := dk_3 cL_2977
theorem dL_law_2978 : decode cL_law 2978 = .ok (.daload, 1) := dk_49 cL_2978
theorem dL_law_2979 : decode cL_law 2979 = .ok (.aload 4, 2) := dk_25 cL_2979 cL_2980
theorem dL_law_2981 : decode cL_law 2981 = .ok (.iconst 0, 1) := dk_3 cL_2981
theorem dL_law_2982 : decode cL_law 2982 = .ok (.daload, 1) := dk_49 cL_2982
theorem dL_law_2983 : decode cL_law 2983 = .ok (.dcmp .l, 1) := dk_151 cL_2983
theorem dL_law_2984 : decode cL_law 2984 = .ok (.ifCond .eq 11, 3) := dk_153 cL_2984 cL_2985 cL_2986 (by decide +kernel)
theorem dL_law_2987 : decode cL_law 2987 = .ok (.fload 7, 2) := dk_23 cL_2987 cL_2988
theorem dL_law_2989 : decode cL_law 2989 = .ok (.fload 7, 2) := dk_23 cL_2989 cL_2990
theorem dL_law_2991 : decode cL_law 2991 = .ok (.fcmp .l, 1) := dk_149 cL_2991
theorem dL_law_2992 : decode cL_law 2992 = .ok (.ifCond .ne 5, 3) := dk_154 cL_2992 cL_2993 cL_2994 (by decide +kernel)
theorem dL_law_2995 : decode cL_law 2995 = .ok (.iconst 0, 1) := dk_3 cL_2995
theorem dL_law_2996 : decode cL_law 2996 = .ok (.ireturn, 1) := dk_172 cL_2996
theorem dL_law_2997 : decode cL_law 2997 = .ok (.goto 620, 3) := dk_167 cL_2997 cL_2998 cL_2999 (by decide +kernel)
theorem dL_law_3000 : decode cL_law 3000 = .ok (.aload_n 1, 1) := dk_43 cL_3000
theorem dL_law_3001 : decode cL_law 3001 = .ok (.invokevirtual 355, 3) := dk_182 cL_3001 cL_3002 cL_3003 (by decide +kernel)
theorem dL_law_3004 : decode cL_law 3004 = .ok (.aload_n 2, 1) := dk_44 cL_3004
theorem dL_law_3005 : decode cL_law 3005 = .ok (.invokevirtual 359, 3) := dk_182 cL_3005 cL_3006 cL_3007 (by decide +kernel)
theorem dL_law_3008 : decode cL_law 3008 = .ok (.if_icmp .eq 609, 3) := dk_159 cL_3008 cL_3009 cL_3010 (by decide +kernel)
theorem dL_law_3011 : decode cL_law 3011 = .ok (.iconst 0, 1) := dk_3 cL_3011
theorem dL_law_3012 : decode cL_law 3012 = .ok (.ireturn, 1) := dk_172 cL_3012
theorem dL_law_3013 : decode cL_law 3013 = .ok (.aload_n 1, 1) := dk_43 cL_3013
theorem dL_law_3014 : decode cL_law 3014 = .ok (.aload_n 0, 1) := dk_42 cL_3014
theorem dL_law_3015 : decode cL_law 3015 = .ok (.iload 5, 2) := dk_21 cL_3015 cL_3016
theorem dL_law_3017 : decode cL_law 3017 = .ok (.iconst 1, 1) := dk_4 cL_3017
theorem dL_law_3018 : decode cL_law 3018 = .ok (.iadd, 1) := dk_96 cL_3018
theorem dL_law_3019 : decode cL_law 3019 = .ok (.iaload, 1) := dk_46 cL_3019
theorem dL_law_3020 : decode cL_law 3020 = .ok (.aload_n 3, 1) := dk_45 cL_3020
theorem dL_law_3021 : decode cL_law 3021 = .ok (.invokestatic 360, 3) := dk_184 cL_3021 cL_3022 cL_3023 (by decide +kernel)
theorem dL_law_3024 : decode cL_law 3024 = .ok (.istore 6, 2) := dk_54 cL_3024 cL_3025
theorem dL_law_3026 : decode cL_law 3026 = .ok (.aload_n 2, 1) := dk_44 cL_3026
theorem dL_law_3027 : decode cL_law 3027 = .ok (.aload_n 0, 1) := dk_42 cL_3027
theorem dL_law_3028 : decode cL_law 3028 = .ok (.iload 5, 2) := dk_21 cL_3028 cL_3029
theorem dL_law_3030 : decode cL_law 3030 = .ok (.iconst 1, 1) := dk_4 cL_3030
theorem dL_law_3031 : decode cL_law 3031 = .ok (.iadd, 1) := dk_96 cL_3031
theorem dL_law_3032 : decode cL_law 3032 = .ok (.iaload, 1) := dk_46 cL_3032
theorem dL_law_3033 : decode cL_law 3033 = .ok (.invokevirtual 362, 3) := dk_182 cL_3033 cL_3034 cL_3035 (by decide +kernel)
theorem dL_law_3036 : decode cL_law 3036 = .ok (.istore 7, 2) := dk_54 cL_3036 cL_3037
theorem dL_law_3038 : decode cL_law 3038 = .ok (.aload_n 2, 1) := dk_44 cL_3038
theorem dL_law_3039 : decode cL_law 3039 = .ok (.invokevirtual 204, 3) := dk_182 cL_3039 cL_3040 cL_3041 (by decide +kernel)
theorem dL_law_3042 : decode cL_law 3042 = .ok (.iload 6, 2) := dk_21 cL_3042 cL_3043
theorem dL_law_3044 : decode cL_law 3044 = .ok (.if_icmp .eq 5, 3) := dk_159 cL_3044 cL_3045 cL_3046 (by decide +kernel)
theorem dL_law_3047 : decode cL_law 3047 = .ok (.iconst 0, 1) := dk_3 cL_3047
theorem dL_law_3048 : decode cL_law 3048 = .ok (.ireturn, 1) := dk_172 cL_3048
theorem dL_law_3049 : decode cL_law 3049 = .ok (.iload 6, 2) := dk_21 cL_3049 cL_3050
theorem dL_law_3051 : decode cL_law 3051 = .ok (.ifCond .ne 15, 3) := dk_154 cL_3051 cL_3052 cL_3053 (by decide +kernel)
theorem dL_law_3054 : decode cL_law 3054 = .ok (.aload_n 3, 1) := dk_45 cL_3054
theorem dL_law_3055 : decode cL_law 3055 = .ok (.iconst 0, 1) := dk_3 cL_3055
theorem dL_law_3056 : decode cL_law 3056 = .ok (.laload, 1) := dk_47 cL_3056
theorem dL_law_3057 : decode cL_law 3057 = .ok (.iload 7, 2) := dk_21 cL_3057 cL_3058
theorem dL_law_3059 : decode cL_law 3059 = .ok (.i2l, 1) := dk_133 cL_3059
theorem dL_law_3060 : decode cL_law 3060 = .ok (.lcmp, 1) := dk_148 cL_3060
theorem dL_law_3061 : decode cL_law 3061 = .ok (.ifCond .eq 5, 3) := dk_153 cL_3061 cL_3062 cL_3063 (by decide +kernel)
theorem dL_law_3064 : decode cL_law 3064 = .ok (.iconst 0, 1) := dk_3 cL_3064
theorem dL_law_3065 : decode cL_law 3065 = .ok (.ireturn, 1) := dk_172 cL_3065
theorem dL_law_3066 : decode cL_law 3066 = .ok (.goto 551, 3) := dk_167 cL_3066 cL_3067 cL_3068 (by decide +kernel)
theorem dL_law_3069 : decode cL_law 3069 = .ok (.aload_n 1, 1) := dk_43 cL_3069
theorem dL_law_3070 : decode cL_law 3070 = .ok (.aload_n 0, 1) := dk_42 cL_3070
theorem dL_law_3071 : decode cL_law 3071 = .ok (.iload 5, 2) := dk_21 cL_3071 cL_3072
theorem dL_law_3073 : decode cL_law 3073 = .ok (.iconst 1, 1) := dk_4 cL_3073
theorem dL_law_3074 : decode cL_law 3074 = .ok (.iadd, 1) := dk_96 cL_3074
theorem dL_law_3075 : decode cL_law 3075 = .ok (.iaload, 1) := dk_46 cL_3075
theorem dL_law_3076 : decode cL_law 3076 = .ok (.aload_n 3, 1) := dk_45 cL_3076
theorem dL_law_3077 : decode cL_law 3077 = .ok (.invokestatic 363, 3) := dk_184 cL_3077 cL_3078 cL_3079 (by decide +kernel)
theorem dL_law_3080 : decode cL_law 3080 = .ok (.istore 6, 2) := dk_54 cL_3080 cL_3081
theorem dL_law_3082 : decode cL_law 3082 = .ok (.aload_n 2, 1) := dk_44 cL_3082
theorem dL_law_3083 : decode cL_law 3083 = .ok (.aload_n 0, 1) := dk_42 cL_3083
theorem dL_law_3084 : decode cL_law 3084 = .ok (.iload 5, 2) := dk_21 cL_3084 cL_3085
theorem dL_law_3086 : decode cL_law 3086 = .ok (.iconst 1, 1) := dk_4 cL_3086
theorem dL_law_3087 : decode cL_law 3087 = .ok (.iadd, 1) := dk_96 cL_3087
theorem dL_law_3088 : decode cL_law 3088 = .ok (.iaload, 1) := dk_46 cL_3088
theorem dL_law_3089 : decode cL_law 3089 = .ok (.invokevirtual 365, 3) := dk_182 cL_3089 cL_3090 cL_3091 (by decide +kernel)
theorem dL_law_3092 : decode cL_law 3092 = .ok (.istore 7, 2) := dk_54 cL_3092 cL_3093
theorem dL_law_3094 : decode cL_law 3094 = .ok (.aload_n 2, 1) := dk_44 cL_3094
theorem dL_law_3095 : decode cL_law 3095 = .ok (.invokevirtual 204, 3) := dk_182 cL_3095 cL_3096 cL_3097 (by decide +kernel)
theorem dL_law_3098 : decode cL_law 3098 = .ok (.iload 6, 2) := dk_21 cL_3098 cL_3099
theorem dL_law_3100 : decode cL_law 3100 = .ok (.if_icmp .eq 5, 3) := dk_159 cL_3100 cL_3101 cL_3102 (by decide +kernel)
theorem dL_law_3103 : decode cL_law 3103 = .ok (.iconst 0, 1) := dk_3 cL_3103
theorem dL_law_3104 : decode cL_law 3104 = .ok (.ireturn, 1) := dk_172 cL_3104
theorem dL_law_3105 : decode cL_law 3105 = .ok (.iload 6, 2) := dk_21 cL_3105 cL_3106
theorem dL_law_3107 : decode cL_law 3107 = .ok (.ifCond .ne 15, 3) := dk_154 cL_3107 cL_3108 cL_3109 (by decide +kernel)
theorem dL_law_3110 : decode cL_law 3110 = .ok (.aload_n 3, 1) := dk_45 cL_3110
theorem dL_law_3111 : decode cL_law 3111 = .ok (.iconst 0, 1) := dk_3 cL_3111
theorem dL_law_3112 : decode cL_law 3112 = .ok (.laload, 1) := dk_47 cL_3112
theorem dL_law_3113 : decode cL_law 3113 = .ok (.iload 7, 2) := dk_21 cL_3113 cL_3114
theorem dL_law_3115 : decode cL_law 3115 = .ok (.i2l, 1) := dk_133 cL_3115
theorem dL_law_3116 : decode cL_law 3116 = .ok (.lcmp, 1) := dk_148 cL_3116
theorem dL_law_3117 : decode cL_law 3117 = .ok (.ifCond .eq 5, 3) := dk_153 cL_3117 cL_3118 cL_3119 (by decide +kernel)
theorem dL_law_3120 : decode cL_law 3120 = .ok (.iconst 0, 1) := dk_3 cL_3120
theorem dL_law_3121 : decode cL_law 3121 = .ok (.ireturn, 1) := dk_172 cL_3121
theorem dL_law_3122 : decode cL_law 3122 = .ok (.goto 495, 3) := dk_167 cL_3122 cL_3123 cL_3124 (by decide +kernel)
theorem dL_law_3125 : decode cL_law 3125 = .ok (.aload_n 1, 1) := dk_43 cL_3125
theorem dL_law_3126 : decode cL_law 3126 = .ok (.aload_n 0, 1) := dk_42 cL_3126
theorem dL_law_3127 : decode cL_law 3127 = .ok (.iload 5, 2) := dk_21 cL_3127 cL_3128
theorem dL_law_3129 : decode cL_law 3129 = .ok (.iconst 1, 1) := dk_4 cL_3129
theorem dL_law_3130 : decode cL_law 3130 = .ok (.iadd, 1) := dk_96 cL_3130
theorem dL_law_3131 : decode cL_law 3131 = .ok (.iaload, 1) := dk_46 cL_3131
theorem dL_law_3132 : decode cL_law 3132 = .ok (.aload_n 3, 1) := dk_45 cL_3132
theorem dL_law_3133 : decode cL_law 3133 = .ok (.invokestatic 366, 3) := dk_184 cL_3133 cL_3134 cL_3135 (by decide +kernel)
theorem dL_law_3136 : decode cL_law 3136 = .ok (.istore 6, 2) := dk_54 cL_3136 cL_3137
theorem dL_law_3138 : decode cL_law 3138 = .ok (.aload_n 2, 1) := dk_44 cL_3138
theorem dL_law_3139 : decode cL_law 3139 = .ok (.aload_n 0, 1) := dk_42 cL_3139
theorem dL_law_3140 : decode cL_law 3140 = .ok (.iload 5, 2) := dk_21 cL_3140 cL_3141
theorem dL_law_3142 : decode cL_law 3142 = .ok (.iconst 1, 1) := dk_4 cL_3142
theorem dL_law_3143 : decode cL_law 3143 = .ok (.iadd, 1) := dk_96 cL_3143
theorem dL_law_3144 : decode cL_law 3144 = .ok (.iaload, 1) := dk_46 cL_3144
theorem dL_law_3145 : decode cL_law 3145 = .ok (.invokevirtual 368, 3) := dk_182 cL_3145 cL_3146 cL_3147 (by decide +kernel)
theorem dL_law_3148 : decode cL_law 3148 = .ok (.istore 7, 2) := dk_54 cL_3148 cL_3149
theorem dL_law_3150 : decode cL_law 3150 = .ok (.aload_n 2, 1) := dk_44 cL_3150
theorem dL_law_3151 : decode cL_law 3151 = .ok (.invokevirtual 204, 3) := dk_182 cL_3151 cL_3152 cL_3153 (by decide +kernel)
theorem dL_law_3154 : decode cL_law 3154 = .ok (.iload 6, 2) := dk_21 cL_3154 cL_3155
theorem dL_law_3156 : decode cL_law 3156 = .ok (.if_icmp .eq 5, 3) := dk_159 cL_3156 cL_3157 cL_3158 (by decide +kernel)
theorem dL_law_3159 : decode cL_law 3159 = .ok (.iconst 0, 1) := dk_3 cL_3159
theorem dL_law_3160 : decode cL_law 3160 = .ok (.ireturn, 1) := dk_172 cL_3160
theorem dL_law_3161 : decode cL_law 3161 = .ok (.iload 6, 2) := dk_21 cL_3161 cL_3162
theorem dL_law_3163 : decode cL_law 3163 = .ok (.ifCond .ne 15, 3) := dk_154 cL_3163 cL_3164 cL_3165 (by decide +kernel)
theorem dL_law_3166 : decode cL_law 3166 = .ok (.aload_n 3, 1) := dk_45 cL_3166
theorem dL_law_3167 : decode cL_law 3167 = .ok (.iconst 0, 1) := dk_3 cL_3167
theorem dL_law_3168 : decode cL_law 3168 = .ok (.laload, 1) := dk_47 cL_3168
theorem dL_law_3169 : decode cL_law 3169 = .ok (.iload 7, 2) := dk_21 cL_3169 cL_3170
theorem dL_law_3171 : decode cL_law 3171 = .ok (.i2l, 1) := dk_133 cL_3171
theorem dL_law_3172 : decode cL_law 3172 = .ok (.lcmp, 1) := dk_148 cL_3172
theorem dL_law_3173 : decode cL_law 3173 = .ok (.ifCond .eq 5, 3) := dk_153 cL_3173 cL_3174 cL_3175 (by decide +kernel)
theorem dL_law_3176 : decode cL_law 3176 = .ok (.iconst 0, 1) := dk_3 cL_3176
theorem dL_law_3177 : decode cL_law 3177 = .ok (.ireturn, 1) := dk_172 cL_3177
theorem dL_law_3178 : decode cL_law 3178 = .ok (.goto 439, 3) := dk_167 cL_3178 cL_3179 cL_3180 (by decide +kernel)
theorem dL_law_3181 : decode cL_law 3181 = .ok (.aload_n 1, 1) := dk_43 cL_3181
theorem dL_law_3182 : decode cL_law 3182 = .ok (.aload_n 0, 1) := dk_42 cL_3182
theorem dL_law_3183 : decode cL_law 3183 = .ok (.iload 5, 2) := dk_21 cL_3183 cL_3184
theorem dL_law_3185 : decode cL_law 3185 = .ok (.iconst 1, 1) := dk_4 cL_3185
theorem dL_law_3186 : decode cL_law 3186 = .ok (.iadd, 1) := dk_96 cL_3186
theorem dL_law_3187 : decode cL_law 3187 = .ok (.iaload, 1) := dk_46 cL_3187
theorem dL_law_3188 : decode cL_law 3188 = .ok (.i2c, 1) := dk_146 cL_3188
theorem dL_law_3189 : decode cL_law 3189 = .ok (.aload_n 3, 1) := dk_45 cL_3189
theorem dL_law_3190 : decode cL_law 3190 = .ok (.invokestatic 369, 3) := dk_184 cL_3190 cL_3191 cL_3192 (by decide +kernel)
theorem dL_law_3193 : decode cL_law 3193 = .ok (.istore 6, 2) := dk_54 cL_3193 cL_3194
theorem dL_law_3195 : decode cL_law 3195 = .ok (.aload_n 2, 1) := dk_44 cL_3195
theorem dL_law_3196 : decode cL_law 3196 = .ok (.aload_n 0, 1) := dk_42 cL_3196
theorem dL_law_3197 : decode cL_law 3197 = .ok (.iload 5, 2) := dk_21 cL_3197 cL_3198
theorem dL_law_3199 : decode cL_law 3199 = .ok (.iconst 1, 1) := dk_4 cL_3199
theorem dL_law_3200 : decode cL_law 3200 = .ok (.iadd, 1) := dk_96 cL_3200
theorem dL_law_3201 : decode cL_law 3201 = .ok (.iaload, 1) := dk_46 cL_3201
theorem dL_law_3202 : decode cL_law 3202 = .ok (.i2c, 1) := dk_146 cL_3202
theorem dL_law_3203 : decode cL_law 3203 = .ok (.invokevirtual 372, 3) := dk_182 cL_3203 cL_3204 cL_3205 (by decide +kernel)
theorem dL_law_3206 : decode cL_law 3206 = .ok (.istore 7, 2) := dk_54 cL_3206 cL_3207
theorem dL_law_3208 : decode cL_law 3208 = .ok (.aload_n 2, 1) := dk_44 cL_3208
theorem dL_law_3209 : decode cL_law 3209 = .ok (.invokevirtual 204, 3) := dk_182 cL_3209 cL_3210 cL_3211 (by decide +kernel)
theorem dL_law_3212 : decode cL_law 3212 = .ok (.iload 6, 2) := dk_21 cL_3212 cL_3213
theorem dL_law_3214 : decode cL_law 3214 = .ok (.if_icmp .eq 5, 3) := dk_159 cL_3214 cL_3215 cL_3216 (by decide +kernel)
theorem dL_law_3217 : decode cL_law 3217 = .ok (.iconst 0, 1) := dk_3 cL_3217
theorem dL_law_3218 : decode cL_law 3218 = .ok (.ireturn, 1) := dk_172 cL_3218
theorem dL_law_3219 : decode cL_law 3219 = .ok (.iload 6, 2) := dk_21 cL_3219 cL_3220
theorem dL_law_3221 : decode cL_law 3221 = .ok (.ifCond .ne 15, 3) := dk_154 cL_3221 cL_3222 cL_3223 (by decide +kernel)
theorem dL_law_3224 : decode cL_law 3224 = .ok (.aload_n 3, 1) := dk_45 cL_3224
theorem dL_law_3225 : decode cL_law 3225 = .ok (.iconst 0, 1) := dk_3 cL_3225
theorem dL_law_3226 : decode cL_law 3226 = .ok (.laload, 1) := dk_47 cL_3226
theorem dL_law_3227 : decode cL_law 3227 = .ok (.iload 7, 2) := dk_21 cL_3227 cL_3228
theorem dL_law_3229 : decode cL_law 3229 = .ok (.i2l, 1) := dk_133 cL_3229
theorem dL_law_3230 : decode cL_law 3230 = .ok (.lcmp, 1) := dk_148 cL_3230
theorem dL_law_3231 : decode cL_law 3231 = .ok (.ifCond .eq 5, 3) := dk_153 cL_3231 cL_3232 cL_3233 (by decide +kernel)
theorem dL_law_3234 : decode cL_law 3234 = .ok (.iconst 0, 1) := dk_3 cL_3234
theorem dL_law_3235 : decode cL_law 3235 = .ok (.ireturn, 1) := dk_172 cL_3235
theorem dL_law_3236 : decode cL_law 3236 = .ok (.goto 381, 3) := dk_167 cL_3236 cL_3237 cL_3238 (by decide +kernel)
theorem dL_law_3239 : decode cL_law 3239 = .ok (.aload_n 1, 1) := dk_43 cL_3239
theorem dL_law_3240 : decode cL_law 3240 = .ok (.aload_n 3, 1) := dk_45 cL_3240
theorem dL_law_3241 : decode cL_law 3241 = .ok (.invokestatic 373, 3) := dk_184 cL_3241 cL_3242 cL_3243 (by decide +kernel)
theorem dL_law_3244 : decode cL_law 3244 = .ok (.istore 6, 2) := dk_54 cL_3244 cL_3245
theorem dL_law_3246 : decode cL_law 3246 = .ok (.aload_n 2, 1) := dk_44 cL_3246
theorem dL_law_3247 : decode cL_law 3247 = .ok (.invokevirtual 376, 3) := dk_182 cL_3247 cL_3248 cL_3249 (by decide +kernel)
theorem dL_law_3250 : decode cL_law 3250 = .ok (.istore 7, 2) := dk_54 cL_3250 cL_3251
theorem dL_law_3252 : decode cL_law 3252 = .ok (.aload_n 2, 1) := dk_44 cL_3252
theorem dL_law_3253 : decode cL_law 3253 = .ok (.invokevirtual 204, 3) := dk_182 cL_3253 cL_3254 cL_3255 (by decide +kernel)
theorem dL_law_3256 : decode cL_law 3256 = .ok (.iload 6, 2) := dk_21 cL_3256 cL_3257
theorem dL_law_3258 : decode cL_law 3258 = .ok (.if_icmp .eq 5, 3) := dk_159 cL_3258 cL_3259 cL_3260 (by decide +kernel)
theorem dL_law_3261 : decode cL_law 3261 = .ok (.iconst 0, 1) := dk_3 cL_3261
theorem dL_law_3262 : decode cL_law 3262 = .ok (.ireturn, 1) := dk_172 cL_3262
theorem dL_law_3263 : decode cL_law 3263 = .ok (.iload 6, 2) := dk_21 cL_3263 cL_3264
theorem dL_law_3265 : decode cL_law 3265 = .ok (.ifCond .ne 15, 3) := dk_154 cL_3265 cL_3266 cL_3267 (by decide +kernel)
theorem dL_law_3268 : decode cL_law 3268 = .ok (.aload_n 3, 1) := dk_45 cL_3268
theorem dL_law_3269 : decode cL_law 3269 = .ok (.iconst 0, 1) := dk_3 cL_3269
theorem dL_law_3270 : decode cL_law 3270 = .ok (.laload, 1) := dk_47 cL_3270
theorem dL_law_3271 : decode cL_law 3271 = .ok (.iload 7, 2) := dk_21 cL_3271 cL_3272
theorem dL_law_3273 : decode cL_law 3273 = .ok (.i2l, 1) := dk_133 cL_3273
theorem dL_law_3274 : decode cL_law 3274 = .ok (.lcmp, 1) := dk_148 cL_3274
theorem dL_law_3275 : decode cL_law 3275 = .ok (.ifCond .eq 5, 3) := dk_153 cL_3275 cL_3276 cL_3277 (by decide +kernel)
theorem dL_law_3278 : decode cL_law 3278 = .ok (.iconst 0, 1) := dk_3 cL_3278
theorem dL_law_3279 : decode cL_law 3279 = .ok (.ireturn, 1) := dk_172 cL_3279
theorem dL_law_3280 : decode cL_law 3280 = .ok (.goto 337, 3) := dk_167 cL_3280 cL_3281 cL_3282 (by decide +kernel)
theorem dL_law_3283 : decode cL_law 3283 = .ok (.aload_n 1, 1) := dk_43 cL_3283
theorem dL_law_3284 : decode cL_law 3284 = .ok (.aload_n 3, 1) := dk_45 cL_3284
theorem dL_law_3285 : decode cL_law 3285 = .ok (.invokestatic 377, 3) := dk_184 cL_3285 cL_3286 cL_3287 (by decide +kernel)
theorem dL_law_3288 : decode cL_law 3288 = .ok (.istore 6, 2) := dk_54 cL_3288 cL_3289
theorem dL_law_3290 : decode cL_law 3290 = .ok (.aload_n 2, 1) := dk_44 cL_3290
theorem dL_law_3291 : decode cL_law 3291 = .ok (.invokevirtual 379, 3) := dk_182 cL_3291 cL_3292 cL_3293 (by decide +kernel)
theorem dL_law_3294 : decode cL_law 3294 = .ok (.istore 7, 2) := dk_54 cL_3294 cL_3295
theorem dL_law_3296 : decode cL_law 3296 = .ok (.aload_n 2, 1) := dk_44 cL_3296
theorem dL_law_3297 : decode cL_law 3297 = .ok (.invokevirtual 204, 3) := dk_182 cL_3297 cL_3298 cL_3299 (by decide +kernel)
theorem dL_law_3300 : decode cL_law 3300 = .ok (.iload 6, 2) := dk_21 cL_3300 cL_3301
theorem dL_law_3302 : decode cL_law 3302 = .ok (.if_icmp .eq 5, 3) := dk_159 cL_3302 cL_3303 cL_3304 (by decide +kernel)
theorem dL_law_3305 : decode cL_law 3305 = .ok (.iconst 0, 1) := dk_3 cL_3305
theorem dL_law_3306 : decode cL_law 3306 = .ok (.ireturn, 1) := dk_172 cL_3306
theorem dL_law_3307 : decode cL_law 3307 = .ok (.iload 6, 2) := dk_21 cL_3307 cL_3308
theorem dL_law_3309 : decode cL_law 3309 = .ok (.ifCond .ne 15, 3) := dk_154 cL_3309 cL_3310 cL_3311 (by decide +kernel)
theorem dL_law_3312 : decode cL_law 3312 = .ok (.aload_n 3, 1) := dk_45 cL_3312
theorem dL_law_3313 : decode cL_law 3313 = .ok (.iconst 0, 1) := dk_3 cL_3313
theorem dL_law_3314 : decode cL_law 3314 = .ok (.laload, 1) := dk_47 cL_3314
theorem dL_law_3315 : decode cL_law 3315 = .ok (.iload 7, 2) := dk_21 cL_3315 cL_3316
theorem dL_law_3317 : decode cL_law 3317 = .ok (.i2l, 1) := dk_133 cL_3317
theorem dL_law_3318 : decode cL_law 3318 = .ok (.lcmp, 1) := dk_148 cL_3318
theorem dL_law_3319 : decode cL_law 3319 = .ok (.ifCond .eq 5, 3) := dk_153 cL_3319 cL_3320 cL_3321 (by decide +kernel)
theorem dL_law_3322 : decode cL_law 3322 = .ok (.iconst 0, 1) := dk_3 cL_3322
theorem dL_law_3323 : decode cL_law 3323 = .ok (.ireturn, 1) := dk_172 cL_3323
theorem dL_law_3324 : decode cL_law 3324 = .ok (.goto 293, 3) := dk_167 cL_3324 cL_3325 cL_3326 (by decide +kernel)
theorem dL_law_3327 : decode cL_law 3327 = .ok (.aload_n 1, 1) := dk_43 cL_3327
theorem dL_law_3328 : decode cL_law 3328 = .ok (.aload_n 3, 1) := dk_45 cL_3328
theorem dL_law_3329 : decode cL_law 3329 = .ok (.invokestatic 380, 3) := dk_184 cL_3329 cL_3330 cL_3331 (by decide +kernel)
theorem dL_law_3332 : decode cL_law 3332 = .ok (.istore 6, 2) := dk_54 cL_3332 cL_3333
theorem dL_law_3334 : decode cL_law 3334 = .ok (.aload_n 2, 1) := dk_44 cL_3334
theorem dL_law_3335 : decode cL_law 3335 = .ok (.invokevirtual 382, 3) := dk_182 cL_3335 cL_3336 cL_3337 (by decide +kernel)
theorem dL_law_3338 : decode cL_law 3338 = .ok (.istore 7, 2) := dk_54 cL_3338 cL_3339
theorem dL_law_3340 : decode cL_law 3340 = .ok (.aload_n 2, 1) := dk_44 cL_3340
theorem dL_law_3341 : decode cL_law 3341 = .ok (.invokevirtual 204, 3) := dk_182 cL_3341 cL_3342 cL_3343 (by decide +kernel)
theorem dL_law_3344 : decode cL_law 3344 = .ok (.iload 6, 2) := dk_21 cL_3344 cL_3345
theorem dL_law_3346 : decode cL_law 3346 = .ok (.if_icmp .eq 5, 3) := dk_159 cL_3346 cL_3347 cL_3348 (by decide +kernel)
theorem dL_law_3349 : decode cL_law 3349 = .ok (.iconst 0, 1) := dk_3 cL_3349
theorem dL_law_3350 : decode cL_law 3350 = .ok (.ireturn, 1) := dk_172 cL_3350
theorem dL_law_3351 : decode cL_law 3351 = .ok (.iload 6, 2) := dk_21 cL_3351 cL_3352
theorem dL_law_3353 : decode cL_law 3353 = .ok (.ifCond .ne 15, 3) := dk_154 cL_3353 cL_3354 cL_3355 (by decide +kernel)
theorem dL_law_3356 : decode cL_law 3356 = .ok (.aload_n 3, 1) := dk_45 cL_3356
theorem dL_law_3357 : decode cL_law 3357 = .ok (.iconst 0, 1) := dk_3 cL_3357
theorem dL_law_3358 : decode cL_law 3358 = .ok (.laload, 1) := dk_47 cL_3358
theorem dL_law_3359 : decode cL_law 3359 = .ok (.iload 7, 2) := dk_21 cL_3359 cL_3360
theorem dL_law_3361 : decode cL_law 3361 = .ok (.i2l, 1) := dk_133 cL_3361
theorem dL_law_3362 : decode cL_law 3362 = .ok (.lcmp, 1) := dk_148 cL_3362
theorem dL_law_3363 : decode cL_law 3363 = .ok (.ifCond .eq 5, 3) := dk_153 cL_3363 cL_3364 cL_3365 (by decide +kernel)
theorem dL_law_3366 : decode cL_law 3366 = .ok (.iconst 0, 1) := dk_3 cL_3366
theorem dL_law_3367 : decode cL_law 3367 = .ok (.ireturn, 1) := dk_172 cL_3367
theorem dL_law_3368 : decode cL_law 3368 = .ok (.goto 249, 3) := dk_167 cL_3368 cL_3369 cL_3370 (by decide +kernel)
theorem dL_law_3371 : decode cL_law 3371 = .ok (.aload_n 1, 1) := dk_43 cL_3371
theorem dL_law_3372 : decode cL_law 3372 = .ok (.aload_n 3, 1) := dk_45 cL_3372
theorem dL_law_3373 : decode cL_law 3373 = .ok (.invokestatic 383, 3) := dk_184 cL_3373 cL_3374 cL_3375 (by decide +kernel)
theorem dL_law_3376 : decode cL_law 3376 = .ok (.istore 6, 2) := dk_54 cL_3376 cL_3377
theorem dL_law_3378 : decode cL_law 3378 = .ok (.aload_n 2, 1) := dk_44 cL_3378
theorem dL_law_3379 : decode cL_law 3379 = .ok (.invokevirtual 385, 3) := dk_182 cL_3379 cL_3380 cL_3381 (by decide +kernel)
theorem dL_law_3382 : decode cL_law 3382 = .ok (.istore 7, 2) := dk_54 cL_3382 cL_3383
theorem dL_law_3384 : decode cL_law 3384 = .ok (.aload_n 2, 1) := dk_44 cL_3384
theorem dL_law_3385 : decode cL_law 3385 = .ok (.invokevirtual 204, 3) := dk_182 cL_3385 cL_3386 cL_3387 (by decide +kernel)
theorem dL_law_3388 : decode cL_law 3388 = .ok (.iload 6, 2) := dk_21 cL_3388 cL_3389
theorem dL_law_3390 : decode cL_law 3390 = .ok (.if_icmp .eq 5, 3) := dk_159 cL_3390 cL_3391 cL_3392 (by decide +kernel)
theorem dL_law_3393 : decode cL_law 3393 = .ok (.iconst 0, 1) := dk_3 cL_3393
theorem dL_law_3394 : decode cL_law 3394 = .ok (.ireturn, 1) := dk_172 cL_3394
theorem dL_law_3395 : decode cL_law 3395 = .ok (.iload 6, 2) := dk_21 cL_3395 cL_3396
theorem dL_law_3397 : decode cL_law 3397 = .ok (.ifCond .ne 15, 3) := dk_154 cL_3397 cL_3398 cL_3399 (by decide +kernel)
theorem dL_law_3400 : decode cL_law 3400 = .ok (.aload_n 3, 1) := dk_45 cL_3400
theorem dL_law_3401 : decode cL_law 3401 = .ok (.iconst 0, 1) := dk_3 cL_3401
theorem dL_law_3402 : decode cL_law 3402 = .ok (.laload, 1) := dk_47 cL_3402
theorem dL_law_3403 : decode cL_law 3403 = .ok (.iload 7, 2) := dk_21 cL_3403 cL_3404
theorem dL_law_3405 : decode cL_law 3405 = .ok (.i2l, 1) := dk_133 cL_3405
theorem dL_law_3406 : decode cL_law 3406 = .ok (.lcmp, 1) := dk_148 cL_3406
theorem dL_law_3407 : decode cL_law 3407 = .ok (.ifCond .eq 5, 3) := dk_153 cL_3407 cL_3408 cL_3409 (by decide +kernel)
theorem dL_law_3410 : decode cL_law 3410 = .ok (.iconst 0, 1) := dk_3 cL_3410
theorem dL_law_3411 : decode cL_law 3411 = .ok (.ireturn, 1) := dk_172 cL_3411
theorem dL_law_3412 : decode cL_law 3412 = .ok (.goto 205, 3) := dk_167 cL_3412 cL_3413 cL_3414 (by decide +kernel)
theorem dL_law_3415 : decode cL_law 3415 = .ok (.aload_n 1, 1) := dk_43 cL_3415
theorem dL_law_3416 : decode cL_law 3416 = .ok (.aload_n 3, 1) := dk_45 cL_3416
theorem dL_law_3417 : decode cL_law 3417 = .ok (.invokestatic 386, 3) := dk_184 cL_3417 cL_3418 cL_3419 (by decide +kernel)
theorem dL_law_3420 : decode cL_law 3420 = .ok (.istore 6, 2) := dk_54 cL_3420 cL_3421
theorem dL_law_3422 : decode cL_law 3422 = .ok (.aload_n 2, 1) := dk_44 cL_3422
theorem dL_law_3423 : decode cL_law 3423 = .ok (.invokevirtual 388, 3) := dk_182 cL_3423 cL_3424 cL_3425 (by decide +kernel)
theorem dL_law_3426 : decode cL_law 3426 = .ok (.istore 7, 2) := dk_54 cL_3426 cL_3427
theorem dL_law_3428 : decode cL_law 3428 = .ok (.aload_n 2, 1) := dk_44 cL_3428
theorem dL_law_3429 : decode cL_law 3429 = .ok (.invokevirtual 204, 3) := dk_182 cL_3429 cL_3430 cL_3431 (by decide +kernel)
theorem dL_law_3432 : decode cL_law 3432 = .ok (.iload 6, 2) := dk_21 cL_3432 cL_3433
theorem dL_law_3434 : decode cL_law 3434 = .ok (.if_icmp .eq 5, 3) := dk_159 cL_3434 cL_3435 cL_3436 (by decide +kernel)
theorem dL_law_3437 : decode cL_law 3437 = .ok (.iconst 0, 1) := dk_3 cL_3437
theorem dL_law_3438 : decode cL_law 3438 = .ok (.ireturn, 1) := dk_172 cL_3438
theorem dL_law_3439 : decode cL_law 3439 = .ok (.iload 6, 2) := dk_21 cL_3439 cL_3440
theorem dL_law_3441 : decode cL_law 3441 = .ok (.ifCond .ne 15, 3) := dk_154 cL_3441 cL_3442 cL_3443 (by decide +kernel)
theorem dL_law_3444 : decode cL_law 3444 = .ok (.aload_n 3, 1) := dk_45 cL_3444
theorem dL_law_3445 : decode cL_law 3445 = .ok (.iconst 0, 1) := dk_3 cL_3445
theorem dL_law_3446 : decode cL_law 3446 = .ok (.laload, 1) := dk_47 cL_3446
theorem dL_law_3447 : decode cL_law 3447 = .ok (.iload 7, 2) := dk_21 cL_3447 cL_3448
theorem dL_law_3449 : decode cL_law 3449 = .ok (.i2l, 1) := dk_133 cL_3449
theorem dL_law_3450 : decode cL_law 3450 = .ok (.lcmp, 1) := dk_148 cL_3450
theorem dL_law_3451 : decode cL_law 3451 = .ok (.ifCond .eq 5, 3) := dk_153 cL_3451 cL_3452 cL_3453 (by decide +kernel)
theorem dL_law_3454 : decode cL_law 3454 = .ok (.iconst 0, 1) := dk_3 cL_3454
theorem dL_law_3455 : decode cL_law 3455 = .ok (.ireturn, 1) := dk_172 cL_3455
theorem dL_law_3456 : decode cL_law 3456 = .ok (.goto 161, 3) := dk_167 cL_3456 cL_3457 cL_3458 (by decide +kernel)
theorem dL_law_3459 : decode cL_law 3459 = .ok (.aload_n 1, 1) := dk_43 cL_3459
theorem dL_law_3460 : decode cL_law 3460 = .ok (.aload_n 3, 1) := dk_45 cL_3460
theorem dL_law_3461 : decode cL_law 3461 = .ok (.invokestatic 389, 3) := dk_184 cL_3461 cL_3462 cL_3463 (by decide +kernel)
theorem dL_law_3464 : decode cL_law 3464 = .ok (.istore 6, 2) := dk_54 cL_3464 cL_3465
theorem dL_law_3466 : decode cL_law 3466 = .ok (.aload_n 2, 1) := dk_44 cL_3466
theorem dL_law_3467 : decode cL_law 3467 = .ok (.invokevirtual 391, 3) := dk_182 cL_3467 cL_3468 cL_3469 (by decide +kernel)
theorem dL_law_3470 : decode cL_law 3470 = .ok (.istore 7, 2) := dk_54 cL_3470 cL_3471
theorem dL_law_3472 : decode cL_law 3472 = .ok (.aload_n 2, 1) := dk_44 cL_3472
theorem dL_law_3473 : decode cL_law 3473 = .ok (.invokevirtual 204, 3) := dk_182 cL_3473 cL_3474 cL_3475 (by decide +kernel)
theorem dL_law_3476 : decode cL_law 3476 = .ok (.iload 6, 2) := dk_21 cL_3476 cL_3477
theorem dL_law_3478 : decode cL_law 3478 = .ok (.if_icmp .eq 5, 3) := dk_159 cL_3478 cL_3479 cL_3480 (by decide +kernel)
theorem dL_law_3481 : decode cL_law 3481 = .ok (.iconst 0, 1) := dk_3 cL_3481
theorem dL_law_3482 : decode cL_law 3482 = .ok (.ireturn, 1) := dk_172 cL_3482
theorem dL_law_3483 : decode cL_law 3483 = .ok (.iload 6, 2) := dk_21 cL_3483 cL_3484
theorem dL_law_3485 : decode cL_law 3485 = .ok (.ifCond .ne 15, 3) := dk_154 cL_3485 cL_3486 cL_3487 (by decide +kernel)
theorem dL_law_3488 : decode cL_law 3488 = .ok (.aload_n 3, 1) := dk_45 cL_3488
theorem dL_law_3489 : decode cL_law 3489 = .ok (.iconst 0, 1) := dk_3 cL_3489
theorem dL_law_3490 : decode cL_law 3490 = .ok (.laload, 1) := dk_47 cL_3490
theorem dL_law_3491 : decode cL_law 3491 = .ok (.iload 7, 2) := dk_21 cL_3491 cL_3492
theorem dL_law_3493 : decode cL_law 3493 = .ok (.i2l, 1) := dk_133 cL_3493
theorem dL_law_3494 : decode cL_law 3494 = .ok (.lcmp, 1) := dk_148 cL_3494
theorem dL_law_3495 : decode cL_law 3495 = .ok (.ifCond .eq 5, 3) := dk_153 cL_3495 cL_3496 cL_3497 (by decide +kernel)
theorem dL_law_3498 : decode cL_law 3498 = .ok (.iconst 0, 1) := dk_3 cL_3498
theorem dL_law_3499 : decode cL_law 3499 = .ok (.ireturn, 1) := dk_172 cL_3499
theorem dL_law_3500 : decode cL_law 3500 = .ok (.goto 117, 3) := dk_167 cL_3500 cL_3501 cL_3502 (by decide +kernel)
theorem dL_law_3503 : decode cL_law 3503 = .ok (.aload_n 1, 1) := dk_43 cL_3503
theorem dL_law_3504 : decode cL_law 3504 = .ok (.aload_n 3, 1) := dk_45 cL_3504
theorem dL_law_3505 : decode cL_law 3505 = .ok (.invokestatic 392, 3) := dk_184 cL_3505 cL_3506 cL_3507 (by decide +kernel)
theorem dL_law_3508 : decode cL_law 3508 = .ok (.istore 6, 2) := dk_54 cL_3508 cL_3509
theorem dL_law_3510 : decode cL_law 3510 = .ok (.aload_n 2, 1) := dk_44 cL_3510
theorem dL_law_3511 : decode cL_law 3511 = .ok (.invokevirtual 394, 3) := dk_182 cL_3511 cL_3512 cL_3513 (by decide +kernel)
theorem dL_law_3514 : decode cL_law 3514 = .ok (.istore 7, 2) := dk_54 cL_3514 cL_3515
theorem dL_law_3516 : decode cL_law 3516 = .ok (.aload_n 2, 1) := dk_44 cL_3516
theorem dL_law_3517 : decode cL_law 3517 = .ok (.invokevirtual 204, 3) := dk_182 cL_3517 cL_3518 cL_3519 (by decide +kernel)
theorem dL_law_3520 : decode cL_law 3520 = .ok (.iload 6, 2) := dk_21 cL_3520 cL_3521
theorem dL_law_3522 : decode cL_law 3522 = .ok (.if_icmp .eq 5, 3) := dk_159 cL_3522 cL_3523 cL_3524 (by decide +kernel)
theorem dL_law_3525 : decode cL_law 3525 = .ok (.iconst 0, 1) := dk_3 cL_3525
theorem dL_law_3526 : decode cL_law 3526 = .ok (.ireturn, 1) := dk_172 cL_3526
theorem dL_law_3527 : decode cL_law 3527 = .ok (.iload 6, 2) := dk_21 cL_3527 cL_3528
theorem dL_law_3529 : decode cL_law 3529 = .ok (.ifCond .ne 15, 3) := dk_154 cL_3529 cL_3530 cL_3531 (by decide +kernel)
theorem dL_law_3532 : decode cL_law 3532 = .ok (.aload_n 3, 1) := dk_45 cL_3532
theorem dL_law_3533 : decode cL_law 3533 = .ok (.iconst 0, 1) := dk_3 cL_3533
theorem dL_law_3534 : decode cL_law 3534 = .ok (.laload, 1) := dk_47 cL_3534
theorem dL_law_3535 : decode cL_law 3535 = .ok (.iload 7, 2) := dk_21 cL_3535 cL_3536
theorem dL_law_3537 : decode cL_law 3537 = .ok (.i2l, 1) := dk_133 cL_3537
theorem dL_law_3538 : decode cL_law 3538 = .ok (.lcmp, 1) := dk_148 cL_3538
theorem dL_law_3539 : decode cL_law 3539 = .ok (.ifCond .eq 5, 3) := dk_153 cL_3539 cL_3540 cL_3541 (by decide +kernel)
theorem dL_law_3542 : decode cL_law 3542 = .ok (.iconst 0, 1) := dk_3 cL_3542
theorem dL_law_3543 : decode cL_law 3543 = .ok (.ireturn, 1) := dk_172 cL_3543
theorem dL_law_3544 : decode cL_law 3544 = .ok (.goto 73, 3) := dk_167 cL_3544 cL_3545 cL_3546 (by decide +kernel)
theorem dL_law_3547 : decode cL_law 3547 = .ok (.aload_n 1, 1) := dk_43 cL_3547
theorem dL_law_3548 : decode cL_law 3548 = .ok (.invokevirtual 395, 3) := dk_182 cL_3548 cL_3549 cL_3550 (by decide +kernel)
theorem dL_law_3551 : decode cL_law 3551 = .ok (.aload_n 2, 1) := dk_44 cL_3551
theorem dL_law_3552 : decode cL_law 3552 = .ok (.invokevirtual 398, 3) := dk_182 cL_3552 cL_3553 cL_3554 (by decide +kernel)
theorem dL_law_3555 : decode cL_law 3555 = .ok (.if_icmp .eq 62, 3) := dk_159 cL_3555 cL_3556 cL_3557 (by decide +kernel)
theorem dL_law_3558 : decode cL_law 3558 = .ok (.iconst 0, 1) := dk_3 cL_3558
theorem dL_law_3559 : decode cL_law 3559 = .ok (.ireturn, 1) := dk_172 cL_3559
theorem dL_law_3560 : decode cL_law 3560 = .ok (.aload_n 1, 1) := dk_43 cL_3560
theorem dL_law_3561 : decode cL_law 3561 = .ok (.invokevirtual 399, 3) := dk_182 cL_3561 cL_3562 cL_3563 (by decide +kernel)
theorem dL_law_3564 : decode cL_law 3564 = .ok (.aload_n 2, 1) := dk_44 cL_3564
theorem dL_law_3565 : decode cL_law 3565 = .ok (.invokevirtual 402, 3) := dk_182 cL_3565 cL_3566 cL_3567 (by decide +kernel)
theorem dL_law_3568 : decode cL_law 3568 = .ok (.if_icmp .eq 49, 3) := dk_159 cL_3568 cL_3569 cL_3570 (by decide +kernel)
theorem dL_law_3571 : decode cL_law 3571 = .ok (.iconst 0, 1) := dk_3 cL_3571
theorem dL_law_3572 : decode cL_law 3572 = .ok (.ireturn, 1) := dk_172 cL_3572
theorem dL_law_3573 : decode cL_law 3573 = .ok (.aload_n 1, 1) := dk_43 cL_3573
theorem dL_law_3574 : decode cL_law 3574 = .ok (.aload_n 3, 1) := dk_45 cL_3574
theorem dL_law_3575 : decode cL_law 3575 = .ok (.invokestatic 403, 3) := dk_184 cL_3575 cL_3576 cL_3577 (by decide +kernel)
theorem dL_law_3578 : decode cL_law 3578 = .ok (.istore 6, 2) := dk_54 cL_3578 cL_3579
theorem dL_law_3580 : decode cL_law 3580 = .ok (.aload_n 2, 1) := dk_44 cL_3580
theorem dL_law_3581 : decode cL_law 3581 = .ok (.invokevirtual 405, 3) := dk_182 cL_3581 cL_3582 cL_3583 (by decide +kernel)
theorem dL_law_3584 : decode cL_law 3584 = .ok (.istore 7, 2) := dk_54 cL_3584 cL_3585
theorem dL_law_3586 : decode cL_law 3586 = .ok (.aload_n 2, 1) := dk_44 cL_3586
theorem dL_law_3587 : decode cL_law 3587 = .ok (.invokevirtual 204, 3) := dk_182 cL_3587 cL_3588 cL_3589 (by decide +kernel)
theorem dL_law_3590 : decode cL_law 3590 = .ok (.iload 6, 2) := dk_21 cL_3590 cL_3591
theorem dL_law_3592 : decode cL_law 3592 = .ok (.if_icmp .eq 5, 3) := dk_159 cL_3592 cL_3593 cL_3594 (by decide +kernel)
theorem dL_law_3595 : decode cL_law 3595 = .ok (.iconst 0, 1) := dk_3 cL_3595
theorem dL_law_3596 : decode cL_law 3596 = .ok (.ireturn, 1) := dk_172 cL_3596
theorem dL_law_3597 : decode cL_law 3597 = .ok (.iload 6, 2) := dk_21 cL_3597 cL_3598
theorem dL_law_3599 : decode cL_law 3599 = .ok (.ifCond .ne 15, 3) := dk_154 cL_3599 cL_3600 cL_3601 (by decide +kernel)
theorem dL_law_3602 : decode cL_law 3602 = .ok (.aload_n 3, 1) := dk_45 cL_3602
theorem dL_law_3603 : decode cL_law 3603 = .ok (.iconst 0, 1) := dk_3 cL_3603
theorem dL_law_3604 : decode cL_law 3604 = .ok (.laload, 1) := dk_47 cL_3604
theorem dL_law_3605 : decode cL_law 3605 = .ok (.iload 7, 2) := dk_21 cL_3605 cL_3606
theorem dL_law_3607 : decode cL_law 3607 = .ok (.i2l, 1) := dk_133 cL_3607
theorem dL_law_3608 : decode cL_law 3608 = .ok (.lcmp, 1) := dk_148 cL_3608
theorem dL_law_3609 : decode cL_law 3609 = .ok (.ifCond .eq 5, 3) := dk_153 cL_3609 cL_3610 cL_3611 (by decide +kernel)
theorem dL_law_3612 : decode cL_law 3612 = .ok (.iconst 0, 1) := dk_3 cL_3612
theorem dL_law_3613 : decode cL_law 3613 = .ok (.ireturn, 1) := dk_172 cL_3613
theorem dL_law_3614 : decode cL_law 3614 = .ok (.goto 3, 3) := dk_167 cL_3614 cL_3615 cL_3616 (by decide +kernel)
theorem dL_law_3617 : decode cL_law 3617 = .ok (.iinc 5 7, 3) := by decide +kernel
theorem dL_law_3620 : decode cL_law 3620 = .ok (.goto (-3592), 3) := dk_167 cL_3620 cL_3621 cL_3622 (by decide +kernel)
theorem dL_law_3623 : decode cL_law 3623 = .ok (.iconst 1, 1) := dk_4 cL_3623
theorem dL_law_3624 : decode cL_law 3624 = .ok (.ireturn, 1) := dk_172 cL_3624
