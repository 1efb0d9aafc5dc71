/-! the law: its instructions -/
theorem dL_law_0 : decode code 0 = .ok (.new 8, 3) := by decide +kernel
theorem dL_law_3 : decode code 3 = .ok (.dup, 1) := by decide +kernel
theorem dL_law_4 : decode code 4 = .ok (.invokespecial 144, 3) := by decide +kernel
theorem dL_law_7 : decode code 7 = .ok (.astore_n 1, 1) := by decide +kernel
theorem dL_law_8 : decode code 8 = .ok (.new 145, 3) := by decide +kernel
theorem dL_law_11 : decode code 11 = .ok (.dup, 1) := by decide +kernel
theorem dL_law_12 : decode code 12 = .ok (.invokespecial 147, 3) := by decide +kernel
theorem dL_law_15 : decode code 15 = .ok (.astore_n 2, 1) := by decide +kernel
theorem dL_law_16 : decode code 16 = .ok (.iconst 1, 1) := by decide +kernel
theorem dL_law_17 : decode code 17 = .ok (.newarray .long, 2) := by decide +kernel
theorem dL_law_19 : decode code 19 = .ok (.astore_n 3, 1) := by decide +kernel
theorem dL_law_20 : decode code 20 = .ok (.iconst 1, 1) := by decide +kernel
theorem dL_law_21 : decode code 21 = .ok (.newarray .double, 2) := by decide +kernel
theorem dL_law_23 : decode code 23 = .ok (.astore 4, 2) := by decide +kernel
theorem dL_law_25 : decode code 25 = .ok (.iconst 0, 1) := by decide +kernel
theorem dL_law_26 : decode code 26 = .ok (.istore 5, 2) := by decide +kernel
theorem dL_law_28 : decode code 28 = .ok (.iload 5, 2) := by decide +kernel
theorem dL_law_30 : decode code 30 = .ok (.aload_n 0, 1) := by decide +kernel
theorem dL_law_31 : decode code 31 = .ok (.arraylength, 1) := by decide +kernel
theorem dL_law_32 : decode code 32 = .ok (.iconst 4, 1) := by decide +kernel
theorem dL_law_33 : decode code 33 = .ok (.isub, 1) := by decide +kernel
theorem dL_law_34 : decode code 34 = .ok (.if_icmp .gt 2595, 3) := by decide +kernel
theorem dL_law_37 : decode code 37 = .ok (.aload_n 0, 1) := by decide +kernel
theorem dL_law_38 : decode code 38 = .ok (.iload 5, 2) := by decide +kernel
theorem dL_law_40 : decode code 40 = .ok (.iaload, 1) := by decide +kernel
theorem dL_law_41 : decode code 41 = .ok (.bipush 63, 2) := by decide +kernel
theorem dL_law_43 : decode code 43 = .ok (.iand, 1) := by decide +kernel
theorem dL_law_44 : decode code 44 = .ok (.tableswitch 2579 0 52 #[228, 296, 352, 365, 421, 477, 533, 589, 645, 701, 757, 813, 881, 894, 974, 1030, 1086, 1142, 1198, 1254, 1310, 1378, 1446, 1459, 1534, 1547, 1560, 1616, 1629, 1685, 1741, 1754, 1767, 1823, 1879, 1892, 1905, 1918, 1931, 1944, 2009, 2075, 2133, 2177, 2221, 2277, 2333, 2377, 2421, 2465, 2509, 2522, 2535], 228) := by decide +kernel
theorem dL_law_272 : decode code 272 = .ok (.aload_n 1, 1) := by decide +kernel
theorem dL_law_273 : decode code 273 = .ok (.aload_n 0, 1) := by decide +kernel
theorem dL_law_274 : decode code 274 = .ok (.iload 5, 2) := by decide +kernel
theorem dL_law_276 : decode code 276 = .ok (.iconst 1, 1) := by decide +kernel
theorem dL_law_277 : decode code 277 = .ok (.iadd, 1) := by decide +kernel
theorem dL_law_278 : decode code 278 = .ok (.iaload, 1) := by decide +kernel
theorem dL_law_279 : decode code 279 = .ok (.aload_n 0, 1) := by decide +kernel
theorem dL_law_280 : decode code 280 = .ok (.iload 5, 2) := by decide +kernel
theorem dL_law_282 : decode code 282 = .ok (.iconst 2, 1) := by decide +kernel
theorem dL_law_283 : decode code 283 = .ok (.iadd, 1) := by decide +kernel
theorem dL_law_284 : decode code 284 = .ok (.iaload, 1) := by decide +kernel
theorem dL_law_285 : decode code 285 = .ok (.aload_n 3, 1) := by decide +kernel
theorem dL_law_286 : decode code 286 = .ok (.invokestatic 148, 3) := by decide +kernel
theorem dL_law_289 : decode code 289 = .ok (.istore 6, 2) := by decide +kernel
theorem dL_law_291 : decode code 291 = .ok (.aload_n 2, 1) := by decide +kernel
theorem dL_law_292 : decode code 292 = .ok (.aload_n 0, 1) := by decide +kernel
theorem dL_law_293 : decode code 293 = .ok (.iload 5, 2) := by decide +kernel
theorem dL_law_295 : decode code 295 = .ok (.iconst 1, 1) := by decide +kernel
theorem dL_law_296 : decode code 296 = .ok (.iadd, 1) := by decide +kernel
theorem dL_law_297 : decode code 297 = .ok (.iaload, 1) := by decide +kernel
theorem dL_law_298 : decode code 298 = .ok (.aload_n 0, 1) := by decide +kernel
theorem dL_law_299 : decode code 299 = .ok (.iload 5, 2) := by decide +kernel
theorem dL_law_301 : decode code 301 = .ok (.iconst 2, 1) := by decide +kernel
theorem dL_law_302 : decode code 302 = .ok (.iadd, 1) := by decide +kernel
theorem dL_law_303 : decode code 303 = .ok (.iaload, 1) := by decide +kernel
theorem dL_law_304 : decode code 304 = .ok (.invokevirtual 153, 3) := by decide +kernel
theorem dL_law_307 : decode code 307 = .ok (.istore 7, 2) := by decide +kernel
theorem dL_law_309 : decode code 309 = .ok (.aload_n 2, 1) := by decide +kernel
theorem dL_law_310 : decode code 310 = .ok (.invokevirtual 154, 3) := by decide +kernel
theorem dL_law_313 : decode code 313 = .ok (.iload 6, 2) := by decide +kernel
theorem dL_law_315 : decode code 315 = .ok (.if_icmp .eq 5, 3) := by decide +kernel
theorem dL_law_318 : decode code 318 = .ok (.iconst 0, 1) := by decide +kernel
theorem dL_law_319 : decode code 319 = .ok (.ireturn, 1) := by decide +kernel
theorem dL_law_320 : decode code 320 = .ok (.iload 6, 2) := by decide +kernel
theorem dL_law_322 : decode code 322 = .ok (.ifCond .ne 15, 3) := by decide +kernel
theorem dL_law_325 : decode code 325 = .ok (.aload_n 3, 1) := by decide +kernel
theorem dL_law_326 : decode code 326 = .ok (.iconst 0, 1) := by decide +kernel
theorem dL_law_327 : decode code 327 = .ok (.laload, 1) := by decide +kernel
theorem dL_law_328 : decode code 328 = .ok (.iload 7, 2) := by decide +kernel
theorem dL_law_330 : decode code 330 = .ok (.i2l, 1) := by decide +kernel
theorem dL_law_331 : decode code 331 = .ok (.lcmp, 1) := by decide +kernel
theorem dL_law_332 : decode code 332 = .ok (.ifCond .eq 5, 3) := by decide +kernel
theorem dL_law_335 : decode code 335 = .ok (.iconst 0, 1) := by decide +kernel
theorem dL_law_336 : decode code 336 = .ok (.ireturn, 1) := by decide +kernel
theorem dL_law_337 : decode code 337 = .ok (.goto 2286, 3) := by decide +kernel
theorem dL_law_340 : decode code 340 = .ok (.aload_n 1, 1) := by decide +kernel
theorem dL_law_341 : decode code 341 = .ok (.aload_n 0, 1) := by decide +kernel
theorem dL_law_342 : decode code 342 = .ok (.iload 5, 2) := by decide +kernel
theorem dL_law_344 : decode code 344 = .ok (.iconst 1, 1) := by decide +kernel
theorem dL_law_345 : decode code 345 = .ok (.iadd, 1) := by decide +kernel
theorem dL_law_346 : decode code 346 = .ok (.iaload, 1) := by decide +kernel
theorem dL_law_347 : decode code 347 = .ok (.aload_n 3, 1) := by decide +kernel
theorem dL_law_348 : decode code 348 = .ok (.invokestatic 157, 3) := by decide +kernel
theorem dL_law_351 : decode code 351 = .ok (.istore 6, 2) := by decide +kernel
theorem dL_law_353 : decode code 353 = .ok (.aload_n 2, 1) := by decide +kernel
theorem dL_law_354 : decode code 354 = .ok (.aload_n 0, 1) := by decide +kernel
theorem dL_law_355 : decode code 355 = .ok (.iload 5, 2) := by decide +kernel
theorem dL_law_357 : decode code 357 = .ok (.iconst 1, 1) := by decide +kernel
theorem dL_law_358 : decode code 358 = .ok (.iadd, 1) := by decide +kernel
theorem dL_law_359 : decode code 359 = .ok (.iaload, 1) := by decide +kernel
theorem dL_law_360 : decode code 360 = .ok (.invokevirtual 160, 3) := by decide +kernel
theorem dL_law_363 : decode code 363 = .ok (.istore 7, 2) := by decide +kernel
theorem dL_law_365 : decode code 365 = .ok (.aload_n 2, 1) := by decide +kernel
theorem dL_law_366 : decode code 366 = .ok (.invokevirtual 154, 3) := by decide +kernel
theorem dL_law_369 : decode code 369 = .ok (.iload 6, 2) := by decide +kernel
theorem dL_law_371 : decode code 371 = .ok (.if_icmp .eq 5, 3) := by decide +kernel
theorem dL_law_374 : decode code 374 = .ok (.iconst 0, 1) := by decide +kernel
theorem dL_law_375 : decode code 375 = .ok (.ireturn, 1) := by decide +kernel
theorem dL_law_376 : decode code 376 = .ok (.iload 6, 2) := by decide +kernel
theorem dL_law_378 : decode code 378 = .ok (.ifCond .ne 15, 3) := by decide +kernel
theorem dL_law_381 : decode code 381 = .ok (.aload_n 3, 1) := by decide +kernel
theorem dL_law_382 : decode code 382 = .ok (.iconst 0, 1) := by decide +kernel
theorem dL_law_383 : decode code 383 = .ok (.laload, 1) := by decide +kernel
theorem dL_law_384 : decode code 384 = .ok (.iload 7, 2) := by decide +kernel
theorem dL_law_386 : decode code 386 = .ok (.i2l, 1) := by decide +kernel
theorem dL_law_387 : decode code 387 = .ok (.lcmp, 1) := by decide +kernel
theorem dL_law_388 : decode code 388 = .ok (.ifCond .eq 5, 3) := by decide +kernel
theorem dL_law_391 : decode code 391 = .ok (.iconst 0, 1) := by decide +kernel
theorem dL_law_392 : decode code 392 = .ok (.ireturn, 1) := by decide +kernel
theorem dL_law_393 : decode code 393 = .ok (.goto 2230, 3) := by decide +kernel
theorem dL_law_396 : decode code 396 = .ok (.aload_n 1, 1) := by decide +kernel
theorem dL_law_397 : decode code 397 = .ok (.invokevirtual 161, 3) := by decide +kernel
theorem dL_law_400 : decode code 400 = .ok (.aload_n 2, 1) := by decide +kernel
theorem dL_law_401 : decode code 401 = .ok (.invokevirtual 164, 3) := by decide +kernel
theorem dL_law_404 : decode code 404 = .ok (.if_icmp .eq 2219, 3) := by decide +kernel
theorem dL_law_407 : decode code 407 = .ok (.iconst 0, 1) := by decide +kernel
theorem dL_law_408 : decode code 408 = .ok (.ireturn, 1) := by decide +kernel
theorem dL_law_409 : decode code 409 = .ok (.aload_n 1, 1) := by decide +kernel
theorem dL_law_410 : decode code 410 = .ok (.aload_n 0, 1) := by decide +kernel
theorem dL_law_411 : decode code 411 = .ok (.iload 5, 2) := by decide +kernel
theorem dL_law_413 : decode code 413 = .ok (.iconst 1, 1) := by decide +kernel
theorem dL_law_414 : decode code 414 = .ok (.iadd, 1) := by decide +kernel
theorem dL_law_415 : decode code 415 = .ok (.iaload, 1) := by decide +kernel
theorem dL_law_416 : decode code 416 = .ok (.aload_n 3, 1) := by decide +kernel
theorem dL_law_417 : decode code 417 = .ok (.invokestatic 165, 3) := by decide +kernel
theorem dL_law_420 : decode code 420 = .ok (.istore 6, 2) := by decide +kernel
theorem dL_law_422 : decode code 422 = .ok (.aload_n 2, 1) := by decide +kernel
theorem dL_law_423 : decode code 423 = .ok (.aload_n 0, 1) := by decide +kernel
theorem dL_law_424 : decode code 424 = .ok (.iload 5, 2) := by decide +kernel
theorem dL_law_426 : decode code 426 = .ok (.iconst 1, 1) := by decide +kernel
theorem dL_law_427 : decode code 427 = .ok (.iadd, 1) := by decide +kernel
theorem dL_law_428 : decode code 428 = .ok (.iaload, 1) := by decide +kernel
theorem dL_law_429 : decode code 429 = .ok (.invokevirtual 167, 3) := by decide +kernel
theorem dL_law_432 : decode code 432 = .ok (.istore 7, 2) := by decide +kernel
theorem dL_law_434 : decode code 434 = .ok (.aload_n 2, 1) := by decide +kernel
theorem dL_law_435 : decode code 435 = .ok (.invokevirtual 154, 3) := by decide +kernel
theorem dL_law_438 : decode code 438 = .ok (.iload 6, 2) := by decide +kernel
theorem dL_law_440 : decode code 440 = .ok (.if_icmp .eq 5, 3) := by decide +kernel
theorem dL_law_443 : decode code 443 = .ok (.iconst 0, 1) := by decide +kernel
theorem dL_law_444 : decode code 444 = .ok (.ireturn, 1) := by decide +kernel
theorem dL_law_445 : decode code 445 = .ok (.iload 6, 2) := by decide +kernel
theorem dL_law_447 : decode code 447 = .ok (.ifCond .ne 15, 3) := by decide +kernel
theorem dL_law_450 : decode code 450 = .ok (.aload_n 3, 1) := by decide +kernel
theorem dL_law_451 : decode code 451 = .ok (.iconst 0, 1) := by decide +kernel
theorem dL_law_452 : decode code 452 = .ok (.laload, 1) := by decide +kernel
theorem dL_law_453 : decode code 453 = .ok (.iload 7, 2) := by decide +kernel
theorem dL_law_455 : decode code 455 = .ok (.i2l, 1) := by decide +kernel
theorem dL_law_456 : decode code 456 = .ok (.lcmp, 1) := by decide +kernel
theorem dL_law_457 : decode code 457 = .ok (.ifCond .eq 5, 3) := by decide +kernel
theorem dL_law_460 : decode code 460 = .ok (.iconst 0, 1) := by decide +kernel
theorem dL_law_461 : decode code 461 = .ok (.ireturn, 1) := by decide +kernel
theorem dL_law_462 : decode code 462 = .ok (.goto 2161, 3) := by decide +kernel
theorem dL_law_465 : decode code 465 = .ok (.aload_n 1, 1) := by decide +kernel
theorem dL_law_466 : decode code 466 = .ok (.aload_n 0, 1) := by decide +kernel
theorem dL_law_467 : decode code 467 = .ok (.iload 5, 2) := by decide +kernel
theorem dL_law_469 : decode code 469 = .ok (.iconst 1, 1) := by decide +kernel
theorem dL_law_470 : decode code 470 = .ok (.iadd, 1) := by decide +kernel
theorem dL_law_471 : decode code 471 = .ok (.iaload, 1) := by decide +kernel
theorem dL_law_472 : decode code 472 = .ok (.aload_n 3, 1) := by decide +kernel
theorem dL_law_473 : decode code 473 = .ok (.invokestatic 168, 3) := by decide +kernel
theorem dL_law_476 : decode code 476 = .ok (.istore 6, 2) := by decide +kernel
theorem dL_law_478 : decode code 478 = .ok (.aload_n 2, 1) := by decide +kernel
theorem dL_law_479 : decode code 479 = .ok (.aload_n 0, 1) := by decide +kernel
theorem dL_law_480 : decode code 480 = .ok (.iload 5, 2) := by decide +kernel
theorem dL_law_482 : decode code 482 = .ok (.iconst 1, 1) := by decide +kernel
theorem dL_law_483 : decode code 483 = .ok (.iadd, 1) := by decide +kernel
theorem dL_law_484 : decode code 484 = .ok (.iaload, 1) := by decide +kernel
theorem dL_law_485 : decode code 485 = .ok (.invokevirtual 170, 3) := by decide +kernel
theorem dL_law_488 : decode code 488 = .ok (.istore 7, 2) := by decide +kernel
theorem dL_law_490 : decode code 490 = .ok (.aload_n 2, 1) := by decide +kernel
theorem dL_law_491 : decode code 491 = .ok (.invokevirtual 154, 3) := by decide +kernel
theorem dL_law_494 : decode code 494 = .ok (.iload 6, 2) := by decide +kernel
theorem dL_law_496 : decode code 496 = .ok (.if_icmp .eq 5, 3) := by decide +kernel
theorem dL_law_499 : decode code 499 = .ok (.iconst 0, 1) := by decide +kernel
theorem dL_law_500 : decode code 500 = .ok (.ireturn, 1) := by decide +kernel
theorem dL_law_501 : decode code 501 = .ok (.iload 6, 2) := by decide +kernel
theorem dL_law_503 : decode code 503 = .ok (.ifCond .ne 15, 3) := by decide +kernel
theorem dL_law_506 : decode code 506 = .ok (.aload_n 3, 1) := by decide +kernel
theorem dL_law_507 : decode code 507 = .ok (.iconst 0, 1) := by decide +kernel
theorem dL_law_508 : decode code 508 = .ok (.laload, 1) := by decide +kernel
theorem dL_law_509 : decode code 509 = .ok (.iload 7, 2) := by decide +kernel
theorem dL_law_511 : decode code 511 = .ok (.i2l, 1) := by decide +kernel
theorem dL_law_512 : decode code 512 = .ok (.lcmp, 1) := by decide +kernel
theorem dL_law_513 : decode code 513 = .ok (.ifCond .eq 5, 3) := by decide +kernel
theorem dL_law_516 : decode code 516 = .ok (.iconst 0, 1) := by decide +kernel
theorem dL_law_517 : decode code 517 = .ok (.ireturn, 1) := by decide +kernel
theorem dL_law_518 : decode code 518 = .ok (.goto 2105, 3) := by decide +kernel
theorem dL_law_521 : decode code 521 = .ok (.aload_n 1, 1) := by decide +kernel
theorem dL_law_522 : decode code 522 = .ok (.aload_n 0, 1) := by decide +kernel
theorem dL_law_523 : decode code 523 = .ok (.iload 5, 2) := by decide +kernel
theorem dL_law_525 : decode code 525 = .ok (.iconst 1, 1) := by decide +kernel
theorem dL_law_526 : decode code 526 = .ok (.iadd, 1) := by decide +kernel
theorem dL_law_527 : decode code 527 = .ok (.iaload, 1) := by decide +kernel
theorem dL_law_528 : decode code 528 = .ok (.aload_n 3, 1) := by decide +kernel
theorem dL_law_529 : decode code 529 = .ok (.invokestatic 171, 3) := by decide +kernel
theorem dL_law_532 : decode code 532 = .ok (.istore 6, 2) := by decide +kernel
theorem dL_law_534 : decode code 534 = .ok (.aload_n 2, 1) := by decide +kernel
theorem dL_law_535 : decode code 535 = .ok (.aload_n 0, 1) := by decide +kernel
theorem dL_law_536 : decode code 536 = .ok (.iload 5, 2) := by decide +kernel
theorem dL_law_538 : decode code 538 = .ok (.iconst 1, 1) := by decide +kernel
theorem dL_law_539 : decode code 539 = .ok (.iadd, 1) := by decide +kernel
theorem dL_law_540 : decode code 540 = .ok (.iaload, 1) := by decide +kernel
theorem dL_law_541 : decode code 541 = .ok (.invokevirtual 173, 3) := by decide +kernel
theorem dL_law_544 : decode code 544 = .ok (.istore 7, 2) := by decide +kernel
theorem dL_law_546 : decode code 546 = .ok (.aload_n 2, 1) := by decide +kernel
theorem dL_law_547 : decode code 547 = .ok (.invokevirtual 154, 3) := by decide +kernel
theorem dL_law_550 : decode code 550 = .ok (.iload 6, 2) := by decide +kernel
theorem dL_law_552 : decode code 552 = .ok (.if_icmp .eq 5, 3) := by decide +kernel
theorem dL_law_555 : decode code 555 = .ok (.iconst 0, 1) := by decide +kernel
theorem dL_law_556 : decode code 556 = .ok (.ireturn, 1) := by decide +kernel
theorem dL_law_557 : decode code 557 = .ok (.iload 6, 2) := by decide +kernel
theorem dL_law_559 : decode code 559 = .ok (.ifCond .ne 15, 3) := by decide +kernel
theorem dL_law_562 : decode code 562 = .ok (.aload_n 3, 1) := by decide +kernel
theorem dL_law_563 : decode code 563 = .ok (.iconst 0, 1) := by decide +kernel
theorem dL_law_564 : decode code 564 = .ok (.laload, 1) := by decide +kernel
theorem dL_law_565 : decode code 565 = .ok (.iload 7, 2) := by decide +kernel
theorem dL_law_567 : decode code 567 = .ok (.i2l, 1) := by decide +kernel
theorem dL_law_568 : decode code 568 = .ok (.lcmp, 1) := by decide +kernel
theorem dL_law_569 : decode code 569 = .ok (.ifCond .eq 5, 3) := by decide +kernel
theorem dL_law_572 : decode code 572 = .ok (.iconst 0, 1) := by decide +kernel
theorem dL_law_573 : decode code 573 = .ok (.ireturn, 1) := by decide +kernel
theorem dL_law_574 : decode code 574 = .ok (.goto 2049, 3) := by decide +kernel
theorem dL_law_577 : decode code 577 = .ok (.aload_n 1, 1) := by decide +kernel
theorem dL_law_578 : decode code 578 = .ok (.aload_n 0, 1) := by decide +kernel
theorem dL_law_579 : decode code 579 = .ok (.iload 5, 2) := by decide +kernel
theorem dL_law_581 : decode code 581 = .ok (.iconst 1, 1) := by decide +kernel
theorem dL_law_582 : decode code 582 = .ok (.iadd, 1) := by decide +kernel
theorem dL_law_583 : decode code 583 = .ok (.iaload, 1) := by decide +kernel
theorem dL_law_584 : decode code 584 = .ok (.aload_n 3, 1) := by decide +kernel
theorem dL_law_585 : decode code 585 = .ok (.invokestatic 174, 3) := by decide +kernel
theorem dL_law_588 : decode code 588 = .ok (.istore 6, 2) := by decide +kernel
theorem dL_law_590 : decode code 590 = .ok (.aload_n 2, 1) := by decide +kernel
theorem dL_law_591 : decode code 591 = .ok (.aload_n 0, 1) := by decide +kernel
theorem dL_law_592 : decode code 592 = .ok (.iload 5, 2) := by decide +kernel
theorem dL_law_594 : decode code 594 = .ok (.iconst 1, 1) := by decide +kernel
theorem dL_law_595 : decode code 595 = .ok (.iadd, 1) := by decide +kernel
theorem dL_law_596 : decode code 596 = .ok (.iaload, 1) := by decide +kernel
theorem dL_law_597 : decode code 597 = .ok (.invokevirtual 176, 3) := by decide +kernel
theorem dL_law_600 : decode code 600 = .ok (.istore 7, 2) := by decide +kernel
theorem dL_law_602 : decode code 602 = .ok (.aload_n 2, 1) := by decide +kernel
theorem dL_law_603 : decode code 603 = .ok (.invokevirtual 154, 3) := by decide +kernel
theorem dL_law_606 : decode code 606 = .ok (.iload 6, 2) := by decide +kernel
theorem dL_law_608 : decode code 608 = .ok (.if_icmp .eq 5, 3) := by decide +kernel
theorem dL_law_611 : decode code 611 = .ok (.iconst 0, 1) := by decide +kernel
theorem dL_law_612 : decode code 612 = .ok (.ireturn, 1) := by decide +kernel
theorem dL_law_613 : decode code 613 = .ok (.iload 6, 2) := by decide +kernel
theorem dL_law_615 : decode code 615 = .ok (.ifCond .ne 15, 3) := by decide +kernel
theorem dL_law_618 : decode code 618 = .ok (.aload_n 3, 1) := by decide +kernel
theorem dL_law_619 : decode code 619 = .ok (.iconst 0, 1) := by decide +kernel
theorem dL_law_620 : decode code 620 = .ok (.laload, 1) := by decide +kernel
theorem dL_law_621 : decode code 621 = .ok (.iload 7, 2) := by decide +kernel
theorem dL_law_623 : decode code 623 = .ok (.i2l, 1) := by decide +kernel
theorem dL_law_624 : decode code 624 = .ok (.lcmp, 1) := by decide +kernel
theorem dL_law_625 : decode code 625 = .ok (.ifCond .eq 5, 3) := by decide +kernel
theorem dL_law_628 : decode code 628 = .ok (.iconst 0, 1) := by decide +kernel
theorem dL_law_629 : decode code 629 = .ok (.ireturn, 1) := by decide +kernel
theorem dL_law_630 : decode code 630 = .ok (.goto 1993, 3) := by decide +kernel
theorem dL_law_633 : decode code 633 = .ok (.aload_n 1, 1) := by decide +kernel
theorem dL_law_634 : decode code 634 = .ok (.aload_n 0, 1) := by decide +kernel
theorem dL_law_635 : decode code 635 = .ok (.iload 5, 2) := by decide +kernel
theorem dL_law_637 : decode code 637 = .ok (.iconst 1, 1) := by decide +kernel
theorem dL_law_638 : decode code 638 = .ok (.iadd, 1) := by decide +kernel
theorem dL_law_639 : decode code 639 = .ok (.iaload, 1) := by decide +kernel
theorem dL_law_640 : decode code 640 = .ok (.aload_n 3, 1) := by decide +kernel
theorem dL_law_641 : decode code 641 = .ok (.invokestatic 177, 3) := by decide +kernel
theorem dL_law_644 : decode code 644 = .ok (.istore 6, 2) := by decide +kernel
theorem dL_law_646 : decode code 646 = .ok (.aload_n 2, 1) := by decide +kernel
theorem dL_law_647 : decode code 647 = .ok (.aload_n 0, 1) := by decide +kernel
theorem dL_law_648 : decode code 648 = .ok (.iload 5, 2) := by decide +kernel
theorem dL_law_650 : decode code 650 = .ok (.iconst 1, 1) := by decide +kernel
theorem dL_law_651 : decode code 651 = .ok (.iadd, 1) := by decide +kernel
theorem dL_law_652 : decode code 652 = .ok (.iaload, 1) := by decide +kernel
theorem dL_law_653 : decode code 653 = .ok (.invokevirtual 179, 3) := by decide +kernel
theorem dL_law_656 : decode code 656 = .ok (.istore 7, 2) := by decide +kernel
theorem dL_law_658 : decode code 658 = .ok (.aload_n 2, 1) := by decide +kernel
theorem dL_law_659 : decode code 659 = .ok (.invokevirtual 154, 3) := by decide +kernel
theorem dL_law_662 : decode code 662 = .ok (.iload 6, 2) := by decide +kernel
theorem dL_law_664 : decode code 664 = .ok (.if_icmp .eq 5, 3) := by decide +kernel
theorem dL_law_667 : decode code 667 = .ok (.iconst 0, 1) := by decide +kernel
theorem dL_law_668 : decode code 668 = .ok (.ireturn, 1) := by decide +kernel
theorem dL_law_669 : decode code 669 = .ok (.iload 6, 2) := by decide +kernel
theorem dL_law_671 : decode code 671 = .ok (.ifCond .ne 15, 3) := by decide +kernel
theorem dL_law_674 : decode code 674 = .ok (.aload_n 3, 1) := by decide +kernel
theorem dL_law_675 : decode code 675 = .ok (.iconst 0, 1) := by decide +kernel
theorem dL_law_676 : decode code 676 = .ok (.laload, 1) := by decide +kernel
theorem dL_law_677 : decode code 677 = .ok (.iload 7, 2) := by decide +kernel
theorem dL_law_679 : decode code 679 = .ok (.i2l, 1) := by decide +kernel
theorem dL_law_680 : decode code 680 = .ok (.lcmp, 1) := by decide +kernel
theorem dL_law_681 : decode code 681 = .ok (.ifCond .eq 5, 3) := by decide +kernel
theorem dL_law_684 : decode code 684 = .ok (.iconst 0, 1) := by decide +kernel
theorem dL_law_685 : decode code 685 = .ok (.ireturn, 1) := by decide +kernel
theorem dL_law_686 : decode code 686 = .ok (.goto 1937, 3) := by decide +kernel
theorem dL_law_689 : decode code 689 = .ok (.aload_n 1, 1) := by decide +kernel
theorem dL_law_690 : decode code 690 = .ok (.aload_n 0, 1) := by decide +kernel
theorem dL_law_691 : decode code 691 = .ok (.iload 5, 2) := by decide +kernel
theorem dL_law_693 : decode code 693 = .ok (.iconst 1, 1) := by decide +kernel
theorem dL_law_694 : decode code 694 = .ok (.iadd, 1) := by decide +kernel
theorem dL_law_695 : decode code 695 = .ok (.iaload, 1) := by decide +kernel
theorem dL_law_696 : decode code 696 = .ok (.aload_n 3, 1) := by decide +kernel
theorem dL_law_697 : decode code 697 = .ok (.invokestatic 180, 3) := by decide +kernel
theorem dL_law_700 : decode code 700 = .ok (.istore 6, 2) := by decide +kernel
theorem dL_law_702 : decode code 702 = .ok (.aload_n 2, 1) := by decide +kernel
theorem dL_law_703 : decode code 703 = .ok (.aload_n 0, 1) := by decide +kernel
theorem dL_law_704 : decode code 704 = .ok (.iload 5, 2) := by decide +kernel
theorem dL_law_706 : decode code 706 = .ok (.iconst 1, 1) := by decide +kernel
theorem dL_law_707 : decode code 707 = .ok (.iadd, 1) := by decide +kernel
theorem dL_law_708 : decode code 708 = .ok (.iaload, 1) := by decide +kernel
theorem dL_law_709 : decode code 709 = .ok (.invokevirtual 182, 3) := by decide +kernel
theorem dL_law_712 : decode code 712 = .ok (.istore 7, 2) := by decide +kernel
theorem dL_law_714 : decode code 714 = .ok (.aload_n 2, 1) := by decide +kernel
theorem dL_law_715 : decode code 715 = .ok (.invokevirtual 154, 3) := by decide +kernel
theorem dL_law_718 : decode code 718 = .ok (.iload 6, 2) := by decide +kernel
theorem dL_law_720 : decode code 720 = .ok (.if_icmp .eq 5, 3) := by decide +kernel
theorem dL_law_723 : decode code 723 = .ok (.iconst 0, 1) := by decide +kernel
theorem dL_law_724 : decode code 724 = .ok (.ireturn, 1) := by decide +kernel
theorem dL_law_725 : decode code 725 = .ok (.iload 6, 2) := by decide +kernel
theorem dL_law_727 : decode code 727 = .ok (.ifCond .ne 15, 3) := by decide +kernel
theorem dL_law_730 : decode code 730 = .ok (.aload_n 3, 1) := by decide +kernel
theorem dL_law_731 : decode code 731 = .ok (.iconst 0, 1) := by decide +kernel
theorem dL_law_732 : decode code 732 = .ok (.laload, 1) := by decide +kernel
theorem dL_law_733 : decode code 733 = .ok (.iload 7, 2) := by decide +kernel
theorem dL_law_735 : decode code 735 = .ok (.i2l, 1) := by decide +kernel
theorem dL_law_736 : decode code 736 = .ok (.lcmp, 1) := by decide +kernel
theorem dL_law_737 : decode code 737 = .ok (.ifCond .eq 5, 3) := by decide +kernel
theorem dL_law_740 : decode code 740 = .ok (.iconst 0, 1) := by decide +kernel
theorem dL_law_741 : decode code 741 = .ok (.ireturn, 1) := by decide +kernel
theorem dL_law_742 : decode code 742 = .ok (.goto 1881, 3) := by decide +kernel
theorem dL_law_745 : decode code 745 = .ok (.aload_n 1, 1) := by decide +kernel
theorem dL_law_746 : decode code 746 = .ok (.aload_n 0, 1) := by decide +kernel
theorem dL_law_747 : decode code 747 = .ok (.iload 5, 2) := by decide +kernel
theorem dL_law_749 : decode code 749 = .ok (.iconst 1, 1) := by decide +kernel
theorem dL_law_750 : decode code 750 = .ok (.iadd, 1) := by decide +kernel
theorem dL_law_751 : decode code 751 = .ok (.iaload, 1) := by decide +kernel
theorem dL_law_752 : decode code 752 = .ok (.aload_n 3, 1) := by decide +kernel
theorem dL_law_753 : decode code 753 = .ok (.invokestatic 183, 3) := by decide +kernel
theorem dL_law_756 : decode code 756 = .ok (.istore 6, 2) := by decide +kernel
theorem dL_law_758 : decode code 758 = .ok (.aload_n 2, 1) := by decide +kernel
theorem dL_law_759 : decode code 759 = .ok (.aload_n 0, 1) := by decide +kernel
theorem dL_law_760 : decode code 760 = .ok (.iload 5, 2) := by decide +kernel
theorem dL_law_762 : decode code 762 = .ok (.iconst 1, 1) := by decide +kernel
theorem dL_law_763 : decode code 763 = .ok (.iadd, 1) := by decide +kernel
theorem dL_law_764 : decode code 764 = .ok (.iaload, 1) := by decide +kernel
theorem dL_law_765 : decode code 765 = .ok (.invokevirtual 185, 3) := by decide +kernel
theorem dL_law_768 : decode code 768 = .ok (.istore 7, 2) := by decide +kernel
theorem dL_law_770 : decode code 770 = .ok (.aload_n 2, 1) := by decide +kernel
theorem dL_law_771 : decode code 771 = .ok (.invokevirtual 154, 3) := by decide +kernel
theorem dL_law_774 : decode code 774 = .ok (.iload 6, 2) := by decide +kernel
theorem dL_law_776 : decode code 776 = .ok (.if_icmp .eq 5, 3) := by decide +kernel
theorem dL_law_779 : decode code 779 = .ok (.iconst 0, 1) := by decide +kernel
theorem dL_law_780 : decode code 780 = .ok (.ireturn, 1) := by decide +kernel
theorem dL_law_781 : decode code 781 = .ok (.iload 6, 2) := by decide +kernel
theorem dL_law_783 : decode code 783 = .ok (.ifCond .ne 15, 3) := by decide +kernel
theorem dL_law_786 : decode code 786 = .ok (.aload_n 3, 1) := by decide +kernel
theorem dL_law_787 : decode code 787 = .ok (.iconst 0, 1) := by decide +kernel
theorem dL_law_788 : decode code 788 = .ok (.laload, 1) := by decide +kernel
theorem dL_law_789 : decode code 789 = .ok (.iload 7, 2) := by decide +kernel
theorem dL_law_791 : decode code 791 = .ok (.i2l, 1) := by decide +kernel
theorem dL_law_792 : decode code 792 = .ok (.lcmp, 1) := by decide +kernel
theorem dL_law_793 : decode code 793 = .ok (.ifCond .eq 5, 3) := by decide +kernel
theorem dL_law_796 : decode code 796 = .ok (.iconst 0, 1) := by decide +kernel
theorem dL_law_797 : decode code 797 = .ok (.ireturn, 1) := by decide +kernel
theorem dL_law_798 : decode code 798 = .ok (.goto 1825, 3) := by decide +kernel
theorem dL_law_801 : decode code 801 = .ok (.aload_n 1, 1) := by decide +kernel
theorem dL_law_802 : decode code 802 = .ok (.aload_n 0, 1) := by decide +kernel
theorem dL_law_803 : decode code 803 = .ok (.iload 5, 2) := by decide +kernel
theorem dL_law_805 : decode code 805 = .ok (.iconst 1, 1) := by decide +kernel
theorem dL_law_806 : decode code 806 = .ok (.iadd, 1) := by decide +kernel
theorem dL_law_807 : decode code 807 = .ok (.iaload, 1) := by decide +kernel
theorem dL_law_808 : decode code 808 = .ok (.aload_n 3, 1) := by decide +kernel
theorem dL_law_809 : decode code 809 = .ok (.invokestatic 186, 3) := by decide +kernel
theorem dL_law_812 : decode code 812 = .ok (.istore 6, 2) := by decide +kernel
theorem dL_law_814 : decode code 814 = .ok (.aload_n 2, 1) := by decide +kernel
theorem dL_law_815 : decode code 815 = .ok (.aload_n 0, 1) := by decide +kernel
theorem dL_law_816 : decode code 816 = .ok (.iload 5, 2) := by decide +kernel
theorem dL_law_818 : decode code 818 = .ok (.iconst 1, 1) := by decide +kernel
theorem dL_law_819 : decode code 819 = .ok (.iadd, 1) := by decide +kernel
theorem dL_law_820 : decode code 820 = .ok (.iaload, 1) := by decide +kernel
theorem dL_law_821 : decode code 821 = .ok (.invokevirtual 188, 3) := by decide +kernel
theorem dL_law_824 : decode code 824 = .ok (.istore 7, 2) := by decide +kernel
theorem dL_law_826 : decode code 826 = .ok (.aload_n 2, 1) := by decide +kernel
theorem dL_law_827 : decode code 827 = .ok (.invokevirtual 154, 3) := by decide +kernel
theorem dL_law_830 : decode code 830 = .ok (.iload 6, 2) := by decide +kernel
theorem dL_law_832 : decode code 832 = .ok (.if_icmp .eq 5, 3) := by decide +kernel
theorem dL_law_835 : decode code 835 = .ok (.iconst 0, 1) := by decide +kernel
theorem dL_law_836 : decode code 836 = .ok (.ireturn, 1) := by decide +kernel
theorem dL_law_837 : decode code 837 = .ok (.iload 6, 2) := by decide +kernel
theorem dL_law_839 : decode code 839 = .ok (.ifCond .ne 15, 3) := by decide +kernel
theorem dL_law_842 : decode code 842 = .ok (.aload_n 3, 1) := by decide +kernel
theorem dL_law_843 : decode code 843 = .ok (.iconst 0, 1) := by decide +kernel
theorem dL_law_844 : decode code 844 = .ok (.laload, 1) := by decide +kernel
theorem dL_law_845 : decode code 845 = .ok (.iload 7, 2) := by decide +kernel
theorem dL_law_847 : decode code 847 = .ok (.i2l, 1) := by decide +kernel
theorem dL_law_848 : decode code 848 = .ok (.lcmp, 1) := by decide +kernel
theorem dL_law_849 : decode code 849 = .ok (.ifCond .eq 5, 3) := by decide +kernel
theorem dL_law_852 : decode code 852 = .ok (.iconst 0, 1) := by decide +kernel
theorem dL_law_853 : decode code 853 = .ok (.ireturn, 1) := by decide +kernel
theorem dL_law_854 : decode code 854 = .ok (.goto 1769, 3) := by decide +kernel
theorem dL_law_857 : decode code 857 = .ok (.aload_n 1, 1) := by decide +kernel
theorem dL_law_858 : decode code 858 = .ok (.aload_n 0, 1) := by decide +kernel
theorem dL_law_859 : decode code 859 = .ok (.iload 5, 2) := by decide +kernel
theorem dL_law_861 : decode code 861 = .ok (.iconst 1, 1) := by decide +kernel
theorem dL_law_862 : decode code 862 = .ok (.iadd, 1) := by decide +kernel
theorem dL_law_863 : decode code 863 = .ok (.iaload, 1) := by decide +kernel
theorem dL_law_864 : decode code 864 = .ok (.aload_n 0, 1) := by decide +kernel
theorem dL_law_865 : decode code 865 = .ok (.iload 5, 2) := by decide +kernel
theorem dL_law_867 : decode code 867 = .ok (.iconst 2, 1) := by decide +kernel
theorem dL_law_868 : decode code 868 = .ok (.iadd, 1) := by decide +kernel
theorem dL_law_869 : decode code 869 = .ok (.iaload, 1) := by decide +kernel
theorem dL_law_870 : decode code 870 = .ok (.aload_n 3, 1) := by decide +kernel
theorem dL_law_871 : decode code 871 = .ok (.invokestatic 189, 3) := by decide +kernel
theorem dL_law_874 : decode code 874 = .ok (.istore 6, 2) := by decide +kernel
theorem dL_law_876 : decode code 876 = .ok (.aload_n 2, 1) := by decide +kernel
theorem dL_law_877 : decode code 877 = .ok (.aload_n 0, 1) := by decide +kernel
theorem dL_law_878 : decode code 878 = .ok (.iload 5, 2) := by decide +kernel
theorem dL_law_880 : decode code 880 = .ok (.iconst 1, 1) := by decide +kernel
theorem dL_law_881 : decode code 881 = .ok (.iadd, 1) := by decide +kernel
theorem dL_law_882 : decode code 882 = .ok (.iaload, 1) := by decide +kernel
theorem dL_law_883 : decode code 883 = .ok (.aload_n 0, 1) := by decide +kernel
theorem dL_law_884 : decode code 884 = .ok (.iload 5, 2) := by decide +kernel
theorem dL_law_886 : decode code 886 = .ok (.iconst 2, 1) := by decide +kernel
theorem dL_law_887 : decode code 887 = .ok (.iadd, 1) := by decide +kernel
theorem dL_law_888 : decode code 888 = .ok (.iaload, 1) := by decide +kernel
theorem dL_law_889 : decode code 889 = .ok (.invokevirtual 191, 3) := by decide +kernel
theorem dL_law_892 : decode code 892 = .ok (.istore 7, 2) := by decide +kernel
theorem dL_law_894 : decode code 894 = .ok (.aload_n 2, 1) := by decide +kernel
theorem dL_law_895 : decode code 895 = .ok (.invokevirtual 154, 3) := by decide +kernel
theorem dL_law_898 : decode code 898 = .ok (.iload 6, 2) := by decide +kernel
theorem dL_law_900 : decode code 900 = .ok (.if_icmp .eq 5, 3) := by decide +kernel
theorem dL_law_903 : decode code 903 = .ok (.iconst 0, 1) := by decide +kernel
theorem dL_law_904 : decode code 904 = .ok (.ireturn, 1) := by decide +kernel
theorem dL_law_905 : decode code 905 = .ok (.iload 6, 2) := by decide +kernel
theorem dL_law_907 : decode code 907 = .ok (.ifCond .ne 15, 3) := by decide +kernel
theorem dL_law_910 : decode code 910 = .ok (.aload_n 3, 1) := by decide +kernel
theorem dL_law_911 : decode code 911 = .ok (.iconst 0, 1) := by decide +kernel
theorem dL_law_912 : decode code 912 = .ok (.laload, 1) := by decide +kernel
theorem dL_law_913 : decode code 913 = .ok (.iload 7, 2) := by decide +kernel
theorem dL_law_915 : decode code 915 = .ok (.i2l, 1) := by decide +kernel
theorem dL_law_916 : decode code 916 = .ok (.lcmp, 1) := by decide +kernel
theorem dL_law_917 : decode code 917 = .ok (.ifCond .eq 5, 3) := by decide +kernel
theorem dL_law_920 : decode code 920 = .ok (.iconst 0, 1) := by decide +kernel
theorem dL_law_921 : decode code 921 = .ok (.ireturn, 1) := by decide +kernel
theorem dL_law_922 : decode code 922 = .ok (.goto 1701, 3) := by decide +kernel
theorem dL_law_925 : decode code 925 = .ok (.aload_n 1, 1) := by decide +kernel
theorem dL_law_926 : decode code 926 = .ok (.invokevirtual 192, 3) := by decide +kernel
theorem dL_law_929 : decode code 929 = .ok (.aload_n 2, 1) := by decide +kernel
theorem dL_law_930 : decode code 930 = .ok (.invokevirtual 195, 3) := by decide +kernel
theorem dL_law_933 : decode code 933 = .ok (.if_icmp .eq 1690, 3) := by decide +kernel
theorem dL_law_936 : decode code 936 = .ok (.iconst 0, 1) := by decide +kernel
theorem dL_law_937 : decode code 937 = .ok (.ireturn, 1) := by decide +kernel
theorem dL_law_938 : decode code 938 = .ok (.aload_n 1, 1) := by decide +kernel
theorem dL_law_939 : decode code 939 = .ok (.aload_n 0, 1) := by decide +kernel
theorem dL_law_940 : decode code 940 = .ok (.iload 5, 2) := by decide +kernel
theorem dL_law_942 : decode code 942 = .ok (.iconst 1, 1) := by decide +kernel
theorem dL_law_943 : decode code 943 = .ok (.iadd, 1) := by decide +kernel
theorem dL_law_944 : decode code 944 = .ok (.iaload, 1) := by decide +kernel
theorem dL_law_945 : decode code 945 = .ok (.aload_n 0, 1) := by decide +kernel
theorem dL_law_946 : decode code 946 = .ok (.iload 5, 2) := by decide +kernel
theorem dL_law_948 : decode code 948 = .ok (.iconst 2, 1) := by decide +kernel
theorem dL_law_949 : decode code 949 = .ok (.iadd, 1) := by decide +kernel
theorem dL_law_950 : decode code 950 = .ok (.iaload, 1) := by decide +kernel
theorem dL_law_951 : decode code 951 = .ok (.aload_n 0, 1) := by decide +kernel
theorem dL_law_952 : decode code 952 = .ok (.iload 5, 2) := by decide +kernel
theorem dL_law_954 : decode code 954 = .ok (.iconst 3, 1) := by decide +kernel
theorem dL_law_955 : decode code 955 = .ok (.iadd, 1) := by decide +kernel
theorem dL_law_956 : decode code 956 = .ok (.iaload, 1) := by decide +kernel
theorem dL_law_957 : decode code 957 = .ok (.aload_n 3, 1) := by decide +kernel
theorem dL_law_958 : decode code 958 = .ok (.invokestatic 196, 3) := by decide +kernel
theorem dL_law_961 : decode code 961 = .ok (.istore 6, 2) := by decide +kernel
theorem dL_law_963 : decode code 963 = .ok (.aload_n 2, 1) := by decide +kernel
theorem dL_law_964 : decode code 964 = .ok (.aload_n 0, 1) := by decide +kernel
theorem dL_law_965 : decode code 965 = .ok (.iload 5, 2) := by decide +kernel
theorem dL_law_967 : decode code 967 = .ok (.iconst 1, 1) := by decide +kernel
theorem dL_law_968 : decode code 968 = .ok (.iadd, 1) := by decide +kernel
theorem dL_law_969 : decode code 969 = .ok (.iaload, 1) := by decide +kernel
theorem dL_law_970 : decode code 970 = .ok (.aload_n 0, 1) := by decide +kernel
theorem dL_law_971 : decode code 971 = .ok (.iload 5, 2) := by decide +kernel
theorem dL_law_973 : decode code 973 = .ok (.iconst 2, 1) := by decide +kernel
theorem dL_law_974 : decode code 974 = .ok (.iadd, 1) := by decide +kernel
theorem dL_law_975 : decode code 975 = .ok (.iaload, 1) := by decide +kernel
theorem dL_law_976 : decode code 976 = .ok (.aload_n 0, 1) := by decide +kernel
theorem dL_law_977 : decode code 977 = .ok (.iload 5, 2) := by decide +kernel
theorem dL_law_979 : decode code 979 = .ok (.iconst 3, 1) := by decide +kernel
theorem dL_law_980 : decode code 980 = .ok (.iadd, 1) := by decide +kernel
theorem dL_law_981 : decode code 981 = .ok (.iaload, 1) := by decide +kernel
theorem dL_law_982 : decode code 982 = .ok (.invokevirtual 199, 3) := by decide +kernel
theorem dL_law_985 : decode code 985 = .ok (.istore 7, 2) := by decide +kernel
theorem dL_law_987 : decode code 987 = .ok (.aload_n 2, 1) := by decide +kernel
theorem dL_law_988 : decode code 988 = .ok (.invokevirtual 154, 3) := by decide +kernel
theorem dL_law_991 : decode code 991 = .ok (.iload 6, 2) := by decide +kernel
theorem dL_law_993 : decode code 993 = .ok (.if_icmp .eq 5, 3) := by decide +kernel
theorem dL_law_996 : decode code 996 = .ok (.iconst 0, 1) := by decide +kernel
theorem dL_law_997 : decode code 997 = .ok (.ireturn, 1) := by decide +kernel
theorem dL_law_998 : decode code 998 = .ok (.iload 6, 2) := by decide +kernel
theorem dL_law_1000 : decode code 1000 = .ok (.ifCond .ne 15, 3) := by decide +kernel
theorem dL_law_1003 : decode code 1003 = .ok (.aload_n 3, 1) := by decide +kernel
theorem dL_law_1004 : decode code 1004 = .ok (.iconst 0, 1) := by decide +kernel
theorem dL_law_1005 : decode code 1005 = .ok (.laload, 1) := by decide +kernel
theorem dL_law_1006 : decode code 1006 = .ok (.iload 7, 2) := by decide +kernel
theorem dL_law_1008 : decode code 1008 = .ok (.i2l, 1) := by decide +kernel
theorem dL_law_1009 : decode code 1009 = .ok (.lcmp, 1) := by decide +kernel
theorem dL_law_1010 : decode code 1010 = .ok (.ifCond .eq 5, 3) := by decide +kernel
theorem dL_law_1013 : decode code 1013 = .ok (.iconst 0, 1) := by decide +kernel
theorem dL_law_1014 : decode code 1014 = .ok (.ireturn, 1) := by decide +kernel
theorem dL_law_1015 : decode code 1015 = .ok (.goto 1608, 3) := by decide +kernel
theorem dL_law_1018 : decode code 1018 = .ok (.aload_n 1, 1) := by decide +kernel
theorem dL_law_1019 : decode code 1019 = .ok (.aload_n 0, 1) := by decide +kernel
theorem dL_law_1020 : decode code 1020 = .ok (.iload 5, 2) := by decide +kernel
theorem dL_law_1022 : decode code 1022 = .ok (.iconst 1, 1) := by decide +kernel
theorem dL_law_1023 : decode code 1023 = .ok (.iadd, 1) := by decide +kernel
theorem dL_law_1024 : decode code 1024 = .ok (.iaload, 1) := by decide +kernel
theorem dL_law_1025 : decode code 1025 = .ok (.aload_n 3, 1) := by decide +kernel
theorem dL_law_1026 : decode code 1026 = .ok (.invokestatic 200, 3) := by decide +kernel
theorem dL_law_1029 : decode code 1029 = .ok (.istore 6, 2) := by decide +kernel
theorem dL_law_1031 : decode code 1031 = .ok (.aload_n 2, 1) := by decide +kernel
theorem dL_law_1032 : decode code 1032 = .ok (.aload_n 0, 1) := by decide +kernel
theorem dL_law_1033 : decode code 1033 = .ok (.iload 5, 2) := by decide +kernel
theorem dL_law_1035 : decode code 1035 = .ok (.iconst 1, 1) := by decide +kernel
theorem dL_law_1036 : decode code 1036 = .ok (.iadd, 1) := by decide +kernel
theorem dL_law_1037 : decode code 1037 = .ok (.iaload, 1) := by decide +kernel
theorem dL_law_1038 : decode code 1038 = .ok (.invokevirtual 202, 3) := by decide +kernel
theorem dL_law_1041 : decode code 1041 = .ok (.istore 7, 2) := by decide +kernel
theorem dL_law_1043 : decode code 1043 = .ok (.aload_n 2, 1) := by decide +kernel
theorem dL_law_1044 : decode code 1044 = .ok (.invokevirtual 154, 3) := by decide +kernel
theorem dL_law_1047 : decode code 1047 = .ok (.iload 6, 2) := by decide +kernel
theorem dL_law_1049 : decode code 1049 = .ok (.if_icmp .eq 5, 3) := by decide +kernel
theorem dL_law_1052 : decode code 1052 = .ok (.iconst 0, 1) := by decide +kernel
theorem dL_law_1053 : decode code 1053 = .ok (.ireturn, 1) := by decide +kernel
theorem dL_law_1054 : decode code 1054 = .ok (.iload 6, 2) := by decide +kernel
theorem dL_law_1056 : decode code 1056 = .ok (.ifCond .ne 15, 3) := by decide +kernel
theorem dL_law_1059 : decode code 1059 = .ok (.aload_n 3, 1) := by decide +kernel
theorem dL_law_1060 : decode code 1060 = .ok (.iconst 0, 1) := by decide +kernel
theorem dL_law_1061 : decode code 1061 = .ok (.laload, 1) := by decide +kernel
theorem dL_law_1062 : decode code 1062 = .ok (.iload 7, 2) := by decide +kernel
theorem dL_law_1064 : decode code 1064 = .ok (.i2l, 1) := by decide +kernel
theorem dL_law_1065 : decode code 1065 = .ok (.lcmp, 1) := by decide +kernel
theorem dL_law_1066 : decode code 1066 = .ok (.ifCond .eq 5, 3) := by decide +kernel
theorem dL_law_1069 : decode code 1069 = .ok (.iconst 0, 1) := by decide +kernel
theorem dL_law_1070 : decode code 1070 = .ok (.ireturn, 1) := by decide +kernel
theorem dL_law_1071 : decode code 1071 = .ok (.goto 1552, 3) := by decide +kernel
theorem dL_law_1074 : decode code 1074 = .ok (.aload_n 1, 1) := by decide +kernel
theorem dL_law_1075 : decode code 1075 = .ok (.aload_n 0, 1) := by decide +kernel
theorem dL_law_1076 : decode code 1076 = .ok (.iload 5, 2) := by decide +kernel
theorem dL_law_1078 : decode code 1078 = .ok (.iconst 1, 1) := by decide +kernel
theorem dL_law_1079 : decode code 1079 = .ok (.iadd, 1) := by decide +kernel
theorem dL_law_1080 : decode code 1080 = .ok (.iaload, 1) := by decide +kernel
theorem dL_law_1081 : decode code 1081 = .ok (.aload_n 3, 1) := by decide +kernel
theorem dL_law_1082 : decode code 1082 = .ok (.invokestatic 203, 3) := by decide +kernel
theorem dL_law_1085 : decode code 1085 = .ok (.istore 6, 2) := by decide +kernel
theorem dL_law_1087 : decode code 1087 = .ok (.aload_n 2, 1) := by decide +kernel
theorem dL_law_1088 : decode code 1088 = .ok (.aload_n 0, 1) := by decide +kernel
theorem dL_law_1089 : decode code 1089 = .ok (.iload 5, 2) := by decide +kernel
theorem dL_law_1091 : decode code 1091 = .ok (.iconst 1, 1) := by decide +kernel
theorem dL_law_1092 : decode code 1092 = .ok (.iadd, 1) := by decide +kernel
theorem dL_law_1093 : decode code 1093 = .ok (.iaload, 1) := by decide +kernel
theorem dL_law_1094 : decode code 1094 = .ok (.invokevirtual 205, 3) := by decide +kernel
theorem dL_law_1097 : decode code 1097 = .ok (.istore 7, 2) := by decide +kernel
theorem dL_law_1099 : decode code 1099 = .ok (.aload_n 2, 1) := by decide +kernel
theorem dL_law_1100 : decode code 1100 = .ok (.invokevirtual 154, 3) := by decide +kernel
theorem dL_law_1103 : decode code 1103 = .ok (.iload 6, 2) := by decide +kernel
theorem dL_law_1105 : decode code 1105 = .ok (.if_icmp .eq 5, 3) := by decide +kernel
theorem dL_law_1108 : decode code 1108 = .ok (.iconst 0, 1) := by decide +kernel
theorem dL_law_1109 : decode code 1109 = .ok (.ireturn, 1) := by decide +kernel
theorem dL_law_1110 : decode code 1110 = .ok (.iload 6, 2) := by decide +kernel
theorem dL_law_1112 : decode code 1112 = .ok (.ifCond .ne 15, 3) := by decide +kernel
theorem dL_law_1115 : decode code 1115 = .ok (.aload_n 3, 1) := by decide +kernel
theorem dL_law_1116 : decode code 1116 = .ok (.iconst 0, 1) := by decide +kernel
theorem dL_law_1117 : decode code 1117 = .ok (.laload, 1) := by decide +kernel
theorem dL_law_1118 : decode code 1118 = .ok (.iload 7, 2) := by decide +kernel
theorem dL_law_1120 : decode code 1120 = .ok (.i2l, 1) := by decide +kernel
theorem dL_law_1121 : decode code 1121 = .ok (.lcmp, 1) := by decide +kernel
theorem dL_law_1122 : decode code 1122 = .ok (.ifCond .eq 5, 3) := by decide +kernel
theorem dL_law_1125 : decode code 1125 = .ok (.iconst 0, 1) := by decide +kernel
theorem dL_law_1126 : decode code 1126 = .ok (.ireturn, 1) := by decide +kernel
theorem dL_law_1127 : decode code 1127 = .ok (.goto 1496, 3) := by decide +kernel
theorem dL_law_1130 : decode code 1130 = .ok (.aload_n 1, 1) := by decide +kernel
theorem dL_law_1131 : decode code 1131 = .ok (.aload_n 0, 1) := by decide +kernel
theorem dL_law_1132 : decode code 1132 = .ok (.iload 5, 2) := by decide +kernel
theorem dL_law_1134 : decode code 1134 = .ok (.iconst 1, 1) := by decide +kernel
theorem dL_law_1135 : decode code 1135 = .ok (.iadd, 1) := by decide +kernel
theorem dL_law_1136 : decode code 1136 = .ok (.iaload, 1) := by decide +kernel
theorem dL_law_1137 : decode code 1137 = .ok (.aload_n 3, 1) := by decide +kernel
theorem dL_law_1138 : decode code 1138 = .ok (.invokestatic 206, 3) := by decide +kernel
theorem dL_law_1141 : decode code 1141 = .ok (.istore 6, 2) := by decide +kernel
theorem dL_law_1143 : decode code 1143 = .ok (.aload_n 2, 1) := by decide +kernel
theorem dL_law_1144 : decode code 1144 = .ok (.aload_n 0, 1) := by decide +kernel
theorem dL_law_1145 : decode code 1145 = .ok (.iload 5, 2) := by decide +kernel
theorem dL_law_1147 : decode code 1147 = .ok (.iconst 1, 1) := by decide +kernel
theorem dL_law_1148 : decode code 1148 = .ok (.iadd, 1) := by decide +kernel
theorem dL_law_1149 : decode code 1149 = .ok (.iaload, 1) := by decide +kernel
theorem dL_law_1150 : decode code 1150 = .ok (.invokevirtual 208, 3) := by decide +kernel
theorem dL_law_1153 : decode code 1153 = .ok (.istore 7, 2) := by decide +kernel
theorem dL_law_1155 : decode code 1155 = .ok (.aload_n 2, 1) := by decide +kernel
theorem dL_law_1156 : decode code 1156 = .ok (.invokevirtual 154, 3) := by decide +kernel
theorem dL_law_1159 : decode code 1159 = .ok (.iload 6, 2) := by decide +kernel
theorem dL_law_1161 : decode code 1161 = .ok (.if_icmp .eq 5, 3) := by decide +kernel
theorem dL_law_1164 : decode code 1164 = .ok (.iconst 0, 1) := by decide +kernel
theorem dL_law_1165 : decode code 1165 = .ok (.ireturn, 1) := by decide +kernel
theorem dL_law_1166 : decode code 1166 = .ok (.iload 6, 2) := by decide +kernel
theorem dL_law_1168 : decode code 1168 = .ok (.ifCond .ne 15, 3) := by decide +kernel
theorem dL_law_1171 : decode code 1171 = .ok (.aload_n 3, 1) := by decide +kernel
theorem dL_law_1172 : decode code 1172 = .ok (.iconst 0, 1) := by decide +kernel
theorem dL_law_1173 : decode code 1173 = .ok (.laload, 1) := by decide +kernel
theorem dL_law_1174 : decode code 1174 = .ok (.iload 7, 2) := by decide +kernel
theorem dL_law_1176 : decode code 1176 = .ok (.i2l, 1) := by decide +kernel
theorem dL_law_1177 : decode code 1177 = .ok (.lcmp, 1) := by decide +kernel
theorem dL_law_1178 : decode code 1178 = .ok (.ifCond .eq 5, 3) := by decide +kernel
theorem dL_law_1181 : decode code 1181 = .ok (.iconst 0, 1) := by decide +kernel
theorem dL_law_1182 : decode code 1182 = .ok (.ireturn, 1) := by decide +kernel
theorem dL_law_1183 : decode code 1183 = .ok (.goto 1440, 3) := by decide +kernel
theorem dL_law_1186 : decode code 1186 = .ok (.aload_n 1, 1) := by decide +kernel
theorem dL_law_1187 : decode code 1187 = .ok (.aload_n 0, 1) := by decide +kernel
theorem dL_law_1188 : decode code 1188 = .ok (.iload 5, 2) := by decide +kernel
theorem dL_law_1190 : decode code 1190 = .ok (.iconst 1, 1) := by decide +kernel
theorem dL_law_1191 : decode code 1191 = .ok (.iadd, 1) := by decide +kernel
theorem dL_law_1192 : decode code 1192 = .ok (.iaload, 1) := by decide +kernel
theorem dL_law_1193 : decode code 1193 = .ok (.aload_n 3, 1) := by decide +kernel
theorem dL_law_1194 : decode code 1194 = .ok (.invokestatic 209, 3) := by decide +kernel
theorem dL_law_1197 : decode code 1197 = .ok (.istore 6, 2) := by decide +kernel
theorem dL_law_1199 : decode code 1199 = .ok (.aload_n 2, 1) := by decide +kernel
theorem dL_law_1200 : decode code 1200 = .ok (.aload_n 0, 1) := by decide +kernel
theorem dL_law_1201 : decode code 1201 = .ok (.iload 5, 2) := by decide +kernel
theorem dL_law_1203 : decode code 1203 = .ok (.iconst 1, 1) := by decide +kernel
theorem dL_law_1204 : decode code 1204 = .ok (.iadd, 1) := by decide +kernel
theorem dL_law_1205 : decode code 1205 = .ok (.iaload, 1) := by decide +kernel
theorem dL_law_1206 : decode code 1206 = .ok (.invokevirtual 211, 3) := by decide +kernel
theorem dL_law_1209 : decode code 1209 = .ok (.istore 7, 2) := by decide +kernel
theorem dL_law_1211 : decode code 1211 = .ok (.aload_n 2, 1) := by decide +kernel
theorem dL_law_1212 : decode code 1212 = .ok (.invokevirtual 154, 3) := by decide +kernel
theorem dL_law_1215 : decode code 1215 = .ok (.iload 6, 2) := by decide +kernel
theorem dL_law_1217 : decode code 1217 = .ok (.if_icmp .eq 5, 3) := by decide +kernel
theorem dL_law_1220 : decode code 1220 = .ok (.iconst 0, 1) := by decide +kernel
theorem dL_law_1221 : decode code 1221 = .ok (.ireturn, 1) := by decide +kernel
theorem dL_law_1222 : decode code 1222 = .ok (.iload 6, 2) := by decide +kernel
theorem dL_law_1224 : decode code 1224 = .ok (.ifCond .ne 15, 3) := by decide +kernel
theorem dL_law_1227 : decode code 1227 = .ok (.aload_n 3, 1) := by decide +kernel
theorem dL_law_1228 : decode code 1228 = .ok (.iconst 0, 1) := by decide +kernel
theorem dL_law_1229 : decode code 1229 = .ok (.laload, 1) := by decide +kernel
theorem dL_law_1230 : decode code 1230 = .ok (.iload 7, 2) := by decide +kernel
theorem dL_law_1232 : decode code 1232 = .ok (.i2l, 1) := by decide +kernel
theorem dL_law_1233 : decode code 1233 = .ok (.lcmp, 1) := by decide +kernel
theorem dL_law_1234 : decode code 1234 = .ok (.ifCond .eq 5, 3) := by decide +kernel
theorem dL_law_1237 : decode code 1237 = .ok (.iconst 0, 1) := by decide +kernel
theorem dL_law_1238 : decode code 1238 = .ok (.ireturn, 1) := by decide +kernel
theorem dL_law_1239 : decode code 1239 = .ok (.goto 1384, 3) := by decide +kernel
theorem dL_law_1242 : decode code 1242 = .ok (.aload_n 1, 1) := by decide +kernel
theorem dL_law_1243 : decode code 1243 = .ok (.aload_n 0, 1) := by decide +kernel
theorem dL_law_1244 : decode code 1244 = .ok (.iload 5, 2) := by decide +kernel
theorem dL_law_1246 : decode code 1246 = .ok (.iconst 1, 1) := by decide +kernel
theorem dL_law_1247 : decode code 1247 = .ok (.iadd, 1) := by decide +kernel
theorem dL_law_1248 : decode code 1248 = .ok (.iaload, 1) := by decide +kernel
theorem dL_law_1249 : decode code 1249 = .ok (.aload_n 3, 1) := by decide +kernel
theorem dL_law_1250 : decode code 1250 = .ok (.invokestatic 212, 3) := by decide +kernel
theorem dL_law_1253 : decode code 1253 = .ok (.istore 6, 2) := by decide +kernel
theorem dL_law_1255 : decode code 1255 = .ok (.aload_n 2, 1) := by decide +kernel
theorem dL_law_1256 : decode code 1256 = .ok (.aload_n 0, 1) := by decide +kernel
theorem dL_law_1257 : decode code 1257 = .ok (.iload 5, 2) := by decide +kernel
theorem dL_law_1259 : decode code 1259 = .ok (.iconst 1, 1) := by decide +kernel
theorem dL_law_1260 : decode code 1260 = .ok (.iadd, 1) := by decide +kernel
theorem dL_law_1261 : decode code 1261 = .ok (.iaload, 1) := by decide +kernel
theorem dL_law_1262 : decode code 1262 = .ok (.invokevirtual 214, 3) := by decide +kernel
theorem dL_law_1265 : decode code 1265 = .ok (.istore 7, 2) := by decide +kernel
theorem dL_law_1267 : decode code 1267 = .ok (.aload_n 2, 1) := by decide +kernel
theorem dL_law_1268 : decode code 1268 = .ok (.invokevirtual 154, 3) := by decide +kernel
theorem dL_law_1271 : decode code 1271 = .ok (.iload 6, 2) := by decide +kernel
theorem dL_law_1273 : decode code 1273 = .ok (.if_icmp .eq 5, 3) := by decide +kernel
theorem dL_law_1276 : decode code 1276 = .ok (.iconst 0, 1) := by decide +kernel
theorem dL_law_1277 : decode code 1277 = .ok (.ireturn, 1) := by decide +kernel
theorem dL_law_1278 : decode code 1278 = .ok (.iload 6, 2) := by decide +kernel
theorem dL_law_1280 : decode code 1280 = .ok (.ifCond .ne 15, 3) := by decide +kernel
theorem dL_law_1283 : decode code 1283 = .ok (.aload_n 3, 1) := by decide +kernel
theorem dL_law_1284 : decode code 1284 = .ok (.iconst 0, 1) := by decide +kernel
theorem dL_law_1285 : decode code 1285 = .ok (.laload, 1) := by decide +kernel
theorem dL_law_1286 : decode code 1286 = .ok (.iload 7, 2) := by decide +kernel
theorem dL_law_1288 : decode code 1288 = .ok (.i2l, 1) := by decide +kernel
theorem dL_law_1289 : decode code 1289 = .ok (.lcmp, 1) := by decide +kernel
theorem dL_law_1290 : decode code 1290 = .ok (.ifCond .eq 5, 3) := by decide +kernel
theorem dL_law_1293 : decode code 1293 = .ok (.iconst 0, 1) := by decide +kernel
theorem dL_law_1294 : decode code 1294 = .ok (.ireturn, 1) := by decide +kernel
theorem dL_law_1295 : decode code 1295 = .ok (.goto 1328, 3) := by decide +kernel
theorem dL_law_1298 : decode code 1298 = .ok (.aload_n 1, 1) := by decide +kernel
theorem dL_law_1299 : decode code 1299 = .ok (.aload_n 0, 1) := by decide +kernel
theorem dL_law_1300 : decode code 1300 = .ok (.iload 5, 2) := by decide +kernel
theorem dL_law_1302 : decode code 1302 = .ok (.iconst 1, 1) := by decide +kernel
theorem dL_law_1303 : decode code 1303 = .ok (.iadd, 1) := by decide +kernel
theorem dL_law_1304 : decode code 1304 = .ok (.iaload, 1) := by decide +kernel
theorem dL_law_1305 : decode code 1305 = .ok (.aload_n 3, 1) := by decide +kernel
theorem dL_law_1306 : decode code 1306 = .ok (.invokestatic 215, 3) := by decide +kernel
theorem dL_law_1309 : decode code 1309 = .ok (.istore 6, 2) := by decide +kernel
theorem dL_law_1311 : decode code 1311 = .ok (.aload_n 2, 1) := by decide +kernel
theorem dL_law_1312 : decode code 1312 = .ok (.aload_n 0, 1) := by decide +kernel
theorem dL_law_1313 : decode code 1313 = .ok (.iload 5, 2) := by decide +kernel
theorem dL_law_1315 : decode code 1315 = .ok (.iconst 1, 1) := by decide +kernel
theorem dL_law_1316 : decode code 1316 = .ok (.iadd, 1) := by decide +kernel
theorem dL_law_1317 : decode code 1317 = .ok (.iaload, 1) := by decide +kernel
theorem dL_law_1318 : decode code 1318 = .ok (.invokevirtual 217, 3) := by decide +kernel
theorem dL_law_1321 : decode code 1321 = .ok (.istore 7, 2) := by decide +kernel
theorem dL_law_1323 : decode code 1323 = .ok (.aload_n 2, 1) := by decide +kernel
theorem dL_law_1324 : decode code 1324 = .ok (.invokevirtual 154, 3) := by decide +kernel
theorem dL_law_1327 : decode code 1327 = .ok (.iload 6, 2) := by decide +kernel
theorem dL_law_1329 : decode code 1329 = .ok (.if_icmp .eq 5, 3) := by decide +kernel
theorem dL_law_1332 : decode code 1332 = .ok (.iconst 0, 1) := by decide +kernel
theorem dL_law_1333 : decode code 1333 = .ok (.ireturn, 1) := by decide +kernel
theorem dL_law_1334 : decode code 1334 = .ok (.iload 6, 2) := by decide +kernel
theorem dL_law_1336 : decode code 1336 = .ok (.ifCond .ne 15, 3) := by decide +kernel
theorem dL_law_1339 : decode code 1339 = .ok (.aload_n 3, 1) := by decide +kernel
theorem dL_law_1340 : decode code 1340 = .ok (.iconst 0, 1) := by decide +kernel
theorem dL_law_1341 : decode code 1341 = .ok (.laload, 1) := by decide +kernel
theorem dL_law_1342 : decode code 1342 = .ok (.iload 7, 2) := by decide +kernel
theorem dL_law_1344 : decode code 1344 = .ok (.i2l, 1) := by decide +kernel
theorem dL_law_1345 : decode code 1345 = .ok (.lcmp, 1) := by decide +kernel
theorem dL_law_1346 : decode code 1346 = .ok (.ifCond .eq 5, 3) := by decide +kernel
theorem dL_law_1349 : decode code 1349 = .ok (.iconst 0, 1) := by decide +kernel
theorem dL_law_1350 : decode code 1350 = .ok (.ireturn, 1) := by decide +kernel
theorem dL_law_1351 : decode code 1351 = .ok (.goto 1272, 3) := by decide +kernel
theorem dL_law_1354 : decode code 1354 = .ok (.aload_n 1, 1) := by decide +kernel
theorem dL_law_1355 : decode code 1355 = .ok (.aload_n 0, 1) := by decide +kernel
theorem dL_law_1356 : decode code 1356 = .ok (.iload 5, 2) := by decide +kernel
theorem dL_law_1358 : decode code 1358 = .ok (.iconst 1, 1) := by decide +kernel
theorem dL_law_1359 : decode code 1359 = .ok (.iadd, 1) := by decide +kernel
theorem dL_law_1360 : decode code 1360 = .ok (.iaload, 1) := by decide +kernel
theorem dL_law_1361 : decode code 1361 = .ok (.aload_n 0, 1) := by decide +kernel
theorem dL_law_1362 : decode code 1362 = .ok (.iload 5, 2) := by decide +kernel
theorem dL_law_1364 : decode code 1364 = .ok (.iconst 2, 1) := by decide +kernel
theorem dL_law_1365 : decode code 1365 = .ok (.iadd, 1) := by decide +kernel
theorem dL_law_1366 : decode code 1366 = .ok (.iaload, 1) := by decide +kernel
theorem dL_law_1367 : decode code 1367 = .ok (.aload_n 3, 1) := by decide +kernel
theorem dL_law_1368 : decode code 1368 = .ok (.invokestatic 218, 3) := by decide +kernel
theorem dL_law_1371 : decode code 1371 = .ok (.istore 6, 2) := by decide +kernel
theorem dL_law_1373 : decode code 1373 = .ok (.aload_n 2, 1) := by decide +kernel
theorem dL_law_1374 : decode code 1374 = .ok (.aload_n 0, 1) := by decide +kernel
theorem dL_law_1375 : decode code 1375 = .ok (.iload 5, 2) := by decide +kernel
theorem dL_law_1377 : decode code 1377 = .ok (.iconst 1, 1) := by decide +kernel
theorem dL_law_1378 : decode code 1378 = .ok (.iadd, 1) := by decide +kernel
theorem dL_law_1379 : decode code 1379 = .ok (.iaload, 1) := by decide +kernel
theorem dL_law_1380 : decode code 1380 = .ok (.aload_n 0, 1) := by decide +kernel
theorem dL_law_1381 : decode code 1381 = .ok (.iload 5, 2) := by decide +kernel
theorem dL_law_1383 : decode code 1383 = .ok (.iconst 2, 1) := by decide +kernel
theorem dL_law_1384 : decode code 1384 = .ok (.iadd, 1) := by decide +kernel
theorem dL_law_1385 : decode code 1385 = .ok (.iaload, 1) := by decide +kernel
theorem dL_law_1386 : decode code 1386 = .ok (.invokevirtual 220, 3) := by decide +kernel
theorem dL_law_1389 : decode code 1389 = .ok (.istore 7, 2) := by decide +kernel
theorem dL_law_1391 : decode code 1391 = .ok (.aload_n 2, 1) := by decide +kernel
theorem dL_law_1392 : decode code 1392 = .ok (.invokevirtual 154, 3) := by decide +kernel
theorem dL_law_1395 : decode code 1395 = .ok (.iload 6, 2) := by decide +kernel
theorem dL_law_1397 : decode code 1397 = .ok (.if_icmp .eq 5, 3) := by decide +kernel
theorem dL_law_1400 : decode code 1400 = .ok (.iconst 0, 1) := by decide +kernel
theorem dL_law_1401 : decode code 1401 = .ok (.ireturn, 1) := by decide +kernel
theorem dL_law_1402 : decode code 1402 = .ok (.iload 6, 2) := by decide +kernel
theorem dL_law_1404 : decode code 1404 = .ok (.ifCond .ne 15, 3) := by decide +kernel
theorem dL_law_1407 : decode code 1407 = .ok (.aload_n 3, 1) := by decide +kernel
theorem dL_law_1408 : decode code 1408 = .ok (.iconst 0, 1) := by decide +kernel
theorem dL_law_1409 : decode code 1409 = .ok (.laload, 1) := by decide +kernel
theorem dL_law_1410 : decode code 1410 = .ok (.iload 7, 2) := by decide +kernel
theorem dL_law_1412 : decode code 1412 = .ok (.i2l, 1) := by decide +kernel
theorem dL_law_1413 : decode code 1413 = .ok (.lcmp, 1) := by decide +kernel
theorem dL_law_1414 : decode code 1414 = .ok (.ifCond .eq 5, 3) := by decide +kernel
theorem dL_law_1417 : decode code 1417 = .ok (.iconst 0, 1) := by decide +kernel
theorem dL_law_1418 : decode code 1418 = .ok (.ireturn, 1) := by decide +kernel
theorem dL_law_1419 : decode code 1419 = .ok (.goto 1204, 3) := by decide +kernel
theorem dL_law_1422 : decode code 1422 = .ok (.aload_n 1, 1) := by decide +kernel
theorem dL_law_1423 : decode code 1423 = .ok (.aload_n 0, 1) := by decide +kernel
theorem dL_law_1424 : decode code 1424 = .ok (.iload 5, 2) := by decide +kernel
theorem dL_law_1426 : decode code 1426 = .ok (.iconst 1, 1) := by decide +kernel
theorem dL_law_1427 : decode code 1427 = .ok (.iadd, 1) := by decide +kernel
theorem dL_law_1428 : decode code 1428 = .ok (.iaload, 1) := by decide +kernel
theorem dL_law_1429 : decode code 1429 = .ok (.aload_n 0, 1) := by decide +kernel
theorem dL_law_1430 : decode code 1430 = .ok (.iload 5, 2) := by decide +kernel
theorem dL_law_1432 : decode code 1432 = .ok (.iconst 2, 1) := by decide +kernel
theorem dL_law_1433 : decode code 1433 = .ok (.iadd, 1) := by decide +kernel
theorem dL_law_1434 : decode code 1434 = .ok (.iaload, 1) := by decide +kernel
theorem dL_law_1435 : decode code 1435 = .ok (.aload_n 3, 1) := by decide +kernel
theorem dL_law_1436 : decode code 1436 = .ok (.invokestatic 221, 3) := by decide +kernel
theorem dL_law_1439 : decode code 1439 = .ok (.istore 6, 2) := by decide +kernel
theorem dL_law_1441 : decode code 1441 = .ok (.aload_n 2, 1) := by decide +kernel
theorem dL_law_1442 : decode code 1442 = .ok (.aload_n 0, 1) := by decide +kernel
theorem dL_law_1443 : decode code 1443 = .ok (.iload 5, 2) := by decide +kernel
theorem dL_law_1445 : decode code 1445 = .ok (.iconst 1, 1) := by decide +kernel
theorem dL_law_1446 : decode code 1446 = .ok (.iadd, 1) := by decide +kernel
theorem dL_law_1447 : decode code 1447 = .ok (.iaload, 1) := by decide +kernel
theorem dL_law_1448 : decode code 1448 = .ok (.aload_n 0, 1) := by decide +kernel
theorem dL_law_1449 : decode code 1449 = .ok (.iload 5, 2) := by decide +kernel
theorem dL_law_1451 : decode code 1451 = .ok (.iconst 2, 1) := by decide +kernel
theorem dL_law_1452 : decode code 1452 = .ok (.iadd, 1) := by decide +kernel
theorem dL_law_1453 : decode code 1453 = .ok (.iaload, 1) := by decide +kernel
theorem dL_law_1454 : decode code 1454 = .ok (.invokevirtual 223, 3) := by decide +kernel
theorem dL_law_1457 : decode code 1457 = .ok (.istore 7, 2) := by decide +kernel
theorem dL_law_1459 : decode code 1459 = .ok (.aload_n 2, 1) := by decide +kernel
theorem dL_law_1460 : decode code 1460 = .ok (.invokevirtual 154, 3) := by decide +kernel
theorem dL_law_1463 : decode code 1463 = .ok (.iload 6, 2) := by decide +kernel
theorem dL_law_1465 : decode code 1465 = .ok (.if_icmp .eq 5, 3) := by decide +kernel
theorem dL_law_1468 : decode code 1468 = .ok (.iconst 0, 1) := by decide +kernel
theorem dL_law_1469 : decode code 1469 = .ok (.ireturn, 1) := by decide +kernel
theorem dL_law_1470 : decode code 1470 = .ok (.iload 6, 2) := by decide +kernel
theorem dL_law_1472 : decode code 1472 = .ok (.ifCond .ne 15, 3) := by decide +kernel
theorem dL_law_1475 : decode code 1475 = .ok (.aload_n 3, 1) := by decide +kernel
theorem dL_law_1476 : decode code 1476 = .ok (.iconst 0, 1) := by decide +kernel
theorem dL_law_1477 : decode code 1477 = .ok (.laload, 1) := by decide +kernel
theorem dL_law_1478 : decode code 1478 = .ok (.iload 7, 2) := by decide +kernel
theorem dL_law_1480 : decode code 1480 = .ok (.i2l, 1) := by decide +kernel
theorem dL_law_1481 : decode code 1481 = .ok (.lcmp, 1) := by decide +kernel
theorem dL_law_1482 : decode code 1482 = .ok (.ifCond .eq 5, 3) := by decide +kernel
theorem dL_law_1485 : decode code 1485 = .ok (.iconst 0, 1) := by decide +kernel
theorem dL_law_1486 : decode code 1486 = .ok (.ireturn, 1) := by decide +kernel
theorem dL_law_1487 : decode code 1487 = .ok (.goto 1136, 3) := by decide +kernel
theorem dL_law_1490 : decode code 1490 = .ok (.aload_n 1, 1) := by decide +kernel
theorem dL_law_1491 : decode code 1491 = .ok (.invokevirtual 224, 3) := by decide +kernel
theorem dL_law_1494 : decode code 1494 = .ok (.aload_n 2, 1) := by decide +kernel
theorem dL_law_1495 : decode code 1495 = .ok (.invokevirtual 227, 3) := by decide +kernel
theorem dL_law_1498 : decode code 1498 = .ok (.if_icmp .eq 1125, 3) := by decide +kernel
theorem dL_law_1501 : decode code 1501 = .ok (.iconst 0, 1) := by decide +kernel
theorem dL_law_1502 : decode code 1502 = .ok (.ireturn, 1) := by decide +kernel
theorem dL_law_1503 : decode code 1503 = .ok (.aload_n 1, 1) := by decide +kernel
theorem dL_law_1504 : decode code 1504 = .ok (.aload_n 0, 1) := by decide +kernel
theorem dL_law_1505 : decode code 1505 = .ok (.iload 5, 2) := by decide +kernel
theorem dL_law_1507 : decode code 1507 = .ok (.iconst 1, 1) := by decide +kernel
theorem dL_law_1508 : decode code 1508 = .ok (.iadd, 1) := by decide +kernel
theorem dL_law_1509 : decode code 1509 = .ok (.iaload, 1) := by decide +kernel
theorem dL_law_1510 : decode code 1510 = .ok (.aload_n 0, 1) := by decide +kernel
theorem dL_law_1511 : decode code 1511 = .ok (.iload 5, 2) := by decide +kernel
theorem dL_law_1513 : decode code 1513 = .ok (.iconst 2, 1) := by decide +kernel
theorem dL_law_1514 : decode code 1514 = .ok (.iadd, 1) := by decide +kernel
theorem dL_law_1515 : decode code 1515 = .ok (.iaload, 1) := by decide +kernel
theorem dL_law_1516 : decode code 1516 = .ok (.aload_n 3, 1) := by decide +kernel
theorem dL_law_1517 : decode code 1517 = .ok (.invokestatic 228, 3) := by decide +kernel
theorem dL_law_1520 : decode code 1520 = .ok (.istore 6, 2) := by decide +kernel
theorem dL_law_1522 : decode code 1522 = .ok (.aload_n 2, 1) := by decide +kernel
theorem dL_law_1523 : decode code 1523 = .ok (.aload_n 0, 1) := by decide +kernel
theorem dL_law_1524 : decode code 1524 = .ok (.iload 5, 2) := by decide +kernel
theorem dL_law_1526 : decode code 1526 = .ok (.iconst 1, 1) := by decide +kernel
theorem dL_law_1527 : decode code 1527 = .ok (.iadd, 1) := by decide +kernel
theorem dL_law_1528 : decode code 1528 = .ok (.iaload, 1) := by decide +kernel
theorem dL_law_1529 : decode code 1529 = .ok (.aload_n 0, 1) := by decide +kernel
theorem dL_law_1530 : decode code 1530 = .ok (.iload 5, 2) := by decide +kernel
theorem dL_law_1532 : decode code 1532 = .ok (.iconst 2, 1) := by decide +kernel
theorem dL_law_1533 : decode code 1533 = .ok (.iadd, 1) := by decide +kernel
theorem dL_law_1534 : decode code 1534 = .ok (.iaload, 1) := by decide +kernel
theorem dL_law_1535 : decode code 1535 = .ok (.invokevirtual 230, 3) := by decide +kernel
theorem dL_law_1538 : decode code 1538 = .ok (.istore 7, 2) := by decide +kernel
theorem dL_law_1540 : decode code 1540 = .ok (.aload_n 2, 1) := by decide +kernel
theorem dL_law_1541 : decode code 1541 = .ok (.invokevirtual 154, 3) := by decide +kernel
theorem dL_law_1544 : decode code 1544 = .ok (.iload 6, 2) := by decide +kernel
theorem dL_law_1546 : decode code 1546 = .ok (.if_icmp .eq 5, 3) := by decide +kernel
theorem dL_law_1549 : decode code 1549 = .ok (.iconst 0, 1) := by decide +kernel
theorem dL_law_1550 : decode code 1550 = .ok (.ireturn, 1) := by decide +kernel
theorem dL_law_1551 : decode code 1551 = .ok (.iload 6, 2) := by decide +kernel
theorem dL_law_1553 : decode code 1553 = .ok (.ifCond .ne 22, 3) := by decide +kernel
theorem dL_law_1556 : decode code 1556 = .ok (.aload_n 3, 1) := by decide +kernel
theorem dL_law_1557 : decode code 1557 = .ok (.iconst 0, 1) := by decide +kernel
theorem dL_law_1558 : decode code 1558 = .ok (.laload, 1) := by decide +kernel
theorem dL_law_1559 : decode code 1559 = .ok (.iload 7, 2) := by decide +kernel
theorem dL_law_1561 : decode code 1561 = .ok (.ifCond .eq 7, 3) := by decide +kernel
theorem dL_law_1564 : decode code 1564 = .ok (.lconst 1, 1) := by decide +kernel
theorem dL_law_1565 : decode code 1565 = .ok (.goto 4, 3) := by decide +kernel
theorem dL_law_1568 : decode code 1568 = .ok (.lconst 0, 1) := by decide +kernel
theorem dL_law_1569 : decode code 1569 = .ok (.lcmp, 1) := by decide +kernel
theorem dL_law_1570 : decode code 1570 = .ok (.ifCond .eq 5, 3) := by decide +kernel
theorem dL_law_1573 : decode code 1573 = .ok (.iconst 0, 1) := by decide +kernel
theorem dL_law_1574 : decode code 1574 = .ok (.ireturn, 1) := by decide +kernel
theorem dL_law_1575 : decode code 1575 = .ok (.goto 1048, 3) := by decide +kernel
theorem dL_law_1578 : decode code 1578 = .ok (.aload_n 1, 1) := by decide +kernel
theorem dL_law_1579 : decode code 1579 = .ok (.invokevirtual 231, 3) := by decide +kernel
theorem dL_law_1582 : decode code 1582 = .ok (.aload_n 2, 1) := by decide +kernel
theorem dL_law_1583 : decode code 1583 = .ok (.invokevirtual 234, 3) := by decide +kernel
theorem dL_law_1586 : decode code 1586 = .ok (.if_icmp .eq 1037, 3) := by decide +kernel
theorem dL_law_1589 : decode code 1589 = .ok (.iconst 0, 1) := by decide +kernel
theorem dL_law_1590 : decode code 1590 = .ok (.ireturn, 1) := by decide +kernel
theorem dL_law_1591 : decode code 1591 = .ok (.aload_n 1, 1) := by decide +kernel
theorem dL_law_1592 : decode code 1592 = .ok (.invokevirtual 235, 3) := by decide +kernel
theorem dL_law_1595 : decode code 1595 = .ok (.aload_n 2, 1) := by decide +kernel
theorem dL_law_1596 : decode code 1596 = .ok (.invokevirtual 238, 3) := by decide +kernel
theorem dL_law_1599 : decode code 1599 = .ok (.if_icmp .eq 1024, 3) := by decide +kernel
theorem dL_law_1602 : decode code 1602 = .ok (.iconst 0, 1) := by decide +kernel
theorem dL_law_1603 : decode code 1603 = .ok (.ireturn, 1) := by decide +kernel
theorem dL_law_1604 : decode code 1604 = .ok (.aload_n 1, 1) := by decide +kernel
theorem dL_law_1605 : decode code 1605 = .ok (.aload_n 0, 1) := by decide +kernel
theorem dL_law_1606 : decode code 1606 = .ok (.iload 5, 2) := by decide +kernel
theorem dL_law_1608 : decode code 1608 = .ok (.iconst 1, 1) := by decide +kernel
theorem dL_law_1609 : decode code 1609 = .ok (.iadd, 1) := by decide +kernel
theorem dL_law_1610 : decode code 1610 = .ok (.iaload, 1) := by decide +kernel
theorem dL_law_1611 : decode code 1611 = .ok (.aload_n 3, 1) := by decide +kernel
theorem dL_law_1612 : decode code 1612 = .ok (.invokestatic 239, 3) := by decide +kernel
theorem dL_law_1615 : decode code 1615 = .ok (.istore 6, 2) := by decide +kernel
theorem dL_law_1617 : decode code 1617 = .ok (.aload_n 2, 1) := by decide +kernel
theorem dL_law_1618 : decode code 1618 = .ok (.aload_n 0, 1) := by decide +kernel
theorem dL_law_1619 : decode code 1619 = .ok (.iload 5, 2) := by decide +kernel
theorem dL_law_1621 : decode code 1621 = .ok (.iconst 1, 1) := by decide +kernel
theorem dL_law_1622 : decode code 1622 = .ok (.iadd, 1) := by decide +kernel
theorem dL_law_1623 : decode code 1623 = .ok (.iaload, 1) := by decide +kernel
theorem dL_law_1624 : decode code 1624 = .ok (.invokevirtual 241, 3) := by decide +kernel
theorem dL_law_1627 : decode code 1627 = .ok (.istore 7, 2) := by decide +kernel
theorem dL_law_1629 : decode code 1629 = .ok (.aload_n 2, 1) := by decide +kernel
theorem dL_law_1630 : decode code 1630 = .ok (.invokevirtual 154, 3) := by decide +kernel
theorem dL_law_1633 : decode code 1633 = .ok (.iload 6, 2) := by decide +kernel
theorem dL_law_1635 : decode code 1635 = .ok (.if_icmp .eq 5, 3) := by decide +kernel
theorem dL_law_1638 : decode code 1638 = .ok (.iconst 0, 1) := by decide +kernel
theorem dL_law_1639 : decode code 1639 = .ok (.ireturn, 1) := by decide +kernel
theorem dL_law_1640 : decode code 1640 = .ok (.iload 6, 2) := by decide +kernel
theorem dL_law_1642 : decode code 1642 = .ok (.ifCond .ne 15, 3) := by decide +kernel
theorem dL_law_1645 : decode code 1645 = .ok (.aload_n 3, 1) := by decide +kernel
theorem dL_law_1646 : decode code 1646 = .ok (.iconst 0, 1) := by decide +kernel
theorem dL_law_1647 : decode code 1647 = .ok (.laload, 1) := by decide +kernel
theorem dL_law_1648 : decode code 1648 = .ok (.iload 7, 2) := by decide +kernel
theorem dL_law_1650 : decode code 1650 = .ok (.i2l, 1) := by decide +kernel
theorem dL_law_1651 : decode code 1651 = .ok (.lcmp, 1) := by decide +kernel
theorem dL_law_1652 : decode code 1652 = .ok (.ifCond .eq 5, 3) := by decide +kernel
theorem dL_law_1655 : decode code 1655 = .ok (.iconst 0, 1) := by decide +kernel
theorem dL_law_1656 : decode code 1656 = .ok (.ireturn, 1) := by decide +kernel
theorem dL_law_1657 : decode code 1657 = .ok (.goto 966, 3) := by decide +kernel
theorem dL_law_1660 : decode code 1660 = .ok (.aload_n 1, 1) := by decide +kernel
theorem dL_law_1661 : decode code 1661 = .ok (.invokevirtual 242, 3) := by decide +kernel
theorem dL_law_1664 : decode code 1664 = .ok (.aload_n 2, 1) := by decide +kernel
theorem dL_law_1665 : decode code 1665 = .ok (.invokevirtual 245, 3) := by decide +kernel
theorem dL_law_1668 : decode code 1668 = .ok (.if_icmp .eq 955, 3) := by decide +kernel
theorem dL_law_1671 : decode code 1671 = .ok (.iconst 0, 1) := by decide +kernel
theorem dL_law_1672 : decode code 1672 = .ok (.ireturn, 1) := by decide +kernel
theorem dL_law_1673 : decode code 1673 = .ok (.aload_n 1, 1) := by decide +kernel
theorem dL_law_1674 : decode code 1674 = .ok (.aload_n 0, 1) := by decide +kernel
theorem dL_law_1675 : decode code 1675 = .ok (.iload 5, 2) := by decide +kernel
theorem dL_law_1677 : decode code 1677 = .ok (.iconst 1, 1) := by decide +kernel
theorem dL_law_1678 : decode code 1678 = .ok (.iadd, 1) := by decide +kernel
theorem dL_law_1679 : decode code 1679 = .ok (.iaload, 1) := by decide +kernel
theorem dL_law_1680 : decode code 1680 = .ok (.aload_n 3, 1) := by decide +kernel
theorem dL_law_1681 : decode code 1681 = .ok (.invokestatic 246, 3) := by decide +kernel
theorem dL_law_1684 : decode code 1684 = .ok (.istore 6, 2) := by decide +kernel
theorem dL_law_1686 : decode code 1686 = .ok (.aload_n 2, 1) := by decide +kernel
theorem dL_law_1687 : decode code 1687 = .ok (.aload_n 0, 1) := by decide +kernel
theorem dL_law_1688 : decode code 1688 = .ok (.iload 5, 2) := by decide +kernel
theorem dL_law_1690 : decode code 1690 = .ok (.iconst 1, 1) := by decide +kernel
theorem dL_law_1691 : decode code 1691 = .ok (.iadd, 1) := by decide +kernel
theorem dL_law_1692 : decode code 1692 = .ok (.iaload, 1) := by decide +kernel
theorem dL_law_1693 : decode code 1693 = .ok (.invokevirtual 248, 3) := by decide +kernel
theorem dL_law_1696 : decode code 1696 = .ok (.istore 7, 2) := by decide +kernel
theorem dL_law_1698 : decode code 1698 = .ok (.aload_n 2, 1) := by decide +kernel
theorem dL_law_1699 : decode code 1699 = .ok (.invokevirtual 154, 3) := by decide +kernel
theorem dL_law_1702 : decode code 1702 = .ok (.iload 6, 2) := by decide +kernel
theorem dL_law_1704 : decode code 1704 = .ok (.if_icmp .eq 5, 3) := by decide +kernel
theorem dL_law_1707 : decode code 1707 = .ok (.iconst 0, 1) := by decide +kernel
theorem dL_law_1708 : decode code 1708 = .ok (.ireturn, 1) := by decide +kernel
theorem dL_law_1709 : decode code 1709 = .ok (.iload 6, 2) := by decide +kernel
theorem dL_law_1711 : decode code 1711 = .ok (.ifCond .ne 15, 3) := by decide +kernel
theorem dL_law_1714 : decode code 1714 = .ok (.aload_n 3, 1) := by decide +kernel
theorem dL_law_1715 : decode code 1715 = .ok (.iconst 0, 1) := by decide +kernel
theorem dL_law_1716 : decode code 1716 = .ok (.laload, 1) := by decide +kernel
theorem dL_law_1717 : decode code 1717 = .ok (.iload 7, 2) := by decide +kernel
theorem dL_law_1719 : decode code 1719 = .ok (.i2l, 1) := by decide +kernel
theorem dL_law_1720 : decode code 1720 = .ok (.lcmp, 1) := by decide +kernel
theorem dL_law_1721 : decode code 1721 = .ok (.ifCond .eq 5, 3) := by decide +kernel
theorem dL_law_1724 : decode code 1724 = .ok (.iconst 0, 1) := by decide +kernel
theorem dL_law_1725 : decode code 1725 = .ok (.ireturn, 1) := by decide +kernel
theorem dL_law_1726 : decode code 1726 = .ok (.goto 897, 3) := by decide +kernel
theorem dL_law_1729 : decode code 1729 = .ok (.aload_n 1, 1) := by decide +kernel
theorem dL_law_1730 : decode code 1730 = .ok (.aload_n 0, 1) := by decide +kernel
theorem dL_law_1731 : decode code 1731 = .ok (.iload 5, 2) := by decide +kernel
theorem dL_law_1733 : decode code 1733 = .ok (.iconst 1, 1) := by decide +kernel
theorem dL_law_1734 : decode code 1734 = .ok (.iadd, 1) := by decide +kernel
theorem dL_law_1735 : decode code 1735 = .ok (.iaload, 1) := by decide +kernel
theorem dL_law_1736 : decode code 1736 = .ok (.aload_n 3, 1) := by decide +kernel
theorem dL_law_1737 : decode code 1737 = .ok (.invokestatic 249, 3) := by decide +kernel
theorem dL_law_1740 : decode code 1740 = .ok (.istore 6, 2) := by decide +kernel
theorem dL_law_1742 : decode code 1742 = .ok (.aload_n 2, 1) := by decide +kernel
theorem dL_law_1743 : decode code 1743 = .ok (.aload_n 0, 1) := by decide +kernel
theorem dL_law_1744 : decode code 1744 = .ok (.iload 5, 2) := by decide +kernel
theorem dL_law_1746 : decode code 1746 = .ok (.iconst 1, 1) := by decide +kernel
theorem dL_law_1747 : decode code 1747 = .ok (.iadd, 1) := by decide +kernel
theorem dL_law_1748 : decode code 1748 = .ok (.iaload, 1) := by decide +kernel
theorem dL_law_1749 : decode code 1749 = .ok (.invokevirtual 251, 3) := by decide +kernel
theorem dL_law_1752 : decode code 1752 = .ok (.istore 7, 2) := by decide +kernel
theorem dL_law_1754 : decode code 1754 = .ok (.aload_n 2, 1) := by decide +kernel
theorem dL_law_1755 : decode code 1755 = .ok (.invokevirtual 154, 3) := by decide +kernel
theorem dL_law_1758 : decode code 1758 = .ok (.iload 6, 2) := by decide +kernel
theorem dL_law_1760 : decode code 1760 = .ok (.if_icmp .eq 5, 3) := by decide +kernel
theorem dL_law_1763 : decode code 1763 = .ok (.iconst 0, 1) := by decide +kernel
theorem dL_law_1764 : decode code 1764 = .ok (.ireturn, 1) := by decide +kernel
theorem dL_law_1765 : decode code 1765 = .ok (.iload 6, 2) := by decide +kernel
theorem dL_law_1767 : decode code 1767 = .ok (.ifCond .ne 15, 3) := by decide +kernel
theorem dL_law_1770 : decode code 1770 = .ok (.aload_n 3, 1) := by decide +kernel
theorem dL_law_1771 : decode code 1771 = .ok (.iconst 0, 1) := by decide +kernel
theorem dL_law_1772 : decode code 1772 = .ok (.laload, 1) := by decide +kernel
theorem dL_law_1773 : decode code 1773 = .ok (.iload 7, 2) := by decide +kernel
theorem dL_law_1775 : decode code 1775 = .ok (.i2l, 1) := by decide +kernel
theorem dL_law_1776 : decode code 1776 = .ok (.lcmp, 1) := by decide +kernel
theorem dL_law_1777 : decode code 1777 = .ok (.ifCond .eq 5, 3) := by decide +kernel
theorem dL_law_1780 : decode code 1780 = .ok (.iconst 0, 1) := by decide +kernel
theorem dL_law_1781 : decode code 1781 = .ok (.ireturn, 1) := by decide +kernel
theorem dL_law_1782 : decode code 1782 = .ok (.goto 841, 3) := by decide +kernel
theorem dL_law_1785 : decode code 1785 = .ok (.aload_n 1, 1) := by decide +kernel
theorem dL_law_1786 : decode code 1786 = .ok (.invokevirtual 252, 3) := by decide +kernel
theorem dL_law_1789 : decode code 1789 = .ok (.aload_n 2, 1) := by decide +kernel
theorem dL_law_1790 : decode code 1790 = .ok (.invokevirtual 255, 3) := by decide +kernel
theorem dL_law_1793 : decode code 1793 = .ok (.if_icmp .eq 830, 3) := by decide +kernel
theorem dL_law_1796 : decode code 1796 = .ok (.iconst 0, 1) := by decide +kernel
theorem dL_law_1797 : decode code 1797 = .ok (.ireturn, 1) := by decide +kernel
theorem dL_law_1798 : decode code 1798 = .ok (.aload_n 1, 1) := by decide +kernel
theorem dL_law_1799 : decode code 1799 = .ok (.invokevirtual 256, 3) := by decide +kernel
theorem dL_law_1802 : decode code 1802 = .ok (.aload_n 2, 1) := by decide +kernel
theorem dL_law_1803 : decode code 1803 = .ok (.invokevirtual 259, 3) := by decide +kernel
theorem dL_law_1806 : decode code 1806 = .ok (.if_icmp .eq 817, 3) := by decide +kernel
theorem dL_law_1809 : decode code 1809 = .ok (.iconst 0, 1) := by decide +kernel
theorem dL_law_1810 : decode code 1810 = .ok (.ireturn, 1) := by decide +kernel
theorem dL_law_1811 : decode code 1811 = .ok (.aload_n 1, 1) := by decide +kernel
theorem dL_law_1812 : decode code 1812 = .ok (.aload_n 0, 1) := by decide +kernel
theorem dL_law_1813 : decode code 1813 = .ok (.iload 5, 2) := by decide +kernel
theorem dL_law_1815 : decode code 1815 = .ok (.iconst 1, 1) := by decide +kernel
theorem dL_law_1816 : decode code 1816 = .ok (.iadd, 1) := by decide +kernel
theorem dL_law_1817 : decode code 1817 = .ok (.iaload, 1) := by decide +kernel
theorem dL_law_1818 : decode code 1818 = .ok (.aload_n 3, 1) := by decide +kernel
theorem dL_law_1819 : decode code 1819 = .ok (.invokestatic 260, 3) := by decide +kernel
theorem dL_law_1822 : decode code 1822 = .ok (.istore 6, 2) := by decide +kernel
theorem dL_law_1824 : decode code 1824 = .ok (.aload_n 2, 1) := by decide +kernel
theorem dL_law_1825 : decode code 1825 = .ok (.aload_n 0, 1) := by decide +kernel
theorem dL_law_1826 : decode code 1826 = .ok (.iload 5, 2) := by decide +kernel
theorem dL_law_1828 : decode code 1828 = .ok (.iconst 1, 1) := by decide +kernel
theorem dL_law_1829 : decode code 1829 = .ok (.iadd, 1) := by decide +kernel
theorem dL_law_1830 : decode code 1830 = .ok (.iaload, 1) := by decide +kernel
theorem dL_law_1831 : decode code 1831 = .ok (.invokevirtual 262, 3) := by decide +kernel
theorem dL_law_1834 : decode code 1834 = .ok (.istore 7, 2) := by decide +kernel
theorem dL_law_1836 : decode code 1836 = .ok (.aload_n 2, 1) := by decide +kernel
theorem dL_law_1837 : decode code 1837 = .ok (.invokevirtual 154, 3) := by decide +kernel
theorem dL_law_1840 : decode code 1840 = .ok (.iload 6, 2) := by decide +kernel
theorem dL_law_1842 : decode code 1842 = .ok (.if_icmp .eq 5, 3) := by decide +kernel
theorem dL_law_1845 : decode code 1845 = .ok (.iconst 0, 1) := by decide +kernel
theorem dL_law_1846 : decode code 1846 = .ok (.ireturn, 1) := by decide +kernel
theorem dL_law_1847 : decode code 1847 = .ok (.iload 6, 2) := by decide +kernel
theorem dL_law_1849 : decode code 1849 = .ok (.ifCond .ne 15, 3) := by decide +kernel
theorem dL_law_1852 : decode code 1852 = .ok (.aload_n 3, 1) := by decide +kernel
theorem dL_law_1853 : decode code 1853 = .ok (.iconst 0, 1) := by decide +kernel
theorem dL_law_1854 : decode code 1854 = .ok (.laload, 1) := by decide +kernel
theorem dL_law_1855 : decode code 1855 = .ok (.iload 7, 2) := by decide +kernel
theorem dL_law_1857 : decode code 1857 = .ok (.i2l, 1) := by decide +kernel
theorem dL_law_1858 : decode code 1858 = .ok (.lcmp, 1) := by decide +kernel
theorem dL_law_1859 : decode code 1859 = .ok (.ifCond .eq 5, 3) := by decide +kernel
theorem dL_law_1862 : decode code 1862 = .ok (.iconst 0, 1) := by decide +kernel
theorem dL_law_1863 : decode code 1863 = .ok (.ireturn, 1) := by decide +kernel
theorem dL_law_1864 : decode code 1864 = .ok (.goto 759, 3) := by decide +kernel
theorem dL_law_1867 : decode code 1867 = .ok (.aload_n 1, 1) := by decide +kernel
theorem dL_law_1868 : decode code 1868 = .ok (.aload_n 0, 1) := by decide +kernel
theorem dL_law_1869 : decode code 1869 = .ok (.iload 5, 2) := by decide +kernel
theorem dL_law_1871 : decode code 1871 = .ok (.iconst 1, 1) := by decide +kernel
theorem dL_law_1872 : decode code 1872 = .ok (.iadd, 1) := by decide +kernel
theorem dL_law_1873 : decode code 1873 = .ok (.iaload, 1) := by decide +kernel
theorem dL_law_1874 : decode code 1874 = .ok (.aload_n 3, 1) := by decide +kernel
theorem dL_law_1875 : decode code 1875 = .ok (.invokestatic 263, 3) := by decide +kernel
theorem dL_law_1878 : decode code 1878 = .ok (.istore 6, 2) := by decide +kernel
theorem dL_law_1880 : decode code 1880 = .ok (.aload_n 2, 1) := by decide +kernel
theorem dL_law_1881 : decode code 1881 = .ok (.aload_n 0, 1) := by decide +kernel
theorem dL_law_1882 : decode code 1882 = .ok (.iload 5, 2) := by decide +kernel
theorem dL_law_1884 : decode code 1884 = .ok (.iconst 1, 1) := by decide +kernel
theorem dL_law_1885 : decode code 1885 = .ok (.iadd, 1) := by decide +kernel
theorem dL_law_1886 : decode code 1886 = .ok (.iaload, 1) := by decide +kernel
theorem dL_law_1887 : decode code 1887 = .ok (.invokevirtual 265, 3) := by decide +kernel
theorem dL_law_1890 : decode code 1890 = .ok (.istore 7, 2) := by decide +kernel
theorem dL_law_1892 : decode code 1892 = .ok (.aload_n 2, 1) := by decide +kernel
theorem dL_law_1893 : decode code 1893 = .ok (.invokevirtual 154, 3) := by decide +kernel
theorem dL_law_1896 : decode code 1896 = .ok (.iload 6, 2) := by decide +kernel
theorem dL_law_1898 : decode code 1898 = .ok (.if_icmp .eq 5, 3) := by decide +kernel
theorem dL_law_1901 : decode code 1901 = .ok (.iconst 0, 1) := by decide +kernel
theorem dL_law_1902 : decode code 1902 = .ok (.ireturn, 1) := by decide +kernel
theorem dL_law_1903 : decode code 1903 = .ok (.iload 6, 2) := by decide +kernel
theorem dL_law_1905 : decode code 1905 = .ok (.ifCond .ne 15, 3) := by decide +kernel
theorem dL_law_1908 : decode code 1908 = .ok (.aload_n 3, 1) := by decide +kernel
theorem dL_law_1909 : decode code 1909 = .ok (.iconst 0, 1) := by decide +kernel
theorem dL_law_1910 : decode code 1910 = .ok (.laload, 1) := by decide +kernel
theorem dL_law_1911 : decode code 1911 = .ok (.iload 7, 2) := by decide +kernel
theorem dL_law_1913 : decode code 1913 = .ok (.i2l, 1) := by decide +kernel
theorem dL_law_1914 : decode code 1914 = .ok (.lcmp, 1) := by decide +kernel
theorem dL_law_1915 : decode code 1915 = .ok (.ifCond .eq 5, 3) := by decide +kernel
theorem dL_law_1918 : decode code 1918 = .ok (.iconst 0, 1) := by decide +kernel
theorem dL_law_1919 : decode code 1919 = .ok (.ireturn, 1) := by decide +kernel
theorem dL_law_1920 : decode code 1920 = .ok (.goto 703, 3) := by decide +kernel
theorem dL_law_1923 : decode code 1923 = .ok (.aload_n 1, 1) := by decide +kernel
theorem dL_law_1924 : decode code 1924 = .ok (.invokevirtual 266, 3) := by decide +kernel
theorem dL_law_1927 : decode code 1927 = .ok (.aload_n 2, 1) := by decide +kernel
theorem dL_law_1928 : decode code 1928 = .ok (.invokevirtual 269, 3) := by decide +kernel
theorem dL_law_1931 : decode code 1931 = .ok (.if_icmp .eq 692, 3) := by decide +kernel
theorem dL_law_1934 : decode code 1934 = .ok (.iconst 0, 1) := by decide +kernel
theorem dL_law_1935 : decode code 1935 = .ok (.ireturn, 1) := by decide +kernel
theorem dL_law_1936 : decode code 1936 = .ok (.aload_n 1, 1) := by decide +kernel
theorem dL_law_1937 : decode code 1937 = .ok (.invokevirtual 270, 3) := by decide +kernel
theorem dL_law_1940 : decode code 1940 = .ok (.aload_n 2, 1) := by decide +kernel
theorem dL_law_1941 : decode code 1941 = .ok (.invokevirtual 273, 3) := by decide +kernel
theorem dL_law_1944 : decode code 1944 = .ok (.if_icmp .eq 679, 3) := by decide +kernel
theorem dL_law_1947 : decode code 1947 = .ok (.iconst 0, 1) := by decide +kernel
theorem dL_law_1948 : decode code 1948 = .ok (.ireturn, 1) := by decide +kernel
theorem dL_law_1949 : decode code 1949 = .ok (.aload_n 1, 1) := by decide +kernel
theorem dL_law_1950 : decode code 1950 = .ok (.invokevirtual 274, 3) := by decide +kernel
theorem dL_law_1953 : decode code 1953 = .ok (.aload_n 2, 1) := by decide +kernel
theorem dL_law_1954 : decode code 1954 = .ok (.invokevirtual 277, 3) := by decide +kernel
theorem dL_law_1957 : decode code 1957 = .ok (.if_icmp .eq 666, 3) := by decide +kernel
theorem dL_law_1960 : decode code 1960 = .ok (.iconst 0, 1) := by decide +kernel
theorem dL_law_1961 : decode code 1961 = .ok (.ireturn, 1) := by decide +kernel
theorem dL_law_1962 : decode code 1962 = .ok (.aload_n 1, 1) := by decide +kernel
theorem dL_law_1963 : decode code 1963 = .ok (.invokevirtual 278, 3) := by decide +kernel
theorem dL_law_1966 : decode code 1966 = .ok (.aload_n 2, 1) := by decide +kernel
theorem dL_law_1967 : decode code 1967 = .ok (.invokevirtual 281, 3) := by decide +kernel
theorem dL_law_1970 : decode code 1970 = .ok (.if_icmp .eq 653, 3) := by decide +kernel
theorem dL_law_1973 : decode code 1973 = .ok (.iconst 0, 1) := by decide +kernel
theorem dL_law_1974 : decode code 1974 = .ok (.ireturn, 1) := by decide +kernel
theorem dL_law_1975 : decode code 1975 = .ok (.aload_n 1, 1) := by decide +kernel
theorem dL_law_1976 : decode code 1976 = .ok (.invokevirtual 282, 3) := by decide +kernel
theorem dL_law_1979 : decode code 1979 = .ok (.aload_n 2, 1) := by decide +kernel
theorem dL_law_1980 : decode code 1980 = .ok (.invokevirtual 285, 3) := by decide +kernel
theorem dL_law_1983 : decode code 1983 = .ok (.if_icmp .eq 640, 3) := by decide +kernel
theorem dL_law_1986 : decode code 1986 = .ok (.iconst 0, 1) := by decide +kernel
theorem dL_law_1987 : decode code 1987 = .ok (.ireturn, 1) := by decide +kernel
theorem dL_law_1988 : decode code 1988 = .ok (.aload_n 1, 1) := by decide +kernel
theorem dL_law_1989 : decode code 1989 = .ok (.aload 4, 2) := by decide +kernel
theorem dL_law_1991 : decode code 1991 = .ok (.invokestatic 286, 3) := by decide +kernel
theorem dL_law_1994 : decode code 1994 = .ok (.istore 6, 2) := by decide +kernel
theorem dL_law_1996 : decode code 1996 = .ok (.aload_n 2, 1) := by decide +kernel
theorem dL_law_1997 : decode code 1997 = .ok (.invokevirtual 289, 3) := by decide +kernel
theorem dL_law_2000 : decode code 2000 = .ok (.dstore 7, 2) := by decide +kernel
theorem dL_law_2002 : decode code 2002 = .ok (.aload_n 2, 1) := by decide +kernel
theorem dL_law_2003 : decode code 2003 = .ok (.invokevirtual 154, 3) := by decide +kernel
theorem dL_law_2006 : decode code 2006 = .ok (.iload 6, 2) := by decide +kernel
theorem dL_law_2008 : decode code 2008 = .ok (.if_icmp .eq 5, 3) := by decide +kernel
theorem dL_law_2011 : decode code 2011 = .ok (.iconst 0, 1) := by decide +kernel
theorem dL_law_2012 : decode code 2012 = .ok (.ireturn, 1) := by decide +kernel
theorem dL_law_2013 : decode code 2013 = .ok (.iload 6, 2) := by decide +kernel
theorem dL_law_2015 : decode code 2015 = .ok (.ifCond .ne 35, 3) := by decide +kernel
theorem dL_law_2018 : decode code 2018 = .ok (.aload 4, 2) := by decide +kernel
theorem dL_law_2020 : decode code 2020 = .ok (.iconst 0, 1) := by decide +kernel
theorem dL_law_2021 : decode code 2021 = .ok (.daload, 1) := by decide +kernel
theorem dL_law_2022 : decode code 2022 = .ok (.dload 7, 2) := by decide +kernel
theorem dL_law_2024 : decode code 2024 = .ok (.dcmp .l, 1) := by decide +kernel
theorem dL_law_2025 : decode code 2025 = .ok (.ifCond .eq 25, 3) := by decide +kernel
theorem dL_law_2028 : decode code 2028 = .ok (.aload 4, 2) := by decide +kernel
theorem dL_law_2030 : decode code 2030 = .ok (.iconst 0, 1) := by decide +kernel
theorem dL_law_2031 : decode code 2031 = .ok (.daload, 1) := by decide +kernel
theorem dL_law_2032 : decode code 2032 = .ok (.aload 4, 2) := by decide +kernel
theorem dL_law_2034 : decode code 2034 = .ok (.iconst 0, 1) := by decide +kernel
theorem dL_law_2035 : decode code 2035 = .ok (.daload, 1) := by decide +kernel
theorem dL_law_2036 : decode code 2036 = .ok (.dcmp .l, 1) := by decide +kernel
theorem dL_law_2037 : decode code 2037 = .ok (.ifCond .eq 11, 3) := by decide +kernel
theorem dL_law_2040 : decode code 2040 = .ok (.dload 7, 2) := by decide +kernel
theorem dL_law_2042 : decode code 2042 = .ok (.dload 7, 2) := by decide +kernel
theorem dL_law_2044 : decode code 2044 = .ok (.dcmp .l, 1) := by decide +kernel
theorem dL_law_2045 : decode code 2045 = .ok (.ifCond .ne 5, 3) := by decide +kernel
theorem dL_law_2048 : decode code 2048 = .ok (.iconst 0, 1) := by decide +kernel
theorem dL_law_2049 : decode code 2049 = .ok (.ireturn, 1) := by decide +kernel
theorem dL_law_2050 : decode code 2050 = .ok (.goto 573, 3) := by decide +kernel
theorem dL_law_2053 : decode code 2053 = .ok (.aload_n 1, 1) := by decide +kernel
theorem dL_law_2054 : decode code 2054 = .ok (.aload 4, 2) := by decide +kernel
theorem dL_law_2056 : decode code 2056 = .ok (.invokestatic 290, 3) := by decide +kernel
theorem dL_law_2059 : decode code 2059 = .ok (.istore 6, 2) := by decide +kernel
theorem dL_law_2061 : decode code 2061 = .ok (.aload_n 2, 1) := by decide +kernel
theorem dL_law_2062 : decode code 2062 = .ok (.invokevirtual 292, 3) := by decide +kernel
theorem dL_law_2065 : decode code 2065 = .ok (.fstore 7, 2) := by decide +kernel
theorem dL_law_2067 : decode code 2067 = .ok (.aload_n 2, 1) := by decide +kernel
theorem dL_law_2068 : decode code 2068 = .ok (.invokevirtual 154, 3) := by decide +kernel
theorem dL_law_2071 : decode code 2071 = .ok (.iload 6, 2) := by decide +kernel
theorem dL_law_2073 : decode code 2073 = .ok (.if_icmp .eq 5, 3) := by decide +kernel
theorem dL_law_2076 : decode code 2076 = .ok (.iconst 0, 1) := by decide +kernel
theorem dL_law_2077 : decode code 2077 = .ok (.ireturn, 1) := by decide +kernel
theorem dL_law_2078 : decode code 2078 = .ok (.iload 6, 2) := by decide +kernel
theorem dL_law_2080 : decode code 2080 = .ok (.ifCond .ne 36, 3) := by decide +kernel
theorem dL_law_2083 : decode code 2083 = .ok (.aload 4, 2) := by decide +kernel
theorem dL_law_2085 : decode code 2085 = .ok (.iconst 0, 1) := by decide +kernel
theorem dL_law_2086 : decode code 2086 = .ok (.daload, 1) := by decide +kernel
theorem dL_law_2087 : decode code 2087 = .ok (.fload 7, 2) := by decide +kernel
theorem dL_law_2089 : decode code 2089 = .ok (.f2d, 1) := by decide +kernel
theorem dL_law_2090 : decode code 2090 = .ok (.dcmp .l, 1) := by decide +kernel
theorem dL_law_2091 : decode code 2091 = .ok (.ifCond .eq 25, 3) := by decide +kernel
theorem dL_law_2094 : decode code 2094 = .ok (.aload 4, 2) := by decide +kernel
theorem dL_law_2096 : decode code 2096 = .ok (.iconst 0, 1) := by decide +kernel
theorem dL_law_2097 : decode code 2097 = .ok (.daload, 1) := by decide +kernel
theorem dL_law_2098 : decode code 2098 = .ok (.aload 4, 2) := by decide +kernel
theorem dL_law_2100 : decode code 2100 = .ok (.iconst 0, 1) := by decide +kernel
theorem dL_law_2101 : decode code 2101 = .ok (.daload, 1) := by decide +kernel
theorem dL_law_2102 : decode code 2102 = .ok (.dcmp .l, 1) := by decide +kernel
theorem dL_law_2103 : decode code 2103 = .ok (.ifCond .eq 11, 3) := by decide +kernel
theorem dL_law_2106 : decode code 2106 = .ok (.fload 7, 2) := by decide +kernel
theorem dL_law_2108 : decode code 2108 = .ok (.fload 7, 2) := by decide +kernel
theorem dL_law_2110 : decode code 2110 = .ok (.fcmp .l, 1) := by decide +kernel
theorem dL_law_2111 : decode code 2111 = .ok (.ifCond .ne 5, 3) := by decide +kernel
theorem dL_law_2114 : decode code 2114 = .ok (.iconst 0, 1) := by decide +kernel
theorem dL_law_2115 : decode code 2115 = .ok (.ireturn, 1) := by decide +kernel
theorem dL_law_2116 : decode code 2116 = .ok (.goto 507, 3) := by decide +kernel
theorem dL_law_2119 : decode code 2119 = .ok (.aload_n 1, 1) := by decide +kernel
theorem dL_law_2120 : decode code 2120 = .ok (.aload_n 0, 1) := by decide +kernel
theorem dL_law_2121 : decode code 2121 = .ok (.iload 5, 2) := by decide +kernel
theorem dL_law_2123 : decode code 2123 = .ok (.iconst 1, 1) := by decide +kernel
theorem dL_law_2124 : decode code 2124 = .ok (.iadd, 1) := by decide +kernel
theorem dL_law_2125 : decode code 2125 = .ok (.iaload, 1) := by decide +kernel
theorem dL_law_2126 : decode code 2126 = .ok (.i2c, 1) := by decide +kernel
theorem dL_law_2127 : decode code 2127 = .ok (.aload_n 3, 1) := by decide +kernel
theorem dL_law_2128 : decode code 2128 = .ok (.invokestatic 293, 3) := by decide +kernel
theorem dL_law_2131 : decode code 2131 = .ok (.istore 6, 2) := by decide +kernel
theorem dL_law_2133 : decode code 2133 = .ok (.aload_n 2, 1) := by decide +kernel
theorem dL_law_2134 : decode code 2134 = .ok (.aload_n 0, 1) := by decide +kernel
theorem dL_law_2135 : decode code 2135 = .ok (.iload 5, 2) := by decide +kernel
theorem dL_law_2137 : decode code 2137 = .ok (.iconst 1, 1) := by decide +kernel
theorem dL_law_2138 : decode code 2138 = .ok (.iadd, 1) := by decide +kernel
theorem dL_law_2139 : decode code 2139 = .ok (.iaload, 1) := by decide +kernel
theorem dL_law_2140 : decode code 2140 = .ok (.i2c, 1) := by decide +kernel
theorem dL_law_2141 : decode code 2141 = .ok (.invokevirtual 296, 3) := by decide +kernel
theorem dL_law_2144 : decode code 2144 = .ok (.istore 7, 2) := by decide +kernel
theorem dL_law_2146 : decode code 2146 = .ok (.aload_n 2, 1) := by decide +kernel
theorem dL_law_2147 : decode code 2147 = .ok (.invokevirtual 154, 3) := by decide +kernel
theorem dL_law_2150 : decode code 2150 = .ok (.iload 6, 2) := by decide +kernel
theorem dL_law_2152 : decode code 2152 = .ok (.if_icmp .eq 5, 3) := by decide +kernel
theorem dL_law_2155 : decode code 2155 = .ok (.iconst 0, 1) := by decide +kernel
theorem dL_law_2156 : decode code 2156 = .ok (.ireturn, 1) := by decide +kernel
theorem dL_law_2157 : decode code 2157 = .ok (.iload 6, 2) := by decide +kernel
theorem dL_law_2159 : decode code 2159 = .ok (.ifCond .ne 15, 3) := by decide +kernel
theorem dL_law_2162 : decode code 2162 = .ok (.aload_n 3, 1) := by decide +kernel
theorem dL_law_2163 : decode code 2163 = .ok (.iconst 0, 1) := by decide +kernel
theorem dL_law_2164 : decode code 2164 = .ok (.laload, 1) := by decide +kernel
theorem dL_law_2165 : decode code 2165 = .ok (.iload 7, 2) := by decide +kernel
theorem dL_law_2167 : decode code 2167 = .ok (.i2l, 1) := by decide +kernel
theorem dL_law_2168 : decode code 2168 = .ok (.lcmp, 1) := by decide +kernel
theorem dL_law_2169 : decode code 2169 = .ok (.ifCond .eq 5, 3) := by decide +kernel
theorem dL_law_2172 : decode code 2172 = .ok (.iconst 0, 1) := by decide +kernel
theorem dL_law_2173 : decode code 2173 = .ok (.ireturn, 1) := by decide +kernel
theorem dL_law_2174 : decode code 2174 = .ok (.goto 449, 3) := by decide +kernel
theorem dL_law_2177 : decode code 2177 = .ok (.aload_n 1, 1) := by decide +kernel
theorem dL_law_2178 : decode code 2178 = .ok (.aload_n 3, 1) := by decide +kernel
theorem dL_law_2179 : decode code 2179 = .ok (.invokestatic 297, 3) := by decide +kernel
theorem dL_law_2182 : decode code 2182 = .ok (.istore 6, 2) := by decide +kernel
theorem dL_law_2184 : decode code 2184 = .ok (.aload_n 2, 1) := by decide +kernel
theorem dL_law_2185 : decode code 2185 = .ok (.invokevirtual 300, 3) := by decide +kernel
theorem dL_law_2188 : decode code 2188 = .ok (.istore 7, 2) := by decide +kernel
theorem dL_law_2190 : decode code 2190 = .ok (.aload_n 2, 1) := by decide +kernel
theorem dL_law_2191 : decode code 2191 = .ok (.invokevirtual 154, 3) := by decide +kernel
theorem dL_law_2194 : decode code 2194 = .ok (.iload 6, 2) := by decide +kernel
theorem dL_law_2196 : decode code 2196 = .ok (.if_icmp .eq 5, 3) := by decide +kernel
theorem dL_law_2199 : decode code 2199 = .ok (.iconst 0, 1) := by decide +kernel
theorem dL_law_2200 : decode code 2200 = .ok (.ireturn, 1) := by decide +kernel
theorem dL_law_2201 : decode code 2201 = .ok (.iload 6, 2) := by decide +kernel
theorem dL_law_2203 : decode code 2203 = .ok (.ifCond .ne 15, 3) := by decide +kernel
theorem dL_law_2206 : decode code 2206 = .ok (.aload_n 3, 1) := by decide +kernel
theorem dL_law_2207 : decode code 2207 = .ok (.iconst 0, 1) := by decide +kernel
theorem dL_law_2208 : decode code 2208 = .ok (.laload, 1) := by decide +kernel
theorem dL_law_2209 : decode code 2209 = .ok (.iload 7, 2) := by decide +kernel
theorem dL_law_2211 : decode code 2211 = .ok (.i2l, 1) := by decide +kernel
theorem dL_law_2212 : decode code 2212 = .ok (.lcmp, 1) := by decide +kernel
theorem dL_law_2213 : decode code 2213 = .ok (.ifCond .eq 5, 3) := by decide +kernel
theorem dL_law_2216 : decode code 2216 = .ok (.iconst 0, 1) := by decide +kernel
theorem dL_law_2217 : decode code 2217 = .ok (.ireturn, 1) := by decide +kernel
theorem dL_law_2218 : decode code 2218 = .ok (.goto 405, 3) := by decide +kernel
theorem dL_law_2221 : decode code 2221 = .ok (.aload_n 1, 1) := by decide +kernel
theorem dL_law_2222 : decode code 2222 = .ok (.aload_n 3, 1) := by decide +kernel
theorem dL_law_2223 : decode code 2223 = .ok (.invokestatic 301, 3) := by decide +kernel
theorem dL_law_2226 : decode code 2226 = .ok (.istore 6, 2) := by decide +kernel
theorem dL_law_2228 : decode code 2228 = .ok (.aload_n 2, 1) := by decide +kernel
theorem dL_law_2229 : decode code 2229 = .ok (.invokevirtual 303, 3) := by decide +kernel
theorem dL_law_2232 : decode code 2232 = .ok (.istore 7, 2) := by decide +kernel
theorem dL_law_2234 : decode code 2234 = .ok (.aload_n 2, 1) := by decide +kernel
theorem dL_law_2235 : decode code 2235 = .ok (.invokevirtual 154, 3) := by decide +kernel
theorem dL_law_2238 : decode code 2238 = .ok (.iload 6, 2) := by decide +kernel
theorem dL_law_2240 : decode code 2240 = .ok (.if_icmp .eq 5, 3) := by decide +kernel
theorem dL_law_2243 : decode code 2243 = .ok (.iconst 0, 1) := by decide +kernel
theorem dL_law_2244 : decode code 2244 = .ok (.ireturn, 1) := by decide +kernel
theorem dL_law_2245 : decode code 2245 = .ok (.iload 6, 2) := by decide +kernel
theorem dL_law_2247 : decode code 2247 = .ok (.ifCond .ne 15, 3) := by decide +kernel
theorem dL_law_2250 : decode code 2250 = .ok (.aload_n 3, 1) := by decide +kernel
theorem dL_law_2251 : decode code 2251 = .ok (.iconst 0, 1) := by decide +kernel
theorem dL_law_2252 : decode code 2252 = .ok (.laload, 1) := by decide +kernel
theorem dL_law_2253 : decode code 2253 = .ok (.iload 7, 2) := by decide +kernel
theorem dL_law_2255 : decode code 2255 = .ok (.i2l, 1) := by decide +kernel
theorem dL_law_2256 : decode code 2256 = .ok (.lcmp, 1) := by decide +kernel
theorem dL_law_2257 : decode code 2257 = .ok (.ifCond .eq 5, 3) := by decide +kernel
theorem dL_law_2260 : decode code 2260 = .ok (.iconst 0, 1) := by decide +kernel
theorem dL_law_2261 : decode code 2261 = .ok (.ireturn, 1) := by decide +kernel
theorem dL_law_2262 : decode code 2262 = .ok (.goto 361, 3) := by decide +kernel
theorem dL_law_2265 : decode code 2265 = .ok (.aload_n 1, 1) := by decide +kernel
theorem dL_law_2266 : decode code 2266 = .ok (.aload_n 0, 1) := by decide +kernel
theorem dL_law_2267 : decode code 2267 = .ok (.iload 5, 2) := by decide +kernel
theorem dL_law_2269 : decode code 2269 = .ok (.iconst 1, 1) := by decide +kernel
theorem dL_law_2270 : decode code 2270 = .ok (.iadd, 1) := by decide +kernel
theorem dL_law_2271 : decode code 2271 = .ok (.iaload, 1) := by decide +kernel
theorem dL_law_2272 : decode code 2272 = .ok (.aload_n 3, 1) := by decide +kernel
theorem dL_law_2273 : decode code 2273 = .ok (.invokestatic 304, 3) := by decide +kernel
theorem dL_law_2276 : decode code 2276 = .ok (.istore 6, 2) := by decide +kernel
theorem dL_law_2278 : decode code 2278 = .ok (.aload_n 2, 1) := by decide +kernel
theorem dL_law_2279 : decode code 2279 = .ok (.aload_n 0, 1) := by decide +kernel
theorem dL_law_2280 : decode code 2280 = .ok (.iload 5, 2) := by decide +kernel
theorem dL_law_2282 : decode code 2282 = .ok (.iconst 1, 1) := by decide +kernel
theorem dL_law_2283 : decode code 2283 = .ok (.iadd, 1) := by decide +kernel
theorem dL_law_2284 : decode code 2284 = .ok (.iaload, 1) := by decide +kernel
theorem dL_law_2285 : decode code 2285 = .ok (.invokevirtual 306, 3) := by decide +kernel
theorem dL_law_2288 : decode code 2288 = .ok (.istore 7, 2) := by decide +kernel
theorem dL_law_2290 : decode code 2290 = .ok (.aload_n 2, 1) := by decide +kernel
theorem dL_law_2291 : decode code 2291 = .ok (.invokevirtual 154, 3) := by decide +kernel
theorem dL_law_2294 : decode code 2294 = .ok (.iload 6, 2) := by decide +kernel
theorem dL_law_2296 : decode code 2296 = .ok (.if_icmp .eq 5, 3) := by decide +kernel
theorem dL_law_2299 : decode code 2299 = .ok (.iconst 0, 1) := by decide +kernel
theorem dL_law_2300 : decode code 2300 = .ok (.ireturn, 1) := by decide +kernel
theorem dL_law_2301 : decode code 2301 = .ok (.iload 6, 2) := by decide +kernel
theorem dL_law_2303 : decode code 2303 = .ok (.ifCond .ne 15, 3) := by decide +kernel
theorem dL_law_2306 : decode code 2306 = .ok (.aload_n 3, 1) := by decide +kernel
theorem dL_law_2307 : decode code 2307 = .ok (.iconst 0, 1) := by decide +kernel
theorem dL_law_2308 : decode code 2308 = .ok (.laload, 1) := by decide +kernel
theorem dL_law_2309 : decode code 2309 = .ok (.iload 7, 2) := by decide +kernel
theorem dL_law_2311 : decode code 2311 = .ok (.i2l, 1) := by decide +kernel
theorem dL_law_2312 : decode code 2312 = .ok (.lcmp, 1) := by decide +kernel
theorem dL_law_2313 : decode code 2313 = .ok (.ifCond .eq 5, 3) := by decide +kernel
theorem dL_law_2316 : decode code 2316 = .ok (.iconst 0, 1) := by decide +kernel
theorem dL_law_2317 : decode code 2317 = .ok (.ireturn, 1) := by decide +kernel
theorem dL_law_2318 : decode code 2318 = .ok (.goto 305, 3) := by decide +kernel
theorem dL_law_2321 : decode code 2321 = .ok (.aload_n 1, 1) := by decide +kernel
theorem dL_law_2322 : decode code 2322 = .ok (.aload_n 0, 1) := by decide +kernel
theorem dL_law_2323 : decode code 2323 = .ok (.iload 5, 2) := by decide +kernel
theorem dL_law_2325 : decode code 2325 = .ok (.iconst 1, 1) := by decide +kernel
theorem dL_law_2326 : decode code 2326 = .ok (.iadd, 1) := by decide +kernel
theorem dL_law_2327 : decode code 2327 = .ok (.iaload, 1) := by decide +kernel
theorem dL_law_2328 : decode code 2328 = .ok (.aload_n 3, 1) := by decide +kernel
theorem dL_law_2329 : decode code 2329 = .ok (.invokestatic 307, 3) := by decide +kernel
theorem dL_law_2332 : decode code 2332 = .ok (.istore 6, 2) := by decide +kernel
theorem dL_law_2334 : decode code 2334 = .ok (.aload_n 2, 1) := by decide +kernel
theorem dL_law_2335 : decode code 2335 = .ok (.aload_n 0, 1) := by decide +kernel
theorem dL_law_2336 : decode code 2336 = .ok (.iload 5, 2) := by decide +kernel
theorem dL_law_2338 : decode code 2338 = .ok (.iconst 1, 1) := by decide +kernel
theorem dL_law_2339 : decode code 2339 = .ok (.iadd, 1) := by decide +kernel
theorem dL_law_2340 : decode code 2340 = .ok (.iaload, 1) := by decide +kernel
theorem dL_law_2341 : decode code 2341 = .ok (.invokevirtual 309, 3) := by decide +kernel
theorem dL_law_2344 : decode code 2344 = .ok (.istore 7, 2) := by decide +kernel
theorem dL_law_2346 : decode code 2346 = .ok (.aload_n 2, 1) := by decide +kernel
theorem dL_law_2347 : decode code 2347 = .ok (.invokevirtual 154, 3) := by decide +kernel
theorem dL_law_2350 : decode code 2350 = .ok (.iload 6, 2) := by decide +kernel
theorem dL_law_2352 : decode code 2352 = .ok (.if_icmp .eq 5, 3) := by decide +kernel
theorem dL_law_2355 : decode code 2355 = .ok (.iconst 0, 1) := by decide +kernel
theorem dL_law_2356 : decode code 2356 = .ok (.ireturn, 1) := by decide +kernel
theorem dL_law_2357 : decode code 2357 = .ok (.iload 6, 2) := by decide +kernel
theorem dL_law_2359 : decode code 2359 = .ok (.ifCond .ne 15, 3) := by decide +kernel
theorem dL_law_2362 : decode code 2362 = .ok (.aload_n 3, 1) := by decide +kernel
theorem dL_law_2363 : decode code 2363 = .ok (.iconst 0, 1) := by decide +kernel
theorem dL_law_2364 : decode code 2364 = .ok (.laload, 1) := by decide +kernel
theorem dL_law_2365 : decode code 2365 = .ok (.iload 7, 2) := by decide +kernel
theorem dL_law_2367 : decode code 2367 = .ok (.i2l, 1) := by decide +kernel
theorem dL_law_2368 : decode code 2368 = .ok (.lcmp, 1) := by decide +kernel
theorem dL_law_2369 : decode code 2369 = .ok (.ifCond .eq 5, 3) := by decide +kernel
theorem dL_law_2372 : decode code 2372 = .ok (.iconst 0, 1) := by decide +kernel
theorem dL_law_2373 : decode code 2373 = .ok (.ireturn, 1) := by decide +kernel
theorem dL_law_2374 : decode code 2374 = .ok (.goto 249, 3) := by decide +kernel
theorem dL_law_2377 : decode code 2377 = .ok (.aload_n 1, 1) := by decide +kernel
theorem dL_law_2378 : decode code 2378 = .ok (.aload_n 3, 1) := by decide +kernel
theorem dL_law_2379 : decode code 2379 = .ok (.invokestatic 310, 3) := by decide +kernel
theorem dL_law_2382 : decode code 2382 = .ok (.istore 6, 2) := by decide +kernel
theorem dL_law_2384 : decode code 2384 = .ok (.aload_n 2, 1) := by decide +kernel
theorem dL_law_2385 : decode code 2385 = .ok (.invokevirtual 312, 3) := by decide +kernel
theorem dL_law_2388 : decode code 2388 = .ok (.istore 7, 2) := by decide +kernel
theorem dL_law_2390 : decode code 2390 = .ok (.aload_n 2, 1) := by decide +kernel
theorem dL_law_2391 : decode code 2391 = .ok (.invokevirtual 154, 3) := by decide +kernel
theorem dL_law_2394 : decode code 2394 = .ok (.iload 6, 2) := by decide +kernel
theorem dL_law_2396 : decode code 2396 = .ok (.if_icmp .eq 5, 3) := by decide +kernel
theorem dL_law_2399 : decode code 2399 = .ok (.iconst 0, 1) := by decide +kernel
theorem dL_law_2400 : decode code 2400 = .ok (.ireturn, 1) := by decide +kernel
theorem dL_law_2401 : decode code 2401 = .ok (.iload 6, 2) := by decide +kernel
theorem dL_law_2403 : decode code 2403 = .ok (.ifCond .ne 15, 3) := by decide +kernel
theorem dL_law_2406 : decode code 2406 = .ok (.aload_n 3, 1) := by decide +kernel
theorem dL_law_2407 : decode code 2407 = .ok (.iconst 0, 1) := by decide +kernel
theorem dL_law_2408 : decode code 2408 = .ok (.laload, 1) := by decide +kernel
theorem dL_law_2409 : decode code 2409 = .ok (.iload 7, 2) := by decide +kernel
theorem dL_law_2411 : decode code 2411 = .ok (.i2l, 1) := by decide +kernel
theorem dL_law_2412 : decode code 2412 = .ok (.lcmp, 1) := by decide +kernel
theorem dL_law_2413 : decode code 2413 = .ok (.ifCond .eq 5, 3) := by decide +kernel
theorem dL_law_2416 : decode code 2416 = .ok (.iconst 0, 1) := by decide +kernel
theorem dL_law_2417 : decode code 2417 = .ok (.ireturn, 1) := by decide +kernel
theorem dL_law_2418 : decode code 2418 = .ok (.goto 205, 3) := by decide +kernel
theorem dL_law_2421 : decode code 2421 = .ok (.aload_n 1, 1) := by decide +kernel
theorem dL_law_2422 : decode code 2422 = .ok (.aload_n 3, 1) := by decide +kernel
theorem dL_law_2423 : decode code 2423 = .ok (.invokestatic 313, 3) := by decide +kernel
theorem dL_law_2426 : decode code 2426 = .ok (.istore 6, 2) := by decide +kernel
theorem dL_law_2428 : decode code 2428 = .ok (.aload_n 2, 1) := by decide +kernel
theorem dL_law_2429 : decode code 2429 = .ok (.invokevirtual 315, 3) := by decide +kernel
theorem dL_law_2432 : decode code 2432 = .ok (.istore 7, 2) := by decide +kernel
theorem dL_law_2434 : decode code 2434 = .ok (.aload_n 2, 1) := by decide +kernel
theorem dL_law_2435 : decode code 2435 = .ok (.invokevirtual 154, 3) := by decide +kernel
theorem dL_law_2438 : decode code 2438 = .ok (.iload 6, 2) := by decide +kernel
theorem dL_law_2440 : decode code 2440 = .ok (.if_icmp .eq 5, 3) := by decide +kernel
theorem dL_law_2443 : decode code 2443 = .ok (.iconst 0, 1) := by decide +kernel
theorem dL_law_2444 : decode code 2444 = .ok (.ireturn, 1) := by decide +kernel
theorem dL_law_2445 : decode code 2445 = .ok (.iload 6, 2) := by decide +kernel
theorem dL_law_2447 : decode code 2447 = .ok (.ifCond .ne 15, 3) := by decide +kernel
theorem dL_law_2450 : decode code 2450 = .ok (.aload_n 3, 1) := by decide +kernel
theorem dL_law_2451 : decode code 2451 = .ok (.iconst 0, 1) := by decide +kernel
theorem dL_law_2452 : decode code 2452 = .ok (.laload, 1) := by decide +kernel
theorem dL_law_2453 : decode code 2453 = .ok (.iload 7, 2) := by decide +kernel
theorem dL_law_2455 : decode code 2455 = .ok (.i2l, 1) := by decide +kernel
theorem dL_law_2456 : decode code 2456 = .ok (.lcmp, 1) := by decide +kernel
theorem dL_law_2457 : decode code 2457 = .ok (.ifCond .eq 5, 3) := by decide +kernel
theorem dL_law_2460 : decode code 2460 = .ok (.iconst 0, 1) := by decide +kernel
theorem dL_law_2461 : decode code 2461 = .ok (.ireturn, 1) := by decide +kernel
theorem dL_law_2462 : decode code 2462 = .ok (.goto 161, 3) := by decide +kernel
theorem dL_law_2465 : decode code 2465 = .ok (.aload_n 1, 1) := by decide +kernel
theorem dL_law_2466 : decode code 2466 = .ok (.aload_n 3, 1) := by decide +kernel
theorem dL_law_2467 : decode code 2467 = .ok (.invokestatic 316, 3) := by decide +kernel
theorem dL_law_2470 : decode code 2470 = .ok (.istore 6, 2) := by decide +kernel
theorem dL_law_2472 : decode code 2472 = .ok (.aload_n 2, 1) := by decide +kernel
theorem dL_law_2473 : decode code 2473 = .ok (.invokevirtual 318, 3) := by decide +kernel
theorem dL_law_2476 : decode code 2476 = .ok (.istore 7, 2) := by decide +kernel
theorem dL_law_2478 : decode code 2478 = .ok (.aload_n 2, 1) := by decide +kernel
theorem dL_law_2479 : decode code 2479 = .ok (.invokevirtual 154, 3) := by decide +kernel
theorem dL_law_2482 : decode code 2482 = .ok (.iload 6, 2) := by decide +kernel
theorem dL_law_2484 : decode code 2484 = .ok (.if_icmp .eq 5, 3) := by decide +kernel
theorem dL_law_2487 : decode code 2487 = .ok (.iconst 0, 1) := by decide +kernel
theorem dL_law_2488 : decode code 2488 = .ok (.ireturn, 1) := by decide +kernel
theorem dL_law_2489 : decode code 2489 = .ok (.iload 6, 2) := by decide +kernel
theorem dL_law_2491 : decode code 2491 = .ok (.ifCond .ne 15, 3) := by decide +kernel
theorem dL_law_2494 : decode code 2494 = .ok (.aload_n 3, 1) := by decide +kernel
theorem dL_law_2495 : decode code 2495 = .ok (.iconst 0, 1) := by decide +kernel
theorem dL_law_2496 : decode code 2496 = .ok (.laload, 1) := by decide +kernel
theorem dL_law_2497 : decode code 2497 = .ok (.iload 7, 2) := by decide +kernel
theorem dL_law_2499 : decode code 2499 = .ok (.i2l, 1) := by decide +kernel
theorem dL_law_2500 : decode code 2500 = .ok (.lcmp, 1) := by decide +kernel
theorem dL_law_2501 : decode code 2501 = .ok (.ifCond .eq 5, 3) := by decide +kernel
theorem dL_law_2504 : decode code 2504 = .ok (.iconst 0, 1) := by decide +kernel
theorem dL_law_2505 : decode code 2505 = .ok (.ireturn, 1) := by decide +kernel
theorem dL_law_2506 : decode code 2506 = .ok (.goto 117, 3) := by decide +kernel
theorem dL_law_2509 : decode code 2509 = .ok (.aload_n 1, 1) := by decide +kernel
theorem dL_law_2510 : decode code 2510 = .ok (.aload_n 3, 1) := by decide +kernel
theorem dL_law_2511 : decode code 2511 = .ok (.invokestatic 319, 3) := by decide +kernel
theorem dL_law_2514 : decode code 2514 = .ok (.istore 6, 2) := by decide +kernel
theorem dL_law_2516 : decode code 2516 = .ok (.aload_n 2, 1) := by decide +kernel
theorem dL_law_2517 : decode code 2517 = .ok (.invokevirtual 321, 3) := by decide +kernel
theorem dL_law_2520 : decode code 2520 = .ok (.istore 7, 2) := by decide +kernel
theorem dL_law_2522 : decode code 2522 = .ok (.aload_n 2, 1) := by decide +kernel
theorem dL_law_2523 : decode code 2523 = .ok (.invokevirtual 154, 3) := by decide +kernel
theorem dL_law_2526 : decode code 2526 = .ok (.iload 6, 2) := by decide +kernel
theorem dL_law_2528 : decode code 2528 = .ok (.if_icmp .eq 5, 3) := by decide +kernel
theorem dL_law_2531 : decode code 2531 = .ok (.iconst 0, 1) := by decide +kernel
theorem dL_law_2532 : decode code 2532 = .ok (.ireturn, 1) := by decide +kernel
theorem dL_law_2533 : decode code 2533 = .ok (.iload 6, 2) := by decide +kernel
theorem dL_law_2535 : decode code 2535 = .ok (.ifCond .ne 15, 3) := by decide +kernel
theorem dL_law_2538 : decode code 2538 = .ok (.aload_n 3, 1) := by decide +kernel
theorem dL_law_2539 : decode code 2539 = .ok (.iconst 0, 1) := by decide +kernel
theorem dL_law_2540 : decode code 2540 = .ok (.laload, 1) := by decide +kernel
theorem dL_law_2541 : decode code 2541 = .ok (.iload 7, 2) := by decide +kernel
theorem dL_law_2543 : decode code 2543 = .ok (.i2l, 1) := by decide +kernel
theorem dL_law_2544 : decode code 2544 = .ok (.lcmp, 1) := by decide +kernel
theorem dL_law_2545 : decode code 2545 = .ok (.ifCond .eq 5, 3) := by decide +kernel
theorem dL_law_2548 : decode code 2548 = .ok (.iconst 0, 1) := by decide +kernel
theorem dL_law_2549 : decode code 2549 = .ok (.ireturn, 1) := by decide +kernel
theorem dL_law_2550 : decode code 2550 = .ok (.goto 73, 3) := by decide +kernel
theorem dL_law_2553 : decode code 2553 = .ok (.aload_n 1, 1) := by decide +kernel
theorem dL_law_2554 : decode code 2554 = .ok (.invokevirtual 322, 3) := by decide +kernel
theorem dL_law_2557 : decode code 2557 = .ok (.aload_n 2, 1) := by decide +kernel
theorem dL_law_2558 : decode code 2558 = .ok (.invokevirtual 325, 3) := by decide +kernel
theorem dL_law_2561 : decode code 2561 = .ok (.if_icmp .eq 62, 3) := by decide +kernel
theorem dL_law_2564 : decode code 2564 = .ok (.iconst 0, 1) := by decide +kernel
theorem dL_law_2565 : decode code 2565 = .ok (.ireturn, 1) := by decide +kernel
theorem dL_law_2566 : decode code 2566 = .ok (.aload_n 1, 1) := by decide +kernel
theorem dL_law_2567 : decode code 2567 = .ok (.invokevirtual 326, 3) := by decide +kernel
theorem dL_law_2570 : decode code 2570 = .ok (.aload_n 2, 1) := by decide +kernel
theorem dL_law_2571 : decode code 2571 = .ok (.invokevirtual 329, 3) := by decide +kernel
theorem dL_law_2574 : decode code 2574 = .ok (.if_icmp .eq 49, 3) := by decide +kernel
theorem dL_law_2577 : decode code 2577 = .ok (.iconst 0, 1) := by decide +kernel
theorem dL_law_2578 : decode code 2578 = .ok (.ireturn, 1) := by decide +kernel
theorem dL_law_2579 : decode code 2579 = .ok (.aload_n 1, 1) := by decide +kernel
theorem dL_law_2580 : decode code 2580 = .ok (.aload_n 3, 1) := by decide +kernel
theorem dL_law_2581 : decode code 2581 = .ok (.invokestatic 330, 3) := by decide +kernel
theorem dL_law_2584 : decode code 2584 = .ok (.istore 6, 2) := by decide +kernel
theorem dL_law_2586 : decode code 2586 = .ok (.aload_n 2, 1) := by decide +kernel
theorem dL_law_2587 : decode code 2587 = .ok (.invokevirtual 332, 3) := by decide +kernel
theorem dL_law_2590 : decode code 2590 = .ok (.istore 7, 2) := by decide +kernel
theorem dL_law_2592 : decode code 2592 = .ok (.aload_n 2, 1) := by decide +kernel
theorem dL_law_2593 : decode code 2593 = .ok (.invokevirtual 154, 3) := by decide +kernel
theorem dL_law_2596 : decode code 2596 = .ok (.iload 6, 2) := by decide +kernel
theorem dL_law_2598 : decode code 2598 = .ok (.if_icmp .eq 5, 3) := by decide +kernel
theorem dL_law_2601 : decode code 2601 = .ok (.iconst 0, 1) := by decide +kernel
theorem dL_law_2602 : decode code 2602 = .ok (.ireturn, 1) := by decide +kernel
theorem dL_law_2603 : decode code 2603 = .ok (.iload 6, 2) := by decide +kernel
theorem dL_law_2605 : decode code 2605 = .ok (.ifCond .ne 15, 3) := by decide +kernel
theorem dL_law_2608 : decode code 2608 = .ok (.aload_n 3, 1) := by decide +kernel
theorem dL_law_2609 : decode code 2609 = .ok (.iconst 0, 1) := by decide +kernel
theorem dL_law_2610 : decode code 2610 = .ok (.laload, 1) := by decide +kernel
theorem dL_law_2611 : decode code 2611 = .ok (.iload 7, 2) := by decide +kernel
theorem dL_law_2613 : decode code 2613 = .ok (.i2l, 1) := by decide +kernel
theorem dL_law_2614 : decode code 2614 = .ok (.lcmp, 1) := by decide +kernel
theorem dL_law_2615 : decode code 2615 = .ok (.ifCond .eq 5, 3) := by decide +kernel
theorem dL_law_2618 : decode code 2618 = .ok (.iconst 0, 1) := by decide +kernel
theorem dL_law_2619 : decode code 2619 = .ok (.ireturn, 1) := by decide +kernel
theorem dL_law_2620 : decode code 2620 = .ok (.goto 3, 3) := by decide +kernel
theorem dL_law_2623 : decode code 2623 = .ok (.iinc 5 4, 3) := by decide +kernel
theorem dL_law_2626 : decode code 2626 = .ok (.goto (-2598), 3) := by decide +kernel
theorem dL_law_2629 : decode code 2629 = .ok (.iconst 1, 1) := by decide +kernel
theorem dL_law_2630 : decode code 2630 = .ok (.ireturn, 1) := by decide +kernel
