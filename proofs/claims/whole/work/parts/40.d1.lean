theorem d_L_law_312 : decode code 312 = .ok (.bipush 32, 2) := by decide +kernel
theorem d_L_law_314 : decode code 314 = .ok (.lshl, 1) := by decide +kernel
theorem d_L_law_315 : decode code 315 = .ok (.aload_n 0, 1) := by decide +kernel
theorem d_L_law_316 : decode code 316 = .ok (.iload 4, 2) := by decide +kernel
theorem d_L_law_318 : decode code 318 = .ok (.iconst 4, 1) := by decide +kernel
theorem d_L_law_319 : decode code 319 = .ok (.iadd, 1) := by decide +kernel
theorem d_L_law_320 : decode code 320 = .ok (.iaload, 1) := by decide +kernel
theorem d_L_law_321 : decode code 321 = .ok (.i2l, 1) := by decide +kernel
theorem d_L_law_322 : decode code 322 = .ok (.ldc2_w 97, 3) := by decide +kernel
theorem d_L_law_325 : decode code 325 = .ok (.land, 1) := by decide +kernel
theorem d_L_law_326 : decode code 326 = .ok (.lor, 1) := by decide +kernel
theorem d_L_law_327 : decode code 327 = .ok (.aload_n 3, 1) := by decide +kernel
theorem d_L_law_328 : decode code 328 = .ok (.invokestatic 99, 3) := by decide +kernel
theorem d_L_law_331 : decode code 331 = .ok (.istore 5, 2) := by decide +kernel
theorem d_L_law_333 : decode code 333 = .ok (.aload_n 2, 1) := by decide +kernel
theorem d_L_law_334 : decode code 334 = .ok (.aload_n 0, 1) := by decide +kernel
theorem d_L_law_335 : decode code 335 = .ok (.iload 4, 2) := by decide +kernel
theorem d_L_law_337 : decode code 337 = .ok (.iconst 1, 1) := by decide +kernel
theorem d_L_law_338 : decode code 338 = .ok (.iadd, 1) := by decide +kernel
theorem d_L_law_339 : decode code 339 = .ok (.iaload, 1) := by decide +kernel
theorem d_L_law_340 : decode code 340 = .ok (.aload_n 0, 1) := by decide +kernel
theorem d_L_law_341 : decode code 341 = .ok (.iload 4, 2) := by decide +kernel
theorem d_L_law_343 : decode code 343 = .ok (.iconst 2, 1) := by decide +kernel
theorem d_L_law_344 : decode code 344 = .ok (.iadd, 1) := by decide +kernel
theorem d_L_law_345 : decode code 345 = .ok (.iaload, 1) := by decide +kernel
theorem d_L_law_346 : decode code 346 = .ok (.aload_n 0, 1) := by decide +kernel
theorem d_L_law_347 : decode code 347 = .ok (.iload 4, 2) := by decide +kernel
theorem d_L_law_349 : decode code 349 = .ok (.iconst 3, 1) := by decide +kernel
theorem d_L_law_350 : decode code 350 = .ok (.iadd, 1) := by decide +kernel
theorem d_L_law_351 : decode code 351 = .ok (.iaload, 1) := by decide +kernel
theorem d_L_law_352 : decode code 352 = .ok (.i2l, 1) := by decide +kernel
theorem d_L_law_353 : decode code 353 = .ok (.bipush 32, 2) := by decide +kernel
theorem d_L_law_355 : decode code 355 = .ok (.lshl, 1) := by decide +kernel
theorem d_L_law_356 : decode code 356 = .ok (.aload_n 0, 1) := by decide +kernel
theorem d_L_law_357 : decode code 357 = .ok (.iload 4, 2) := by decide +kernel
theorem d_L_law_359 : decode code 359 = .ok (.iconst 4, 1) := by decide +kernel
theorem d_L_law_360 : decode code 360 = .ok (.iadd, 1) := by decide +kernel
theorem d_L_law_361 : decode code 361 = .ok (.iaload, 1) := by decide +kernel
theorem d_L_law_362 : decode code 362 = .ok (.i2l, 1) := by decide +kernel
theorem d_L_law_363 : decode code 363 = .ok (.ldc2_w 97, 3) := by decide +kernel
theorem d_L_law_366 : decode code 366 = .ok (.land, 1) := by decide +kernel
theorem d_L_law_367 : decode code 367 = .ok (.lor, 1) := by decide +kernel
theorem d_L_law_368 : decode code 368 = .ok (.invokevirtual 102, 3) := by decide +kernel
theorem d_L_law_371 : decode code 371 = .ok (.lstore 6, 2) := by decide +kernel
theorem d_L_law_373 : decode code 373 = .ok (.aload_n 2, 1) := by decide +kernel
theorem d_L_law_374 : decode code 374 = .ok (.invokevirtual 90, 3) := by decide +kernel
theorem d_L_law_377 : decode code 377 = .ok (.iload 5, 2) := by decide +kernel
theorem d_L_law_379 : decode code 379 = .ok (.if_icmp .eq 5, 3) := by decide +kernel
theorem d_L_law_382 : decode code 382 = .ok (.iconst 0, 1) := by decide +kernel
theorem d_L_law_383 : decode code 383 = .ok (.ireturn, 1) := by decide +kernel
theorem d_L_law_384 : decode code 384 = .ok (.iload 5, 2) := by decide +kernel
theorem d_L_law_386 : decode code 386 = .ok (.ifCond .ne 14, 3) := by decide +kernel
theorem d_L_law_389 : decode code 389 = .ok (.aload_n 3, 1) := by decide +kernel
theorem d_L_law_390 : decode code 390 = .ok (.iconst 0, 1) := by decide +kernel
theorem d_L_law_391 : decode code 391 = .ok (.laload, 1) := by decide +kernel
theorem d_L_law_392 : decode code 392 = .ok (.lload 6, 2) := by decide +kernel
theorem d_L_law_394 : decode code 394 = .ok (.lcmp, 1) := by decide +kernel
theorem d_L_law_395 : decode code 395 = .ok (.ifCond .eq 5, 3) := by decide +kernel
theorem d_L_law_398 : decode code 398 = .ok (.iconst 0, 1) := by decide +kernel
theorem d_L_law_399 : decode code 399 = .ok (.ireturn, 1) := by decide +kernel
theorem d_L_law_400 : decode code 400 = .ok (.goto 915, 3) := by decide +kernel
theorem d_L_law_403 : decode code 403 = .ok (.aload_n 1, 1) := by decide +kernel
theorem d_L_law_404 : decode code 404 = .ok (.aload_n 0, 1) := by decide +kernel
theorem d_L_law_405 : decode code 405 = .ok (.iload 4, 2) := by decide +kernel
theorem d_L_law_407 : decode code 407 = .ok (.iconst 1, 1) := by decide +kernel
theorem d_L_law_408 : decode code 408 = .ok (.iadd, 1) := by decide +kernel
theorem d_L_law_409 : decode code 409 = .ok (.iaload, 1) := by decide +kernel
theorem d_L_law_410 : decode code 410 = .ok (.aload_n 3, 1) := by decide +kernel
theorem d_L_law_411 : decode code 411 = .ok (.invokestatic 103, 3) := by decide +kernel
theorem d_L_law_414 : decode code 414 = .ok (.istore 5, 2) := by decide +kernel
theorem d_L_law_416 : decode code 416 = .ok (.aload_n 2, 1) := by decide +kernel
theorem d_L_law_417 : decode code 417 = .ok (.aload_n 0, 1) := by decide +kernel
theorem d_L_law_418 : decode code 418 = .ok (.iload 4, 2) := by decide +kernel
theorem d_L_law_420 : decode code 420 = .ok (.iconst 1, 1) := by decide +kernel
theorem d_L_law_421 : decode code 421 = .ok (.iadd, 1) := by decide +kernel
theorem d_L_law_422 : decode code 422 = .ok (.iaload, 1) := by decide +kernel
theorem d_L_law_423 : decode code 423 = .ok (.invokevirtual 105, 3) := by decide +kernel
theorem d_L_law_426 : decode code 426 = .ok (.istore 6, 2) := by decide +kernel
theorem d_L_law_428 : decode code 428 = .ok (.aload_n 2, 1) := by decide +kernel
theorem d_L_law_429 : decode code 429 = .ok (.invokevirtual 90, 3) := by decide +kernel
theorem d_L_law_432 : decode code 432 = .ok (.iload 5, 2) := by decide +kernel
theorem d_L_law_434 : decode code 434 = .ok (.if_icmp .eq 5, 3) := by decide +kernel
theorem d_L_law_437 : decode code 437 = .ok (.iconst 0, 1) := by decide +kernel
theorem d_L_law_438 : decode code 438 = .ok (.ireturn, 1) := by decide +kernel
theorem d_L_law_439 : decode code 439 = .ok (.iload 5, 2) := by decide +kernel
theorem d_L_law_441 : decode code 441 = .ok (.ifCond .ne 15, 3) := by decide +kernel
theorem d_L_law_444 : decode code 444 = .ok (.aload_n 3, 1) := by decide +kernel
theorem d_L_law_445 : decode code 445 = .ok (.iconst 0, 1) := by decide +kernel
theorem d_L_law_446 : decode code 446 = .ok (.laload, 1) := by decide +kernel
theorem d_L_law_447 : decode code 447 = .ok (.iload 6, 2) := by decide +kernel
theorem d_L_law_449 : decode code 449 = .ok (.i2l, 1) := by decide +kernel
theorem d_L_law_450 : decode code 450 = .ok (.lcmp, 1) := by decide +kernel
theorem d_L_law_451 : decode code 451 = .ok (.ifCond .eq 5, 3) := by decide +kernel
theorem d_L_law_454 : decode code 454 = .ok (.iconst 0, 1) := by decide +kernel
theorem d_L_law_455 : decode code 455 = .ok (.ireturn, 1) := by decide +kernel
theorem d_L_law_456 : decode code 456 = .ok (.goto 859, 3) := by decide +kernel
theorem d_L_law_459 : decode code 459 = .ok (.aload_n 1, 1) := by decide +kernel
theorem d_L_law_460 : decode code 460 = .ok (.aload_n 0, 1) := by decide +kernel
theorem d_L_law_461 : decode code 461 = .ok (.iload 4, 2) := by decide +kernel
theorem d_L_law_463 : decode code 463 = .ok (.iconst 1, 1) := by decide +kernel
theorem d_L_law_464 : decode code 464 = .ok (.iadd, 1) := by decide +kernel
theorem d_L_law_465 : decode code 465 = .ok (.iaload, 1) := by decide +kernel
theorem d_L_law_466 : decode code 466 = .ok (.aload_n 0, 1) := by decide +kernel
theorem d_L_law_467 : decode code 467 = .ok (.iload 4, 2) := by decide +kernel
theorem d_L_law_469 : decode code 469 = .ok (.iconst 2, 1) := by decide +kernel
theorem d_L_law_470 : decode code 470 = .ok (.iadd, 1) := by decide +kernel
theorem d_L_law_471 : decode code 471 = .ok (.iaload, 1) := by decide +kernel
theorem d_L_law_472 : decode code 472 = .ok (.aload_n 3, 1) := by decide +kernel
theorem d_L_law_473 : decode code 473 = .ok (.invokestatic 106, 3) := by decide +kernel
theorem d_L_law_476 : decode code 476 = .ok (.istore 5, 2) := by decide +kernel
theorem d_L_law_478 : decode code 478 = .ok (.aload_n 2, 1) := by decide +kernel
theorem d_L_law_479 : decode code 479 = .ok (.aload_n 0, 1) := by decide +kernel
theorem d_L_law_480 : decode code 480 = .ok (.iload 4, 2) := by decide +kernel
theorem d_L_law_482 : decode code 482 = .ok (.iconst 1, 1) := by decide +kernel
theorem d_L_law_483 : decode code 483 = .ok (.iadd, 1) := by decide +kernel
theorem d_L_law_484 : decode code 484 = .ok (.iaload, 1) := by decide +kernel
theorem d_L_law_485 : decode code 485 = .ok (.aload_n 0, 1) := by decide +kernel
theorem d_L_law_486 : decode code 486 = .ok (.iload 4, 2) := by decide +kernel
theorem d_L_law_488 : decode code 488 = .ok (.iconst 2, 1) := by decide +kernel
theorem d_L_law_489 : decode code 489 = .ok (.iadd, 1) := by decide +kernel
theorem d_L_law_490 : decode code 490 = .ok (.iaload, 1) := by decide +kernel
theorem d_L_law_491 : decode code 491 = .ok (.invokevirtual 109, 3) := by decide +kernel
theorem d_L_law_494 : decode code 494 = .ok (.istore 6, 2) := by decide +kernel
theorem d_L_law_496 : decode code 496 = .ok (.aload_n 2, 1) := by decide +kernel
theorem d_L_law_497 : decode code 497 = .ok (.invokevirtual 90, 3) := by decide +kernel
theorem d_L_law_500 : decode code 500 = .ok (.iload 5, 2) := by decide +kernel
theorem d_L_law_502 : decode code 502 = .ok (.if_icmp .eq 5, 3) := by decide +kernel
theorem d_L_law_505 : decode code 505 = .ok (.iconst 0, 1) := by decide +kernel
theorem d_L_law_506 : decode code 506 = .ok (.ireturn, 1) := by decide +kernel
theorem d_L_law_507 : decode code 507 = .ok (.iload 5, 2) := by decide +kernel
theorem d_L_law_509 : decode code 509 = .ok (.ifCond .ne 15, 3) := by decide +kernel
theorem d_L_law_512 : decode code 512 = .ok (.aload_n 3, 1) := by decide +kernel
theorem d_L_law_513 : decode code 513 = .ok (.iconst 0, 1) := by decide +kernel
theorem d_L_law_514 : decode code 514 = .ok (.laload, 1) := by decide +kernel
theorem d_L_law_515 : decode code 515 = .ok (.iload 6, 2) := by decide +kernel
theorem d_L_law_517 : decode code 517 = .ok (.i2l, 1) := by decide +kernel
theorem d_L_law_518 : decode code 518 = .ok (.lcmp, 1) := by decide +kernel
theorem d_L_law_519 : decode code 519 = .ok (.ifCond .eq 5, 3) := by decide +kernel
theorem d_L_law_522 : decode code 522 = .ok (.iconst 0, 1) := by decide +kernel
theorem d_L_law_523 : decode code 523 = .ok (.ireturn, 1) := by decide +kernel
theorem d_L_law_524 : decode code 524 = .ok (.goto 791, 3) := by decide +kernel
theorem d_L_law_527 : decode code 527 = .ok (.aload_n 1, 1) := by decide +kernel
theorem d_L_law_528 : decode code 528 = .ok (.aload_n 0, 1) := by decide +kernel
theorem d_L_law_529 : decode code 529 = .ok (.iload 4, 2) := by decide +kernel
theorem d_L_law_531 : decode code 531 = .ok (.iconst 1, 1) := by decide +kernel
theorem d_L_law_532 : decode code 532 = .ok (.iadd, 1) := by decide +kernel
theorem d_L_law_533 : decode code 533 = .ok (.iaload, 1) := by decide +kernel
theorem d_L_law_534 : decode code 534 = .ok (.aload_n 0, 1) := by decide +kernel
theorem d_L_law_535 : decode code 535 = .ok (.iload 4, 2) := by decide +kernel
theorem d_L_law_537 : decode code 537 = .ok (.iconst 2, 1) := by decide +kernel
