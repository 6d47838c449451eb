theorem dL_law_267 : decode code 267 = .ok (.aload_n 1, 1) := by decide +kernel
theorem dL_law_268 : decode code 268 = .ok (.iload 13, 2) := by decide +kernel
theorem dL_law_270 : decode code 270 = .ok (.invokevirtual 135, 3) := by decide +kernel
theorem dL_law_273 : decode code 273 = .ok (.aload_n 1, 1) := by decide +kernel
theorem dL_law_274 : decode code 274 = .ok (.iload 13, 2) := by decide +kernel
theorem dL_law_276 : decode code 276 = .ok (.invokevirtual 138, 3) := by decide +kernel
theorem dL_law_279 : decode code 279 = .ok (.invokevirtual 46, 3) := by decide +kernel
theorem dL_law_282 : decode code 282 = .ok (.iload 13, 2) := by decide +kernel
theorem dL_law_284 : decode code 284 = .ok (.if_icmp .ne 36, 3) := by decide +kernel
theorem dL_law_287 : decode code 287 = .ok (.aload_n 1, 1) := by decide +kernel
theorem dL_law_288 : decode code 288 = .ok (.iload 13, 2) := by decide +kernel
theorem dL_law_290 : decode code 290 = .ok (.invokevirtual 205, 3) := by decide +kernel
theorem dL_law_293 : decode code 293 = .ok (.iload 15, 2) := by decide +kernel
theorem dL_law_295 : decode code 295 = .ok (.if_icmp .ne 25, 3) := by decide +kernel
theorem dL_law_298 : decode code 298 = .ok (.aload_n 1, 1) := by decide +kernel
theorem dL_law_299 : decode code 299 = .ok (.iload 13, 2) := by decide +kernel
theorem dL_law_301 : decode code 301 = .ok (.invokevirtual 208, 3) := by decide +kernel
theorem dL_law_304 : decode code 304 = .ok (.iload 18, 2) := by decide +kernel
theorem dL_law_306 : decode code 306 = .ok (.if_icmp .ne 14, 3) := by decide +kernel
theorem dL_law_309 : decode code 309 = .ok (.aload_n 1, 1) := by decide +kernel
theorem dL_law_310 : decode code 310 = .ok (.iload 13, 2) := by decide +kernel
theorem dL_law_312 : decode code 312 = .ok (.invokevirtual 211, 3) := by decide +kernel
theorem dL_law_315 : decode code 315 = .ok (.iload 14, 2) := by decide +kernel
theorem dL_law_317 : decode code 317 = .ok (.if_icmp .eq 5, 3) := by decide +kernel
theorem dL_law_320 : decode code 320 = .ok (.iconst 0, 1) := by decide +kernel
theorem dL_law_321 : decode code 321 = .ok (.ireturn, 1) := by decide +kernel
theorem dL_law_322 : decode code 322 = .ok (.aload_n 1, 1) := by decide +kernel
theorem dL_law_323 : decode code 323 = .ok (.aload_n 1, 1) := by decide +kernel
theorem dL_law_324 : decode code 324 = .ok (.iload 13, 2) := by decide +kernel
theorem dL_law_326 : decode code 326 = .ok (.invokevirtual 214, 3) := by decide +kernel
theorem dL_law_329 : decode code 329 = .ok (.new 217, 3) := by decide +kernel
theorem dL_law_332 : decode code 332 = .ok (.dup, 1) := by decide +kernel
theorem dL_law_333 : decode code 333 = .ok (.invokespecial 219, 3) := by decide +kernel
theorem dL_law_336 : decode code 336 = .ok (.iload 13, 2) := by decide +kernel
theorem dL_law_338 : decode code 338 = .ok (.invokevirtual 220, 3) := by decide +kernel
theorem dL_law_341 : decode code 341 = .ok (.ldc 224, 2) := by decide +kernel
theorem dL_law_343 : decode code 343 = .ok (.invokevirtual 226, 3) := by decide +kernel
theorem dL_law_346 : decode code 346 = .ok (.aload_n 1, 1) := by decide +kernel
theorem dL_law_347 : decode code 347 = .ok (.iload 13, 2) := by decide +kernel
theorem dL_law_349 : decode code 349 = .ok (.invokevirtual 135, 3) := by decide +kernel
theorem dL_law_352 : decode code 352 = .ok (.invokevirtual 220, 3) := by decide +kernel
theorem dL_law_355 : decode code 355 = .ok (.ldc 229, 2) := by decide +kernel
theorem dL_law_357 : decode code 357 = .ok (.invokevirtual 226, 3) := by decide +kernel
theorem dL_law_360 : decode code 360 = .ok (.aload_n 1, 1) := by decide +kernel
theorem dL_law_361 : decode code 361 = .ok (.iload 13, 2) := by decide +kernel
theorem dL_law_363 : decode code 363 = .ok (.invokevirtual 138, 3) := by decide +kernel
theorem dL_law_366 : decode code 366 = .ok (.invokevirtual 220, 3) := by decide +kernel
theorem dL_law_369 : decode code 369 = .ok (.ldc 231, 2) := by decide +kernel
theorem dL_law_371 : decode code 371 = .ok (.invokevirtual 226, 3) := by decide +kernel
theorem dL_law_374 : decode code 374 = .ok (.aload_n 1, 1) := by decide +kernel
theorem dL_law_375 : decode code 375 = .ok (.iload 13, 2) := by decide +kernel
theorem dL_law_377 : decode code 377 = .ok (.invokevirtual 153, 3) := by decide +kernel
theorem dL_law_380 : decode code 380 = .ok (.invokevirtual 220, 3) := by decide +kernel
theorem dL_law_383 : decode code 383 = .ok (.ldc 233, 2) := by decide +kernel
theorem dL_law_385 : decode code 385 = .ok (.invokevirtual 226, 3) := by decide +kernel
theorem dL_law_388 : decode code 388 = .ok (.iload 14, 2) := by decide +kernel
theorem dL_law_390 : decode code 390 = .ok (.invokevirtual 220, 3) := by decide +kernel
theorem dL_law_393 : decode code 393 = .ok (.iload 16, 2) := by decide +kernel
theorem dL_law_395 : decode code 395 = .ok (.sipush (-30000), 3) := by decide +kernel
theorem dL_law_398 : decode code 398 = .ok (.if_icmp .eq 26, 3) := by decide +kernel
theorem dL_law_401 : decode code 401 = .ok (.new 217, 3) := by decide +kernel
theorem dL_law_404 : decode code 404 = .ok (.dup, 1) := by decide +kernel
theorem dL_law_405 : decode code 405 = .ok (.invokespecial 219, 3) := by decide +kernel
theorem dL_law_408 : decode code 408 = .ok (.ldc 235, 2) := by decide +kernel
theorem dL_law_410 : decode code 410 = .ok (.invokevirtual 226, 3) := by decide +kernel
theorem dL_law_413 : decode code 413 = .ok (.iload 16, 2) := by decide +kernel
theorem dL_law_415 : decode code 415 = .ok (.invokevirtual 220, 3) := by decide +kernel
theorem dL_law_418 : decode code 418 = .ok (.invokevirtual 237, 3) := by decide +kernel
theorem dL_law_421 : decode code 421 = .ok (.goto 5, 3) := by decide +kernel
theorem dL_law_424 : decode code 424 = .ok (.ldc 241, 2) := by decide +kernel
theorem dL_law_426 : decode code 426 = .ok (.invokevirtual 226, 3) := by decide +kernel
theorem dL_law_429 : decode code 429 = .ok (.aload_n 1, 1) := by decide +kernel
theorem dL_law_430 : decode code 430 = .ok (.iload 13, 2) := by decide +kernel
theorem dL_law_432 : decode code 432 = .ok (.invokevirtual 199, 3) := by decide +kernel
theorem dL_law_435 : decode code 435 = .ok (.ifCond .eq 8, 3) := by decide +kernel
theorem dL_law_438 : decode code 438 = .ok (.ldc 243, 2) := by decide +kernel
theorem dL_law_440 : decode code 440 = .ok (.goto 5, 3) := by decide +kernel
theorem dL_law_443 : decode code 443 = .ok (.ldc 241, 2) := by decide +kernel
theorem dL_law_445 : decode code 445 = .ok (.invokevirtual 226, 3) := by decide +kernel
theorem dL_law_448 : decode code 448 = .ok (.iload 17, 2) := by decide +kernel
theorem dL_law_450 : decode code 450 = .ok (.ifCond .le 26, 3) := by decide +kernel
theorem dL_law_453 : decode code 453 = .ok (.new 217, 3) := by decide +kernel
theorem dL_law_456 : decode code 456 = .ok (.dup, 1) := by decide +kernel
theorem dL_law_457 : decode code 457 = .ok (.invokespecial 219, 3) := by decide +kernel
theorem dL_law_460 : decode code 460 = .ok (.ldc 245, 2) := by decide +kernel
theorem dL_law_462 : decode code 462 = .ok (.invokevirtual 226, 3) := by decide +kernel
theorem dL_law_465 : decode code 465 = .ok (.iload 17, 2) := by decide +kernel
theorem dL_law_467 : decode code 467 = .ok (.invokevirtual 220, 3) := by decide +kernel
theorem dL_law_470 : decode code 470 = .ok (.invokevirtual 237, 3) := by decide +kernel
theorem dL_law_473 : decode code 473 = .ok (.goto 5, 3) := by decide +kernel
theorem dL_law_476 : decode code 476 = .ok (.ldc 241, 2) := by decide +kernel
theorem dL_law_478 : decode code 478 = .ok (.invokevirtual 226, 3) := by decide +kernel
theorem dL_law_481 : decode code 481 = .ok (.invokevirtual 237, 3) := by decide +kernel
theorem dL_law_484 : decode code 484 = .ok (.invokestatic 247, 3) := by decide +kernel
theorem dL_law_487 : decode code 487 = .ok (.ifCond .ne 5, 3) := by decide +kernel
theorem dL_law_490 : decode code 490 = .ok (.iconst 0, 1) := by decide +kernel
theorem dL_law_491 : decode code 491 = .ok (.ireturn, 1) := by decide +kernel
theorem dL_law_492 : decode code 492 = .ok (.iload 4, 2) := by decide +kernel
theorem dL_law_494 : decode code 494 = .ok (.iload 14, 2) := by decide +kernel
theorem dL_law_496 : decode code 496 = .ok (.iadd, 1) := by decide +kernel
theorem dL_law_497 : decode code 497 = .ok (.istore 4, 2) := by decide +kernel
theorem dL_law_499 : decode code 499 = .ok (.iload 5, 2) := by decide +kernel
theorem dL_law_501 : decode code 501 = .ok (.aload_n 1, 1) := by decide +kernel
theorem dL_law_502 : decode code 502 = .ok (.iload 13, 2) := by decide +kernel
theorem dL_law_504 : decode code 504 = .ok (.invokevirtual 143, 3) := by decide +kernel
theorem dL_law_507 : decode code 507 = .ok (.ifCond .eq 7, 3) := by decide +kernel
theorem dL_law_510 : decode code 510 = .ok (.iconst 1, 1) := by decide +kernel
theorem dL_law_511 : decode code 511 = .ok (.goto 4, 3) := by decide +kernel
theorem dL_law_514 : decode code 514 = .ok (.iconst 0, 1) := by decide +kernel
theorem dL_law_515 : decode code 515 = .ok (.iadd, 1) := by decide +kernel
theorem dL_law_516 : decode code 516 = .ok (.istore 5, 2) := by decide +kernel
theorem dL_law_518 : decode code 518 = .ok (.iload 6, 2) := by decide +kernel
theorem dL_law_520 : decode code 520 = .ok (.iload 17, 2) := by decide +kernel
theorem dL_law_522 : decode code 522 = .ok (.ifCond .le 7, 3) := by decide +kernel
theorem dL_law_525 : decode code 525 = .ok (.iconst 1, 1) := by decide +kernel
theorem dL_law_526 : decode code 526 = .ok (.goto 4, 3) := by decide +kernel
theorem dL_law_529 : decode code 529 = .ok (.iconst 0, 1) := by decide +kernel
theorem dL_law_530 : decode code 530 = .ok (.iadd, 1) := by decide +kernel
theorem dL_law_531 : decode code 531 = .ok (.istore 6, 2) := by decide +kernel
theorem dL_law_533 : decode code 533 = .ok (.iinc 13 1, 3) := by decide +kernel
theorem dL_law_536 : decode code 536 = .ok (.goto (-459), 3) := by decide +kernel
theorem dL_law_539 : decode code 539 = .ok (.iconst 0, 1) := by decide +kernel
theorem dL_law_540 : decode code 540 = .ok (.istore 13, 2) := by decide +kernel
theorem dL_law_542 : decode code 542 = .ok (.iload 13, 2) := by decide +kernel
theorem dL_law_544 : decode code 544 = .ok (.iconst 4, 1) := by decide +kernel
theorem dL_law_545 : decode code 545 = .ok (.if_icmp .ge 117, 3) := by decide +kernel
theorem dL_law_548 : decode code 548 = .ok (.iconst 4, 1) := by decide +kernel
theorem dL_law_549 : decode code 549 = .ok (.istore 14, 2) := by decide +kernel
theorem dL_law_551 : decode code 551 = .ok (.iload 14, 2) := by decide +kernel
theorem dL_law_553 : decode code 553 = .ok (.bipush 24, 2) := by decide +kernel
theorem dL_law_555 : decode code 555 = .ok (.if_icmp .ge 63, 3) := by decide +kernel
theorem dL_law_558 : decode code 558 = .ok (.iconst 0, 1) := by decide +kernel
theorem dL_law_559 : decode code 559 = .ok (.istore 15, 2) := by decide +kernel
theorem dL_law_561 : decode code 561 = .ok (.iconst 0, 1) := by decide +kernel
theorem dL_law_562 : decode code 562 = .ok (.istore 16, 2) := by decide +kernel
theorem dL_law_564 : decode code 564 = .ok (.iload 16, 2) := by decide +kernel
theorem dL_law_566 : decode code 566 = .ok (.iload_n 3, 1) := by decide +kernel
theorem dL_law_567 : decode code 567 = .ok (.if_icmp .ge 27, 3) := by decide +kernel
theorem dL_law_570 : decode code 570 = .ok (.iload 15, 2) := by decide +kernel
theorem dL_law_572 : decode code 572 = .ok (.aload_n 1, 1) := by decide +kernel
