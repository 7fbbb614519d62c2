theorem dL_isStep_253 : decode cL_isStep 253 = .ok (.invokevirtual 25, 3) := by decide +kernel
theorem dL_isStep_256 : decode cL_isStep 256 = .ok (.istore 15, 2) := by decide +kernel
theorem dL_isStep_258 : decode cL_isStep 258 = .ok (.aload_n 1, 1) := by decide +kernel
theorem dL_isStep_259 : decode cL_isStep 259 = .ok (.iload 14, 2) := by decide +kernel
theorem dL_isStep_261 : decode cL_isStep 261 = .ok (.invokevirtual 28, 3) := by decide +kernel
theorem dL_isStep_264 : decode cL_isStep 264 = .ok (.aload_n 1, 1) := by decide +kernel
theorem dL_isStep_265 : decode cL_isStep 265 = .ok (.iload 14, 2) := by decide +kernel
theorem dL_isStep_267 : decode cL_isStep 267 = .ok (.invokevirtual 28, 3) := by decide +kernel
theorem dL_isStep_270 : decode cL_isStep 270 = .ok (.iadd, 1) := by decide +kernel
theorem dL_isStep_271 : decode cL_isStep 271 = .ok (.iconst 1, 1) := by decide +kernel
theorem dL_isStep_272 : decode cL_isStep 272 = .ok (.if_icmp .ne 20, 3) := by decide +kernel
theorem dL_isStep_275 : decode cL_isStep 275 = .ok (.iload 15, 2) := by decide +kernel
theorem dL_isStep_277 : decode cL_isStep 277 = .ok (.aload_n 1, 1) := by decide +kernel
theorem dL_isStep_278 : decode cL_isStep 278 = .ok (.iload 6, 2) := by decide +kernel
theorem dL_isStep_280 : decode cL_isStep 280 = .ok (.iload 7, 2) := by decide +kernel
theorem dL_isStep_282 : decode cL_isStep 282 = .ok (.invokevirtual 25, 3) := by decide +kernel
theorem dL_isStep_285 : decode cL_isStep 285 = .ok (.if_icmp .ne 7, 3) := by decide +kernel
theorem dL_isStep_288 : decode cL_isStep 288 = .ok (.iconst 1, 1) := by decide +kernel
theorem dL_isStep_289 : decode cL_isStep 289 = .ok (.goto 4, 3) := by decide +kernel
theorem dL_isStep_292 : decode cL_isStep 292 = .ok (.iconst 0, 1) := by decide +kernel
theorem dL_isStep_293 : decode cL_isStep 293 = .ok (.istore 12, 2) := by decide +kernel
theorem dL_isStep_295 : decode cL_isStep 295 = .ok (.iload 11, 2) := by decide +kernel
theorem dL_isStep_297 : decode cL_isStep 297 = .ok (.aload_n 1, 1) := by decide +kernel
theorem dL_isStep_298 : decode cL_isStep 298 = .ok (.iload 6, 2) := by decide +kernel
theorem dL_isStep_300 : decode cL_isStep 300 = .ok (.iload 7, 2) := by decide +kernel
theorem dL_isStep_302 : decode cL_isStep 302 = .ok (.iload 8, 2) := by decide +kernel
theorem dL_isStep_304 : decode cL_isStep 304 = .ok (.iconst 1, 1) := by decide +kernel
theorem dL_isStep_305 : decode cL_isStep 305 = .ok (.invokevirtual 21, 3) := by decide +kernel
theorem dL_isStep_308 : decode cL_isStep 308 = .ok (.iadd, 1) := by decide +kernel
theorem dL_isStep_309 : decode cL_isStep 309 = .ok (.istore 11, 2) := by decide +kernel
theorem dL_isStep_311 : decode cL_isStep 311 = .ok (.iload 12, 2) := by decide +kernel
theorem dL_isStep_313 : decode cL_isStep 313 = .ok (.ifCond .eq 18, 3) := by decide +kernel
theorem dL_isStep_316 : decode cL_isStep 316 = .ok (.aload_n 1, 1) := by decide +kernel
theorem dL_isStep_317 : decode cL_isStep 317 = .ok (.iconst 0, 1) := by decide +kernel
theorem dL_isStep_318 : decode cL_isStep 318 = .ok (.iconst 3, 1) := by decide +kernel
theorem dL_isStep_319 : decode cL_isStep 319 = .ok (.invokevirtual 31, 3) := by decide +kernel
theorem dL_isStep_322 : decode cL_isStep 322 = .ok (.iload 15, 2) := by decide +kernel
theorem dL_isStep_324 : decode cL_isStep 324 = .ok (.if_icmp .ne 7, 3) := by decide +kernel
theorem dL_isStep_327 : decode cL_isStep 327 = .ok (.iconst 1, 1) := by decide +kernel
theorem dL_isStep_328 : decode cL_isStep 328 = .ok (.goto 4, 3) := by decide +kernel
theorem dL_isStep_331 : decode cL_isStep 331 = .ok (.iconst 0, 1) := by decide +kernel
theorem dL_isStep_332 : decode cL_isStep 332 = .ok (.istore 12, 2) := by decide +kernel
theorem dL_isStep_334 : decode cL_isStep 334 = .ok (.iinc 13 1, 3) := by decide +kernel
theorem dL_isStep_337 : decode cL_isStep 337 = .ok (.goto (-115), 3) := by decide +kernel
theorem dL_isStep_340 : decode cL_isStep 340 = .ok (.iload 12, 2) := by decide +kernel
theorem dL_isStep_342 : decode cL_isStep 342 = .ok (.ifCond .eq 38, 3) := by decide +kernel
theorem dL_isStep_345 : decode cL_isStep 345 = .ok (.iload 10, 2) := by decide +kernel
theorem dL_isStep_347 : decode cL_isStep 347 = .ok (.iload 11, 2) := by decide +kernel
theorem dL_isStep_349 : decode cL_isStep 349 = .ok (.if_icmp .ne 31, 3) := by decide +kernel
theorem dL_isStep_352 : decode cL_isStep 352 = .ok (.iload 8, 2) := by decide +kernel
theorem dL_isStep_354 : decode cL_isStep 354 = .ok (.iconst 1, 1) := by decide +kernel
theorem dL_isStep_355 : decode cL_isStep 355 = .ok (.if_icmp .eq 8, 3) := by decide +kernel
theorem dL_isStep_358 : decode cL_isStep 358 = .ok (.iload 10, 2) := by decide +kernel
theorem dL_isStep_360 : decode cL_isStep 360 = .ok (.ifCond .ne 20, 3) := by decide +kernel
theorem dL_isStep_363 : decode cL_isStep 363 = .ok (.aload_n 0, 1) := by decide +kernel
theorem dL_isStep_364 : decode cL_isStep 364 = .ok (.iconst 0, 1) := by decide +kernel
theorem dL_isStep_365 : decode cL_isStep 365 = .ok (.invokevirtual 9, 3) := by decide +kernel
theorem dL_isStep_368 : decode cL_isStep 368 = .ok (.iload 4, 2) := by decide +kernel
theorem dL_isStep_370 : decode cL_isStep 370 = .ok (.iload 9, 2) := by decide +kernel
theorem dL_isStep_372 : decode cL_isStep 372 = .ok (.iadd, 1) := by decide +kernel
theorem dL_isStep_373 : decode cL_isStep 373 = .ok (.if_icmp .ne 7, 3) := by decide +kernel
theorem dL_isStep_376 : decode cL_isStep 376 = .ok (.iconst 1, 1) := by decide +kernel
theorem dL_isStep_377 : decode cL_isStep 377 = .ok (.goto 4, 3) := by decide +kernel
theorem dL_isStep_380 : decode cL_isStep 380 = .ok (.iconst 0, 1) := by decide +kernel
theorem dL_isStep_381 : decode cL_isStep 381 = .ok (.ireturn, 1) := by decide +kernel
theorem dL_isStep_382 : decode cL_isStep 382 = .ok (.iload_n 3, 1) := by decide +kernel
theorem dL_isStep_383 : decode cL_isStep 383 = .ok (.bipush 8, 2) := by decide +kernel
theorem dL_isStep_385 : decode cL_isStep 385 = .ok (.invokestatic 15, 3) := by decide +kernel
theorem dL_isStep_388 : decode cL_isStep 388 = .ok (.istore 6, 2) := by decide +kernel
theorem dL_isStep_390 : decode cL_isStep 390 = .ok (.aload_n 0, 1) := by decide +kernel
theorem dL_isStep_391 : decode cL_isStep 391 = .ok (.iload 6, 2) := by decide +kernel
theorem dL_isStep_393 : decode cL_isStep 393 = .ok (.invokevirtual 28, 3) := by decide +kernel
theorem dL_isStep_396 : decode cL_isStep 396 = .ok (.istore 7, 2) := by decide +kernel
theorem dL_isStep_398 : decode cL_isStep 398 = .ok (.iload 7, 2) := by decide +kernel
theorem dL_isStep_400 : decode cL_isStep 400 = .ok (.aload_n 1, 1) := by decide +kernel
theorem dL_isStep_401 : decode cL_isStep 401 = .ok (.iload 6, 2) := by decide +kernel
theorem dL_isStep_403 : decode cL_isStep 403 = .ok (.invokevirtual 28, 3) := by decide +kernel
theorem dL_isStep_406 : decode cL_isStep 406 = .ok (.if_icmp .ne 37, 3) := by decide +kernel
theorem dL_isStep_409 : decode cL_isStep 409 = .ok (.aload_n 0, 1) := by decide +kernel
theorem dL_isStep_410 : decode cL_isStep 410 = .ok (.iconst 3, 1) := by decide +kernel
theorem dL_isStep_411 : decode cL_isStep 411 = .ok (.invokevirtual 9, 3) := by decide +kernel
theorem dL_isStep_414 : decode cL_isStep 414 = .ok (.iload 5, 2) := by decide +kernel
theorem dL_isStep_416 : decode cL_isStep 416 = .ok (.iconst 1, 1) := by decide +kernel
theorem dL_isStep_417 : decode cL_isStep 417 = .ok (.iload 6, 2) := by decide +kernel
theorem dL_isStep_419 : decode cL_isStep 419 = .ok (.ishl, 1) := by decide +kernel
theorem dL_isStep_420 : decode cL_isStep 420 = .ok (.ixor, 1) := by decide +kernel
theorem dL_isStep_421 : decode cL_isStep 421 = .ok (.if_icmp .ne 22, 3) := by decide +kernel
theorem dL_isStep_424 : decode cL_isStep 424 = .ok (.iload 7, 2) := by decide +kernel
theorem dL_isStep_426 : decode cL_isStep 426 = .ok (.aload_n 0, 1) := by decide +kernel
theorem dL_isStep_427 : decode cL_isStep 427 = .ok (.iconst 3, 1) := by decide +kernel
theorem dL_isStep_428 : decode cL_isStep 428 = .ok (.invokevirtual 9, 3) := by decide +kernel
theorem dL_isStep_431 : decode cL_isStep 431 = .ok (.iload 6, 2) := by decide +kernel
theorem dL_isStep_433 : decode cL_isStep 433 = .ok (.ishr, 1) := by decide +kernel
theorem dL_isStep_434 : decode cL_isStep 434 = .ok (.iconst 1, 1) := by decide +kernel
theorem dL_isStep_435 : decode cL_isStep 435 = .ok (.iand, 1) := by decide +kernel
theorem dL_isStep_436 : decode cL_isStep 436 = .ok (.if_icmp .ne 7, 3) := by decide +kernel
theorem dL_isStep_439 : decode cL_isStep 439 = .ok (.iconst 1, 1) := by decide +kernel
theorem dL_isStep_440 : decode cL_isStep 440 = .ok (.goto 4, 3) := by decide +kernel
theorem dL_isStep_443 : decode cL_isStep 443 = .ok (.iconst 0, 1) := by decide +kernel
theorem dL_isStep_444 : decode cL_isStep 444 = .ok (.ireturn, 1) := by decide +kernel
theorem dL_isStep_445 : decode cL_isStep 445 = .ok (.iload_n 3, 1) := by decide +kernel
theorem dL_isStep_446 : decode cL_isStep 446 = .ok (.iconst 3, 1) := by decide +kernel
theorem dL_isStep_447 : decode cL_isStep 447 = .ok (.invokestatic 15, 3) := by decide +kernel
theorem dL_isStep_450 : decode cL_isStep 450 = .ok (.ifCond .gt 35, 3) := by decide +kernel
theorem dL_isStep_453 : decode cL_isStep 453 = .ok (.aload_n 0, 1) := by decide +kernel
theorem dL_isStep_454 : decode cL_isStep 454 = .ok (.invokevirtual 34, 3) := by decide +kernel
theorem dL_isStep_457 : decode cL_isStep 457 = .ok (.aload_n 1, 1) := by decide +kernel
theorem dL_isStep_458 : decode cL_isStep 458 = .ok (.invokevirtual 34, 3) := by decide +kernel
theorem dL_isStep_461 : decode cL_isStep 461 = .ok (.if_icmp .ne 28, 3) := by decide +kernel
theorem dL_isStep_464 : decode cL_isStep 464 = .ok (.aload_n 0, 1) := by decide +kernel
theorem dL_isStep_465 : decode cL_isStep 465 = .ok (.iconst 1, 1) := by decide +kernel
theorem dL_isStep_466 : decode cL_isStep 466 = .ok (.invokevirtual 9, 3) := by decide +kernel
theorem dL_isStep_469 : decode cL_isStep 469 = .ok (.ldc 38, 2) := by decide +kernel
theorem dL_isStep_471 : decode cL_isStep 471 = .ok (.if_icmp .ne 18, 3) := by decide +kernel
theorem dL_isStep_474 : decode cL_isStep 474 = .ok (.aload_n 0, 1) := by decide +kernel
theorem dL_isStep_475 : decode cL_isStep 475 = .ok (.iconst 2, 1) := by decide +kernel
theorem dL_isStep_476 : decode cL_isStep 476 = .ok (.invokevirtual 9, 3) := by decide +kernel
theorem dL_isStep_479 : decode cL_isStep 479 = .ok (.sipush 1000, 3) := by decide +kernel
theorem dL_isStep_482 : decode cL_isStep 482 = .ok (.if_icmp .ne 7, 3) := by decide +kernel
theorem dL_isStep_485 : decode cL_isStep 485 = .ok (.iconst 1, 1) := by decide +kernel
theorem dL_isStep_486 : decode cL_isStep 486 = .ok (.goto 4, 3) := by decide +kernel
theorem dL_isStep_489 : decode cL_isStep 489 = .ok (.iconst 0, 1) := by decide +kernel
theorem dL_isStep_490 : decode cL_isStep 490 = .ok (.ireturn, 1) := by decide +kernel
theorem dL_isStep_491 : decode cL_isStep 491 = .ok (.iload_n 3, 1) := by decide +kernel
theorem dL_isStep_492 : decode cL_isStep 492 = .ok (.bipush 71, 2) := by decide +kernel
theorem dL_isStep_494 : decode cL_isStep 494 = .ok (.invokestatic 15, 3) := by decide +kernel
theorem dL_isStep_497 : decode cL_isStep 497 = .ok (.bipush 20, 2) := by decide +kernel
theorem dL_isStep_499 : decode cL_isStep 499 = .ok (.isub, 1) := by decide +kernel
theorem dL_isStep_500 : decode cL_isStep 500 = .ok (.istore 6, 2) := by decide +kernel
theorem dL_isStep_502 : decode cL_isStep 502 = .ok (.sipush 800, 3) := by decide +kernel
theorem dL_isStep_505 : decode cL_isStep 505 = .ok (.iload_n 3, 1) := by decide +kernel
theorem dL_isStep_506 : decode cL_isStep 506 = .ok (.bipush 6, 2) := by decide +kernel
theorem dL_isStep_508 : decode cL_isStep 508 = .ok (.ishr, 1) := by decide +kernel
theorem dL_isStep_509 : decode cL_isStep 509 = .ok (.sipush 401, 3) := by decide +kernel
theorem dL_isStep_512 : decode cL_isStep 512 = .ok (.invokestatic 15, 3) := by decide +kernel
theorem dL_isStep_515 : decode cL_isStep 515 = .ok (.iadd, 1) := by decide +kernel
theorem dL_isStep_516 : decode cL_isStep 516 = .ok (.istore 7, 2) := by decide +kernel
theorem dL_isStep_518 : decode cL_isStep 518 = .ok (.aload_n 0, 1) := by decide +kernel
theorem dL_isStep_519 : decode cL_isStep 519 = .ok (.iload 6, 2) := by decide +kernel
theorem dL_isStep_521 : decode cL_isStep 521 = .ok (.iload 7, 2) := by decide +kernel
theorem dL_isStep_523 : decode cL_isStep 523 = .ok (.invokevirtual 25, 3) := by decide +kernel
theorem dL_isStep_526 : decode cL_isStep 526 = .ok (.istore 8, 2) := by decide +kernel
theorem dL_isStep_528 : decode cL_isStep 528 = .ok (.aload_n 0, 1) := by decide +kernel
theorem dL_isStep_529 : decode cL_isStep 529 = .ok (.bipush 40, 2) := by decide +kernel
theorem dL_isStep_531 : decode cL_isStep 531 = .ok (.iload 6, 2) := by decide +kernel
theorem dL_isStep_533 : decode cL_isStep 533 = .ok (.isub, 1) := by decide +kernel
theorem dL_isStep_534 : decode cL_isStep 534 = .ok (.bipush 50, 2) := by decide +kernel
theorem dL_isStep_536 : decode cL_isStep 536 = .ok (.if_icmp .le 8, 3) := by decide +kernel
theorem dL_isStep_539 : decode cL_isStep 539 = .ok (.iload 6, 2) := by decide +kernel
theorem dL_isStep_541 : decode cL_isStep 541 = .ok (.goto 23, 3) := by decide +kernel
theorem dL_isStep_544 : decode cL_isStep 544 = .ok (.bipush 40, 2) := by decide +kernel
theorem dL_isStep_546 : decode cL_isStep 546 = .ok (.iload 6, 2) := by decide +kernel
theorem dL_isStep_548 : decode cL_isStep 548 = .ok (.isub, 1) := by decide +kernel
theorem dL_isStep_549 : decode cL_isStep 549 = .ok (.bipush (-20), 2) := by decide +kernel
theorem dL_isStep_551 : decode cL_isStep 551 = .ok (.if_icmp .ge 8, 3) := by decide +kernel
theorem dL_isStep_554 : decode cL_isStep 554 = .ok (.iload 6, 2) := by decide +kernel
theorem dL_isStep_556 : decode cL_isStep 556 = .ok (.goto 8, 3) := by decide +kernel
theorem dL_isStep_559 : decode cL_isStep 559 = .ok (.bipush 40, 2) := by decide +kernel
theorem dL_isStep_561 : decode cL_isStep 561 = .ok (.iload 6, 2) := by decide +kernel
theorem dL_isStep_563 : decode cL_isStep 563 = .ok (.isub, 1) := by decide +kernel
theorem dL_isStep_564 : decode cL_isStep 564 = .ok (.sipush 2000, 3) := by decide +kernel
theorem dL_isStep_567 : decode cL_isStep 567 = .ok (.iload 7, 2) := by decide +kernel
theorem dL_isStep_569 : decode cL_isStep 569 = .ok (.isub, 1) := by decide +kernel
theorem dL_isStep_570 : decode cL_isStep 570 = .ok (.invokevirtual 25, 3) := by decide +kernel
theorem dL_isStep_573 : decode cL_isStep 573 = .ok (.istore 9, 2) := by decide +kernel
theorem dL_isStep_575 : decode cL_isStep 575 = .ok (.iconst 2, 1) := by decide +kernel
theorem dL_isStep_576 : decode cL_isStep 576 = .ok (.aload_n 0, 1) := by decide +kernel
theorem dL_isStep_577 : decode cL_isStep 577 = .ok (.bipush 9, 2) := by decide +kernel
theorem dL_isStep_579 : decode cL_isStep 579 = .ok (.invokevirtual 9, 3) := by decide +kernel
theorem dL_isStep_582 : decode cL_isStep 582 = .ok (.sipush 1000, 3) := by decide +kernel
theorem dL_isStep_585 : decode cL_isStep 585 = .ok (.isub, 1) := by decide +kernel
theorem dL_isStep_586 : decode cL_isStep 586 = .ok (.iload 5, 2) := by decide +kernel
theorem dL_isStep_588 : decode cL_isStep 588 = .ok (.iadd, 1) := by decide +kernel
theorem dL_isStep_589 : decode cL_isStep 589 = .ok (.imul, 1) := by decide +kernel
theorem dL_isStep_590 : decode cL_isStep 590 = .ok (.istore 10, 2) := by decide +kernel
theorem dL_isStep_592 : decode cL_isStep 592 = .ok (.bipush 40, 2) := by decide +kernel
theorem dL_isStep_594 : decode cL_isStep 594 = .ok (.iload 6, 2) := by decide +kernel
theorem dL_isStep_596 : decode cL_isStep 596 = .ok (.isub, 1) := by decide +kernel
theorem dL_isStep_597 : decode cL_isStep 597 = .ok (.bipush 50, 2) := by decide +kernel
theorem dL_isStep_599 : decode cL_isStep 599 = .ok (.if_icmp .gt 29, 3) := by decide +kernel
theorem dL_isStep_602 : decode cL_isStep 602 = .ok (.bipush 40, 2) := by decide +kernel
theorem dL_isStep_604 : decode cL_isStep 604 = .ok (.iload 6, 2) := by decide +kernel
theorem dL_isStep_606 : decode cL_isStep 606 = .ok (.isub, 1) := by decide +kernel
theorem dL_isStep_607 : decode cL_isStep 607 = .ok (.bipush (-20), 2) := by decide +kernel
theorem dL_isStep_609 : decode cL_isStep 609 = .ok (.if_icmp .lt 19, 3) := by decide +kernel
theorem dL_isStep_612 : decode cL_isStep 612 = .ok (.iload 8, 2) := by decide +kernel
theorem dL_isStep_614 : decode cL_isStep 614 = .ok (.ldc 39, 2) := by decide +kernel
theorem dL_isStep_616 : decode cL_isStep 616 = .ok (.isub, 1) := by decide +kernel
theorem dL_isStep_617 : decode cL_isStep 617 = .ok (.iload 9, 2) := by decide +kernel
theorem dL_isStep_619 : decode cL_isStep 619 = .ok (.iadd, 1) := by decide +kernel
theorem dL_isStep_620 : decode cL_isStep 620 = .ok (.ldc 39, 2) := by decide +kernel
theorem dL_isStep_622 : decode cL_isStep 622 = .ok (.isub, 1) := by decide +kernel
theorem dL_isStep_623 : decode cL_isStep 623 = .ok (.iload 10, 2) := by decide +kernel
theorem dL_isStep_625 : decode cL_isStep 625 = .ok (.if_icmp .ne 7, 3) := by decide +kernel
theorem dL_isStep_628 : decode cL_isStep 628 = .ok (.iconst 1, 1) := by decide +kernel
theorem dL_isStep_629 : decode cL_isStep 629 = .ok (.goto 4, 3) := by decide +kernel
theorem dL_isStep_632 : decode cL_isStep 632 = .ok (.iconst 0, 1) := by decide +kernel
theorem dL_isStep_633 : decode cL_isStep 633 = .ok (.ireturn, 1) := by decide +kernel
theorem dL_isStep_634 : decode cL_isStep 634 = .ok (.iload_n 3, 1) := by decide +kernel
theorem dL_isStep_635 : decode cL_isStep 635 = .ok (.iconst 4, 1) := by decide +kernel
theorem dL_isStep_636 : decode cL_isStep 636 = .ok (.invokestatic 15, 3) := by decide +kernel
theorem dL_isStep_639 : decode cL_isStep 639 = .ok (.istore 6, 2) := by decide +kernel
theorem dL_isStep_641 : decode cL_isStep 641 = .ok (.iload 6, 2) := by decide +kernel
theorem dL_isStep_643 : decode cL_isStep 643 = .ok (.iconst 2, 1) := by decide +kernel
theorem dL_isStep_644 : decode cL_isStep 644 = .ok (.if_icmp .ge 14, 3) := by decide +kernel
theorem dL_isStep_647 : decode cL_isStep 647 = .ok (.iload_n 3, 1) := by decide +kernel
theorem dL_isStep_648 : decode cL_isStep 648 = .ok (.iconst 2, 1) := by decide +kernel
theorem dL_isStep_649 : decode cL_isStep 649 = .ok (.ishr, 1) := by decide +kernel
theorem dL_isStep_650 : decode cL_isStep 650 = .ok (.bipush 60, 2) := by decide +kernel
theorem dL_isStep_652 : decode cL_isStep 652 = .ok (.invokestatic 15, 3) := by decide +kernel
theorem dL_isStep_655 : decode cL_isStep 655 = .ok (.goto 36, 3) := by decide +kernel
theorem dL_isStep_658 : decode cL_isStep 658 = .ok (.iload 6, 2) := by decide +kernel
theorem dL_isStep_660 : decode cL_isStep 660 = .ok (.iconst 2, 1) := by decide +kernel
theorem dL_isStep_661 : decode cL_isStep 661 = .ok (.if_icmp .ne 19, 3) := by decide +kernel
theorem dL_isStep_664 : decode cL_isStep 664 = .ok (.iload_n 3, 1) := by decide +kernel
theorem dL_isStep_665 : decode cL_isStep 665 = .ok (.iconst 2, 1) := by decide +kernel
theorem dL_isStep_666 : decode cL_isStep 666 = .ok (.ishr, 1) := by decide +kernel
theorem dL_isStep_667 : decode cL_isStep 667 = .ok (.sipush 301, 3) := by decide +kernel
theorem dL_isStep_670 : decode cL_isStep 670 = .ok (.invokestatic 15, 3) := by decide +kernel
theorem dL_isStep_673 : decode cL_isStep 673 = .ok (.sipush 150, 3) := by decide +kernel
theorem dL_isStep_676 : decode cL_isStep 676 = .ok (.isub, 1) := by decide +kernel
theorem dL_isStep_677 : decode cL_isStep 677 = .ok (.goto 14, 3) := by decide +kernel
theorem dL_isStep_680 : decode cL_isStep 680 = .ok (.iconst 1, 1) := by decide +kernel
theorem dL_isStep_681 : decode cL_isStep 681 = .ok (.iload_n 3, 1) := by decide +kernel
theorem dL_isStep_682 : decode cL_isStep 682 = .ok (.iconst 2, 1) := by decide +kernel
theorem dL_isStep_683 : decode cL_isStep 683 = .ok (.ishr, 1) := by decide +kernel
theorem dL_isStep_684 : decode cL_isStep 684 = .ok (.sipush 1500, 3) := by decide +kernel
theorem dL_isStep_687 : decode cL_isStep 687 = .ok (.invokestatic 15, 3) := by decide +kernel
theorem dL_isStep_690 : decode cL_isStep 690 = .ok (.iadd, 1) := by decide +kernel
theorem dL_isStep_691 : decode cL_isStep 691 = .ok (.istore 7, 2) := by decide +kernel
theorem dL_isStep_693 : decode cL_isStep 693 = .ok (.aload_n 0, 1) := by decide +kernel
theorem dL_isStep_694 : decode cL_isStep 694 = .ok (.iload 6, 2) := by decide +kernel
theorem dL_isStep_696 : decode cL_isStep 696 = .ok (.iload 7, 2) := by decide +kernel
theorem dL_isStep_698 : decode cL_isStep 698 = .ok (.invokevirtual 40, 3) := by decide +kernel
theorem dL_isStep_701 : decode cL_isStep 701 = .ok (.istore 8, 2) := by decide +kernel
theorem dL_isStep_703 : decode cL_isStep 703 = .ok (.iload 8, 2) := by decide +kernel
theorem dL_isStep_705 : decode cL_isStep 705 = .ok (.aload_n 1, 1) := by decide +kernel
theorem dL_isStep_706 : decode cL_isStep 706 = .ok (.iload 6, 2) := by decide +kernel
theorem dL_isStep_708 : decode cL_isStep 708 = .ok (.iload 7, 2) := by decide +kernel
theorem dL_isStep_710 : decode cL_isStep 710 = .ok (.invokevirtual 40, 3) := by decide +kernel
theorem dL_isStep_713 : decode cL_isStep 713 = .ok (.if_icmp .ne 25, 3) := by decide +kernel
theorem dL_isStep_716 : decode cL_isStep 716 = .ok (.aload_n 0, 1) := by decide +kernel
theorem dL_isStep_717 : decode cL_isStep 717 = .ok (.bipush 7, 2) := by decide +kernel
theorem dL_isStep_719 : decode cL_isStep 719 = .ok (.iload 6, 2) := by decide +kernel
theorem dL_isStep_721 : decode cL_isStep 721 = .ok (.iadd, 1) := by decide +kernel
theorem dL_isStep_722 : decode cL_isStep 722 = .ok (.invokevirtual 9, 3) := by decide +kernel
theorem dL_isStep_725 : decode cL_isStep 725 = .ok (.iload 7, 2) := by decide +kernel
theorem dL_isStep_727 : decode cL_isStep 727 = .ok (.sipush 1000, 3) := by decide +kernel
theorem dL_isStep_730 : decode cL_isStep 730 = .ok (.iadd, 1) := by decide +kernel
theorem dL_isStep_731 : decode cL_isStep 731 = .ok (.if_icmp .ne 7, 3) := by decide +kernel
theorem dL_isStep_734 : decode cL_isStep 734 = .ok (.iconst 1, 1) := by decide +kernel
theorem dL_isStep_735 : decode cL_isStep 735 = .ok (.goto 4, 3) := by decide +kernel
theorem dL_isStep_738 : decode cL_isStep 738 = .ok (.iconst 0, 1) := by decide +kernel
theorem dL_isStep_739 : decode cL_isStep 739 = .ok (.ireturn, 1) := by decide +kernel
set_option maxRecDepth 20000 in
theorem ggL_areAlike_L_up : GoodIn wsL_areAlike wsL_up := goodIn_r _ [4, 5] (by decide +kernel) (by decide +kernel)
set_option maxRecDepth 20000 in
theorem gL_areAlike_L_up : GoodIn wsL_areAlike (va_wsS RL 15 yL_up wsL_up) := goodIn_app (goodIn_of _ (by decide +kernel)) ggL_areAlike_L_up
set_option maxRecDepth 20000 in
theorem ggL_areAlike_X7_meanRate : GoodIn wsL_areAlike wsX7_meanRate := goodIn_r _ [10, 11, 12, 13, 14, 15, 16, 17, 18, 19, 20, 21, 22, 23, 24, 25, 26, 27, 28, 29, 30, 31, 32, 33, 34, 35, 36, 37, 9, 38, 39, 40, 41, 42, 43, 149, 150, 151, 152, 153, 154, 155, 156, 157, 158, 159, 160, 161, 162, 163] (by decide +kernel) (by decide +kernel)
set_option maxRecDepth 20000 in
theorem gL_areAlike_X7_meanRate : GoodIn wsL_areAlike (wsV RL 43 RX7 yX7_meanRate wsX7_meanRate) := goodIn_app (goodIn_of _ (by decide +kernel)) ggL_areAlike_X7_meanRate
set_option maxRecDepth 20000 in
theorem ggL_areAlike_X7_replay : GoodIn wsL_areAlike wsX7_replay := goodIn_r _ [47, 48, 11, 49, 50, 51, 52, 53, 54, 55, 56, 57, 12, 13, 14, 15, 16, 17, 18, 19, 20, 21, 58, 28, 29, 30, 31, 32, 33, 34, 35, 59, 60, 61, 62, 63, 64, 65, 66, 67, 68, 69, 70, 71, 72, 73, 74, 75, 76, 77, 149, 150, 151, 152, 153, 154, 155, 156, 157, 158, 159, 160, 161, 164, 165, 162, 163] (by decide +kernel) (by decide +kernel)
set_option maxRecDepth 20000 in
theorem gL_areAlike_X7_replay : GoodIn wsL_areAlike (wsV RL 47 RX7 yX7_replay wsX7_replay) := goodIn_app (goodIn_of _ (by decide +kernel)) ggL_areAlike_X7_replay
set_option maxRecDepth 20000 in
theorem ggL_areAlike_X7_rate : GoodIn wsL_areAlike wsX7_rate := goodIn_r _ [81, 11, 82, 83, 84, 9, 85, 86, 87, 88, 59, 60, 61, 62, 63, 64, 65, 66, 67, 68, 69, 70, 71, 72, 73, 149, 150, 151, 152, 153, 154, 155, 156, 157, 158, 159, 160, 161] (by decide +kernel) (by decide +kernel)
set_option maxRecDepth 20000 in
theorem gL_areAlike_X7_rate : GoodIn wsL_areAlike (wsV RL 25 RX7 yX7_rate wsX7_rate) := goodIn_app (goodIn_of _ (by decide +kernel)) ggL_areAlike_X7_rate
set_option maxRecDepth 20000 in
theorem ggL_areAlike_X7_bestWeights : GoodIn wsL_areAlike wsX7_bestWeights := goodIn_r _ [92, 11, 93, 94, 20, 95, 82, 83, 84, 9, 85, 86, 87, 88, 96, 66, 67, 62, 68, 69, 70, 71, 72, 73, 149, 150, 151, 152, 153, 154, 155, 156, 157, 158, 159, 160, 161] (by decide +kernel) (by decide +kernel)
set_option maxRecDepth 20000 in
theorem gL_areAlike_X7_bestWeights : GoodIn wsL_areAlike (wsV RL 50 RX7 yX7_bestWeights wsX7_bestWeights) := goodIn_app (goodIn_of _ (by decide +kernel)) ggL_areAlike_X7_bestWeights
set_option maxRecDepth 20000 in
theorem ggL_areAlike_X7_offIn : GoodIn wsL_areAlike wsX7_offIn := goodIn_r _ [100, 11, 48, 83, 84, 9, 85, 86, 87, 88, 59, 60, 61, 62, 63, 64, 65, 66, 67, 68, 69, 70, 71, 72, 73, 101, 102, 103, 104, 54, 105, 56, 57, 106, 107, 108, 109, 74, 75, 76, 77, 149, 150, 151, 152, 153, 154, 155, 156, 157, 158, 159, 160, 161, 164, 165] (by decide +kernel) (by decide +kernel)
set_option maxRecDepth 20000 in
theorem gL_areAlike_X7_offIn : GoodIn wsL_areAlike (wsV RL 54 RX7 yX7_offIn wsX7_offIn) := goodIn_app (goodIn_of _ (by decide +kernel)) ggL_areAlike_X7_offIn
set_option maxRecDepth 20000 in
theorem ggL_areAlike_X7_coolest : GoodIn wsL_areAlike wsX7_coolest := goodIn_r _ [113, 11, 86, 87, 9, 88, 59, 60, 61, 62, 63, 64, 65, 66, 67, 68, 69, 70, 71, 72, 73, 149, 150, 151, 152, 153, 154, 155, 156, 157, 158, 159, 160, 161] (by decide +kernel) (by decide +kernel)
set_option maxRecDepth 20000 in
theorem gL_areAlike_X7_coolest : GoodIn wsL_areAlike (wsV RL 57 RX7 yX7_coolest wsX7_coolest) := goodIn_app (goodIn_of _ (by decide +kernel)) ggL_areAlike_X7_coolest
set_option maxRecDepth 20000 in
theorem ggL_areAlike_X7_count : GoodIn wsL_areAlike wsX7_count := goodIn_r _ [117, 11, 49, 50, 118, 119, 120, 12, 13, 14, 15, 16, 17, 18, 19, 20, 21, 101, 70, 71, 62, 72, 73, 149, 150, 151, 152, 153, 154, 155, 156, 157, 158, 159, 160, 161, 164, 165, 166, 167, 168, 169, 170, 171, 172, 173, 174, 175, 176, 177, 162, 163] (by decide +kernel) (by decide +kernel)
set_option maxRecDepth 20000 in
theorem gL_areAlike_X7_count : GoodIn wsL_areAlike (wsV RL 9 RX7 yX7_count wsX7_count) := goodIn_app (goodIn_of _ (by decide +kernel)) ggL_areAlike_X7_count
set_option maxRecDepth 20000 in
theorem ggL_areAlike_X7_ofLog : GoodIn wsL_areAlike wsX7_ofLog := goodIn_r _ [124, 11, 82, 12, 13, 14, 15, 16, 17, 18, 19, 20, 21, 125, 126, 127, 128, 129, 130, 131, 27, 28, 29, 30, 31, 32, 33, 34, 35, 26, 132, 133, 134, 135, 136, 137, 138, 139, 140, 141, 142, 143, 149, 150, 151, 152, 153, 154, 155, 156, 157, 158, 159, 160, 161, 162, 163] (by decide +kernel) (by decide +kernel)
set_option maxRecDepth 20000 in
theorem gL_areAlike_X7_ofLog : GoodIn wsL_areAlike (wsV RL 60 RX7 yX7_ofLog wsX7_ofLog) := goodIn_app (goodIn_of _ (by decide +kernel)) ggL_areAlike_X7_ofLog
set_option maxRecDepth 20000 in
theorem ggL_areAlike_X7_hour : GoodIn wsL_areAlike wsX7_hour := goodIn_r _ [147, 11, 148, 12, 13, 14, 15, 16, 17, 18, 19, 20, 21, 58, 28, 29, 30, 31, 32, 33, 34, 35, 149, 150, 151, 152, 153, 154, 155, 156, 157, 158, 159, 160, 161, 162, 163] (by decide +kernel) (by decide +kernel)
set_option maxRecDepth 20000 in
theorem gL_areAlike_X7_hour : GoodIn wsL_areAlike (wsV RL 31 RX7 yX7_hour wsX7_hour) := goodIn_app (goodIn_of _ (by decide +kernel)) ggL_areAlike_X7_hour
theorem dL_areAlike_0 : decode cL_areAlike 0 = .ok (.iload_n 2, 1) := by decide +kernel
theorem dL_areAlike_1 : decode cL_areAlike 1 = .ok (.bipush 71, 2) := by decide +kernel
theorem dL_areAlike_3 : decode cL_areAlike 3 = .ok (.invokestatic 15, 3) := by decide +kernel
theorem dL_areAlike_6 : decode cL_areAlike 6 = .ok (.bipush 20, 2) := by decide +kernel
theorem dL_areAlike_8 : decode cL_areAlike 8 = .ok (.isub, 1) := by decide +kernel
theorem dL_areAlike_9 : decode cL_areAlike 9 = .ok (.istore_n 3, 1) := by decide +kernel
theorem dL_areAlike_10 : decode cL_areAlike 10 = .ok (.sipush 800, 3) := by decide +kernel
theorem dL_areAlike_13 : decode cL_areAlike 13 = .ok (.iload_n 2, 1) := by decide +kernel
theorem dL_areAlike_14 : decode cL_areAlike 14 = .ok (.bipush 7, 2) := by decide +kernel
theorem dL_areAlike_16 : decode cL_areAlike 16 = .ok (.ishr, 1) := by decide +kernel
theorem dL_areAlike_17 : decode cL_areAlike 17 = .ok (.sipush 401, 3) := by decide +kernel
theorem dL_areAlike_20 : decode cL_areAlike 20 = .ok (.invokestatic 15, 3) := by decide +kernel
theorem dL_areAlike_23 : decode cL_areAlike 23 = .ok (.iadd, 1) := by decide +kernel
theorem dL_areAlike_24 : decode cL_areAlike 24 = .ok (.istore 4, 2) := by decide +kernel
theorem dL_areAlike_26 : decode cL_areAlike 26 = .ok (.aload_n 0, 1) := by decide +kernel
theorem dL_areAlike_27 : decode cL_areAlike 27 = .ok (.invokevirtual 43, 3) := by decide +kernel
theorem dL_areAlike_30 : decode cL_areAlike 30 = .ok (.aload_n 1, 1) := by decide +kernel
theorem dL_areAlike_31 : decode cL_areAlike 31 = .ok (.invokevirtual 43, 3) := by decide +kernel
theorem dL_areAlike_34 : decode cL_areAlike 34 = .ok (.lcmp, 1) := by decide +kernel
theorem dL_areAlike_35 : decode cL_areAlike 35 = .ok (.ifCond .ne 86, 3) := by decide +kernel
theorem dL_areAlike_38 : decode cL_areAlike 38 = .ok (.aload_n 0, 1) := by decide +kernel
theorem dL_areAlike_39 : decode cL_areAlike 39 = .ok (.invokevirtual 47, 3) := by decide +kernel
theorem dL_areAlike_42 : decode cL_areAlike 42 = .ok (.aload_n 1, 1) := by decide +kernel
theorem dL_areAlike_43 : decode cL_areAlike 43 = .ok (.invokevirtual 47, 3) := by decide +kernel
theorem dL_areAlike_46 : decode cL_areAlike 46 = .ok (.if_icmp .ne 75, 3) := by decide +kernel
theorem dL_areAlike_49 : decode cL_areAlike 49 = .ok (.aload_n 0, 1) := by decide +kernel
theorem dL_areAlike_50 : decode cL_areAlike 50 = .ok (.iload_n 3, 1) := by decide +kernel
theorem dL_areAlike_51 : decode cL_areAlike 51 = .ok (.iload 4, 2) := by decide +kernel
theorem dL_areAlike_53 : decode cL_areAlike 53 = .ok (.invokevirtual 25, 3) := by decide +kernel
theorem dL_areAlike_56 : decode cL_areAlike 56 = .ok (.aload_n 1, 1) := by decide +kernel
theorem dL_areAlike_57 : decode cL_areAlike 57 = .ok (.iload_n 3, 1) := by decide +kernel
theorem dL_areAlike_58 : decode cL_areAlike 58 = .ok (.iload 4, 2) := by decide +kernel
theorem dL_areAlike_60 : decode cL_areAlike 60 = .ok (.invokevirtual 25, 3) := by decide +kernel
theorem dL_areAlike_63 : decode cL_areAlike 63 = .ok (.if_icmp .ne 58, 3) := by decide +kernel
theorem dL_areAlike_66 : decode cL_areAlike 66 = .ok (.aload_n 0, 1) := by decide +kernel
theorem dL_areAlike_67 : decode cL_areAlike 67 = .ok (.iload_n 3, 1) := by decide +kernel
theorem dL_areAlike_68 : decode cL_areAlike 68 = .ok (.iload 4, 2) := by decide +kernel
theorem dL_areAlike_70 : decode cL_areAlike 70 = .ok (.iconst 0, 1) := by decide +kernel
theorem dL_areAlike_71 : decode cL_areAlike 71 = .ok (.invokevirtual 50, 3) := by decide +kernel
theorem dL_areAlike_74 : decode cL_areAlike 74 = .ok (.aload_n 1, 1) := by decide +kernel
theorem dL_areAlike_75 : decode cL_areAlike 75 = .ok (.iload_n 3, 1) := by decide +kernel
theorem dL_areAlike_76 : decode cL_areAlike 76 = .ok (.iload 4, 2) := by decide +kernel
theorem dL_areAlike_78 : decode cL_areAlike 78 = .ok (.iconst 0, 1) := by decide +kernel
theorem dL_areAlike_79 : decode cL_areAlike 79 = .ok (.invokevirtual 50, 3) := by decide +kernel
theorem dL_areAlike_82 : decode cL_areAlike 82 = .ok (.if_icmp .ne 39, 3) := by decide +kernel
theorem dL_areAlike_85 : decode cL_areAlike 85 = .ok (.aload_n 0, 1) := by decide +kernel
theorem dL_areAlike_86 : decode cL_areAlike 86 = .ok (.iload_n 3, 1) := by decide +kernel
theorem dL_areAlike_87 : decode cL_areAlike 87 = .ok (.iload 4, 2) := by decide +kernel
theorem dL_areAlike_89 : decode cL_areAlike 89 = .ok (.invokevirtual 54, 3) := by decide +kernel
theorem dL_areAlike_92 : decode cL_areAlike 92 = .ok (.aload_n 1, 1) := by decide +kernel
theorem dL_areAlike_93 : decode cL_areAlike 93 = .ok (.iload_n 3, 1) := by decide +kernel
theorem dL_areAlike_94 : decode cL_areAlike 94 = .ok (.iload 4, 2) := by decide +kernel
theorem dL_areAlike_96 : decode cL_areAlike 96 = .ok (.invokevirtual 54, 3) := by decide +kernel
theorem dL_areAlike_99 : decode cL_areAlike 99 = .ok (.if_icmp .ne 22, 3) := by decide +kernel
theorem dL_areAlike_102 : decode cL_areAlike 102 = .ok (.aload_n 0, 1) := by decide +kernel
theorem dL_areAlike_103 : decode cL_areAlike 103 = .ok (.iload 4, 2) := by decide +kernel
theorem dL_areAlike_105 : decode cL_areAlike 105 = .ok (.invokevirtual 57, 3) := by decide +kernel
theorem dL_areAlike_108 : decode cL_areAlike 108 = .ok (.aload_n 1, 1) := by decide +kernel
theorem dL_areAlike_109 : decode cL_areAlike 109 = .ok (.iload 4, 2) := by decide +kernel
theorem dL_areAlike_111 : decode cL_areAlike 111 = .ok (.invokevirtual 57, 3) := by decide +kernel
theorem dL_areAlike_114 : decode cL_areAlike 114 = .ok (.if_icmp .ne 7, 3) := by decide +kernel
theorem dL_areAlike_117 : decode cL_areAlike 117 = .ok (.iconst 1, 1) := by decide +kernel
theorem dL_areAlike_118 : decode cL_areAlike 118 = .ok (.goto 4, 3) := by decide +kernel
theorem dL_areAlike_121 : decode cL_areAlike 121 = .ok (.iconst 0, 1) := by decide +kernel
theorem dL_areAlike_122 : decode cL_areAlike 122 = .ok (.istore 5, 2) := by decide +kernel
theorem dL_areAlike_124 : decode cL_areAlike 124 = .ok (.iconst 0, 1) := by decide +kernel
theorem dL_areAlike_125 : decode cL_areAlike 125 = .ok (.istore 6, 2) := by decide +kernel
theorem dL_areAlike_127 : decode cL_areAlike 127 = .ok (.iload 6, 2) := by decide +kernel
theorem dL_areAlike_129 : decode cL_areAlike 129 = .ok (.bipush 11, 2) := by decide +kernel
theorem dL_areAlike_131 : decode cL_areAlike 131 = .ok (.if_icmp .ge 57, 3) := by decide +kernel
theorem dL_areAlike_134 : decode cL_areAlike 134 = .ok (.iload 5, 2) := by decide +kernel
theorem dL_areAlike_136 : decode cL_areAlike 136 = .ok (.ifCond .eq 43, 3) := by decide +kernel
theorem dL_areAlike_139 : decode cL_areAlike 139 = .ok (.aload_n 0, 1) := by decide +kernel
theorem dL_areAlike_140 : decode cL_areAlike 140 = .ok (.iload 6, 2) := by decide +kernel
theorem dL_areAlike_142 : decode cL_areAlike 142 = .ok (.invokevirtual 9, 3) := by decide +kernel
theorem dL_areAlike_145 : decode cL_areAlike 145 = .ok (.aload_n 1, 1) := by decide +kernel
theorem dL_areAlike_146 : decode cL_areAlike 146 = .ok (.iload 6, 2) := by decide +kernel
theorem dL_areAlike_148 : decode cL_areAlike 148 = .ok (.invokevirtual 9, 3) := by decide +kernel
theorem dL_areAlike_151 : decode cL_areAlike 151 = .ok (.if_icmp .ne 28, 3) := by decide +kernel
theorem dL_areAlike_154 : decode cL_areAlike 154 = .ok (.iload 6, 2) := by decide +kernel
theorem dL_areAlike_156 : decode cL_areAlike 156 = .ok (.iconst 4, 1) := by decide +kernel
theorem dL_areAlike_157 : decode cL_areAlike 157 = .ok (.if_icmp .gt 18, 3) := by decide +kernel
theorem dL_areAlike_160 : decode cL_areAlike 160 = .ok (.aload_n 0, 1) := by decide +kernel
theorem dL_areAlike_161 : decode cL_areAlike 161 = .ok (.iload 6, 2) := by decide +kernel
theorem dL_areAlike_163 : decode cL_areAlike 163 = .ok (.invokevirtual 60, 3) := by decide +kernel
theorem dL_areAlike_166 : decode cL_areAlike 166 = .ok (.aload_n 1, 1) := by decide +kernel
theorem dL_areAlike_167 : decode cL_areAlike 167 = .ok (.iload 6, 2) := by decide +kernel
theorem dL_areAlike_169 : decode cL_areAlike 169 = .ok (.invokevirtual 60, 3) := by decide +kernel
theorem dL_areAlike_172 : decode cL_areAlike 172 = .ok (.if_icmp .ne 7, 3) := by decide +kernel
theorem dL_areAlike_175 : decode cL_areAlike 175 = .ok (.iconst 1, 1) := by decide +kernel
theorem dL_areAlike_176 : decode cL_areAlike 176 = .ok (.goto 4, 3) := by decide +kernel
theorem dL_areAlike_179 : decode cL_areAlike 179 = .ok (.iconst 0, 1) := by decide +kernel
theorem dL_areAlike_180 : decode cL_areAlike 180 = .ok (.istore 5, 2) := by decide +kernel
theorem dL_areAlike_182 : decode cL_areAlike 182 = .ok (.iinc 6 1, 3) := by decide +kernel
theorem dL_areAlike_185 : decode cL_areAlike 185 = .ok (.goto (-58), 3) := by decide +kernel
theorem dL_areAlike_188 : decode cL_areAlike 188 = .ok (.iconst 0, 1) := by decide +kernel
theorem dL_areAlike_189 : decode cL_areAlike 189 = .ok (.istore 6, 2) := by decide +kernel
theorem dL_areAlike_191 : decode cL_areAlike 191 = .ok (.iload 6, 2) := by decide +kernel
theorem dL_areAlike_193 : decode cL_areAlike 193 = .ok (.aload_n 0, 1) := by decide +kernel
theorem dL_areAlike_194 : decode cL_areAlike 194 = .ok (.iconst 5, 1) := by decide +kernel
theorem dL_areAlike_195 : decode cL_areAlike 195 = .ok (.invokevirtual 9, 3) := by decide +kernel
theorem dL_areAlike_198 : decode cL_areAlike 198 = .ok (.if_icmp .ge 56, 3) := by decide +kernel
theorem dL_areAlike_201 : decode cL_areAlike 201 = .ok (.iconst 0, 1) := by decide +kernel
theorem dL_areAlike_202 : decode cL_areAlike 202 = .ok (.istore 7, 2) := by decide +kernel
theorem dL_areAlike_204 : decode cL_areAlike 204 = .ok (.iload 7, 2) := by decide +kernel
theorem dL_areAlike_206 : decode cL_areAlike 206 = .ok (.bipush 7, 2) := by decide +kernel
theorem dL_areAlike_208 : decode cL_areAlike 208 = .ok (.if_icmp .ge 40, 3) := by decide +kernel
theorem dL_areAlike_211 : decode cL_areAlike 211 = .ok (.iload 5, 2) := by decide +kernel
theorem dL_areAlike_213 : decode cL_areAlike 213 = .ok (.ifCond .eq 26, 3) := by decide +kernel
theorem dL_areAlike_216 : decode cL_areAlike 216 = .ok (.aload_n 0, 1) := by decide +kernel
theorem dL_areAlike_217 : decode cL_areAlike 217 = .ok (.iload 6, 2) := by decide +kernel
theorem dL_areAlike_219 : decode cL_areAlike 219 = .ok (.iload 7, 2) := by decide +kernel
theorem dL_areAlike_221 : decode cL_areAlike 221 = .ok (.invokevirtual 31, 3) := by decide +kernel
theorem dL_areAlike_224 : decode cL_areAlike 224 = .ok (.aload_n 1, 1) := by decide +kernel
theorem dL_areAlike_225 : decode cL_areAlike 225 = .ok (.iload 6, 2) := by decide +kernel
theorem dL_areAlike_227 : decode cL_areAlike 227 = .ok (.iload 7, 2) := by decide +kernel
theorem dL_areAlike_229 : decode cL_areAlike 229 = .ok (.invokevirtual 31, 3) := by decide +kernel
theorem dL_areAlike_232 : decode cL_areAlike 232 = .ok (.if_icmp .ne 7, 3) := by decide +kernel
theorem dL_areAlike_235 : decode cL_areAlike 235 = .ok (.iconst 1, 1) := by decide +kernel
theorem dL_areAlike_236 : decode cL_areAlike 236 = .ok (.goto 4, 3) := by decide +kernel
theorem dL_areAlike_239 : decode cL_areAlike 239 = .ok (.iconst 0, 1) := by decide +kernel
theorem dL_areAlike_240 : decode cL_areAlike 240 = .ok (.istore 5, 2) := by decide +kernel
theorem dL_areAlike_242 : decode cL_areAlike 242 = .ok (.iinc 7 1, 3) := by decide +kernel
theorem dL_areAlike_245 : decode cL_areAlike 245 = .ok (.goto (-41), 3) := by decide +kernel
theorem dL_areAlike_248 : decode cL_areAlike 248 = .ok (.iinc 6 1, 3) := by decide +kernel
theorem dL_areAlike_251 : decode cL_areAlike 251 = .ok (.goto (-60), 3) := by decide +kernel
theorem dL_areAlike_254 : decode cL_areAlike 254 = .ok (.iload 5, 2) := by decide +kernel
theorem dL_areAlike_256 : decode cL_areAlike 256 = .ok (.ireturn, 1) := by decide +kernel
set_option maxRecDepth 20000 in
theorem ggL_isWell_X7_count : GoodIn wsL_isWell wsX7_count := goodIn_r _ [7, 8, 9, 10, 11, 12, 13, 14, 15, 16, 17, 18, 19, 20, 21, 22, 23, 24, 25, 26, 27, 28, 29, 126, 127, 128, 129, 130, 131, 132, 133, 134, 135, 136, 137, 138, 139, 140, 141, 142, 143, 144, 145, 146, 147, 148, 149, 150, 151, 152, 153, 154] (by decide +kernel) (by decide +kernel)
set_option maxRecDepth 20000 in
theorem gL_isWell_X7_count : GoodIn wsL_isWell (wsV RL 9 RX7 yX7_count wsX7_count) := goodIn_app (goodIn_of _ (by decide +kernel)) ggL_isWell_X7_count
set_option maxRecDepth 20000 in
theorem ggL_isWell_X7_hour : GoodIn wsL_isWell wsX7_hour := goodIn_r _ [33, 8, 34, 14, 15, 16, 17, 18, 19, 20, 21, 22, 23, 35, 36, 37, 38, 39, 40, 41, 42, 43, 126, 127, 128, 129, 130, 131, 132, 133, 134, 135, 136, 137, 138, 153, 154] (by decide +kernel) (by decide +kernel)
set_option maxRecDepth 20000 in
theorem gL_isWell_X7_hour : GoodIn wsL_isWell (wsV RL 31 RX7 yX7_hour wsX7_hour) := goodIn_app (goodIn_of _ (by decide +kernel)) ggL_isWell_X7_hour
set_option maxRecDepth 20000 in
theorem ggL_isWell_X7_ofLog : GoodIn wsL_isWell wsX7_ofLog := goodIn_r _ [47, 8, 48, 14, 15, 16, 17, 18, 19, 20, 21, 22, 23, 49, 50, 51, 52, 53, 54, 55, 56, 36, 37, 38, 39, 40, 41, 42, 43, 57, 58, 59, 60, 61, 62, 63, 64, 65, 66, 67, 68, 69, 126, 127, 128, 129, 130, 131, 132, 133, 134, 135, 136, 137, 138, 153, 154] (by decide +kernel) (by decide +kernel)
set_option maxRecDepth 20000 in
theorem gL_isWell_X7_ofLog : GoodIn wsL_isWell (wsV RL 60 RX7 yX7_ofLog wsX7_ofLog) := goodIn_app (goodIn_of _ (by decide +kernel)) ggL_isWell_X7_ofLog
set_option maxRecDepth 20000 in
theorem ggL_isWell_L_isNear : GoodIn wsL_isWell wsL_isNear := goodIn_r _ [73, 1, 2, 74, 75, 76, 6, 77, 8, 48, 78, 79, 80, 81, 82, 83, 84, 85, 86, 27, 87, 88, 89, 90, 91, 92, 93, 25, 26, 28, 29, 94, 95, 96, 97, 98, 99, 22, 100, 101, 3, 4, 5, 7, 9, 10, 11, 12, 13, 14, 15, 16, 17, 18, 19, 20, 21, 23, 24, 102, 103, 104, 105, 106, 107, 108, 109, 110, 111, 112, 113, 114, 115, 116, 117, 118, 119, 120, 121, 122, 123, 124, 125, 126, 127, 128, 129, 130, 131, 132, 133, 134, 135, 136, 137, 138, 139, 140, 141, 142, 143, 144, 145, 146, 147, 148, 149, 150, 151, 152, 153, 154] rfl (by decide +kernel)
set_option maxRecDepth 20000 in
theorem gL_isWell_L_isNear : GoodIn wsL_isWell (va_wsS RL 63 yL_isNear wsL_isNear) := goodIn_app (goodIn_of _ (by decide +kernel)) ggL_isWell_L_isNear
theorem dL_isWell_0 : decode cL_isWell 0 = .ok (.aload_n 0, 1) := by decide +kernel
theorem dL_isWell_1 : decode cL_isWell 1 = .ok (.iconst 5, 1) := by decide +kernel
theorem dL_isWell_2 : decode cL_isWell 2 = .ok (.invokevirtual 9, 3) := by decide +kernel
theorem dL_isWell_5 : decode cL_isWell 5 = .ok (.istore_n 1, 1) := by decide +kernel
theorem dL_isWell_6 : decode cL_isWell 6 = .ok (.iconst 0, 1) := by decide +kernel
theorem dL_isWell_7 : decode cL_isWell 7 = .ok (.istore_n 2, 1) := by decide +kernel
theorem dL_isWell_8 : decode cL_isWell 8 = .ok (.iconst 0, 1) := by decide +kernel
theorem dL_isWell_9 : decode cL_isWell 9 = .ok (.istore_n 3, 1) := by decide +kernel
theorem dL_isWell_10 : decode cL_isWell 10 = .ok (.iconst 0, 1) := by decide +kernel
theorem dL_isWell_11 : decode cL_isWell 11 = .ok (.istore 4, 2) := by decide +kernel
theorem dL_isWell_13 : decode cL_isWell 13 = .ok (.iconst 0, 1) := by decide +kernel
theorem dL_isWell_14 : decode cL_isWell 14 = .ok (.istore 5, 2) := by decide +kernel
theorem dL_isWell_16 : decode cL_isWell 16 = .ok (.aload_n 0, 1) := by decide +kernel
theorem dL_isWell_17 : decode cL_isWell 17 = .ok (.iconst 2, 1) := by decide +kernel
theorem dL_isWell_18 : decode cL_isWell 18 = .ok (.invokevirtual 9, 3) := by decide +kernel
theorem dL_isWell_21 : decode cL_isWell 21 = .ok (.sipush 1000, 3) := by decide +kernel
theorem dL_isWell_24 : decode cL_isWell 24 = .ok (.isub, 1) := by decide +kernel
theorem dL_isWell_25 : decode cL_isWell 25 = .ok (.istore 6, 2) := by decide +kernel
theorem dL_isWell_27 : decode cL_isWell 27 = .ok (.iload_n 1, 1) := by decide +kernel
theorem dL_isWell_28 : decode cL_isWell 28 = .ok (.aload_n 0, 1) := by decide +kernel
theorem dL_isWell_29 : decode cL_isWell 29 = .ok (.iconst 0, 1) := by decide +kernel
theorem dL_isWell_30 : decode cL_isWell 30 = .ok (.invokevirtual 9, 3) := by decide +kernel
theorem dL_isWell_33 : decode cL_isWell 33 = .ok (.bipush 48, 2) := by decide +kernel
theorem dL_isWell_35 : decode cL_isWell 35 = .ok (.if_icmp .ge 11, 3) := by decide +kernel
theorem dL_isWell_38 : decode cL_isWell 38 = .ok (.aload_n 0, 1) := by decide +kernel
theorem dL_isWell_39 : decode cL_isWell 39 = .ok (.iconst 0, 1) := by decide +kernel
theorem dL_isWell_40 : decode cL_isWell 40 = .ok (.invokevirtual 9, 3) := by decide +kernel
theorem dL_isWell_43 : decode cL_isWell 43 = .ok (.goto 5, 3) := by decide +kernel
theorem dL_isWell_46 : decode cL_isWell 46 = .ok (.bipush 48, 2) := by decide +kernel
theorem dL_isWell_48 : decode cL_isWell 48 = .ok (.if_icmp .ne 70, 3) := by decide +kernel
theorem dL_isWell_51 : decode cL_isWell 51 = .ok (.iload 6, 2) := by decide +kernel
theorem dL_isWell_53 : decode cL_isWell 53 = .ok (.sipush (-1000), 3) := by decide +kernel
theorem dL_isWell_56 : decode cL_isWell 56 = .ok (.if_icmp .le 62, 3) := by decide +kernel
theorem dL_isWell_59 : decode cL_isWell 59 = .ok (.iload 6, 2) := by decide +kernel
theorem dL_isWell_61 : decode cL_isWell 61 = .ok (.sipush 1000, 3) := by decide +kernel
theorem dL_isWell_64 : decode cL_isWell 64 = .ok (.if_icmp .ge 54, 3) := by decide +kernel
theorem dL_isWell_67 : decode cL_isWell 67 = .ok (.aload_n 0, 1) := by decide +kernel
theorem dL_isWell_68 : decode cL_isWell 68 = .ok (.bipush 6, 2) := by decide +kernel
theorem dL_isWell_70 : decode cL_isWell 70 = .ok (.invokevirtual 9, 3) := by decide +kernel
theorem dL_isWell_73 : decode cL_isWell 73 = .ok (.aload_n 0, 1) := by decide +kernel
theorem dL_isWell_74 : decode cL_isWell 74 = .ok (.iconst 0, 1) := by decide +kernel
theorem dL_isWell_75 : decode cL_isWell 75 = .ok (.invokevirtual 9, 3) := by decide +kernel
theorem dL_isWell_78 : decode cL_isWell 78 = .ok (.if_icmp .gt 40, 3) := by decide +kernel
theorem dL_isWell_81 : decode cL_isWell 81 = .ok (.aload_n 0, 1) := by decide +kernel
theorem dL_isWell_82 : decode cL_isWell 82 = .ok (.iconst 4, 1) := by decide +kernel
theorem dL_isWell_83 : decode cL_isWell 83 = .ok (.invokevirtual 9, 3) := by decide +kernel
theorem dL_isWell_86 : decode cL_isWell 86 = .ok (.aload_n 0, 1) := by decide +kernel
theorem dL_isWell_87 : decode cL_isWell 87 = .ok (.bipush 6, 2) := by decide +kernel
theorem dL_isWell_89 : decode cL_isWell 89 = .ok (.invokevirtual 9, 3) := by decide +kernel
theorem dL_isWell_92 : decode cL_isWell 92 = .ok (.if_icmp .gt 26, 3) := by decide +kernel
theorem dL_isWell_95 : decode cL_isWell 95 = .ok (.aload_n 0, 1) := by decide +kernel
theorem dL_isWell_96 : decode cL_isWell 96 = .ok (.iconst 3, 1) := by decide +kernel
theorem dL_isWell_97 : decode cL_isWell 97 = .ok (.invokevirtual 9, 3) := by decide +kernel
theorem dL_isWell_100 : decode cL_isWell 100 = .ok (.ifCond .lt 18, 3) := by decide +kernel
theorem dL_isWell_103 : decode cL_isWell 103 = .ok (.aload_n 0, 1) := by decide +kernel
theorem dL_isWell_104 : decode cL_isWell 104 = .ok (.iconst 3, 1) := by decide +kernel
theorem dL_isWell_105 : decode cL_isWell 105 = .ok (.invokevirtual 9, 3) := by decide +kernel
theorem dL_isWell_108 : decode cL_isWell 108 = .ok (.sipush 256, 3) := by decide +kernel
theorem dL_isWell_111 : decode cL_isWell 111 = .ok (.if_icmp .ge 7, 3) := by decide +kernel
theorem dL_isWell_114 : decode cL_isWell 114 = .ok (.iconst 1, 1) := by decide +kernel
theorem dL_isWell_115 : decode cL_isWell 115 = .ok (.goto 4, 3) := by decide +kernel
theorem dL_isWell_118 : decode cL_isWell 118 = .ok (.iconst 0, 1) := by decide +kernel
theorem dL_isWell_119 : decode cL_isWell 119 = .ok (.istore 7, 2) := by decide +kernel
theorem dL_isWell_121 : decode cL_isWell 121 = .ok (.iconst 0, 1) := by decide +kernel
theorem dL_isWell_122 : decode cL_isWell 122 = .ok (.istore 8, 2) := by decide +kernel
theorem dL_isWell_124 : decode cL_isWell 124 = .ok (.iload 8, 2) := by decide +kernel
theorem dL_isWell_126 : decode cL_isWell 126 = .ok (.iload_n 1, 1) := by decide +kernel
theorem dL_isWell_127 : decode cL_isWell 127 = .ok (.if_icmp .ge 184, 3) := by decide +kernel
theorem dL_isWell_130 : decode cL_isWell 130 = .ok (.iload 7, 2) := by decide +kernel
theorem dL_isWell_132 : decode cL_isWell 132 = .ok (.ifCond .eq 179, 3) := by decide +kernel
theorem dL_isWell_135 : decode cL_isWell 135 = .ok (.aload_n 0, 1) := by decide +kernel
theorem dL_isWell_136 : decode cL_isWell 136 = .ok (.iload 8, 2) := by decide +kernel
theorem dL_isWell_138 : decode cL_isWell 138 = .ok (.iconst 3, 1) := by decide +kernel
theorem dL_isWell_139 : decode cL_isWell 139 = .ok (.invokevirtual 31, 3) := by decide +kernel
theorem dL_isWell_142 : decode cL_isWell 142 = .ok (.ldc 39, 2) := by decide +kernel
theorem dL_isWell_144 : decode cL_isWell 144 = .ok (.isub, 1) := by decide +kernel
theorem dL_isWell_145 : decode cL_isWell 145 = .ok (.istore 9, 2) := by decide +kernel
theorem dL_isWell_147 : decode cL_isWell 147 = .ok (.aload_n 0, 1) := by decide +kernel
theorem dL_isWell_148 : decode cL_isWell 148 = .ok (.iload 8, 2) := by decide +kernel
theorem dL_isWell_150 : decode cL_isWell 150 = .ok (.iconst 4, 1) := by decide +kernel
theorem dL_isWell_151 : decode cL_isWell 151 = .ok (.invokevirtual 31, 3) := by decide +kernel
theorem dL_isWell_154 : decode cL_isWell 154 = .ok (.ldc 38, 2) := by decide +kernel
theorem dL_isWell_156 : decode cL_isWell 156 = .ok (.isub, 1) := by decide +kernel
theorem dL_isWell_157 : decode cL_isWell 157 = .ok (.istore 10, 2) := by decide +kernel
theorem dL_isWell_159 : decode cL_isWell 159 = .ok (.aload_n 0, 1) := by decide +kernel
theorem dL_isWell_160 : decode cL_isWell 160 = .ok (.iload 8, 2) := by decide +kernel
theorem dL_isWell_162 : decode cL_isWell 162 = .ok (.iconst 5, 1) := by decide +kernel
theorem dL_isWell_163 : decode cL_isWell 163 = .ok (.invokevirtual 31, 3) := by decide +kernel
theorem dL_isWell_166 : decode cL_isWell 166 = .ok (.iconst 1, 1) := by decide +kernel
theorem dL_isWell_167 : decode cL_isWell 167 = .ok (.if_icmp .ne 7, 3) := by decide +kernel
theorem dL_isWell_170 : decode cL_isWell 170 = .ok (.iconst 1, 1) := by decide +kernel
theorem dL_isWell_171 : decode cL_isWell 171 = .ok (.goto 4, 3) := by decide +kernel
theorem dL_isWell_174 : decode cL_isWell 174 = .ok (.iconst 0, 1) := by decide +kernel
theorem dL_isWell_175 : decode cL_isWell 175 = .ok (.istore 11, 2) := by decide +kernel
theorem dL_isWell_177 : decode cL_isWell 177 = .ok (.iload_n 2, 1) := by decide +kernel
theorem dL_isWell_178 : decode cL_isWell 178 = .ok (.iload 9, 2) := by decide +kernel
theorem dL_isWell_180 : decode cL_isWell 180 = .ok (.ifCond .le 7, 3) := by decide +kernel
theorem dL_isWell_183 : decode cL_isWell 183 = .ok (.iconst 1, 1) := by decide +kernel
theorem dL_isWell_184 : decode cL_isWell 184 = .ok (.goto 4, 3) := by decide +kernel
theorem dL_isWell_187 : decode cL_isWell 187 = .ok (.iconst 0, 1) := by decide +kernel
theorem dL_isWell_188 : decode cL_isWell 188 = .ok (.iadd, 1) := by decide +kernel
theorem dL_isWell_189 : decode cL_isWell 189 = .ok (.istore_n 2, 1) := by decide +kernel
theorem dL_isWell_190 : decode cL_isWell 190 = .ok (.iload_n 3, 1) := by decide +kernel
theorem dL_isWell_191 : decode cL_isWell 191 = .ok (.iload 11, 2) := by decide +kernel
theorem dL_isWell_193 : decode cL_isWell 193 = .ok (.ifCond .eq 7, 3) := by decide +kernel
theorem dL_isWell_196 : decode cL_isWell 196 = .ok (.iconst 1, 1) := by decide +kernel
theorem dL_isWell_197 : decode cL_isWell 197 = .ok (.goto 4, 3) := by decide +kernel
theorem dL_isWell_200 : decode cL_isWell 200 = .ok (.iconst 0, 1) := by decide +kernel
theorem dL_isWell_201 : decode cL_isWell 201 = .ok (.iadd, 1) := by decide +kernel
theorem dL_isWell_202 : decode cL_isWell 202 = .ok (.istore_n 3, 1) := by decide +kernel
theorem dL_isWell_203 : decode cL_isWell 203 = .ok (.iload 5, 2) := by decide +kernel
theorem dL_isWell_205 : decode cL_isWell 205 = .ok (.aload_n 0, 1) := by decide +kernel
theorem dL_isWell_206 : decode cL_isWell 206 = .ok (.iload 8, 2) := by decide +kernel
theorem dL_isWell_208 : decode cL_isWell 208 = .ok (.iconst 2, 1) := by decide +kernel
theorem dL_isWell_209 : decode cL_isWell 209 = .ok (.invokevirtual 31, 3) := by decide +kernel
theorem dL_isWell_212 : decode cL_isWell 212 = .ok (.iadd, 1) := by decide +kernel
theorem dL_isWell_213 : decode cL_isWell 213 = .ok (.istore 5, 2) := by decide +kernel
theorem dL_isWell_215 : decode cL_isWell 215 = .ok (.iload 11, 2) := by decide +kernel
theorem dL_isWell_217 : decode cL_isWell 217 = .ok (.ifCond .eq 19, 3) := by decide +kernel
theorem dL_isWell_220 : decode cL_isWell 220 = .ok (.aload_n 0, 1) := by decide +kernel
theorem dL_isWell_221 : decode cL_isWell 221 = .ok (.iload 8, 2) := by decide +kernel
theorem dL_isWell_223 : decode cL_isWell 223 = .ok (.iconst 2, 1) := by decide +kernel
theorem dL_isWell_224 : decode cL_isWell 224 = .ok (.invokevirtual 31, 3) := by decide +kernel
theorem dL_isWell_227 : decode cL_isWell 227 = .ok (.iconst 1, 1) := by decide +kernel
theorem dL_isWell_228 : decode cL_isWell 228 = .ok (.if_icmp .ne 38, 3) := by decide +kernel
theorem dL_isWell_231 : decode cL_isWell 231 = .ok (.iload 10, 2) := by decide +kernel
theorem dL_isWell_233 : decode cL_isWell 233 = .ok (.ifCond .eq 33, 3) := by decide +kernel
theorem dL_isWell_236 : decode cL_isWell 236 = .ok (.iload 9, 2) := by decide +kernel
theorem dL_isWell_238 : decode cL_isWell 238 = .ok (.ldc 39, 2) := by decide +kernel
theorem dL_isWell_240 : decode cL_isWell 240 = .ok (.iadd, 1) := by decide +kernel
theorem dL_isWell_241 : decode cL_isWell 241 = .ok (.aload_n 0, 1) := by decide +kernel
theorem dL_isWell_242 : decode cL_isWell 242 = .ok (.iconst 0, 1) := by decide +kernel
theorem dL_isWell_243 : decode cL_isWell 243 = .ok (.invokevirtual 60, 3) := by decide +kernel
theorem dL_isWell_246 : decode cL_isWell 246 = .ok (.if_icmp .gt 20, 3) := by decide +kernel
theorem dL_isWell_249 : decode cL_isWell 249 = .ok (.iload 9, 2) := by decide +kernel
theorem dL_isWell_251 : decode cL_isWell 251 = .ok (.ldc 39, 2) := by decide +kernel
theorem dL_isWell_253 : decode cL_isWell 253 = .ok (.iadd, 1) := by decide +kernel
theorem dL_isWell_254 : decode cL_isWell 254 = .ok (.aload_n 0, 1) := by decide +kernel
theorem dL_isWell_255 : decode cL_isWell 255 = .ok (.iconst 1, 1) := by decide +kernel
theorem dL_isWell_256 : decode cL_isWell 256 = .ok (.invokevirtual 60, 3) := by decide +kernel
theorem dL_isWell_259 : decode cL_isWell 259 = .ok (.if_icmp .lt 7, 3) := by decide +kernel
theorem dL_isWell_262 : decode cL_isWell 262 = .ok (.iconst 1, 1) := by decide +kernel
theorem dL_isWell_263 : decode cL_isWell 263 = .ok (.goto 4, 3) := by decide +kernel
theorem dL_isWell_266 : decode cL_isWell 266 = .ok (.iconst 0, 1) := by decide +kernel
theorem dL_isWell_267 : decode cL_isWell 267 = .ok (.istore 7, 2) := by decide +kernel
theorem dL_isWell_269 : decode cL_isWell 269 = .ok (.iload 8, 2) := by decide +kernel
theorem dL_isWell_271 : decode cL_isWell 271 = .ok (.ifCond .le 34, 3) := by decide +kernel
theorem dL_isWell_274 : decode cL_isWell 274 = .ok (.iload 4, 2) := by decide +kernel
theorem dL_isWell_276 : decode cL_isWell 276 = .ok (.aload_n 0, 1) := by decide +kernel
theorem dL_isWell_277 : decode cL_isWell 277 = .ok (.iload 8, 2) := by decide +kernel
theorem dL_isWell_279 : decode cL_isWell 279 = .ok (.bipush 6, 2) := by decide +kernel
theorem dL_isWell_281 : decode cL_isWell 281 = .ok (.invokevirtual 31, 3) := by decide +kernel
theorem dL_isWell_284 : decode cL_isWell 284 = .ok (.aload_n 0, 1) := by decide +kernel
theorem dL_isWell_285 : decode cL_isWell 285 = .ok (.iload 8, 2) := by decide +kernel
theorem dL_isWell_287 : decode cL_isWell 287 = .ok (.iconst 1, 1) := by decide +kernel
theorem dL_isWell_288 : decode cL_isWell 288 = .ok (.isub, 1) := by decide +kernel
theorem dL_isWell_289 : decode cL_isWell 289 = .ok (.bipush 6, 2) := by decide +kernel
theorem dL_isWell_291 : decode cL_isWell 291 = .ok (.invokevirtual 31, 3) := by decide +kernel
theorem dL_isWell_294 : decode cL_isWell 294 = .ok (.if_icmp .eq 7, 3) := by decide +kernel
theorem dL_isWell_297 : decode cL_isWell 297 = .ok (.iconst 1, 1) := by decide +kernel
theorem dL_isWell_298 : decode cL_isWell 298 = .ok (.goto 4, 3) := by decide +kernel
theorem dL_isWell_301 : decode cL_isWell 301 = .ok (.iconst 0, 1) := by decide +kernel
theorem dL_isWell_302 : decode cL_isWell 302 = .ok (.iadd, 1) := by decide +kernel
theorem dL_isWell_303 : decode cL_isWell 303 = .ok (.istore 4, 2) := by decide +kernel
theorem dL_isWell_305 : decode cL_isWell 305 = .ok (.iinc 8 1, 3) := by decide +kernel
theorem dL_isWell_308 : decode cL_isWell 308 = .ok (.goto (-184), 3) := by decide +kernel
theorem dL_isWell_311 : decode cL_isWell 311 = .ok (.iload 7, 2) := by decide +kernel
theorem dL_isWell_313 : decode cL_isWell 313 = .ok (.ifCond .eq 108, 3) := by decide +kernel
theorem dL_isWell_316 : decode cL_isWell 316 = .ok (.iload_n 1, 1) := by decide +kernel
theorem dL_isWell_317 : decode cL_isWell 317 = .ok (.ifCond .ne 16, 3) := by decide +kernel
theorem dL_isWell_320 : decode cL_isWell 320 = .ok (.aload_n 0, 1) := by decide +kernel
theorem dL_isWell_321 : decode cL_isWell 321 = .ok (.iconst 2, 1) := by decide +kernel
theorem dL_isWell_322 : decode cL_isWell 322 = .ok (.invokevirtual 60, 3) := by decide +kernel
theorem dL_isWell_325 : decode cL_isWell 325 = .ok (.bipush (-6), 2) := by decide +kernel
theorem dL_isWell_327 : decode cL_isWell 327 = .ok (.if_icmp .ne 94, 3) := by decide +kernel
theorem dL_isWell_330 : decode cL_isWell 330 = .ok (.goto 31, 3) := by decide +kernel
theorem dL_isWell_333 : decode cL_isWell 333 = .ok (.iload_n 2, 1) := by decide +kernel
theorem dL_isWell_334 : decode cL_isWell 334 = .ok (.aload_n 0, 1) := by decide +kernel
theorem dL_isWell_335 : decode cL_isWell 335 = .ok (.iconst 2, 1) := by decide +kernel
theorem dL_isWell_336 : decode cL_isWell 336 = .ok (.invokevirtual 60, 3) := by decide +kernel
theorem dL_isWell_339 : decode cL_isWell 339 = .ok (.if_icmp .ne 82, 3) := by decide +kernel
theorem dL_isWell_342 : decode cL_isWell 342 = .ok (.iload_n 3, 1) := by decide +kernel
theorem dL_isWell_343 : decode cL_isWell 343 = .ok (.aload_n 0, 1) := by decide +kernel
theorem dL_isWell_344 : decode cL_isWell 344 = .ok (.iconst 3, 1) := by decide +kernel
theorem dL_isWell_345 : decode cL_isWell 345 = .ok (.invokevirtual 60, 3) := by decide +kernel
theorem dL_isWell_348 : decode cL_isWell 348 = .ok (.if_icmp .ne 73, 3) := by decide +kernel
theorem dL_isWell_351 : decode cL_isWell 351 = .ok (.iload 4, 2) := by decide +kernel
theorem dL_isWell_353 : decode cL_isWell 353 = .ok (.aload_n 0, 1) := by decide +kernel
theorem dL_isWell_354 : decode cL_isWell 354 = .ok (.iconst 4, 1) := by decide +kernel
theorem dL_isWell_355 : decode cL_isWell 355 = .ok (.invokevirtual 60, 3) := by decide +kernel
theorem dL_isWell_358 : decode cL_isWell 358 = .ok (.if_icmp .ne 63, 3) := by decide +kernel
theorem dL_isWell_361 : decode cL_isWell 361 = .ok (.iload_n 3, 1) := by decide +kernel
theorem dL_isWell_362 : decode cL_isWell 362 = .ok (.aload_n 0, 1) := by decide +kernel
theorem dL_isWell_363 : decode cL_isWell 363 = .ok (.iconst 4, 1) := by decide +kernel
theorem dL_isWell_364 : decode cL_isWell 364 = .ok (.invokevirtual 9, 3) := by decide +kernel
theorem dL_isWell_367 : decode cL_isWell 367 = .ok (.if_icmp .gt 54, 3) := by decide +kernel
theorem dL_isWell_370 : decode cL_isWell 370 = .ok (.iload 5, 2) := by decide +kernel
theorem dL_isWell_372 : decode cL_isWell 372 = .ok (.aload_n 0, 1) := by decide +kernel
theorem dL_isWell_373 : decode cL_isWell 373 = .ok (.bipush 6, 2) := by decide +kernel
theorem dL_isWell_375 : decode cL_isWell 375 = .ok (.invokevirtual 9, 3) := by decide +kernel
theorem dL_isWell_378 : decode cL_isWell 378 = .ok (.if_icmp .gt 43, 3) := by decide +kernel
theorem dL_isWell_381 : decode cL_isWell 381 = .ok (.iload_n 1, 1) := by decide +kernel
theorem dL_isWell_382 : decode cL_isWell 382 = .ok (.aload_n 0, 1) := by decide +kernel
theorem dL_isWell_383 : decode cL_isWell 383 = .ok (.iconst 0, 1) := by decide +kernel
theorem dL_isWell_384 : decode cL_isWell 384 = .ok (.invokevirtual 9, 3) := by decide +kernel
theorem dL_isWell_387 : decode cL_isWell 387 = .ok (.if_icmp .lt 23, 3) := by decide +kernel
theorem dL_isWell_390 : decode cL_isWell 390 = .ok (.iload_n 3, 1) := by decide +kernel
theorem dL_isWell_391 : decode cL_isWell 391 = .ok (.aload_n 0, 1) := by decide +kernel
theorem dL_isWell_392 : decode cL_isWell 392 = .ok (.iconst 4, 1) := by decide +kernel
theorem dL_isWell_393 : decode cL_isWell 393 = .ok (.invokevirtual 9, 3) := by decide +kernel
theorem dL_isWell_396 : decode cL_isWell 396 = .ok (.if_icmp .ne 25, 3) := by decide +kernel
theorem dL_isWell_399 : decode cL_isWell 399 = .ok (.iload 5, 2) := by decide +kernel
theorem dL_isWell_401 : decode cL_isWell 401 = .ok (.aload_n 0, 1) := by decide +kernel
theorem dL_isWell_402 : decode cL_isWell 402 = .ok (.bipush 6, 2) := by decide +kernel
theorem dL_isWell_404 : decode cL_isWell 404 = .ok (.invokevirtual 9, 3) := by decide +kernel
theorem dL_isWell_407 : decode cL_isWell 407 = .ok (.if_icmp .ne 14, 3) := by decide +kernel
theorem dL_isWell_410 : decode cL_isWell 410 = .ok (.aload_n 0, 1) := by decide +kernel
theorem dL_isWell_411 : decode cL_isWell 411 = .ok (.invokestatic 63, 3) := by decide +kernel
theorem dL_isWell_414 : decode cL_isWell 414 = .ok (.ifCond .eq 7, 3) := by decide +kernel
theorem dL_isWell_417 : decode cL_isWell 417 = .ok (.iconst 1, 1) := by decide +kernel
theorem dL_isWell_418 : decode cL_isWell 418 = .ok (.goto 4, 3) := by decide +kernel
theorem dL_isWell_421 : decode cL_isWell 421 = .ok (.iconst 0, 1) := by decide +kernel
theorem dL_isWell_422 : decode cL_isWell 422 = .ok (.ireturn, 1) := by decide +kernel
set_option maxRecDepth 20000 in
theorem ggL_isNear_X7_rate : GoodIn wsL_isNear wsX7_rate := goodIn_r _ [7, 8, 9, 10, 11, 6, 12, 13, 14, 15, 16, 17, 18, 19, 20, 21, 22, 23, 24, 25, 26, 27, 28, 29, 30, 83, 84, 85, 86, 87, 88, 89, 90, 91, 92, 93, 94, 95] (by decide +kernel) (by decide +kernel)
set_option maxRecDepth 20000 in
theorem gL_isNear_X7_rate : GoodIn wsL_isNear (wsV RL 25 RX7 yX7_rate wsX7_rate) := goodIn_app (goodIn_of _ (by decide +kernel)) ggL_isNear_X7_rate
set_option maxRecDepth 20000 in
theorem ggL_isNear_X7_bestWeights : GoodIn wsL_isNear wsX7_bestWeights := goodIn_r _ [34, 8, 35, 36, 37, 38, 9, 10, 11, 6, 12, 13, 14, 15, 39, 23, 24, 19, 25, 26, 27, 28, 29, 30, 83, 84, 85, 86, 87, 88, 89, 90, 91, 92, 93, 94, 95] (by decide +kernel) (by decide +kernel)
set_option maxRecDepth 20000 in
theorem gL_isNear_X7_bestWeights : GoodIn wsL_isNear (wsV RL 50 RX7 yX7_bestWeights wsX7_bestWeights) := goodIn_app (goodIn_of _ (by decide +kernel)) ggL_isNear_X7_bestWeights
set_option maxRecDepth 20000 in
theorem ggL_isNear_X7_count : GoodIn wsL_isNear wsX7_count := goodIn_r _ [43, 8, 44, 45, 46, 47, 48, 49, 50, 51, 52, 53, 54, 55, 56, 37, 57, 58, 27, 28, 19, 29, 30, 83, 84, 85, 86, 87, 88, 89, 90, 91, 92, 93, 94, 95, 96, 97, 98, 99, 100, 101, 102, 103, 104, 105, 106, 107, 108, 109, 110, 111] (by decide +kernel) (by decide +kernel)
set_option maxRecDepth 20000 in
theorem gL_isNear_X7_count : GoodIn wsL_isNear (wsV RL 9 RX7 yX7_count wsX7_count) := goodIn_app (goodIn_of _ (by decide +kernel)) ggL_isNear_X7_count
set_option maxRecDepth 20000 in
theorem ggL_isNear_X7_offIn : GoodIn wsL_isNear wsX7_offIn := goodIn_r _ [62, 8, 63, 10, 11, 6, 12, 13, 14, 15, 16, 17, 18, 19, 20, 21, 22, 23, 24, 25, 26, 27, 28, 29, 30, 58, 64, 65, 66, 67, 68, 69, 70, 71, 72, 73, 74, 75, 76, 77, 78, 83, 84, 85, 86, 87, 88, 89, 90, 91, 92, 93, 94, 95, 96, 97] (by decide +kernel) (by decide +kernel)
set_option maxRecDepth 20000 in
theorem gL_isNear_X7_offIn : GoodIn wsL_isNear (wsV RL 54 RX7 yX7_offIn wsX7_offIn) := goodIn_app (goodIn_of _ (by decide +kernel)) ggL_isNear_X7_offIn
set_option maxRecDepth 20000 in
theorem ggL_isNear_X7_coolest : GoodIn wsL_isNear wsX7_coolest := goodIn_r _ [82, 8, 13, 14, 6, 15, 16, 17, 18, 19, 20, 21, 22, 23, 24, 25, 26, 27, 28, 29, 30, 83, 84, 85, 86, 87, 88, 89, 90, 91, 92, 93, 94, 95] (by decide +kernel) (by decide +kernel)
set_option maxRecDepth 20000 in
theorem gL_isNear_X7_coolest : GoodIn wsL_isNear (wsV RL 57 RX7 yX7_coolest wsX7_coolest) := goodIn_app (goodIn_of _ (by decide +kernel)) ggL_isNear_X7_coolest
theorem dL_isNear_0 : decode cL_isNear 0 = .ok (.aload_n 0, 1) := by decide +kernel
theorem dL_isNear_1 : decode cL_isNear 1 = .ok (.bipush 25, 2) := by decide +kernel
theorem dL_isNear_3 : decode cL_isNear 3 = .ok (.sipush 1010, 3) := by decide +kernel
theorem dL_isNear_6 : decode cL_isNear 6 = .ok (.invokevirtual 25, 3) := by decide +kernel
theorem dL_isNear_9 : decode cL_isNear 9 = .ok (.ldc 39, 2) := by decide +kernel
theorem dL_isNear_11 : decode cL_isNear 11 = .ok (.isub, 1) := by decide +kernel
theorem dL_isNear_12 : decode cL_isNear 12 = .ok (.istore_n 1, 1) := by decide +kernel
theorem dL_isNear_13 : decode cL_isNear 13 = .ok (.aload_n 0, 1) := by decide +kernel
theorem dL_isNear_14 : decode cL_isNear 14 = .ok (.bipush 25, 2) := by decide +kernel
theorem dL_isNear_16 : decode cL_isNear 16 = .ok (.sipush 1010, 3) := by decide +kernel
theorem dL_isNear_19 : decode cL_isNear 19 = .ok (.iconst 1, 1) := by decide +kernel
theorem dL_isNear_20 : decode cL_isNear 20 = .ok (.invokevirtual 50, 3) := by decide +kernel
theorem dL_isNear_23 : decode cL_isNear 23 = .ok (.ldc 39, 2) := by decide +kernel
theorem dL_isNear_25 : decode cL_isNear 25 = .ok (.isub, 1) := by decide +kernel
theorem dL_isNear_26 : decode cL_isNear 26 = .ok (.istore_n 2, 1) := by decide +kernel
theorem dL_isNear_27 : decode cL_isNear 27 = .ok (.aload_n 0, 1) := by decide +kernel
theorem dL_isNear_28 : decode cL_isNear 28 = .ok (.iconst 1, 1) := by decide +kernel
theorem dL_isNear_29 : decode cL_isNear 29 = .ok (.invokevirtual 9, 3) := by decide +kernel
theorem dL_isNear_32 : decode cL_isNear 32 = .ok (.ldc 38, 2) := by decide +kernel
theorem dL_isNear_34 : decode cL_isNear 34 = .ok (.isub, 1) := by decide +kernel
theorem dL_isNear_35 : decode cL_isNear 35 = .ok (.istore_n 3, 1) := by decide +kernel
theorem dL_isNear_36 : decode cL_isNear 36 = .ok (.aload_n 0, 1) := by decide +kernel
theorem dL_isNear_37 : decode cL_isNear 37 = .ok (.bipush 10, 2) := by decide +kernel
theorem dL_isNear_39 : decode cL_isNear 39 = .ok (.invokevirtual 9, 3) := by decide +kernel
theorem dL_isNear_42 : decode cL_isNear 42 = .ok (.sipush 1000, 3) := by decide +kernel
theorem dL_isNear_45 : decode cL_isNear 45 = .ok (.isub, 1) := by decide +kernel
theorem dL_isNear_46 : decode cL_isNear 46 = .ok (.istore 4, 2) := by decide +kernel
theorem dL_isNear_48 : decode cL_isNear 48 = .ok (.aload_n 0, 1) := by decide +kernel
theorem dL_isNear_49 : decode cL_isNear 49 = .ok (.bipush 25, 2) := by decide +kernel
theorem dL_isNear_51 : decode cL_isNear 51 = .ok (.sipush 1010, 3) := by decide +kernel
theorem dL_isNear_54 : decode cL_isNear 54 = .ok (.invokevirtual 54, 3) := by decide +kernel
theorem dL_isNear_57 : decode cL_isNear 57 = .ok (.istore 5, 2) := by decide +kernel
theorem dL_isNear_59 : decode cL_isNear 59 = .ok (.iload_n 3, 1) := by decide +kernel
theorem dL_isNear_60 : decode cL_isNear 60 = .ok (.iload 4, 2) := by decide +kernel
theorem dL_isNear_62 : decode cL_isNear 62 = .ok (.if_icmp .gt 10, 3) := by decide +kernel
theorem dL_isNear_65 : decode cL_isNear 65 = .ok (.iload_n 3, 1) := by decide +kernel
theorem dL_isNear_66 : decode cL_isNear 66 = .ok (.iload 4, 2) := by decide +kernel
theorem dL_isNear_68 : decode cL_isNear 68 = .ok (.ineg, 1) := by decide +kernel
theorem dL_isNear_69 : decode cL_isNear 69 = .ok (.if_icmp .ge 7, 3) := by decide +kernel
theorem dL_isNear_72 : decode cL_isNear 72 = .ok (.iconst 1, 1) := by decide +kernel
theorem dL_isNear_73 : decode cL_isNear 73 = .ok (.goto 4, 3) := by decide +kernel
theorem dL_isNear_76 : decode cL_isNear 76 = .ok (.iconst 0, 1) := by decide +kernel
theorem dL_isNear_77 : decode cL_isNear 77 = .ok (.istore 6, 2) := by decide +kernel
theorem dL_isNear_79 : decode cL_isNear 79 = .ok (.iload_n 1, 1) := by decide +kernel
theorem dL_isNear_80 : decode cL_isNear 80 = .ok (.ifCond .ge 8, 3) := by decide +kernel
theorem dL_isNear_83 : decode cL_isNear 83 = .ok (.iload_n 1, 1) := by decide +kernel
theorem dL_isNear_84 : decode cL_isNear 84 = .ok (.ineg, 1) := by decide +kernel
theorem dL_isNear_85 : decode cL_isNear 85 = .ok (.goto 4, 3) := by decide +kernel
theorem dL_isNear_88 : decode cL_isNear 88 = .ok (.iload_n 1, 1) := by decide +kernel
theorem dL_isNear_89 : decode cL_isNear 89 = .ok (.istore 7, 2) := by decide +kernel
theorem dL_isNear_91 : decode cL_isNear 91 = .ok (.iload 7, 2) := by decide +kernel
theorem dL_isNear_93 : decode cL_isNear 93 = .ok (.bipush 36, 2) := by decide +kernel
theorem dL_isNear_95 : decode cL_isNear 95 = .ok (.imul, 1) := by decide +kernel
theorem dL_isNear_96 : decode cL_isNear 96 = .ok (.bipush 10, 2) := by decide +kernel
theorem dL_isNear_98 : decode cL_isNear 98 = .ok (.idiv, 1) := by decide +kernel
theorem dL_isNear_99 : decode cL_isNear 99 = .ok (.iconst 1, 1) := by decide +kernel
theorem dL_isNear_100 : decode cL_isNear 100 = .ok (.iadd, 1) := by decide +kernel
theorem dL_isNear_101 : decode cL_isNear 101 = .ok (.istore 8, 2) := by decide +kernel
theorem dL_isNear_103 : decode cL_isNear 103 = .ok (.iload 4, 2) := by decide +kernel
theorem dL_isNear_105 : decode cL_isNear 105 = .ok (.iconst 1, 1) := by decide +kernel
theorem dL_isNear_106 : decode cL_isNear 106 = .ok (.iadd, 1) := by decide +kernel
theorem dL_isNear_107 : decode cL_isNear 107 = .ok (.iload_n 3, 1) := by decide +kernel
theorem dL_isNear_108 : decode cL_isNear 108 = .ok (.ifCond .ge 8, 3) := by decide +kernel
theorem dL_isNear_111 : decode cL_isNear 111 = .ok (.iload_n 3, 1) := by decide +kernel
theorem dL_isNear_112 : decode cL_isNear 112 = .ok (.ineg, 1) := by decide +kernel
theorem dL_isNear_113 : decode cL_isNear 113 = .ok (.goto 4, 3) := by decide +kernel
theorem dL_isNear_116 : decode cL_isNear 116 = .ok (.iload_n 3, 1) := by decide +kernel
theorem dL_isNear_117 : decode cL_isNear 117 = .ok (.isub, 1) := by decide +kernel
theorem dL_isNear_118 : decode cL_isNear 118 = .ok (.istore 9, 2) := by decide +kernel
theorem dL_isNear_120 : decode cL_isNear 120 = .ok (.iload_n 2, 1) := by decide +kernel
theorem dL_isNear_121 : decode cL_isNear 121 = .ok (.ifCond .ge 8, 3) := by decide +kernel
theorem dL_isNear_124 : decode cL_isNear 124 = .ok (.iload_n 2, 1) := by decide +kernel
theorem dL_isNear_125 : decode cL_isNear 125 = .ok (.ineg, 1) := by decide +kernel
theorem dL_isNear_126 : decode cL_isNear 126 = .ok (.goto 4, 3) := by decide +kernel
theorem dL_isNear_129 : decode cL_isNear 129 = .ok (.iload_n 2, 1) := by decide +kernel
theorem dL_isNear_130 : decode cL_isNear 130 = .ok (.iload 7, 2) := by decide +kernel
theorem dL_isNear_132 : decode cL_isNear 132 = .ok (.if_icmp .gt 80, 3) := by decide +kernel
theorem dL_isNear_135 : decode cL_isNear 135 = .ok (.iload 5, 2) := by decide +kernel
theorem dL_isNear_137 : decode cL_isNear 137 = .ok (.ifCond .ne 7, 3) := by decide +kernel
theorem dL_isNear_140 : decode cL_isNear 140 = .ok (.iconst 1, 1) := by decide +kernel
theorem dL_isNear_141 : decode cL_isNear 141 = .ok (.goto 4, 3) := by decide +kernel
theorem dL_isNear_144 : decode cL_isNear 144 = .ok (.iconst 0, 1) := by decide +kernel
theorem dL_isNear_145 : decode cL_isNear 145 = .ok (.iload 6, 2) := by decide +kernel
theorem dL_isNear_147 : decode cL_isNear 147 = .ok (.if_icmp .ne 65, 3) := by decide +kernel
theorem dL_isNear_150 : decode cL_isNear 150 = .ok (.iload 6, 2) := by decide +kernel
theorem dL_isNear_152 : decode cL_isNear 152 = .ok (.ifCond .ne 22, 3) := by decide +kernel
theorem dL_isNear_155 : decode cL_isNear 155 = .ok (.iload 5, 2) := by decide +kernel
theorem dL_isNear_157 : decode cL_isNear 157 = .ok (.ifCond .lt 17, 3) := by decide +kernel
theorem dL_isNear_160 : decode cL_isNear 160 = .ok (.iload 5, 2) := by decide +kernel
theorem dL_isNear_162 : decode cL_isNear 162 = .ok (.i2l, 1) := by decide +kernel
theorem dL_isNear_163 : decode cL_isNear 163 = .ok (.iload 8, 2) := by decide +kernel
theorem dL_isNear_165 : decode cL_isNear 165 = .ok (.i2l, 1) := by decide +kernel
theorem dL_isNear_166 : decode cL_isNear 166 = .ok (.lmul, 1) := by decide +kernel
theorem dL_isNear_167 : decode cL_isNear 167 = .ok (.iload 9, 2) := by decide +kernel
theorem dL_isNear_169 : decode cL_isNear 169 = .ok (.i2l, 1) := by decide +kernel
theorem dL_isNear_170 : decode cL_isNear 170 = .ok (.lcmp, 1) := by decide +kernel
theorem dL_isNear_171 : decode cL_isNear 171 = .ok (.ifCond .lt 41, 3) := by decide +kernel
theorem dL_isNear_174 : decode cL_isNear 174 = .ok (.aload_n 0, 1) := by decide +kernel
theorem dL_isNear_175 : decode cL_isNear 175 = .ok (.sipush 1010, 3) := by decide +kernel
theorem dL_isNear_178 : decode cL_isNear 178 = .ok (.invokevirtual 57, 3) := by decide +kernel
theorem dL_isNear_181 : decode cL_isNear 181 = .ok (.bipush (-6), 2) := by decide +kernel
theorem dL_isNear_183 : decode cL_isNear 183 = .ok (.if_icmp .eq 25, 3) := by decide +kernel
theorem dL_isNear_186 : decode cL_isNear 186 = .ok (.aload_n 0, 1) := by decide +kernel
theorem dL_isNear_187 : decode cL_isNear 187 = .ok (.aload_n 0, 1) := by decide +kernel
theorem dL_isNear_188 : decode cL_isNear 188 = .ok (.sipush 1010, 3) := by decide +kernel
theorem dL_isNear_191 : decode cL_isNear 191 = .ok (.invokevirtual 57, 3) := by decide +kernel
theorem dL_isNear_194 : decode cL_isNear 194 = .ok (.bipush 100, 2) := by decide +kernel
theorem dL_isNear_196 : decode cL_isNear 196 = .ok (.isub, 1) := by decide +kernel
theorem dL_isNear_197 : decode cL_isNear 197 = .ok (.sipush 1010, 3) := by decide +kernel
theorem dL_isNear_200 : decode cL_isNear 200 = .ok (.invokevirtual 25, 3) := by decide +kernel
theorem dL_isNear_203 : decode cL_isNear 203 = .ok (.ldc 39, 2) := by decide +kernel
theorem dL_isNear_205 : decode cL_isNear 205 = .ok (.if_icmp .gt 7, 3) := by decide +kernel
theorem dL_isNear_208 : decode cL_isNear 208 = .ok (.iconst 1, 1) := by decide +kernel
theorem dL_isNear_209 : decode cL_isNear 209 = .ok (.goto 4, 3) := by decide +kernel
theorem dL_isNear_212 : decode cL_isNear 212 = .ok (.iconst 0, 1) := by decide +kernel
theorem dL_isNear_213 : decode cL_isNear 213 = .ok (.ireturn, 1) := by decide +kernel
set_option maxRecDepth 20000 in
theorem ggL_law_X7_init : GoodIn wsL_law wsX7_init := goodIn_r _ [5, 6, 7, 8, 9, 10, 11, 12, 13, 14, 15, 16, 17, 18, 19, 20, 21, 22, 23, 24, 25, 26, 27, 28, 29, 30, 31, 32, 33, 34, 35, 36, 37, 38, 39, 40, 41, 42, 43, 44, 45, 46, 47, 48, 49, 50, 51, 52, 53, 54, 55, 56, 57, 58, 59, 60, 61, 62, 63, 64, 65, 66, 67, 68, 69, 70, 317, 318, 319, 320, 321, 322, 323, 311, 312, 313, 314, 315, 316, 324, 325, 326, 327, 328, 329, 330, 331, 332, 333, 334, 335, 336, 337, 338, 339, 340, 341] (by decide +kernel) (by decide +kernel)
set_option maxRecDepth 20000 in
theorem gL_law_X7_init : GoodIn wsL_law (wsX7_init) := ggL_law_X7_init
set_option maxRecDepth 20000 in
theorem ggL_law_L_cell : GoodIn wsL_law wsL_cell := goodIn_r _ [74, 75] (by decide +kernel) (by decide +kernel)
set_option maxRecDepth 20000 in
theorem gL_law_L_cell : GoodIn wsL_law (va_wsS RL 68 yL_cell wsL_cell) := goodIn_app (goodIn_of _ (by decide +kernel)) ggL_law_L_cell
set_option maxRecDepth 20000 in
theorem ggL_law_L_isStep : GoodIn wsL_law wsL_isStep := goodIn_r _ [78, 79, 80, 81, 82, 83, 2, 84, 12, 85, 86, 87, 25, 16, 88, 89, 90, 39, 91, 92, 93, 94, 95, 96, 97, 98, 99, 11, 100, 34, 101, 102, 73, 103, 104, 105, 106, 107, 108, 109, 110, 111, 112, 113, 114, 115, 116, 117, 118, 119, 120, 15, 121, 53, 122, 123, 124, 125, 126, 127, 128, 129, 130, 131, 36, 40, 132, 133, 134, 135, 136, 137, 28, 138, 139, 140, 141, 142, 143, 144, 47, 145, 146, 147, 148, 149, 150, 151, 152, 153, 154, 155, 156, 157, 158, 159, 160, 161, 162, 163, 164, 165, 166, 167, 168, 169, 170, 171, 172, 173, 174, 175, 176, 177, 178, 179, 180, 181, 182, 183, 184, 185, 186, 187, 188, 189, 190, 191, 192, 193, 194, 195, 196, 197, 198, 199, 200, 201, 202, 203, 204, 205, 206, 207, 208, 209, 210, 211, 212, 213, 214, 215, 216, 217, 218, 219, 220, 221, 222, 223, 224, 225, 226, 227, 228, 229, 230, 231, 232, 233, 234, 235, 236, 237, 311, 312, 313, 314, 315, 316, 317, 318, 319, 320, 321, 322, 323, 336, 337, 328, 329, 330, 331, 332, 333, 334, 335, 340, 341, 324, 325, 338, 339] rfl (by decide +kernel)
set_option maxRecDepth 20000 in
theorem gL_law_L_isStep : GoodIn wsL_law (va_wsS RL 72 yL_isStep wsL_isStep) := goodIn_app (goodIn_of _ (by decide +kernel)) ggL_law_L_isStep
set_option maxRecDepth 20000 in
theorem ggL_law_L_isWell : GoodIn wsL_law wsL_isWell := goodIn_r _ [240, 80, 79, 81, 82, 83, 2, 84, 12, 85, 86, 87, 25, 16, 88, 89, 90, 39, 91, 92, 93, 94, 95, 96, 97, 98, 99, 11, 100, 34, 212, 213, 214, 215, 216, 217, 218, 219, 220, 47, 180, 181, 182, 183, 241, 242, 243, 244, 196, 245, 246, 247, 248, 249, 250, 251, 252, 253, 254, 255, 256, 257, 258, 259, 260, 261, 262, 263, 264, 265, 266, 267, 73, 268, 192, 193, 194, 195, 197, 114, 115, 198, 116, 117, 199, 156, 157, 158, 132, 159, 160, 161, 162, 163, 269, 270, 271, 272, 273, 274, 275, 276, 277, 278, 279, 280, 29, 281, 136, 137, 28, 138, 139, 140, 282, 169, 170, 171, 283, 165, 166, 167, 284, 285, 286, 287, 311, 312, 313, 314, 315, 316, 317, 318, 319, 320, 321, 322, 323, 336, 337, 328, 329, 330, 331, 332, 333, 334, 335, 340, 341, 324, 325, 338, 339] rfl (by decide +kernel)
set_option maxRecDepth 20000 in
theorem gL_law_L_isWell : GoodIn wsL_law (va_wsS RL 76 yL_isWell wsL_isWell) := goodIn_app (goodIn_of _ (by decide +kernel)) ggL_law_L_isWell
set_option maxRecDepth 20000 in
theorem ggL_law_L_areAlike : GoodIn wsL_law wsL_areAlike := goodIn_r _ [290, 101, 102, 73, 103, 104, 291, 292, 293, 2, 294, 12, 88, 89, 90, 39, 91, 92, 93, 94, 95, 96, 295, 296, 297, 298, 253, 252, 218, 219, 220, 47, 180, 181, 182, 183, 299, 300, 301, 302, 303, 304, 305, 306, 307, 308, 309, 310, 29, 85, 86, 225, 189, 190, 28, 191, 139, 140, 217, 199, 156, 157, 11, 158, 132, 159, 160, 161, 162, 163, 98, 99, 100, 34, 283, 165, 166, 167, 192, 193, 194, 195, 196, 197, 114, 115, 198, 116, 117, 269, 270, 271, 272, 273, 274, 275, 276, 277, 278, 279, 280, 97, 281, 136, 137, 138, 282, 169, 170, 171, 284, 285, 286, 287, 81, 82, 83, 84, 87, 25, 16, 241, 242, 243, 244, 245, 246, 247, 248, 249, 250, 251, 254, 255, 256, 257, 258, 259, 260, 261, 262, 263, 264, 265, 212, 213, 214, 215, 216, 311, 312, 313, 314, 315, 316, 317, 318, 319, 320, 321, 322, 323, 338, 339, 336, 337, 328, 329, 330, 331, 332, 333, 334, 335, 340, 341, 324, 325] rfl (by decide +kernel)
set_option maxRecDepth 20000 in
theorem gL_law_L_areAlike : GoodIn wsL_law (va_wsS RL 79 yL_areAlike wsL_areAlike) := goodIn_app (goodIn_of _ (by decide +kernel)) ggL_law_L_areAlike
theorem dL_law_0 : decode cL_law 0 = .ok (.new 10, 3) := by decide +kernel
theorem dL_law_3 : decode cL_law 3 = .ok (.dup, 1) := by decide +kernel
theorem dL_law_4 : decode cL_law 4 = .ok (.invokespecial 67, 3) := by decide +kernel
theorem dL_law_7 : decode cL_law 7 = .ok (.astore_n 1, 1) := by decide +kernel
theorem dL_law_8 : decode cL_law 8 = .ok (.new 10, 3) := by decide +kernel
theorem dL_law_11 : decode cL_law 11 = .ok (.dup, 1) := by decide +kernel
theorem dL_law_12 : decode cL_law 12 = .ok (.invokespecial 67, 3) := by decide +kernel
theorem dL_law_15 : decode cL_law 15 = .ok (.astore_n 2, 1) := by decide +kernel
theorem dL_law_16 : decode cL_law 16 = .ok (.iconst 1, 1) := by decide +kernel
theorem dL_law_17 : decode cL_law 17 = .ok (.istore_n 3, 1) := by decide +kernel
theorem dL_law_18 : decode cL_law 18 = .ok (.iconst 0, 1) := by decide +kernel
theorem dL_law_19 : decode cL_law 19 = .ok (.istore 4, 2) := by decide +kernel
theorem dL_law_21 : decode cL_law 21 = .ok (.iload 4, 2) := by decide +kernel
theorem dL_law_23 : decode cL_law 23 = .ok (.bipush 48, 2) := by decide +kernel
theorem dL_law_25 : decode cL_law 25 = .ok (.if_icmp .ge 48, 3) := by decide +kernel
theorem dL_law_28 : decode cL_law 28 = .ok (.iload_n 3, 1) := by decide +kernel
theorem dL_law_29 : decode cL_law 29 = .ok (.ifCond .eq 44, 3) := by decide +kernel
theorem dL_law_32 : decode cL_law 32 = .ok (.aload_n 1, 1) := by decide +kernel
theorem dL_law_33 : decode cL_law 33 = .ok (.aload_n 2, 1) := by decide +kernel
theorem dL_law_34 : decode cL_law 34 = .ok (.aload_n 0, 1) := by decide +kernel
theorem dL_law_35 : decode cL_law 35 = .ok (.iload 4, 2) := by decide +kernel
theorem dL_law_37 : decode cL_law 37 = .ok (.invokestatic 68, 3) := by decide +kernel
theorem dL_law_40 : decode cL_law 40 = .ok (.invokestatic 72, 3) := by decide +kernel
theorem dL_law_43 : decode cL_law 43 = .ok (.ifCond .eq 22, 3) := by decide +kernel
theorem dL_law_46 : decode cL_law 46 = .ok (.iload 4, 2) := by decide +kernel
theorem dL_law_48 : decode cL_law 48 = .ok (.bipush 6, 2) := by decide +kernel
theorem dL_law_50 : decode cL_law 50 = .ok (.irem, 1) := by decide +kernel
theorem dL_law_51 : decode cL_law 51 = .ok (.ifCond .gt 10, 3) := by decide +kernel
theorem dL_law_54 : decode cL_law 54 = .ok (.aload_n 1, 1) := by decide +kernel
theorem dL_law_55 : decode cL_law 55 = .ok (.invokestatic 76, 3) := by decide +kernel
theorem dL_law_58 : decode cL_law 58 = .ok (.ifCond .eq 7, 3) := by decide +kernel
theorem dL_law_61 : decode cL_law 61 = .ok (.iconst 1, 1) := by decide +kernel
theorem dL_law_62 : decode cL_law 62 = .ok (.goto 4, 3) := by decide +kernel
theorem dL_law_65 : decode cL_law 65 = .ok (.iconst 0, 1) := by decide +kernel
theorem dL_law_66 : decode cL_law 66 = .ok (.istore_n 3, 1) := by decide +kernel
theorem dL_law_67 : decode cL_law 67 = .ok (.iinc 4 1, 3) := by decide +kernel
theorem dL_law_70 : decode cL_law 70 = .ok (.goto (-49), 3) := by decide +kernel
theorem dL_law_73 : decode cL_law 73 = .ok (.iload_n 3, 1) := by decide +kernel
theorem dL_law_74 : decode cL_law 74 = .ok (.ifCond .eq 28, 3) := by decide +kernel
theorem dL_law_77 : decode cL_law 77 = .ok (.aload_n 1, 1) := by decide +kernel
theorem dL_law_78 : decode cL_law 78 = .ok (.invokestatic 76, 3) := by decide +kernel
theorem dL_law_81 : decode cL_law 81 = .ok (.ifCond .eq 21, 3) := by decide +kernel
theorem dL_law_84 : decode cL_law 84 = .ok (.aload_n 1, 1) := by decide +kernel
theorem dL_law_85 : decode cL_law 85 = .ok (.aload_n 2, 1) := by decide +kernel
theorem dL_law_86 : decode cL_law 86 = .ok (.aload_n 0, 1) := by decide +kernel
theorem dL_law_87 : decode cL_law 87 = .ok (.bipush 48, 2) := by decide +kernel
theorem dL_law_89 : decode cL_law 89 = .ok (.invokestatic 68, 3) := by decide +kernel
theorem dL_law_92 : decode cL_law 92 = .ok (.invokestatic 79, 3) := by decide +kernel
theorem dL_law_95 : decode cL_law 95 = .ok (.ifCond .eq 7, 3) := by decide +kernel
theorem dL_law_98 : decode cL_law 98 = .ok (.iconst 1, 1) := by decide +kernel
theorem dL_law_99 : decode cL_law 99 = .ok (.goto 4, 3) := by decide +kernel
theorem dL_law_102 : decode cL_law 102 = .ok (.iconst 0, 1) := by decide +kernel
theorem dL_law_103 : decode cL_law 103 = .ok (.ireturn, 1) := by decide +kernel
abbrev vwCl : List vw_C := [(RX0, TX0, 7), (RX1, TX1, 2), (RX2, TX2, 2), (RX3, TX3, 2), (RX4, TX4, 2), (RX5, TX5, 8), (RX6, TX6, 2), (RX7, TX7, 6)]
