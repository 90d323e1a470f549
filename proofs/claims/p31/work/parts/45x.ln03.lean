theorem dL_step_364 : decode cL_step 364 = .ok (.if_icmp .ne 7, 3) := by decide +kernel
theorem dL_step_367 : decode cL_step 367 = .ok (.iconst 1, 1) := by decide +kernel
theorem dL_step_368 : decode cL_step 368 = .ok (.goto 43, 3) := by decide +kernel
theorem dL_step_371 : decode cL_step 371 = .ok (.iconst 0, 1) := by decide +kernel
theorem dL_step_372 : decode cL_step 372 = .ok (.goto 39, 3) := by decide +kernel
theorem dL_step_375 : decode cL_step 375 = .ok (.iload 9, 2) := by decide +kernel
theorem dL_step_377 : decode cL_step 377 = .ok (.aload_n 1, 1) := by decide +kernel
theorem dL_step_378 : decode cL_step 378 = .ok (.iconst 1, 1) := by decide +kernel
theorem dL_step_379 : decode cL_step 379 = .ok (.iaload, 1) := by decide +kernel
theorem dL_step_380 : decode cL_step 380 = .ok (.iconst 1, 1) := by decide +kernel
theorem dL_step_381 : decode cL_step 381 = .ok (.isub, 1) := by decide +kernel
theorem dL_step_382 : decode cL_step 382 = .ok (.if_icmp .ne 28, 3) := by decide +kernel
theorem dL_step_385 : decode cL_step 385 = .ok (.aload_n 0, 1) := by decide +kernel
theorem dL_step_386 : decode cL_step 386 = .ok (.iload 9, 2) := by decide +kernel
theorem dL_step_388 : decode cL_step 388 = .ok (.iconst 1, 1) := by decide +kernel
theorem dL_step_389 : decode cL_step 389 = .ok (.invokevirtual 70, 3) := by decide +kernel
theorem dL_step_392 : decode cL_step 392 = .ok (.ifCond .ne 18, 3) := by decide +kernel
theorem dL_step_395 : decode cL_step 395 = .ok (.aload_n 0, 1) := by decide +kernel
theorem dL_step_396 : decode cL_step 396 = .ok (.iload 9, 2) := by decide +kernel
theorem dL_step_398 : decode cL_step 398 = .ok (.iconst 2, 1) := by decide +kernel
theorem dL_step_399 : decode cL_step 399 = .ok (.invokevirtual 70, 3) := by decide +kernel
theorem dL_step_402 : decode cL_step 402 = .ok (.iconst (-1), 1) := by decide +kernel
theorem dL_step_403 : decode cL_step 403 = .ok (.if_icmp .ne 7, 3) := by decide +kernel
theorem dL_step_406 : decode cL_step 406 = .ok (.iconst 1, 1) := by decide +kernel
theorem dL_step_407 : decode cL_step 407 = .ok (.goto 4, 3) := by decide +kernel
theorem dL_step_410 : decode cL_step 410 = .ok (.iconst 0, 1) := by decide +kernel
theorem dL_step_411 : decode cL_step 411 = .ok (.ireturn, 1) := by decide +kernel
theorem dL_step_412 : decode cL_step 412 = .ok (.aload_n 0, 1) := by decide +kernel
theorem dL_step_413 : decode cL_step 413 = .ok (.iload 5, 2) := by decide +kernel
theorem dL_step_415 : decode cL_step 415 = .ok (.iload 4, 2) := by decide +kernel
theorem dL_step_417 : decode cL_step 417 = .ok (.iconst 4, 1) := by decide +kernel
theorem dL_step_418 : decode cL_step 418 = .ok (.irem, 1) := by decide +kernel
theorem dL_step_419 : decode cL_step 419 = .ok (.iconst 1, 1) := by decide +kernel
theorem dL_step_420 : decode cL_step 420 = .ok (.iload 4, 2) := by decide +kernel
theorem dL_step_422 : decode cL_step 422 = .ok (.iconst 4, 1) := by decide +kernel
theorem dL_step_423 : decode cL_step 423 = .ok (.idiv, 1) := by decide +kernel
theorem dL_step_424 : decode cL_step 424 = .ok (.iconst 4, 1) := by decide +kernel
theorem dL_step_425 : decode cL_step 425 = .ok (.irem, 1) := by decide +kernel
theorem dL_step_426 : decode cL_step 426 = .ok (.iadd, 1) := by decide +kernel
theorem dL_step_427 : decode cL_step 427 = .ok (.iload 4, 2) := by decide +kernel
theorem dL_step_429 : decode cL_step 429 = .ok (.bipush 16, 2) := by decide +kernel
theorem dL_step_431 : decode cL_step 431 = .ok (.idiv, 1) := by decide +kernel
theorem dL_step_432 : decode cL_step 432 = .ok (.iconst 2, 1) := by decide +kernel
theorem dL_step_433 : decode cL_step 433 = .ok (.irem, 1) := by decide +kernel
theorem dL_step_434 : decode cL_step 434 = .ok (.ifCond .ne 7, 3) := by decide +kernel
theorem dL_step_437 : decode cL_step 437 = .ok (.iconst 1, 1) := by decide +kernel
theorem dL_step_438 : decode cL_step 438 = .ok (.goto 4, 3) := by decide +kernel
theorem dL_step_441 : decode cL_step 441 = .ok (.iconst 0, 1) := by decide +kernel
theorem dL_step_442 : decode cL_step 442 = .ok (.invokestatic 73, 3) := by decide +kernel
theorem dL_step_445 : decode cL_step 445 = .ok (.ireturn, 1) := by decide +kernel
theorem dL_step_446 : decode cL_step 446 = .ok (.aload_n 0, 1) := by decide +kernel
theorem dL_step_447 : decode cL_step 447 = .ok (.iload 4, 2) := by decide +kernel
theorem dL_step_449 : decode cL_step 449 = .ok (.bipush 16, 2) := by decide +kernel
theorem dL_step_451 : decode cL_step 451 = .ok (.irem, 1) := by decide +kernel
theorem dL_step_452 : decode cL_step 452 = .ok (.invokevirtual 77, 3) := by decide +kernel
theorem dL_step_455 : decode cL_step 455 = .ok (.istore 10, 2) := by decide +kernel
theorem dL_step_457 : decode cL_step 457 = .ok (.iload 10, 2) := by decide +kernel
theorem dL_step_459 : decode cL_step 459 = .ok (.aload_n 1, 1) := by decide +kernel
theorem dL_step_460 : decode cL_step 460 = .ok (.iconst 4, 1) := by decide +kernel
theorem dL_step_461 : decode cL_step 461 = .ok (.iaload, 1) := by decide +kernel
theorem dL_step_462 : decode cL_step 462 = .ok (.if_icmp .ne 7, 3) := by decide +kernel
theorem dL_step_465 : decode cL_step 465 = .ok (.iconst 1, 1) := by decide +kernel
theorem dL_step_466 : decode cL_step 466 = .ok (.goto 4, 3) := by decide +kernel
theorem dL_step_469 : decode cL_step 469 = .ok (.iconst 0, 1) := by decide +kernel
theorem dL_step_470 : decode cL_step 470 = .ok (.istore 11, 2) := by decide +kernel
theorem dL_step_472 : decode cL_step 472 = .ok (.aload_n 1, 1) := by decide +kernel
theorem dL_step_473 : decode cL_step 473 = .ok (.iconst 4, 1) := by decide +kernel
theorem dL_step_474 : decode cL_step 474 = .ok (.iload 4, 2) := by decide +kernel
theorem dL_step_476 : decode cL_step 476 = .ok (.bipush 16, 2) := by decide +kernel
theorem dL_step_478 : decode cL_step 478 = .ok (.irem, 1) := by decide +kernel
theorem dL_step_479 : decode cL_step 479 = .ok (.iastore, 1) := by decide +kernel
theorem dL_step_480 : decode cL_step 480 = .ok (.iload 11, 2) := by decide +kernel
theorem dL_step_482 : decode cL_step 482 = .ok (.ifCond .eq 30, 3) := by decide +kernel
theorem dL_step_485 : decode cL_step 485 = .ok (.aload_n 0, 1) := by decide +kernel
theorem dL_step_486 : decode cL_step 486 = .ok (.iload 5, 2) := by decide +kernel
theorem dL_step_488 : decode cL_step 488 = .ok (.iconst 0, 1) := by decide +kernel
theorem dL_step_489 : decode cL_step 489 = .ok (.iconst 1, 1) := by decide +kernel
theorem dL_step_490 : decode cL_step 490 = .ok (.invokevirtual 63, 3) := by decide +kernel
theorem dL_step_493 : decode cL_step 493 = .ok (.aload_n 0, 1) := by decide +kernel
theorem dL_step_494 : decode cL_step 494 = .ok (.iload 5, 2) := by decide +kernel
theorem dL_step_496 : decode cL_step 496 = .ok (.iconst 0, 1) := by decide +kernel
theorem dL_step_497 : decode cL_step 497 = .ok (.iconst 0, 1) := by decide +kernel
theorem dL_step_498 : decode cL_step 498 = .ok (.invokevirtual 63, 3) := by decide +kernel
theorem dL_step_501 : decode cL_step 501 = .ok (.aload_n 1, 1) := by decide +kernel
theorem dL_step_502 : decode cL_step 502 = .ok (.iconst 4, 1) := by decide +kernel
theorem dL_step_503 : decode cL_step 503 = .ok (.iaload, 1) := by decide +kernel
theorem dL_step_504 : decode cL_step 504 = .ok (.isub, 1) := by decide +kernel
theorem dL_step_505 : decode cL_step 505 = .ok (.if_icmp .ne 7, 3) := by decide +kernel
theorem dL_step_508 : decode cL_step 508 = .ok (.iconst 1, 1) := by decide +kernel
theorem dL_step_509 : decode cL_step 509 = .ok (.goto 4, 3) := by decide +kernel
theorem dL_step_512 : decode cL_step 512 = .ok (.iconst 0, 1) := by decide +kernel
theorem dL_step_513 : decode cL_step 513 = .ok (.ireturn, 1) := by decide +kernel
theorem dL_step_514 : decode cL_step 514 = .ok (.aload_n 1, 1) := by decide +kernel
theorem dL_step_515 : decode cL_step 515 = .ok (.iconst 3, 1) := by decide +kernel
theorem dL_step_516 : decode cL_step 516 = .ok (.dup2, 1) := by decide +kernel
theorem dL_step_517 : decode cL_step 517 = .ok (.iaload, 1) := by decide +kernel
theorem dL_step_518 : decode cL_step 518 = .ok (.iconst 1, 1) := by decide +kernel
theorem dL_step_519 : decode cL_step 519 = .ok (.iadd, 1) := by decide +kernel
theorem dL_step_520 : decode cL_step 520 = .ok (.iastore, 1) := by decide +kernel
theorem dL_step_521 : decode cL_step 521 = .ok (.aload_n 1, 1) := by decide +kernel
theorem dL_step_522 : decode cL_step 522 = .ok (.iconst 3, 1) := by decide +kernel
theorem dL_step_523 : decode cL_step 523 = .ok (.iaload, 1) := by decide +kernel
theorem dL_step_524 : decode cL_step 524 = .ok (.iconst 3, 1) := by decide +kernel
theorem dL_step_525 : decode cL_step 525 = .ok (.if_icmp .gt 12, 3) := by decide +kernel
theorem dL_step_528 : decode cL_step 528 = .ok (.aload_n 0, 1) := by decide +kernel
theorem dL_step_529 : decode cL_step 529 = .ok (.iload 5, 2) := by decide +kernel
theorem dL_step_531 : decode cL_step 531 = .ok (.invokestatic 80, 3) := by decide +kernel
theorem dL_step_534 : decode cL_step 534 = .ok (.ifCond .eq 7, 3) := by decide +kernel
theorem dL_step_537 : decode cL_step 537 = .ok (.iconst 1, 1) := by decide +kernel
theorem dL_step_538 : decode cL_step 538 = .ok (.goto 4, 3) := by decide +kernel
theorem dL_step_541 : decode cL_step 541 = .ok (.iconst 0, 1) := by decide +kernel
theorem dL_step_542 : decode cL_step 542 = .ok (.ireturn, 1) := by decide +kernel
theorem dL_step_543 : decode cL_step 543 = .ok (.aload_n 0, 1) := by decide +kernel
theorem dL_step_544 : decode cL_step 544 = .ok (.iload 6, 2) := by decide +kernel
theorem dL_step_546 : decode cL_step 546 = .ok (.iconst 1, 1) := by decide +kernel
theorem dL_step_547 : decode cL_step 547 = .ok (.invokevirtual 70, 3) := by decide +kernel
theorem dL_step_550 : decode cL_step 550 = .ok (.istore 12, 2) := by decide +kernel
theorem dL_step_552 : decode cL_step 552 = .ok (.aload_n 0, 1) := by decide +kernel
theorem dL_step_553 : decode cL_step 553 = .ok (.iload 6, 2) := by decide +kernel
theorem dL_step_555 : decode cL_step 555 = .ok (.iload 7, 2) := by decide +kernel
theorem dL_step_557 : decode cL_step 557 = .ok (.iconst 0, 1) := by decide +kernel
theorem dL_step_558 : decode cL_step 558 = .ok (.invokestatic 66, 3) := by decide +kernel
theorem dL_step_561 : decode cL_step 561 = .ok (.istore 13, 2) := by decide +kernel
theorem dL_step_563 : decode cL_step 563 = .ok (.iload 13, 2) := by decide +kernel
theorem dL_step_565 : decode cL_step 565 = .ok (.sipush (-200), 3) := by decide +kernel
theorem dL_step_568 : decode cL_step 568 = .ok (.if_icmp .ne 23, 3) := by decide +kernel
theorem dL_step_571 : decode cL_step 571 = .ok (.aload_n 0, 1) := by decide +kernel
theorem dL_step_572 : decode cL_step 572 = .ok (.iload 6, 2) := by decide +kernel
theorem dL_step_574 : decode cL_step 574 = .ok (.iconst 1, 1) := by decide +kernel
theorem dL_step_575 : decode cL_step 575 = .ok (.invokevirtual 70, 3) := by decide +kernel
theorem dL_step_578 : decode cL_step 578 = .ok (.iload 12, 2) := by decide +kernel
theorem dL_step_580 : decode cL_step 580 = .ok (.if_icmp .ne 7, 3) := by decide +kernel
theorem dL_step_583 : decode cL_step 583 = .ok (.iconst 1, 1) := by decide +kernel
theorem dL_step_584 : decode cL_step 584 = .ok (.goto 74, 3) := by decide +kernel
theorem dL_step_587 : decode cL_step 587 = .ok (.iconst 0, 1) := by decide +kernel
theorem dL_step_588 : decode cL_step 588 = .ok (.goto 70, 3) := by decide +kernel
theorem dL_step_591 : decode cL_step 591 = .ok (.iload 12, 2) := by decide +kernel
theorem dL_step_593 : decode cL_step 593 = .ok (.iconst 2, 1) := by decide +kernel
theorem dL_step_594 : decode cL_step 594 = .ok (.if_icmp .ge 63, 3) := by decide +kernel
theorem dL_step_597 : decode cL_step 597 = .ok (.aload_n 0, 1) := by decide +kernel
theorem dL_step_598 : decode cL_step 598 = .ok (.iload 6, 2) := by decide +kernel
theorem dL_step_600 : decode cL_step 600 = .ok (.iconst 1, 1) := by decide +kernel
theorem dL_step_601 : decode cL_step 601 = .ok (.invokevirtual 70, 3) := by decide +kernel
theorem dL_step_604 : decode cL_step 604 = .ok (.iload 12, 2) := by decide +kernel
theorem dL_step_606 : decode cL_step 606 = .ok (.iconst 1, 1) := by decide +kernel
theorem dL_step_607 : decode cL_step 607 = .ok (.iadd, 1) := by decide +kernel
theorem dL_step_608 : decode cL_step 608 = .ok (.if_icmp .ne 49, 3) := by decide +kernel
theorem dL_step_611 : decode cL_step 611 = .ok (.iload 13, 2) := by decide +kernel
theorem dL_step_613 : decode cL_step 613 = .ok (.aload_n 0, 1) := by decide +kernel
theorem dL_step_614 : decode cL_step 614 = .ok (.iload 7, 2) := by decide +kernel
theorem dL_step_616 : decode cL_step 616 = .ok (.iconst 0, 1) := by decide +kernel
theorem dL_step_617 : decode cL_step 617 = .ok (.invokevirtual 84, 3) := by decide +kernel
theorem dL_step_620 : decode cL_step 620 = .ok (.iconst 1, 1) := by decide +kernel
theorem dL_step_621 : decode cL_step 621 = .ok (.isub, 1) := by decide +kernel
theorem dL_step_622 : decode cL_step 622 = .ok (.if_icmp .ne 35, 3) := by decide +kernel
theorem dL_step_625 : decode cL_step 625 = .ok (.aload_n 0, 1) := by decide +kernel
theorem dL_step_626 : decode cL_step 626 = .ok (.iload 7, 2) := by decide +kernel
theorem dL_step_628 : decode cL_step 628 = .ok (.iload 13, 2) := by decide +kernel
theorem dL_step_630 : decode cL_step 630 = .ok (.invokevirtual 87, 3) := by decide +kernel
theorem dL_step_633 : decode cL_step 633 = .ok (.iload 6, 2) := by decide +kernel
theorem dL_step_635 : decode cL_step 635 = .ok (.if_icmp .ne 22, 3) := by decide +kernel
