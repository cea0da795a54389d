theorem dL_law_420 : decode cL_law 420 = .ok (.aload_n 1, 1) := by decide +kernel
theorem dL_law_421 : decode cL_law 421 = .ok (.invokevirtual 153, 3) := by decide +kernel
theorem dL_law_424 : decode cL_law 424 = .ok (.bipush (-4), 2) := by decide +kernel
theorem dL_law_426 : decode cL_law 426 = .ok (.if_icmp .eq 5, 3) := by decide +kernel
theorem dL_law_429 : decode cL_law 429 = .ok (.iconst 0, 1) := by decide +kernel
theorem dL_law_430 : decode cL_law 430 = .ok (.ireturn, 1) := by decide +kernel
theorem dL_law_431 : decode cL_law 431 = .ok (.aload_n 1, 1) := by decide +kernel
theorem dL_law_432 : decode cL_law 432 = .ok (.invokevirtual 156, 3) := by decide +kernel
theorem dL_law_435 : decode cL_law 435 = .ok (.ifCond .ne 30, 3) := by decide +kernel
theorem dL_law_438 : decode cL_law 438 = .ok (.aload_n 1, 1) := by decide +kernel
theorem dL_law_439 : decode cL_law 439 = .ok (.bipush 10, 2) := by decide +kernel
theorem dL_law_441 : decode cL_law 441 = .ok (.invokevirtual 76, 3) := by decide +kernel
theorem dL_law_444 : decode cL_law 444 = .ok (.ifCond .ne 21, 3) := by decide +kernel
theorem dL_law_447 : decode cL_law 447 = .ok (.aload_n 1, 1) := by decide +kernel
theorem dL_law_448 : decode cL_law 448 = .ok (.invokevirtual 41, 3) := by decide +kernel
theorem dL_law_451 : decode cL_law 451 = .ok (.bipush (-4), 2) := by decide +kernel
theorem dL_law_453 : decode cL_law 453 = .ok (.if_icmp .ne 12, 3) := by decide +kernel
theorem dL_law_456 : decode cL_law 456 = .ok (.aload_n 1, 1) := by decide +kernel
theorem dL_law_457 : decode cL_law 457 = .ok (.invokevirtual 153, 3) := by decide +kernel
theorem dL_law_460 : decode cL_law 460 = .ok (.bipush (-4), 2) := by decide +kernel
theorem dL_law_462 : decode cL_law 462 = .ok (.if_icmp .eq 5, 3) := by decide +kernel
theorem dL_law_465 : decode cL_law 465 = .ok (.iconst 0, 1) := by decide +kernel
theorem dL_law_466 : decode cL_law 466 = .ok (.ireturn, 1) := by decide +kernel
theorem dL_law_467 : decode cL_law 467 = .ok (.new 18, 3) := by decide +kernel
theorem dL_law_470 : decode cL_law 470 = .ok (.dup, 1) := by decide +kernel
theorem dL_law_471 : decode cL_law 471 = .ok (.invokespecial 152, 3) := by decide +kernel
theorem dL_law_474 : decode cL_law 474 = .ok (.astore_n 2, 1) := by decide +kernel
theorem dL_law_475 : decode cL_law 475 = .ok (.aload_n 2, 1) := by decide +kernel
theorem dL_law_476 : decode cL_law 476 = .ok (.aload_n 0, 1) := by decide +kernel
theorem dL_law_477 : decode cL_law 477 = .ok (.invokestatic 162, 3) := by decide +kernel
theorem dL_law_480 : decode cL_law 480 = .ok (.ifCond .ne 5, 3) := by decide +kernel
theorem dL_law_483 : decode cL_law 483 = .ok (.iconst 0, 1) := by decide +kernel
theorem dL_law_484 : decode cL_law 484 = .ok (.ireturn, 1) := by decide +kernel
theorem dL_law_485 : decode cL_law 485 = .ok (.aload_n 2, 1) := by decide +kernel
theorem dL_law_486 : decode cL_law 486 = .ok (.invokestatic 136, 3) := by decide +kernel
theorem dL_law_489 : decode cL_law 489 = .ok (.lstore_n 3, 1) := by decide +kernel
theorem dL_law_490 : decode cL_law 490 = .ok (.aload_n 2, 1) := by decide +kernel
theorem dL_law_491 : decode cL_law 491 = .ok (.invokestatic 136, 3) := by decide +kernel
theorem dL_law_494 : decode cL_law 494 = .ok (.lload_n 3, 1) := by decide +kernel
theorem dL_law_495 : decode cL_law 495 = .ok (.lcmp, 1) := by decide +kernel
theorem dL_law_496 : decode cL_law 496 = .ok (.ifCond .ne 10, 3) := by decide +kernel
theorem dL_law_499 : decode cL_law 499 = .ok (.aload_n 2, 1) := by decide +kernel
theorem dL_law_500 : decode cL_law 500 = .ok (.invokestatic 166, 3) := by decide +kernel
theorem dL_law_503 : decode cL_law 503 = .ok (.ifCond .ne 5, 3) := by decide +kernel
theorem dL_law_506 : decode cL_law 506 = .ok (.iconst 0, 1) := by decide +kernel
theorem dL_law_507 : decode cL_law 507 = .ok (.ireturn, 1) := by decide +kernel
theorem dL_law_508 : decode cL_law 508 = .ok (.aload_n 2, 1) := by decide +kernel
theorem dL_law_509 : decode cL_law 509 = .ok (.invokevirtual 159, 3) := by decide +kernel
theorem dL_law_512 : decode cL_law 512 = .ok (.istore 5, 2) := by decide +kernel
theorem dL_law_514 : decode cL_law 514 = .ok (.iload 5, 2) := by decide +kernel
theorem dL_law_516 : decode cL_law 516 = .ok (.aload_n 2, 1) := by decide +kernel
theorem dL_law_517 : decode cL_law 517 = .ok (.bipush 10, 2) := by decide +kernel
theorem dL_law_519 : decode cL_law 519 = .ok (.invokevirtual 76, 3) := by decide +kernel
theorem dL_law_522 : decode cL_law 522 = .ok (.if_icmp .ne 12, 3) := by decide +kernel
theorem dL_law_525 : decode cL_law 525 = .ok (.aload_n 2, 1) := by decide +kernel
theorem dL_law_526 : decode cL_law 526 = .ok (.invokestatic 136, 3) := by decide +kernel
theorem dL_law_529 : decode cL_law 529 = .ok (.lload_n 3, 1) := by decide +kernel
theorem dL_law_530 : decode cL_law 530 = .ok (.lcmp, 1) := by decide +kernel
theorem dL_law_531 : decode cL_law 531 = .ok (.ifCond .eq 5, 3) := by decide +kernel
theorem dL_law_534 : decode cL_law 534 = .ok (.iconst 0, 1) := by decide +kernel
theorem dL_law_535 : decode cL_law 535 = .ok (.ireturn, 1) := by decide +kernel
theorem dL_law_536 : decode cL_law 536 = .ok (.bipush 11, 2) := by decide +kernel
theorem dL_law_538 : decode cL_law 538 = .ok (.newarray .long, 2) := by decide +kernel
theorem dL_law_540 : decode cL_law 540 = .ok (.astore 6, 2) := by decide +kernel
theorem dL_law_542 : decode cL_law 542 = .ok (.iconst 0, 1) := by decide +kernel
theorem dL_law_543 : decode cL_law 543 = .ok (.istore 7, 2) := by decide +kernel
theorem dL_law_545 : decode cL_law 545 = .ok (.iconst 0, 1) := by decide +kernel
theorem dL_law_546 : decode cL_law 546 = .ok (.istore 8, 2) := by decide +kernel
theorem dL_law_548 : decode cL_law 548 = .ok (.iload 8, 2) := by decide +kernel
theorem dL_law_550 : decode cL_law 550 = .ok (.bipush 10, 2) := by decide +kernel
theorem dL_law_552 : decode cL_law 552 = .ok (.if_icmp .ge 63, 3) := by decide +kernel
theorem dL_law_555 : decode cL_law 555 = .ok (.aload_n 2, 1) := by decide +kernel
theorem dL_law_556 : decode cL_law 556 = .ok (.invokestatic 136, 3) := by decide +kernel
theorem dL_law_559 : decode cL_law 559 = .ok (.lstore 9, 2) := by decide +kernel
theorem dL_law_561 : decode cL_law 561 = .ok (.aload_n 2, 1) := by decide +kernel
theorem dL_law_562 : decode cL_law 562 = .ok (.aload_n 0, 1) := by decide +kernel
theorem dL_law_563 : decode cL_law 563 = .ok (.bipush 20, 2) := by decide +kernel
theorem dL_law_565 : decode cL_law 565 = .ok (.iload 8, 2) := by decide +kernel
theorem dL_law_567 : decode cL_law 567 = .ok (.iadd, 1) := by decide +kernel
theorem dL_law_568 : decode cL_law 568 = .ok (.invokestatic 60, 3) := by decide +kernel
theorem dL_law_571 : decode cL_law 571 = .ok (.iload 8, 2) := by decide +kernel
theorem dL_law_573 : decode cL_law 573 = .ok (.sipush 977, 3) := by decide +kernel
theorem dL_law_576 : decode cL_law 576 = .ok (.imul, 1) := by decide +kernel
theorem dL_law_577 : decode cL_law 577 = .ok (.ixor, 1) := by decide +kernel
theorem dL_law_578 : decode cL_law 578 = .ok (.invokestatic 170, 3) := by decide +kernel
theorem dL_law_581 : decode cL_law 581 = .ok (.ifCond .eq 16, 3) := by decide +kernel
theorem dL_law_584 : decode cL_law 584 = .ok (.aload 6, 2) := by decide +kernel
theorem dL_law_586 : decode cL_law 586 = .ok (.iload 7, 2) := by decide +kernel
theorem dL_law_588 : decode cL_law 588 = .ok (.iinc 7 1, 3) := by decide +kernel
theorem dL_law_591 : decode cL_law 591 = .ok (.lload 9, 2) := by decide +kernel
theorem dL_law_593 : decode cL_law 593 = .ok (.lastore, 1) := by decide +kernel
theorem dL_law_594 : decode cL_law 594 = .ok (.goto 15, 3) := by decide +kernel
theorem dL_law_597 : decode cL_law 597 = .ok (.aload_n 2, 1) := by decide +kernel
theorem dL_law_598 : decode cL_law 598 = .ok (.invokestatic 136, 3) := by decide +kernel
theorem dL_law_601 : decode cL_law 601 = .ok (.lload 9, 2) := by decide +kernel
theorem dL_law_603 : decode cL_law 603 = .ok (.lcmp, 1) := by decide +kernel
theorem dL_law_604 : decode cL_law 604 = .ok (.ifCond .eq 5, 3) := by decide +kernel
theorem dL_law_607 : decode cL_law 607 = .ok (.iconst 0, 1) := by decide +kernel
theorem dL_law_608 : decode cL_law 608 = .ok (.ireturn, 1) := by decide +kernel
theorem dL_law_609 : decode cL_law 609 = .ok (.iinc 8 1, 3) := by decide +kernel
theorem dL_law_612 : decode cL_law 612 = .ok (.goto (-64), 3) := by decide +kernel
theorem dL_law_615 : decode cL_law 615 = .ok (.bipush 8, 2) := by decide +kernel
theorem dL_law_617 : decode cL_law 617 = .ok (.iload 7, 2) := by decide +kernel
theorem dL_law_619 : decode cL_law 619 = .ok (.invokestatic 174, 3) := by decide +kernel
theorem dL_law_622 : decode cL_law 622 = .ok (.istore 8, 2) := by decide +kernel
theorem dL_law_624 : decode cL_law 624 = .ok (.iconst 1, 1) := by decide +kernel
theorem dL_law_625 : decode cL_law 625 = .ok (.istore 9, 2) := by decide +kernel
theorem dL_law_627 : decode cL_law 627 = .ok (.iload 9, 2) := by decide +kernel
theorem dL_law_629 : decode cL_law 629 = .ok (.iload 8, 2) := by decide +kernel
theorem dL_law_631 : decode cL_law 631 = .ok (.if_icmp .gt 53, 3) := by decide +kernel
