theorem dL_refused_408 : decode cL_refused 408 = .ok (.istore_n 3, 1) := by decide +kernel
theorem dL_refused_409 : decode cL_refused 409 = .ok (.goto 60, 3) := by decide +kernel
theorem dL_refused_412 : decode cL_refused 412 = .ok (.iload_n 3, 1) := by decide +kernel
theorem dL_refused_413 : decode cL_refused 413 = .ok (.ifCond .eq 54, 3) := by decide +kernel
theorem dL_refused_416 : decode cL_refused 416 = .ok (.aload_n 0, 1) := by decide +kernel
theorem dL_refused_417 : decode cL_refused 417 = .ok (.iload 4, 2) := by decide +kernel
theorem dL_refused_419 : decode cL_refused 419 = .ok (.iconst 0, 1) := by decide +kernel
theorem dL_refused_420 : decode cL_refused 420 = .ok (.invokevirtual 44, 3) := by decide +kernel
theorem dL_refused_423 : decode cL_refused 423 = .ok (.bipush (-3), 2) := by decide +kernel
theorem dL_refused_425 : decode cL_refused 425 = .ok (.if_icmp .ne 42, 3) := by decide +kernel
theorem dL_refused_428 : decode cL_refused 428 = .ok (.aload_n 0, 1) := by decide +kernel
theorem dL_refused_429 : decode cL_refused 429 = .ok (.iconst 2, 1) := by decide +kernel
theorem dL_refused_430 : decode cL_refused 430 = .ok (.iload 7, 2) := by decide +kernel
theorem dL_refused_432 : decode cL_refused 432 = .ok (.bipush (-4), 2) := by decide +kernel
theorem dL_refused_434 : decode cL_refused 434 = .ok (.invokestatic 140, 3) := by decide +kernel
theorem dL_refused_437 : decode cL_refused 437 = .ok (.ifCond .eq 30, 3) := by decide +kernel
theorem dL_refused_440 : decode cL_refused 440 = .ok (.aload_n 0, 1) := by decide +kernel
theorem dL_refused_441 : decode cL_refused 441 = .ok (.iload 4, 2) := by decide +kernel
theorem dL_refused_443 : decode cL_refused 443 = .ok (.invokevirtual 47, 3) := by decide +kernel
theorem dL_refused_446 : decode cL_refused 446 = .ok (.bipush (-3), 2) := by decide +kernel
theorem dL_refused_448 : decode cL_refused 448 = .ok (.if_icmp .ne 19, 3) := by decide +kernel
theorem dL_refused_451 : decode cL_refused 451 = .ok (.aload_n 0, 1) := by decide +kernel
theorem dL_refused_452 : decode cL_refused 452 = .ok (.iconst 2, 1) := by decide +kernel
theorem dL_refused_453 : decode cL_refused 453 = .ok (.iload 7, 2) := by decide +kernel
theorem dL_refused_455 : decode cL_refused 455 = .ok (.bipush (-4), 2) := by decide +kernel
theorem dL_refused_457 : decode cL_refused 457 = .ok (.invokestatic 140, 3) := by decide +kernel
theorem dL_refused_460 : decode cL_refused 460 = .ok (.ifCond .eq 7, 3) := by decide +kernel
theorem dL_refused_463 : decode cL_refused 463 = .ok (.iconst 1, 1) := by decide +kernel
theorem dL_refused_464 : decode cL_refused 464 = .ok (.goto 4, 3) := by decide +kernel
theorem dL_refused_467 : decode cL_refused 467 = .ok (.iconst 0, 1) := by decide +kernel
theorem dL_refused_468 : decode cL_refused 468 = .ok (.istore_n 3, 1) := by decide +kernel
theorem dL_refused_469 : decode cL_refused 469 = .ok (.iinc 4 1, 3) := by decide +kernel
theorem dL_refused_472 : decode cL_refused 472 = .ok (.goto (-258), 3) := by decide +kernel
theorem dL_refused_475 : decode cL_refused 475 = .ok (.iload_n 3, 1) := by decide +kernel
theorem dL_refused_476 : decode cL_refused 476 = .ok (.ifCond .eq 349, 3) := by decide +kernel
theorem dL_refused_479 : decode cL_refused 479 = .ok (.aload_n 0, 1) := by decide +kernel
theorem dL_refused_480 : decode cL_refused 480 = .ok (.iconst 4, 1) := by decide +kernel
theorem dL_refused_481 : decode cL_refused 481 = .ok (.iconst 4, 1) := by decide +kernel
theorem dL_refused_482 : decode cL_refused 482 = .ok (.iconst 1, 1) := by decide +kernel
theorem dL_refused_483 : decode cL_refused 483 = .ok (.invokevirtual 50, 3) := by decide +kernel
theorem dL_refused_486 : decode cL_refused 486 = .ok (.bipush (-3), 2) := by decide +kernel
theorem dL_refused_488 : decode cL_refused 488 = .ok (.if_icmp .ne 337, 3) := by decide +kernel
theorem dL_refused_491 : decode cL_refused 491 = .ok (.aload_n 0, 1) := by decide +kernel
theorem dL_refused_492 : decode cL_refused 492 = .ok (.iconst 5, 1) := by decide +kernel
theorem dL_refused_493 : decode cL_refused 493 = .ok (.bipush 9, 2) := by decide +kernel
theorem dL_refused_495 : decode cL_refused 495 = .ok (.invokevirtual 79, 3) := by decide +kernel
theorem dL_refused_498 : decode cL_refused 498 = .ok (.iconst (-1), 1) := by decide +kernel
theorem dL_refused_499 : decode cL_refused 499 = .ok (.if_icmp .ne 326, 3) := by decide +kernel
theorem dL_refused_502 : decode cL_refused 502 = .ok (.aload_n 0, 1) := by decide +kernel
theorem dL_refused_503 : decode cL_refused 503 = .ok (.iconst (-1), 1) := by decide +kernel
theorem dL_refused_504 : decode cL_refused 504 = .ok (.iconst 0, 1) := by decide +kernel
theorem dL_refused_505 : decode cL_refused 505 = .ok (.invokevirtual 79, 3) := by decide +kernel
theorem dL_refused_508 : decode cL_refused 508 = .ok (.iconst (-1), 1) := by decide +kernel
theorem dL_refused_509 : decode cL_refused 509 = .ok (.if_icmp .ne 316, 3) := by decide +kernel
theorem dL_refused_512 : decode cL_refused 512 = .ok (.aload_n 0, 1) := by decide +kernel
theorem dL_refused_513 : decode cL_refused 513 = .ok (.iconst 0, 1) := by decide +kernel
theorem dL_refused_514 : decode cL_refused 514 = .ok (.bipush 9, 2) := by decide +kernel
theorem dL_refused_516 : decode cL_refused 516 = .ok (.invokevirtual 79, 3) := by decide +kernel
theorem dL_refused_519 : decode cL_refused 519 = .ok (.bipush (-2), 2) := by decide +kernel
theorem dL_refused_521 : decode cL_refused 521 = .ok (.if_icmp .ne 304, 3) := by decide +kernel
theorem dL_refused_524 : decode cL_refused 524 = .ok (.aload_n 0, 1) := by decide +kernel
theorem dL_refused_525 : decode cL_refused 525 = .ok (.iconst 0, 1) := by decide +kernel
theorem dL_refused_526 : decode cL_refused 526 = .ok (.iconst (-1), 1) := by decide +kernel
theorem dL_refused_527 : decode cL_refused 527 = .ok (.invokevirtual 79, 3) := by decide +kernel
theorem dL_refused_530 : decode cL_refused 530 = .ok (.bipush (-2), 2) := by decide +kernel
theorem dL_refused_532 : decode cL_refused 532 = .ok (.if_icmp .ne 293, 3) := by decide +kernel
theorem dL_refused_535 : decode cL_refused 535 = .ok (.aload_n 0, 1) := by decide +kernel
theorem dL_refused_536 : decode cL_refused 536 = .ok (.iconst 5, 1) := by decide +kernel
theorem dL_refused_537 : decode cL_refused 537 = .ok (.iconst 0, 1) := by decide +kernel
theorem dL_refused_538 : decode cL_refused 538 = .ok (.bipush 9, 2) := by decide +kernel
theorem dL_refused_540 : decode cL_refused 540 = .ok (.invokevirtual 82, 3) := by decide +kernel
theorem dL_refused_543 : decode cL_refused 543 = .ok (.iconst (-1), 1) := by decide +kernel
theorem dL_refused_544 : decode cL_refused 544 = .ok (.if_icmp .ne 281, 3) := by decide +kernel
theorem dL_refused_547 : decode cL_refused 547 = .ok (.aload_n 0, 1) := by decide +kernel
theorem dL_refused_548 : decode cL_refused 548 = .ok (.iconst 0, 1) := by decide +kernel
theorem dL_refused_549 : decode cL_refused 549 = .ok (.bipush 12, 2) := by decide +kernel
theorem dL_refused_551 : decode cL_refused 551 = .ok (.bipush 9, 2) := by decide +kernel
theorem dL_refused_553 : decode cL_refused 553 = .ok (.invokevirtual 82, 3) := by decide +kernel
theorem dL_refused_556 : decode cL_refused 556 = .ok (.iconst (-1), 1) := by decide +kernel
theorem dL_refused_557 : decode cL_refused 557 = .ok (.if_icmp .ne 268, 3) := by decide +kernel
theorem dL_refused_560 : decode cL_refused 560 = .ok (.aload_n 0, 1) := by decide +kernel
theorem dL_refused_561 : decode cL_refused 561 = .ok (.iconst 0, 1) := by decide +kernel
theorem dL_refused_562 : decode cL_refused 562 = .ok (.iconst (-1), 1) := by decide +kernel
theorem dL_refused_563 : decode cL_refused 563 = .ok (.iconst 0, 1) := by decide +kernel
theorem dL_refused_564 : decode cL_refused 564 = .ok (.invokevirtual 82, 3) := by decide +kernel
theorem dL_refused_567 : decode cL_refused 567 = .ok (.iconst (-1), 1) := by decide +kernel
theorem dL_refused_568 : decode cL_refused 568 = .ok (.if_icmp .ne 257, 3) := by decide +kernel
theorem dL_refused_571 : decode cL_refused 571 = .ok (.aload_n 0, 1) := by decide +kernel
theorem dL_refused_572 : decode cL_refused 572 = .ok (.iconst 0, 1) := by decide +kernel
theorem dL_refused_573 : decode cL_refused 573 = .ok (.iconst 4, 1) := by decide +kernel
theorem dL_refused_574 : decode cL_refused 574 = .ok (.invokevirtual 79, 3) := by decide +kernel
theorem dL_refused_577 : decode cL_refused 577 = .ok (.ifCond .eq 27, 3) := by decide +kernel
theorem dL_refused_580 : decode cL_refused 580 = .ok (.aload_n 0, 1) := by decide +kernel
theorem dL_refused_581 : decode cL_refused 581 = .ok (.iconst 0, 1) := by decide +kernel
theorem dL_refused_582 : decode cL_refused 582 = .ok (.iconst 0, 1) := by decide +kernel
theorem dL_refused_583 : decode cL_refused 583 = .ok (.iconst 2, 1) := by decide +kernel
theorem dL_refused_584 : decode cL_refused 584 = .ok (.invokevirtual 82, 3) := by decide +kernel
theorem dL_refused_587 : decode cL_refused 587 = .ok (.bipush (-2), 2) := by decide +kernel
theorem dL_refused_589 : decode cL_refused 589 = .ok (.if_icmp .ne 236, 3) := by decide +kernel
theorem dL_refused_592 : decode cL_refused 592 = .ok (.aload_n 0, 1) := by decide +kernel
theorem dL_refused_593 : decode cL_refused 593 = .ok (.iconst 0, 1) := by decide +kernel
theorem dL_refused_594 : decode cL_refused 594 = .ok (.iconst 0, 1) := by decide +kernel
theorem dL_refused_595 : decode cL_refused 595 = .ok (.iconst (-1), 1) := by decide +kernel
theorem dL_refused_596 : decode cL_refused 596 = .ok (.invokevirtual 82, 3) := by decide +kernel
theorem dL_refused_599 : decode cL_refused 599 = .ok (.bipush (-2), 2) := by decide +kernel
theorem dL_refused_601 : decode cL_refused 601 = .ok (.if_icmp .ne 224, 3) := by decide +kernel
theorem dL_refused_604 : decode cL_refused 604 = .ok (.aload_n 0, 1) := by decide +kernel
theorem dL_refused_605 : decode cL_refused 605 = .ok (.iconst 5, 1) := by decide +kernel
theorem dL_refused_606 : decode cL_refused 606 = .ok (.iconst 0, 1) := by decide +kernel
theorem dL_refused_607 : decode cL_refused 607 = .ok (.invokevirtual 88, 3) := by decide +kernel
