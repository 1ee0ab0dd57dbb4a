theorem d_LAW_law_475 : decode code 475 = .ok (.if_icmp .eq (142), 3) := by decide +kernel
theorem d_LAW_law_478 : decode code 478 = .ok (.iconst 0, 1) := by decide +kernel
theorem d_LAW_law_479 : decode code 479 = .ok (.ireturn, 1) := by decide +kernel
theorem d_LAW_law_480 : decode code 480 = .ok (.aload_n 1, 1) := by decide +kernel
theorem d_LAW_law_481 : decode code 481 = .ok (.invokevirtual 70, 3) := by decide +kernel
theorem d_LAW_law_484 : decode code 484 = .ok (.aload_n 2, 1) := by decide +kernel
theorem d_LAW_law_485 : decode code 485 = .ok (.invokevirtual 73, 3) := by decide +kernel
theorem d_LAW_law_488 : decode code 488 = .ok (.if_icmp .eq (129), 3) := by decide +kernel
theorem d_LAW_law_491 : decode code 491 = .ok (.iconst 0, 1) := by decide +kernel
theorem d_LAW_law_492 : decode code 492 = .ok (.ireturn, 1) := by decide +kernel
theorem d_LAW_law_493 : decode code 493 = .ok (.aload_n 1, 1) := by decide +kernel
theorem d_LAW_law_494 : decode code 494 = .ok (.invokevirtual 74, 3) := by decide +kernel
theorem d_LAW_law_497 : decode code 497 = .ok (.aload_n 2, 1) := by decide +kernel
theorem d_LAW_law_498 : decode code 498 = .ok (.invokevirtual 78, 3) := by decide +kernel
theorem d_LAW_law_501 : decode code 501 = .ok (.if_icmp .eq (116), 3) := by decide +kernel
theorem d_LAW_law_504 : decode code 504 = .ok (.iconst 0, 1) := by decide +kernel
theorem d_LAW_law_505 : decode code 505 = .ok (.ireturn, 1) := by decide +kernel
theorem d_LAW_law_506 : decode code 506 = .ok (.aload_n 1, 1) := by decide +kernel
theorem d_LAW_law_507 : decode code 507 = .ok (.invokevirtual 79, 3) := by decide +kernel
theorem d_LAW_law_510 : decode code 510 = .ok (.aload_n 2, 1) := by decide +kernel
theorem d_LAW_law_511 : decode code 511 = .ok (.invokevirtual 82, 3) := by decide +kernel
theorem d_LAW_law_514 : decode code 514 = .ok (.if_icmp .eq (103), 3) := by decide +kernel
theorem d_LAW_law_517 : decode code 517 = .ok (.iconst 0, 1) := by decide +kernel
theorem d_LAW_law_518 : decode code 518 = .ok (.ireturn, 1) := by decide +kernel
theorem d_LAW_law_519 : decode code 519 = .ok (.aload_n 1, 1) := by decide +kernel
theorem d_LAW_law_520 : decode code 520 = .ok (.invokevirtual 83, 3) := by decide +kernel
theorem d_LAW_law_523 : decode code 523 = .ok (.aload_n 2, 1) := by decide +kernel
theorem d_LAW_law_524 : decode code 524 = .ok (.invokevirtual 86, 3) := by decide +kernel
theorem d_LAW_law_527 : decode code 527 = .ok (.if_icmp .eq (90), 3) := by decide +kernel
theorem d_LAW_law_530 : decode code 530 = .ok (.iconst 0, 1) := by decide +kernel
theorem d_LAW_law_531 : decode code 531 = .ok (.ireturn, 1) := by decide +kernel
theorem d_LAW_law_532 : decode code 532 = .ok (.aload_n 1, 1) := by decide +kernel
theorem d_LAW_law_533 : decode code 533 = .ok (.invokevirtual 87, 3) := by decide +kernel
theorem d_LAW_law_536 : decode code 536 = .ok (.aload_n 2, 1) := by decide +kernel
theorem d_LAW_law_537 : decode code 537 = .ok (.invokevirtual 90, 3) := by decide +kernel
theorem d_LAW_law_540 : decode code 540 = .ok (.if_icmp .eq (77), 3) := by decide +kernel
theorem d_LAW_law_543 : decode code 543 = .ok (.iconst 0, 1) := by decide +kernel
theorem d_LAW_law_544 : decode code 544 = .ok (.ireturn, 1) := by decide +kernel
theorem d_LAW_law_545 : decode code 545 = .ok (.aload_n 1, 1) := by decide +kernel
theorem d_LAW_law_546 : decode code 546 = .ok (.invokevirtual 91, 3) := by decide +kernel
theorem d_LAW_law_549 : decode code 549 = .ok (.aload_n 2, 1) := by decide +kernel
theorem d_LAW_law_550 : decode code 550 = .ok (.invokevirtual 94, 3) := by decide +kernel
theorem d_LAW_law_553 : decode code 553 = .ok (.if_icmp .eq (64), 3) := by decide +kernel
theorem d_LAW_law_556 : decode code 556 = .ok (.iconst 0, 1) := by decide +kernel
theorem d_LAW_law_557 : decode code 557 = .ok (.ireturn, 1) := by decide +kernel
theorem d_LAW_law_558 : decode code 558 = .ok (.aload_n 1, 1) := by decide +kernel
theorem d_LAW_law_559 : decode code 559 = .ok (.invokevirtual 95, 3) := by decide +kernel
theorem d_LAW_law_562 : decode code 562 = .ok (.aload_n 2, 1) := by decide +kernel
theorem d_LAW_law_563 : decode code 563 = .ok (.invokevirtual 98, 3) := by decide +kernel
theorem d_LAW_law_566 : decode code 566 = .ok (.if_icmp .eq (51), 3) := by decide +kernel
theorem d_LAW_law_569 : decode code 569 = .ok (.iconst 0, 1) := by decide +kernel
theorem d_LAW_law_570 : decode code 570 = .ok (.ireturn, 1) := by decide +kernel
theorem d_LAW_law_571 : decode code 571 = .ok (.aload_n 1, 1) := by decide +kernel
theorem d_LAW_law_572 : decode code 572 = .ok (.invokevirtual 99, 3) := by decide +kernel
theorem d_LAW_law_575 : decode code 575 = .ok (.aload_n 2, 1) := by decide +kernel
theorem d_LAW_law_576 : decode code 576 = .ok (.invokevirtual 102, 3) := by decide +kernel
theorem d_LAW_law_579 : decode code 579 = .ok (.if_icmp .eq (38), 3) := by decide +kernel
theorem d_LAW_law_582 : decode code 582 = .ok (.iconst 0, 1) := by decide +kernel
theorem d_LAW_law_583 : decode code 583 = .ok (.ireturn, 1) := by decide +kernel
theorem d_LAW_law_584 : decode code 584 = .ok (.aload_n 1, 1) := by decide +kernel
theorem d_LAW_law_585 : decode code 585 = .ok (.aload_n 0, 1) := by decide +kernel
theorem d_LAW_law_586 : decode code 586 = .ok (.iload_n 3, 1) := by decide +kernel
theorem d_LAW_law_587 : decode code 587 = .ok (.iconst 1, 1) := by decide +kernel
theorem d_LAW_law_588 : decode code 588 = .ok (.iadd, 1) := by decide +kernel
theorem d_LAW_law_589 : decode code 589 = .ok (.iaload, 1) := by decide +kernel
theorem d_LAW_law_590 : decode code 590 = .ok (.aload_n 0, 1) := by decide +kernel
theorem d_LAW_law_591 : decode code 591 = .ok (.iload_n 3, 1) := by decide +kernel
theorem d_LAW_law_592 : decode code 592 = .ok (.iconst 2, 1) := by decide +kernel
theorem d_LAW_law_593 : decode code 593 = .ok (.iadd, 1) := by decide +kernel
theorem d_LAW_law_594 : decode code 594 = .ok (.iaload, 1) := by decide +kernel
theorem d_LAW_law_595 : decode code 595 = .ok (.invokevirtual 103, 3) := by decide +kernel
theorem d_LAW_law_598 : decode code 598 = .ok (.aload_n 2, 1) := by decide +kernel
theorem d_LAW_law_599 : decode code 599 = .ok (.aload_n 0, 1) := by decide +kernel
theorem d_LAW_law_600 : decode code 600 = .ok (.iload_n 3, 1) := by decide +kernel
theorem d_LAW_law_601 : decode code 601 = .ok (.iconst 1, 1) := by decide +kernel
theorem d_LAW_law_602 : decode code 602 = .ok (.iadd, 1) := by decide +kernel
theorem d_LAW_law_603 : decode code 603 = .ok (.iaload, 1) := by decide +kernel
theorem d_LAW_law_604 : decode code 604 = .ok (.aload_n 0, 1) := by decide +kernel
theorem d_LAW_law_605 : decode code 605 = .ok (.iload_n 3, 1) := by decide +kernel
theorem d_LAW_law_606 : decode code 606 = .ok (.iconst 2, 1) := by decide +kernel
theorem d_LAW_law_607 : decode code 607 = .ok (.iadd, 1) := by decide +kernel
theorem d_LAW_law_608 : decode code 608 = .ok (.iaload, 1) := by decide +kernel
theorem d_LAW_law_609 : decode code 609 = .ok (.invokevirtual 106, 3) := by decide +kernel
theorem d_LAW_law_612 : decode code 612 = .ok (.if_icmp .eq (5), 3) := by decide +kernel
theorem d_LAW_law_615 : decode code 615 = .ok (.iconst 0, 1) := by decide +kernel
theorem d_LAW_law_616 : decode code 616 = .ok (.ireturn, 1) := by decide +kernel
theorem d_LAW_law_617 : decode code 617 = .ok (.iinc 3 (4), 3) := by decide +kernel
theorem d_LAW_law_620 : decode code 620 = .ok (.goto (-562), 3) := by decide +kernel
theorem d_LAW_law_623 : decode code 623 = .ok (.iconst 1, 1) := by decide +kernel
theorem d_LAW_law_624 : decode code 624 = .ok (.ireturn, 1) := by decide +kernel

