theorem d_law_454 : decode code 454 = .ok (.iadd, 1) := by decide +kernel
theorem d_law_455 : decode code 455 = .ok (.iaload, 1) := by decide +kernel
theorem d_law_456 : decode code 456 = .ok (.invokevirtual 101, 3) := by decide +kernel
theorem d_law_459 : decode code 459 = .ok (.lstore 6, 2) := by decide +kernel
theorem d_law_461 : decode code 461 = .ok (.aload_n 2, 1) := by decide +kernel
theorem d_law_462 : decode code 462 = .ok (.invokevirtual 80, 3) := by decide +kernel
theorem d_law_465 : decode code 465 = .ok (.iload 5, 2) := by decide +kernel
theorem d_law_467 : decode code 467 = .ok (.if_icmp .eq 5, 3) := by decide +kernel
theorem d_law_470 : decode code 470 = .ok (.iconst 0, 1) := by decide +kernel
theorem d_law_471 : decode code 471 = .ok (.ireturn, 1) := by decide +kernel
theorem d_law_472 : decode code 472 = .ok (.iload 5, 2) := by decide +kernel
theorem d_law_474 : decode code 474 = .ok (.ifCond .ne 14, 3) := by decide +kernel
theorem d_law_477 : decode code 477 = .ok (.aload_n 3, 1) := by decide +kernel
theorem d_law_478 : decode code 478 = .ok (.iconst 0, 1) := by decide +kernel
theorem d_law_479 : decode code 479 = .ok (.laload, 1) := by decide +kernel
theorem d_law_480 : decode code 480 = .ok (.lload 6, 2) := by decide +kernel
theorem d_law_482 : decode code 482 = .ok (.lcmp, 1) := by decide +kernel
theorem d_law_483 : decode code 483 = .ok (.ifCond .eq 5, 3) := by decide +kernel
theorem d_law_486 : decode code 486 = .ok (.iconst 0, 1) := by decide +kernel
theorem d_law_487 : decode code 487 = .ok (.ireturn, 1) := by decide +kernel
theorem d_law_488 : decode code 488 = .ok (.goto 351, 3) := by decide +kernel
theorem d_law_491 : decode code 491 = .ok (.aload_n 1, 1) := by decide +kernel
theorem d_law_492 : decode code 492 = .ok (.invokestatic 102, 3) := by decide +kernel
theorem d_law_495 : decode code 495 = .ok (.istore 5, 2) := by decide +kernel
theorem d_law_497 : decode code 497 = .ok (.aload_n 2, 1) := by decide +kernel
theorem d_law_498 : decode code 498 = .ok (.invokevirtual 105, 3) := by decide +kernel
theorem d_law_501 : decode code 501 = .ok (.aload_n 2, 1) := by decide +kernel
theorem d_law_502 : decode code 502 = .ok (.invokevirtual 80, 3) := by decide +kernel
theorem d_law_505 : decode code 505 = .ok (.iload 5, 2) := by decide +kernel
theorem d_law_507 : decode code 507 = .ok (.if_icmp .eq 5, 3) := by decide +kernel
theorem d_law_510 : decode code 510 = .ok (.iconst 0, 1) := by decide +kernel
theorem d_law_511 : decode code 511 = .ok (.ireturn, 1) := by decide +kernel
theorem d_law_512 : decode code 512 = .ok (.goto 327, 3) := by decide +kernel
theorem d_law_515 : decode code 515 = .ok (.aload_n 1, 1) := by decide +kernel
theorem d_law_516 : decode code 516 = .ok (.invokestatic 106, 3) := by decide +kernel
theorem d_law_519 : decode code 519 = .ok (.istore 5, 2) := by decide +kernel
theorem d_law_521 : decode code 521 = .ok (.aload_n 2, 1) := by decide +kernel
theorem d_law_522 : decode code 522 = .ok (.invokevirtual 108, 3) := by decide +kernel
theorem d_law_525 : decode code 525 = .ok (.aload_n 2, 1) := by decide +kernel
theorem d_law_526 : decode code 526 = .ok (.invokevirtual 80, 3) := by decide +kernel
theorem d_law_529 : decode code 529 = .ok (.iload 5, 2) := by decide +kernel
theorem d_law_531 : decode code 531 = .ok (.if_icmp .eq 5, 3) := by decide +kernel
theorem d_law_534 : decode code 534 = .ok (.iconst 0, 1) := by decide +kernel
theorem d_law_535 : decode code 535 = .ok (.ireturn, 1) := by decide +kernel
theorem d_law_536 : decode code 536 = .ok (.goto 303, 3) := by decide +kernel
theorem d_law_539 : decode code 539 = .ok (.aload_n 1, 1) := by decide +kernel
theorem d_law_540 : decode code 540 = .ok (.invokestatic 109, 3) := by decide +kernel
theorem d_law_543 : decode code 543 = .ok (.istore 5, 2) := by decide +kernel
theorem d_law_545 : decode code 545 = .ok (.aload_n 2, 1) := by decide +kernel
theorem d_law_546 : decode code 546 = .ok (.invokevirtual 111, 3) := by decide +kernel
theorem d_law_549 : decode code 549 = .ok (.aload_n 2, 1) := by decide +kernel
theorem d_law_550 : decode code 550 = .ok (.invokevirtual 80, 3) := by decide +kernel
theorem d_law_553 : decode code 553 = .ok (.iload 5, 2) := by decide +kernel
theorem d_law_555 : decode code 555 = .ok (.if_icmp .eq 5, 3) := by decide +kernel
theorem d_law_558 : decode code 558 = .ok (.iconst 0, 1) := by decide +kernel
theorem d_law_559 : decode code 559 = .ok (.ireturn, 1) := by decide +kernel
theorem d_law_560 : decode code 560 = .ok (.goto 279, 3) := by decide +kernel
theorem d_law_563 : decode code 563 = .ok (.aload_n 1, 1) := by decide +kernel
theorem d_law_564 : decode code 564 = .ok (.aload_n 3, 1) := by decide +kernel
theorem d_law_565 : decode code 565 = .ok (.invokestatic 112, 3) := by decide +kernel
theorem d_law_568 : decode code 568 = .ok (.istore 5, 2) := by decide +kernel
theorem d_law_570 : decode code 570 = .ok (.aload_n 2, 1) := by decide +kernel
theorem d_law_571 : decode code 571 = .ok (.invokevirtual 114, 3) := by decide +kernel
theorem d_law_574 : decode code 574 = .ok (.istore 6, 2) := by decide +kernel
theorem d_law_576 : decode code 576 = .ok (.aload_n 2, 1) := by decide +kernel
theorem d_law_577 : decode code 577 = .ok (.invokevirtual 80, 3) := by decide +kernel
theorem d_law_580 : decode code 580 = .ok (.iload 5, 2) := by decide +kernel
theorem d_law_582 : decode code 582 = .ok (.if_icmp .eq 5, 3) := by decide +kernel
theorem d_law_585 : decode code 585 = .ok (.iconst 0, 1) := by decide +kernel
theorem d_law_586 : decode code 586 = .ok (.ireturn, 1) := by decide +kernel
theorem d_law_587 : decode code 587 = .ok (.iload 5, 2) := by decide +kernel
theorem d_law_589 : decode code 589 = .ok (.ifCond .ne 15, 3) := by decide +kernel
theorem d_law_592 : decode code 592 = .ok (.aload_n 3, 1) := by decide +kernel
theorem d_law_593 : decode code 593 = .ok (.iconst 0, 1) := by decide +kernel
theorem d_law_594 : decode code 594 = .ok (.laload, 1) := by decide +kernel
theorem d_law_595 : decode code 595 = .ok (.iload 6, 2) := by decide +kernel
theorem d_law_597 : decode code 597 = .ok (.i2l, 1) := by decide +kernel
theorem d_law_598 : decode code 598 = .ok (.lcmp, 1) := by decide +kernel
theorem d_law_599 : decode code 599 = .ok (.ifCond .eq 5, 3) := by decide +kernel
theorem d_law_602 : decode code 602 = .ok (.iconst 0, 1) := by decide +kernel
theorem d_law_603 : decode code 603 = .ok (.ireturn, 1) := by decide +kernel
theorem d_law_604 : decode code 604 = .ok (.goto 235, 3) := by decide +kernel
theorem d_law_607 : decode code 607 = .ok (.aload_n 1, 1) := by decide +kernel
theorem d_law_608 : decode code 608 = .ok (.aload_n 0, 1) := by decide +kernel
theorem d_law_609 : decode code 609 = .ok (.iload 4, 2) := by decide +kernel
theorem d_law_611 : decode code 611 = .ok (.iconst 1, 1) := by decide +kernel
theorem d_law_612 : decode code 612 = .ok (.iadd, 1) := by decide +kernel
theorem d_law_613 : decode code 613 = .ok (.iaload, 1) := by decide +kernel
theorem d_law_614 : decode code 614 = .ok (.invokestatic 115, 3) := by decide +kernel
theorem d_law_617 : decode code 617 = .ok (.istore 5, 2) := by decide +kernel
theorem d_law_619 : decode code 619 = .ok (.aload_n 2, 1) := by decide +kernel
theorem d_law_620 : decode code 620 = .ok (.aload_n 0, 1) := by decide +kernel
theorem d_law_621 : decode code 621 = .ok (.iload 4, 2) := by decide +kernel
theorem d_law_623 : decode code 623 = .ok (.iconst 1, 1) := by decide +kernel
theorem d_law_624 : decode code 624 = .ok (.iadd, 1) := by decide +kernel
theorem d_law_625 : decode code 625 = .ok (.iaload, 1) := by decide +kernel
theorem d_law_626 : decode code 626 = .ok (.invokevirtual 118, 3) := by decide +kernel
theorem d_law_629 : decode code 629 = .ok (.aload_n 2, 1) := by decide +kernel
theorem d_law_630 : decode code 630 = .ok (.invokevirtual 80, 3) := by decide +kernel
theorem d_law_633 : decode code 633 = .ok (.iload 5, 2) := by decide +kernel
theorem d_law_635 : decode code 635 = .ok (.if_icmp .eq 5, 3) := by decide +kernel
theorem d_law_638 : decode code 638 = .ok (.iconst 0, 1) := by decide +kernel
theorem d_law_639 : decode code 639 = .ok (.ireturn, 1) := by decide +kernel
theorem d_law_640 : decode code 640 = .ok (.goto 199, 3) := by decide +kernel
theorem d_law_643 : decode code 643 = .ok (.aload_n 1, 1) := by decide +kernel
theorem d_law_644 : decode code 644 = .ok (.aload_n 0, 1) := by decide +kernel
theorem d_law_645 : decode code 645 = .ok (.iload 4, 2) := by decide +kernel
theorem d_law_647 : decode code 647 = .ok (.iconst 1, 1) := by decide +kernel
theorem d_law_648 : decode code 648 = .ok (.iadd, 1) := by decide +kernel
theorem d_law_649 : decode code 649 = .ok (.iaload, 1) := by decide +kernel
theorem d_law_650 : decode code 650 = .ok (.invokestatic 119, 3) := by decide +kernel
theorem d_law_653 : decode code 653 = .ok (.istore 5, 2) := by decide +kernel
theorem d_law_655 : decode code 655 = .ok (.aload_n 2, 1) := by decide +kernel
theorem d_law_656 : decode code 656 = .ok (.aload_n 0, 1) := by decide +kernel
theorem d_law_657 : decode code 657 = .ok (.iload 4, 2) := by decide +kernel
theorem d_law_659 : decode code 659 = .ok (.iconst 1, 1) := by decide +kernel
theorem d_law_660 : decode code 660 = .ok (.iadd, 1) := by decide +kernel
theorem d_law_661 : decode code 661 = .ok (.iaload, 1) := by decide +kernel
theorem d_law_662 : decode code 662 = .ok (.invokevirtual 121, 3) := by decide +kernel
theorem d_law_665 : decode code 665 = .ok (.aload_n 2, 1) := by decide +kernel
theorem d_law_666 : decode code 666 = .ok (.invokevirtual 80, 3) := by decide +kernel
theorem d_law_669 : decode code 669 = .ok (.iload 5, 2) := by decide +kernel
theorem d_law_671 : decode code 671 = .ok (.if_icmp .eq 5, 3) := by decide +kernel
theorem d_law_674 : decode code 674 = .ok (.iconst 0, 1) := by decide +kernel
theorem d_law_675 : decode code 675 = .ok (.ireturn, 1) := by decide +kernel
