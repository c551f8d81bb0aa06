theorem dL_law_481 : decode bL_law 481 = .ok (.iconst 4, 1) := by decide +kernel
theorem dL_law_482 : decode bL_law 482 = .ok (.iadd, 1) := by decide +kernel
theorem dL_law_483 : decode bL_law 483 = .ok (.iaload, 1) := by decide +kernel
theorem dL_law_484 : decode bL_law 484 = .ok (.invokevirtual 87, 3) := by decide +kernel
theorem dL_law_487 : decode bL_law 487 = .ok (.if_icmp .eq 417, 3) := by decide +kernel
theorem dL_law_490 : decode bL_law 490 = .ok (.iconst 0, 1) := by decide +kernel
theorem dL_law_491 : decode bL_law 491 = .ok (.ireturn, 1) := by decide +kernel
theorem dL_law_492 : decode bL_law 492 = .ok (.aload_n 1, 1) := by decide +kernel
theorem dL_law_493 : decode bL_law 493 = .ok (.aload_n 0, 1) := by decide +kernel
theorem dL_law_494 : decode bL_law 494 = .ok (.iload 4, 2) := by decide +kernel
theorem dL_law_496 : decode bL_law 496 = .ok (.iconst 1, 1) := by decide +kernel
theorem dL_law_497 : decode bL_law 497 = .ok (.iadd, 1) := by decide +kernel
theorem dL_law_498 : decode bL_law 498 = .ok (.iaload, 1) := by decide +kernel
theorem dL_law_499 : decode bL_law 499 = .ok (.aload_n 0, 1) := by decide +kernel
theorem dL_law_500 : decode bL_law 500 = .ok (.iload 4, 2) := by decide +kernel
theorem dL_law_502 : decode bL_law 502 = .ok (.iconst 2, 1) := by decide +kernel
theorem dL_law_503 : decode bL_law 503 = .ok (.iadd, 1) := by decide +kernel
theorem dL_law_504 : decode bL_law 504 = .ok (.iaload, 1) := by decide +kernel
theorem dL_law_505 : decode bL_law 505 = .ok (.aload_n 0, 1) := by decide +kernel
theorem dL_law_506 : decode bL_law 506 = .ok (.iload 4, 2) := by decide +kernel
theorem dL_law_508 : decode bL_law 508 = .ok (.iconst 3, 1) := by decide +kernel
theorem dL_law_509 : decode bL_law 509 = .ok (.iadd, 1) := by decide +kernel
theorem dL_law_510 : decode bL_law 510 = .ok (.iaload, 1) := by decide +kernel
theorem dL_law_511 : decode bL_law 511 = .ok (.aload_n 0, 1) := by decide +kernel
theorem dL_law_512 : decode bL_law 512 = .ok (.iload 4, 2) := by decide +kernel
theorem dL_law_514 : decode bL_law 514 = .ok (.iconst 4, 1) := by decide +kernel
theorem dL_law_515 : decode bL_law 515 = .ok (.iadd, 1) := by decide +kernel
theorem dL_law_516 : decode bL_law 516 = .ok (.iaload, 1) := by decide +kernel
theorem dL_law_517 : decode bL_law 517 = .ok (.invokestatic 88, 3) := by decide +kernel
theorem dL_law_520 : decode bL_law 520 = .ok (.istore 5, 2) := by decide +kernel
theorem dL_law_522 : decode bL_law 522 = .ok (.aload_n 2, 1) := by decide +kernel
theorem dL_law_523 : decode bL_law 523 = .ok (.aload_n 0, 1) := by decide +kernel
theorem dL_law_524 : decode bL_law 524 = .ok (.iload 4, 2) := by decide +kernel
theorem dL_law_526 : decode bL_law 526 = .ok (.iconst 1, 1) := by decide +kernel
theorem dL_law_527 : decode bL_law 527 = .ok (.iadd, 1) := by decide +kernel
theorem dL_law_528 : decode bL_law 528 = .ok (.iaload, 1) := by decide +kernel
theorem dL_law_529 : decode bL_law 529 = .ok (.aload_n 0, 1) := by decide +kernel
theorem dL_law_530 : decode bL_law 530 = .ok (.iload 4, 2) := by decide +kernel
theorem dL_law_532 : decode bL_law 532 = .ok (.iconst 2, 1) := by decide +kernel
theorem dL_law_533 : decode bL_law 533 = .ok (.iadd, 1) := by decide +kernel
theorem dL_law_534 : decode bL_law 534 = .ok (.iaload, 1) := by decide +kernel
theorem dL_law_535 : decode bL_law 535 = .ok (.aload_n 0, 1) := by decide +kernel
theorem dL_law_536 : decode bL_law 536 = .ok (.iload 4, 2) := by decide +kernel
theorem dL_law_538 : decode bL_law 538 = .ok (.iconst 3, 1) := by decide +kernel
theorem dL_law_539 : decode bL_law 539 = .ok (.iadd, 1) := by decide +kernel
theorem dL_law_540 : decode bL_law 540 = .ok (.iaload, 1) := by decide +kernel
theorem dL_law_541 : decode bL_law 541 = .ok (.aload_n 0, 1) := by decide +kernel
theorem dL_law_542 : decode bL_law 542 = .ok (.iload 4, 2) := by decide +kernel
theorem dL_law_544 : decode bL_law 544 = .ok (.iconst 4, 1) := by decide +kernel
theorem dL_law_545 : decode bL_law 545 = .ok (.iadd, 1) := by decide +kernel
theorem dL_law_546 : decode bL_law 546 = .ok (.iaload, 1) := by decide +kernel
theorem dL_law_547 : decode bL_law 547 = .ok (.invokevirtual 90, 3) := by decide +kernel
theorem dL_law_550 : decode bL_law 550 = .ok (.aload_n 2, 1) := by decide +kernel
theorem dL_law_551 : decode bL_law 551 = .ok (.invokevirtual 57, 3) := by decide +kernel
theorem dL_law_554 : decode bL_law 554 = .ok (.iload 5, 2) := by decide +kernel
theorem dL_law_556 : decode bL_law 556 = .ok (.if_icmp .eq 5, 3) := by decide +kernel
theorem dL_law_559 : decode bL_law 559 = .ok (.iconst 0, 1) := by decide +kernel
theorem dL_law_560 : decode bL_law 560 = .ok (.ireturn, 1) := by decide +kernel
theorem dL_law_561 : decode bL_law 561 = .ok (.goto 343, 3) := by decide +kernel
theorem dL_law_564 : decode bL_law 564 = .ok (.aload_n 1, 1) := by decide +kernel
theorem dL_law_565 : decode bL_law 565 = .ok (.aload_n 0, 1) := by decide +kernel
theorem dL_law_566 : decode bL_law 566 = .ok (.iload 4, 2) := by decide +kernel
theorem dL_law_568 : decode bL_law 568 = .ok (.iconst 1, 1) := by decide +kernel
theorem dL_law_569 : decode bL_law 569 = .ok (.iadd, 1) := by decide +kernel
theorem dL_law_570 : decode bL_law 570 = .ok (.iaload, 1) := by decide +kernel
theorem dL_law_571 : decode bL_law 571 = .ok (.aload_n 0, 1) := by decide +kernel
theorem dL_law_572 : decode bL_law 572 = .ok (.iload 4, 2) := by decide +kernel
theorem dL_law_574 : decode bL_law 574 = .ok (.iconst 2, 1) := by decide +kernel
theorem dL_law_575 : decode bL_law 575 = .ok (.iadd, 1) := by decide +kernel
theorem dL_law_576 : decode bL_law 576 = .ok (.iaload, 1) := by decide +kernel
theorem dL_law_577 : decode bL_law 577 = .ok (.invokestatic 91, 3) := by decide +kernel
theorem dL_law_580 : decode bL_law 580 = .ok (.istore 5, 2) := by decide +kernel
theorem dL_law_582 : decode bL_law 582 = .ok (.aload_n 2, 1) := by decide +kernel
theorem dL_law_583 : decode bL_law 583 = .ok (.aload_n 0, 1) := by decide +kernel
theorem dL_law_584 : decode bL_law 584 = .ok (.iload 4, 2) := by decide +kernel
theorem dL_law_586 : decode bL_law 586 = .ok (.iconst 1, 1) := by decide +kernel
theorem dL_law_587 : decode bL_law 587 = .ok (.iadd, 1) := by decide +kernel
theorem dL_law_588 : decode bL_law 588 = .ok (.iaload, 1) := by decide +kernel
theorem dL_law_589 : decode bL_law 589 = .ok (.aload_n 0, 1) := by decide +kernel
theorem dL_law_590 : decode bL_law 590 = .ok (.iload 4, 2) := by decide +kernel
theorem dL_law_592 : decode bL_law 592 = .ok (.iconst 2, 1) := by decide +kernel
theorem dL_law_593 : decode bL_law 593 = .ok (.iadd, 1) := by decide +kernel
theorem dL_law_594 : decode bL_law 594 = .ok (.iaload, 1) := by decide +kernel
theorem dL_law_595 : decode bL_law 595 = .ok (.invokevirtual 94, 3) := by decide +kernel
theorem dL_law_598 : decode bL_law 598 = .ok (.aload_n 2, 1) := by decide +kernel
theorem dL_law_599 : decode bL_law 599 = .ok (.invokevirtual 57, 3) := by decide +kernel
theorem dL_law_602 : decode bL_law 602 = .ok (.iload 5, 2) := by decide +kernel
theorem dL_law_604 : decode bL_law 604 = .ok (.if_icmp .eq 5, 3) := by decide +kernel
theorem dL_law_607 : decode bL_law 607 = .ok (.iconst 0, 1) := by decide +kernel
theorem dL_law_608 : decode bL_law 608 = .ok (.ireturn, 1) := by decide +kernel
theorem dL_law_609 : decode bL_law 609 = .ok (.goto 295, 3) := by decide +kernel
theorem dL_law_612 : decode bL_law 612 = .ok (.aload_n 1, 1) := by decide +kernel
theorem dL_law_613 : decode bL_law 613 = .ok (.aload_n 0, 1) := by decide +kernel
theorem dL_law_614 : decode bL_law 614 = .ok (.iload 4, 2) := by decide +kernel
theorem dL_law_616 : decode bL_law 616 = .ok (.iconst 1, 1) := by decide +kernel
theorem dL_law_617 : decode bL_law 617 = .ok (.iadd, 1) := by decide +kernel
theorem dL_law_618 : decode bL_law 618 = .ok (.iaload, 1) := by decide +kernel
theorem dL_law_619 : decode bL_law 619 = .ok (.aload_n 0, 1) := by decide +kernel
theorem dL_law_620 : decode bL_law 620 = .ok (.iload 4, 2) := by decide +kernel
theorem dL_law_622 : decode bL_law 622 = .ok (.iconst 2, 1) := by decide +kernel
theorem dL_law_623 : decode bL_law 623 = .ok (.iadd, 1) := by decide +kernel
theorem dL_law_624 : decode bL_law 624 = .ok (.iaload, 1) := by decide +kernel
theorem dL_law_625 : decode bL_law 625 = .ok (.aload_n 3, 1) := by decide +kernel
theorem dL_law_626 : decode bL_law 626 = .ok (.invokestatic 95, 3) := by decide +kernel
theorem dL_law_629 : decode bL_law 629 = .ok (.istore 5, 2) := by decide +kernel
theorem dL_law_631 : decode bL_law 631 = .ok (.aload_n 2, 1) := by decide +kernel
theorem dL_law_632 : decode bL_law 632 = .ok (.aload_n 0, 1) := by decide +kernel
theorem dL_law_633 : decode bL_law 633 = .ok (.iload 4, 2) := by decide +kernel
theorem dL_law_635 : decode bL_law 635 = .ok (.iconst 1, 1) := by decide +kernel
theorem dL_law_636 : decode bL_law 636 = .ok (.iadd, 1) := by decide +kernel
theorem dL_law_637 : decode bL_law 637 = .ok (.iaload, 1) := by decide +kernel
theorem dL_law_638 : decode bL_law 638 = .ok (.aload_n 0, 1) := by decide +kernel
theorem dL_law_639 : decode bL_law 639 = .ok (.iload 4, 2) := by decide +kernel
theorem dL_law_641 : decode bL_law 641 = .ok (.iconst 2, 1) := by decide +kernel
theorem dL_law_642 : decode bL_law 642 = .ok (.iadd, 1) := by decide +kernel
theorem dL_law_643 : decode bL_law 643 = .ok (.iaload, 1) := by decide +kernel
theorem dL_law_644 : decode bL_law 644 = .ok (.invokevirtual 98, 3) := by decide +kernel
theorem dL_law_647 : decode bL_law 647 = .ok (.istore 6, 2) := by decide +kernel
theorem dL_law_649 : decode bL_law 649 = .ok (.aload_n 2, 1) := by decide +kernel
theorem dL_law_650 : decode bL_law 650 = .ok (.invokevirtual 57, 3) := by decide +kernel
theorem dL_law_653 : decode bL_law 653 = .ok (.iload 5, 2) := by decide +kernel
theorem dL_law_655 : decode bL_law 655 = .ok (.if_icmp .eq 5, 3) := by decide +kernel
theorem dL_law_658 : decode bL_law 658 = .ok (.iconst 0, 1) := by decide +kernel
theorem dL_law_659 : decode bL_law 659 = .ok (.ireturn, 1) := by decide +kernel
theorem dL_law_660 : decode bL_law 660 = .ok (.iload 5, 2) := by decide +kernel
theorem dL_law_662 : decode bL_law 662 = .ok (.ifCond .ne 15, 3) := by decide +kernel
theorem dL_law_665 : decode bL_law 665 = .ok (.aload_n 3, 1) := by decide +kernel
theorem dL_law_666 : decode bL_law 666 = .ok (.iconst 0, 1) := by decide +kernel
theorem dL_law_667 : decode bL_law 667 = .ok (.laload, 1) := by decide +kernel
theorem dL_law_668 : decode bL_law 668 = .ok (.iload 6, 2) := by decide +kernel
theorem dL_law_670 : decode bL_law 670 = .ok (.i2l, 1) := by decide +kernel
theorem dL_law_671 : decode bL_law 671 = .ok (.lcmp, 1) := by decide +kernel
theorem dL_law_672 : decode bL_law 672 = .ok (.ifCond .eq 5, 3) := by decide +kernel
theorem dL_law_675 : decode bL_law 675 = .ok (.iconst 0, 1) := by decide +kernel
theorem dL_law_676 : decode bL_law 676 = .ok (.ireturn, 1) := by decide +kernel
theorem dL_law_677 : decode bL_law 677 = .ok (.goto 227, 3) := by decide +kernel
theorem dL_law_680 : decode bL_law 680 = .ok (.aload_n 1, 1) := by decide +kernel
theorem dL_law_681 : decode bL_law 681 = .ok (.aload_n 0, 1) := by decide +kernel
theorem dL_law_682 : decode bL_law 682 = .ok (.iload 4, 2) := by decide +kernel
theorem dL_law_684 : decode bL_law 684 = .ok (.iconst 1, 1) := by decide +kernel
