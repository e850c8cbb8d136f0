theorem dL_law_545 : decode cL_law 545 = .ok (.iadd, 1) := zd_dL_law_541.1.1.2.1.1
theorem dL_law_546 : decode cL_law 546 = .ok (.iaload, 1) := zd_dL_law_541.1.1.2.1.2
theorem dL_law_547 : decode cL_law 547 = .ok (.aload_n 0, 1) := zd_dL_law_541.1.1.2.2
theorem dL_law_548 : decode cL_law 548 = .ok (.iload 4, 2) := zd_dL_law_541.1.2.1.1.1
theorem dL_law_550 : decode cL_law 550 = .ok (.iconst 3, 1) := zd_dL_law_541.1.2.1.1.2
theorem dL_law_551 : decode cL_law 551 = .ok (.iadd, 1) := zd_dL_law_541.1.2.1.2
theorem dL_law_552 : decode cL_law 552 = .ok (.iaload, 1) := zd_dL_law_541.1.2.2.1.1
theorem dL_law_553 : decode cL_law 553 = .ok (.invokevirtual 62, 3) := zd_dL_law_541.1.2.2.1.2
theorem dL_law_556 : decode cL_law 556 = .ok (.pop2, 1) := zd_dL_law_541.1.2.2.2
theorem dL_law_557 : decode cL_law 557 = .ok (.goto 969, 3) := zd_dL_law_541.2.1.1.1.1
theorem dL_law_560 : decode cL_law 560 = .ok (.aload_n 1, 1) := zd_dL_law_541.2.1.1.1.2
theorem dL_law_561 : decode cL_law 561 = .ok (.aload_n 0, 1) := zd_dL_law_541.2.1.1.2
theorem dL_law_562 : decode cL_law 562 = .ok (.iload 4, 2) := zd_dL_law_541.2.1.2.1.1
theorem dL_law_564 : decode cL_law 564 = .ok (.iconst 1, 1) := zd_dL_law_541.2.1.2.1.2
theorem dL_law_565 : decode cL_law 565 = .ok (.iadd, 1) := zd_dL_law_541.2.1.2.2
theorem dL_law_566 : decode cL_law 566 = .ok (.iaload, 1) := zd_dL_law_541.2.2.1.1.1
theorem dL_law_567 : decode cL_law 567 = .ok (.aload_n 0, 1) := zd_dL_law_541.2.2.1.1.2
theorem dL_law_568 : decode cL_law 568 = .ok (.iload 4, 2) := zd_dL_law_541.2.2.1.2
theorem dL_law_570 : decode cL_law 570 = .ok (.iconst 2, 1) := zd_dL_law_541.2.2.2.1.1
theorem dL_law_571 : decode cL_law 571 = .ok (.iadd, 1) := zd_dL_law_541.2.2.2.1.2
theorem dL_law_572 : decode cL_law 572 = .ok (.iaload, 1) := zd_dL_law_541.2.2.2.2
theorem zd_dL_law_573 : ((((((decode cL_law 573 = .ok (.invokevirtual 63, 3)) ∧ (decode cL_law 576 = .ok (.pop, 1))) ∧ (decode cL_law 577 = .ok (.aload_n 2, 1))) ∧ (((decode cL_law 578 = .ok (.aload_n 0, 1)) ∧ (decode cL_law 579 = .ok (.iload 4, 2))) ∧ (decode cL_law 581 = .ok (.iconst 1, 1)))) ∧ ((((decode cL_law 582 = .ok (.iadd, 1)) ∧ (decode cL_law 583 = .ok (.iaload, 1))) ∧ (decode cL_law 584 = .ok (.aload_n 0, 1))) ∧ (((decode cL_law 585 = .ok (.iload 4, 2)) ∧ (decode cL_law 587 = .ok (.iconst 2, 1))) ∧ (decode cL_law 588 = .ok (.iadd, 1))))) ∧ (((((decode cL_law 589 = .ok (.iaload, 1)) ∧ (decode cL_law 590 = .ok (.invokevirtual 66, 3))) ∧ (decode cL_law 593 = .ok (.pop, 1))) ∧ (((decode cL_law 594 = .ok (.goto 932, 3)) ∧ (decode cL_law 597 = .ok (.aload_n 1, 1))) ∧ (decode cL_law 598 = .ok (.aload_n 0, 1)))) ∧ ((((decode cL_law 599 = .ok (.iload 4, 2)) ∧ (decode cL_law 601 = .ok (.iconst 1, 1))) ∧ (decode cL_law 602 = .ok (.iadd, 1))) ∧ (((decode cL_law 603 = .ok (.iaload, 1)) ∧ (decode cL_law 604 = .ok (.invokevirtual 67, 3))) ∧ (decode cL_law 607 = .ok (.pop, 1)))))) := by decide +kernel
theorem dL_law_573 : decode cL_law 573 = .ok (.invokevirtual 63, 3) := zd_dL_law_573.1.1.1.1.1
theorem dL_law_576 : decode cL_law 576 = .ok (.pop, 1) := zd_dL_law_573.1.1.1.1.2
theorem dL_law_577 : decode cL_law 577 = .ok (.aload_n 2, 1) := zd_dL_law_573.1.1.1.2
theorem dL_law_578 : decode cL_law 578 = .ok (.aload_n 0, 1) := zd_dL_law_573.1.1.2.1.1
theorem dL_law_579 : decode cL_law 579 = .ok (.iload 4, 2) := zd_dL_law_573.1.1.2.1.2
theorem dL_law_581 : decode cL_law 581 = .ok (.iconst 1, 1) := zd_dL_law_573.1.1.2.2
theorem dL_law_582 : decode cL_law 582 = .ok (.iadd, 1) := zd_dL_law_573.1.2.1.1.1
theorem dL_law_583 : decode cL_law 583 = .ok (.iaload, 1) := zd_dL_law_573.1.2.1.1.2
theorem dL_law_584 : decode cL_law 584 = .ok (.aload_n 0, 1) := zd_dL_law_573.1.2.1.2
theorem dL_law_585 : decode cL_law 585 = .ok (.iload 4, 2) := zd_dL_law_573.1.2.2.1.1
theorem dL_law_587 : decode cL_law 587 = .ok (.iconst 2, 1) := zd_dL_law_573.1.2.2.1.2
theorem dL_law_588 : decode cL_law 588 = .ok (.iadd, 1) := zd_dL_law_573.1.2.2.2
theorem dL_law_589 : decode cL_law 589 = .ok (.iaload, 1) := zd_dL_law_573.2.1.1.1.1
theorem dL_law_590 : decode cL_law 590 = .ok (.invokevirtual 66, 3) := zd_dL_law_573.2.1.1.1.2
theorem dL_law_593 : decode cL_law 593 = .ok (.pop, 1) := zd_dL_law_573.2.1.1.2
theorem dL_law_594 : decode cL_law 594 = .ok (.goto 932, 3) := zd_dL_law_573.2.1.2.1.1
theorem dL_law_597 : decode cL_law 597 = .ok (.aload_n 1, 1) := zd_dL_law_573.2.1.2.1.2
theorem dL_law_598 : decode cL_law 598 = .ok (.aload_n 0, 1) := zd_dL_law_573.2.1.2.2
theorem dL_law_599 : decode cL_law 599 = .ok (.iload 4, 2) := zd_dL_law_573.2.2.1.1.1
theorem dL_law_601 : decode cL_law 601 = .ok (.iconst 1, 1) := zd_dL_law_573.2.2.1.1.2
theorem dL_law_602 : decode cL_law 602 = .ok (.iadd, 1) := zd_dL_law_573.2.2.1.2
theorem dL_law_603 : decode cL_law 603 = .ok (.iaload, 1) := zd_dL_law_573.2.2.2.1.1
theorem dL_law_604 : decode cL_law 604 = .ok (.invokevirtual 67, 3) := zd_dL_law_573.2.2.2.1.2
theorem dL_law_607 : decode cL_law 607 = .ok (.pop, 1) := zd_dL_law_573.2.2.2.2
theorem zd_dL_law_608 : ((((((decode cL_law 608 = .ok (.aload_n 2, 1)) ∧ (decode cL_law 609 = .ok (.aload_n 0, 1))) ∧ (decode cL_law 610 = .ok (.iload 4, 2))) ∧ (((decode cL_law 612 = .ok (.iconst 1, 1)) ∧ (decode cL_law 613 = .ok (.iadd, 1))) ∧ (decode cL_law 614 = .ok (.iaload, 1)))) ∧ ((((decode cL_law 615 = .ok (.invokevirtual 71, 3)) ∧ (decode cL_law 618 = .ok (.pop, 1))) ∧ (decode cL_law 619 = .ok (.goto 907, 3))) ∧ (((decode cL_law 622 = .ok (.aload_n 1, 1)) ∧ (decode cL_law 623 = .ok (.aload_n 0, 1))) ∧ (decode cL_law 624 = .ok (.iload 4, 2))))) ∧ (((((decode cL_law 626 = .ok (.iconst 1, 1)) ∧ (decode cL_law 627 = .ok (.iadd, 1))) ∧ (decode cL_law 628 = .ok (.iaload, 1))) ∧ (((decode cL_law 629 = .ok (.invokevirtual 72, 3)) ∧ (decode cL_law 632 = .ok (.pop, 1))) ∧ (decode cL_law 633 = .ok (.aload_n 2, 1)))) ∧ ((((decode cL_law 634 = .ok (.aload_n 0, 1)) ∧ (decode cL_law 635 = .ok (.iload 4, 2))) ∧ (decode cL_law 637 = .ok (.iconst 1, 1))) ∧ (((decode cL_law 638 = .ok (.iadd, 1)) ∧ (decode cL_law 639 = .ok (.iaload, 1))) ∧ (decode cL_law 640 = .ok (.invokevirtual 75, 3)))))) := by decide +kernel
theorem dL_law_608 : decode cL_law 608 = .ok (.aload_n 2, 1) := zd_dL_law_608.1.1.1.1.1
theorem dL_law_609 : decode cL_law 609 = .ok (.aload_n 0, 1) := zd_dL_law_608.1.1.1.1.2
theorem dL_law_610 : decode cL_law 610 = .ok (.iload 4, 2) := zd_dL_law_608.1.1.1.2
theorem dL_law_612 : decode cL_law 612 = .ok (.iconst 1, 1) := zd_dL_law_608.1.1.2.1.1
theorem dL_law_613 : decode cL_law 613 = .ok (.iadd, 1) := zd_dL_law_608.1.1.2.1.2
theorem dL_law_614 : decode cL_law 614 = .ok (.iaload, 1) := zd_dL_law_608.1.1.2.2
theorem dL_law_615 : decode cL_law 615 = .ok (.invokevirtual 71, 3) := zd_dL_law_608.1.2.1.1.1
theorem dL_law_618 : decode cL_law 618 = .ok (.pop, 1) := zd_dL_law_608.1.2.1.1.2
theorem dL_law_619 : decode cL_law 619 = .ok (.goto 907, 3) := zd_dL_law_608.1.2.1.2
theorem dL_law_622 : decode cL_law 622 = .ok (.aload_n 1, 1) := zd_dL_law_608.1.2.2.1.1
theorem dL_law_623 : decode cL_law 623 = .ok (.aload_n 0, 1) := zd_dL_law_608.1.2.2.1.2
theorem dL_law_624 : decode cL_law 624 = .ok (.iload 4, 2) := zd_dL_law_608.1.2.2.2
theorem dL_law_626 : decode cL_law 626 = .ok (.iconst 1, 1) := zd_dL_law_608.2.1.1.1.1
theorem dL_law_627 : decode cL_law 627 = .ok (.iadd, 1) := zd_dL_law_608.2.1.1.1.2
theorem dL_law_628 : decode cL_law 628 = .ok (.iaload, 1) := zd_dL_law_608.2.1.1.2
theorem dL_law_629 : decode cL_law 629 = .ok (.invokevirtual 72, 3) := zd_dL_law_608.2.1.2.1.1
theorem dL_law_632 : decode cL_law 632 = .ok (.pop, 1) := zd_dL_law_608.2.1.2.1.2
theorem dL_law_633 : decode cL_law 633 = .ok (.aload_n 2, 1) := zd_dL_law_608.2.1.2.2
theorem dL_law_634 : decode cL_law 634 = .ok (.aload_n 0, 1) := zd_dL_law_608.2.2.1.1.1
theorem dL_law_635 : decode cL_law 635 = .ok (.iload 4, 2) := zd_dL_law_608.2.2.1.1.2
theorem dL_law_637 : decode cL_law 637 = .ok (.iconst 1, 1) := zd_dL_law_608.2.2.1.2
theorem dL_law_638 : decode cL_law 638 = .ok (.iadd, 1) := zd_dL_law_608.2.2.2.1.1
theorem dL_law_639 : decode cL_law 639 = .ok (.iaload, 1) := zd_dL_law_608.2.2.2.1.2
theorem dL_law_640 : decode cL_law 640 = .ok (.invokevirtual 75, 3) := zd_dL_law_608.2.2.2.2
theorem zd_dL_law_643 : ((((((decode cL_law 643 = .ok (.pop, 1)) ∧ (decode cL_law 644 = .ok (.goto 882, 3))) ∧ (decode cL_law 647 = .ok (.aload_n 1, 1))) ∧ (((decode cL_law 648 = .ok (.aload_n 0, 1)) ∧ (decode cL_law 649 = .ok (.iload 4, 2))) ∧ (decode cL_law 651 = .ok (.iconst 1, 1)))) ∧ ((((decode cL_law 652 = .ok (.iadd, 1)) ∧ (decode cL_law 653 = .ok (.iaload, 1))) ∧ (decode cL_law 654 = .ok (.aload_n 0, 1))) ∧ (((decode cL_law 655 = .ok (.iload 4, 2)) ∧ (decode cL_law 657 = .ok (.iconst 2, 1))) ∧ (decode cL_law 658 = .ok (.iadd, 1))))) ∧ (((((decode cL_law 659 = .ok (.iaload, 1)) ∧ (decode cL_law 660 = .ok (.invokevirtual 76, 3))) ∧ (decode cL_law 663 = .ok (.pop, 1))) ∧ (((decode cL_law 664 = .ok (.aload_n 2, 1)) ∧ (decode cL_law 665 = .ok (.aload_n 0, 1))) ∧ (decode cL_law 666 = .ok (.iload 4, 2)))) ∧ ((((decode cL_law 668 = .ok (.iconst 1, 1)) ∧ (decode cL_law 669 = .ok (.iadd, 1))) ∧ (decode cL_law 670 = .ok (.iaload, 1))) ∧ (((decode cL_law 671 = .ok (.aload_n 0, 1)) ∧ (decode cL_law 672 = .ok (.iload 4, 2))) ∧ (decode cL_law 674 = .ok (.iconst 2, 1)))))) := by decide +kernel
theorem dL_law_643 : decode cL_law 643 = .ok (.pop, 1) := zd_dL_law_643.1.1.1.1.1
theorem dL_law_644 : decode cL_law 644 = .ok (.goto 882, 3) := zd_dL_law_643.1.1.1.1.2
theorem dL_law_647 : decode cL_law 647 = .ok (.aload_n 1, 1) := zd_dL_law_643.1.1.1.2
theorem dL_law_648 : decode cL_law 648 = .ok (.aload_n 0, 1) := zd_dL_law_643.1.1.2.1.1
theorem dL_law_649 : decode cL_law 649 = .ok (.iload 4, 2) := zd_dL_law_643.1.1.2.1.2
theorem dL_law_651 : decode cL_law 651 = .ok (.iconst 1, 1) := zd_dL_law_643.1.1.2.2
theorem dL_law_652 : decode cL_law 652 = .ok (.iadd, 1) := zd_dL_law_643.1.2.1.1.1
theorem dL_law_653 : decode cL_law 653 = .ok (.iaload, 1) := zd_dL_law_643.1.2.1.1.2
theorem dL_law_654 : decode cL_law 654 = .ok (.aload_n 0, 1) := zd_dL_law_643.1.2.1.2
theorem dL_law_655 : decode cL_law 655 = .ok (.iload 4, 2) := zd_dL_law_643.1.2.2.1.1
theorem dL_law_657 : decode cL_law 657 = .ok (.iconst 2, 1) := zd_dL_law_643.1.2.2.1.2
theorem dL_law_658 : decode cL_law 658 = .ok (.iadd, 1) := zd_dL_law_643.1.2.2.2
theorem dL_law_659 : decode cL_law 659 = .ok (.iaload, 1) := zd_dL_law_643.2.1.1.1.1
theorem dL_law_660 : decode cL_law 660 = .ok (.invokevirtual 76, 3) := zd_dL_law_643.2.1.1.1.2
theorem dL_law_663 : decode cL_law 663 = .ok (.pop, 1) := zd_dL_law_643.2.1.1.2
theorem dL_law_664 : decode cL_law 664 = .ok (.aload_n 2, 1) := zd_dL_law_643.2.1.2.1.1
theorem dL_law_665 : decode cL_law 665 = .ok (.aload_n 0, 1) := zd_dL_law_643.2.1.2.1.2
theorem dL_law_666 : decode cL_law 666 = .ok (.iload 4, 2) := zd_dL_law_643.2.1.2.2
theorem dL_law_668 : decode cL_law 668 = .ok (.iconst 1, 1) := zd_dL_law_643.2.2.1.1.1
theorem dL_law_669 : decode cL_law 669 = .ok (.iadd, 1) := zd_dL_law_643.2.2.1.1.2
theorem dL_law_670 : decode cL_law 670 = .ok (.iaload, 1) := zd_dL_law_643.2.2.1.2
theorem dL_law_671 : decode cL_law 671 = .ok (.aload_n 0, 1) := zd_dL_law_643.2.2.2.1.1
theorem dL_law_672 : decode cL_law 672 = .ok (.iload 4, 2) := zd_dL_law_643.2.2.2.1.2
theorem dL_law_674 : decode cL_law 674 = .ok (.iconst 2, 1) := zd_dL_law_643.2.2.2.2
theorem zd_dL_law_675 : ((((((decode cL_law 675 = .ok (.iadd, 1)) ∧ (decode cL_law 676 = .ok (.iaload, 1))) ∧ (decode cL_law 677 = .ok (.invokevirtual 79, 3))) ∧ (((decode cL_law 680 = .ok (.pop, 1)) ∧ (decode cL_law 681 = .ok (.goto 845, 3))) ∧ (decode cL_law 684 = .ok (.aload_n 1, 1)))) ∧ ((((decode cL_law 685 = .ok (.aload_n 0, 1)) ∧ (decode cL_law 686 = .ok (.iload 4, 2))) ∧ (decode cL_law 688 = .ok (.iconst 1, 1))) ∧ (((decode cL_law 689 = .ok (.iadd, 1)) ∧ (decode cL_law 690 = .ok (.iaload, 1))) ∧ (decode cL_law 691 = .ok (.aload_n 0, 1))))) ∧ (((((decode cL_law 692 = .ok (.iload 4, 2)) ∧ (decode cL_law 694 = .ok (.iconst 2, 1))) ∧ (decode cL_law 695 = .ok (.iadd, 1))) ∧ (((decode cL_law 696 = .ok (.iaload, 1)) ∧ (decode cL_law 697 = .ok (.invokevirtual 80, 3))) ∧ (decode cL_law 700 = .ok (.pop, 1)))) ∧ ((((decode cL_law 701 = .ok (.aload_n 2, 1)) ∧ (decode cL_law 702 = .ok (.aload_n 0, 1))) ∧ (decode cL_law 703 = .ok (.iload 4, 2))) ∧ (((decode cL_law 705 = .ok (.iconst 1, 1)) ∧ (decode cL_law 706 = .ok (.iadd, 1))) ∧ (decode cL_law 707 = .ok (.iaload, 1)))))) := by decide +kernel
theorem dL_law_675 : decode cL_law 675 = .ok (.iadd, 1) := zd_dL_law_675.1.1.1.1.1
theorem dL_law_676 : decode cL_law 676 = .ok (.iaload, 1) := zd_dL_law_675.1.1.1.1.2
theorem dL_law_677 : decode cL_law 677 = .ok (.invokevirtual 79, 3) := zd_dL_law_675.1.1.1.2
theorem dL_law_680 : decode cL_law 680 = .ok (.pop, 1) := zd_dL_law_675.1.1.2.1.1
theorem dL_law_681 : decode cL_law 681 = .ok (.goto 845, 3) := zd_dL_law_675.1.1.2.1.2
theorem dL_law_684 : decode cL_law 684 = .ok (.aload_n 1, 1) := zd_dL_law_675.1.1.2.2
theorem dL_law_685 : decode cL_law 685 = .ok (.aload_n 0, 1) := zd_dL_law_675.1.2.1.1.1
theorem dL_law_686 : decode cL_law 686 = .ok (.iload 4, 2) := zd_dL_law_675.1.2.1.1.2
theorem dL_law_688 : decode cL_law 688 = .ok (.iconst 1, 1) := zd_dL_law_675.1.2.1.2
theorem dL_law_689 : decode cL_law 689 = .ok (.iadd, 1) := zd_dL_law_675.1.2.2.1.1
theorem dL_law_690 : decode cL_law 690 = .ok (.iaload, 1) := zd_dL_law_675.1.2.2.1.2
theorem dL_law_691 : decode cL_law 691 = .ok (.aload_n 0, 1) := zd_dL_law_675.1.2.2.2
theorem dL_law_692 : decode cL_law 692 = .ok (.iload 4, 2) := zd_dL_law_675.2.1.1.1.1
theorem dL_law_694 : decode cL_law 694 = .ok (.iconst 2, 1) := zd_dL_law_675.2.1.1.1.2
theorem dL_law_695 : decode cL_law 695 = .ok (.iadd, 1) := zd_dL_law_675.2.1.1.2
theorem dL_law_696 : decode cL_law 696 = .ok (.iaload, 1) := zd_dL_law_675.2.1.2.1.1
theorem dL_law_697 : decode cL_law 697 = .ok (.invokevirtual 80, 3) := zd_dL_law_675.2.1.2.1.2
theorem dL_law_700 : decode cL_law 700 = .ok (.pop, 1) := zd_dL_law_675.2.1.2.2
theorem dL_law_701 : decode cL_law 701 = .ok (.aload_n 2, 1) := zd_dL_law_675.2.2.1.1.1
theorem dL_law_702 : decode cL_law 702 = .ok (.aload_n 0, 1) := zd_dL_law_675.2.2.1.1.2
theorem dL_law_703 : decode cL_law 703 = .ok (.iload 4, 2) := zd_dL_law_675.2.2.1.2
theorem dL_law_705 : decode cL_law 705 = .ok (.iconst 1, 1) := zd_dL_law_675.2.2.2.1.1
theorem dL_law_706 : decode cL_law 706 = .ok (.iadd, 1) := zd_dL_law_675.2.2.2.1.2
theorem dL_law_707 : decode cL_law 707 = .ok (.iaload, 1) := zd_dL_law_675.2.2.2.2
theorem zd_dL_law_708 : ((((((decode cL_law 708 = .ok (.aload_n 0, 1)) ∧ (decode cL_law 709 = .ok (.iload 4, 2))) ∧ (decode cL_law 711 = .ok (.iconst 2, 1))) ∧ (((decode cL_law 712 = .ok (.iadd, 1)) ∧ (decode cL_law 713 = .ok (.iaload, 1))) ∧ (decode cL_law 714 = .ok (.invokevirtual 83, 3)))) ∧ ((((decode cL_law 717 = .ok (.pop, 1)) ∧ (decode cL_law 718 = .ok (.goto 808, 3))) ∧ (decode cL_law 721 = .ok (.aload_n 1, 1))) ∧ (((decode cL_law 722 = .ok (.aload_n 0, 1)) ∧ (decode cL_law 723 = .ok (.iload 4, 2))) ∧ (decode cL_law 725 = .ok (.iconst 1, 1))))) ∧ (((((decode cL_law 726 = .ok (.iadd, 1)) ∧ (decode cL_law 727 = .ok (.iaload, 1))) ∧ (decode cL_law 728 = .ok (.aload_n 0, 1))) ∧ (((decode cL_law 729 = .ok (.iload 4, 2)) ∧ (decode cL_law 731 = .ok (.iconst 2, 1))) ∧ (decode cL_law 732 = .ok (.iadd, 1)))) ∧ ((((decode cL_law 733 = .ok (.iaload, 1)) ∧ (decode cL_law 734 = .ok (.invokevirtual 84, 3))) ∧ (decode cL_law 737 = .ok (.pop, 1))) ∧ (((decode cL_law 738 = .ok (.aload_n 2, 1)) ∧ (decode cL_law 739 = .ok (.aload_n 0, 1))) ∧ (decode cL_law 740 = .ok (.iload 4, 2)))))) := by decide +kernel
theorem dL_law_708 : decode cL_law 708 = .ok (.aload_n 0, 1) := zd_dL_law_708.1.1.1.1.1
theorem dL_law_709 : decode cL_law 709 = .ok (.iload 4, 2) := zd_dL_law_708.1.1.1.1.2
theorem dL_law_711 : decode cL_law 711 = .ok (.iconst 2, 1) := zd_dL_law_708.1.1.1.2
theorem dL_law_712 : decode cL_law 712 = .ok (.iadd, 1) := zd_dL_law_708.1.1.2.1.1
theorem dL_law_713 : decode cL_law 713 = .ok (.iaload, 1) := zd_dL_law_708.1.1.2.1.2
theorem dL_law_714 : decode cL_law 714 = .ok (.invokevirtual 83, 3) := zd_dL_law_708.1.1.2.2
