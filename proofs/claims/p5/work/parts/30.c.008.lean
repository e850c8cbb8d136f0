theorem dX12_init_492 : decode cX12_init 492 = .ok (.dup, 1) := by decide +kernel
theorem dX12_init_493 : decode cX12_init 493 = .ok (.bipush 80, 2) := by decide +kernel
theorem dX12_init_495 : decode cX12_init 495 = .ok (.bipush 111, 2) := by decide +kernel
theorem dX12_init_497 : decode cX12_init 497 = .ok (.iastore, 1) := by decide +kernel
theorem dX12_init_498 : decode cX12_init 498 = .ok (.dup, 1) := by decide +kernel
theorem dX12_init_499 : decode cX12_init 499 = .ok (.bipush 81, 2) := by decide +kernel
theorem dX12_init_501 : decode cX12_init 501 = .ok (.bipush 114, 2) := by decide +kernel
theorem dX12_init_503 : decode cX12_init 503 = .ok (.iastore, 1) := by decide +kernel
theorem dX12_init_504 : decode cX12_init 504 = .ok (.dup, 1) := by decide +kernel
theorem dX12_init_505 : decode cX12_init 505 = .ok (.bipush 82, 2) := by decide +kernel
theorem dX12_init_507 : decode cX12_init 507 = .ok (.bipush 32, 2) := by decide +kernel
theorem dX12_init_509 : decode cX12_init 509 = .ok (.iastore, 1) := by decide +kernel
theorem dX12_init_510 : decode cX12_init 510 = .ok (.dup, 1) := by decide +kernel
theorem dX12_init_511 : decode cX12_init 511 = .ok (.bipush 83, 2) := by decide +kernel
theorem dX12_init_513 : decode cX12_init 513 = .ok (.bipush 110, 2) := by decide +kernel
theorem dX12_init_515 : decode cX12_init 515 = .ok (.iastore, 1) := by decide +kernel
theorem dX12_init_516 : decode cX12_init 516 = .ok (.dup, 1) := by decide +kernel
theorem dX12_init_517 : decode cX12_init 517 = .ok (.bipush 84, 2) := by decide +kernel
theorem dX12_init_519 : decode cX12_init 519 = .ok (.bipush 111, 2) := by decide +kernel
theorem dX12_init_521 : decode cX12_init 521 = .ok (.iastore, 1) := by decide +kernel
theorem dX12_init_522 : decode cX12_init 522 = .ok (.dup, 1) := by decide +kernel
theorem dX12_init_523 : decode cX12_init 523 = .ok (.bipush 85, 2) := by decide +kernel
theorem dX12_init_525 : decode cX12_init 525 = .ok (.bipush 116, 2) := by decide +kernel
theorem dX12_init_527 : decode cX12_init 527 = .ok (.iastore, 1) := by decide +kernel
theorem dX12_init_528 : decode cX12_init 528 = .ok (.dup, 1) := by decide +kernel
theorem dX12_init_529 : decode cX12_init 529 = .ok (.bipush 86, 2) := by decide +kernel
theorem dX12_init_531 : decode cX12_init 531 = .ok (.bipush 32, 2) := by decide +kernel
theorem dX12_init_533 : decode cX12_init 533 = .ok (.iastore, 1) := by decide +kernel
theorem dX12_init_534 : decode cX12_init 534 = .ok (.dup, 1) := by decide +kernel
theorem dX12_init_535 : decode cX12_init 535 = .ok (.bipush 87, 2) := by decide +kernel
theorem dX12_init_537 : decode cX12_init 537 = .ok (.bipush 102, 2) := by decide +kernel
theorem dX12_init_539 : decode cX12_init 539 = .ok (.iastore, 1) := by decide +kernel
theorem dX12_init_540 : decode cX12_init 540 = .ok (.dup, 1) := by decide +kernel
theorem dX12_init_541 : decode cX12_init 541 = .ok (.bipush 88, 2) := by decide +kernel
theorem dX12_init_543 : decode cX12_init 543 = .ok (.bipush 97, 2) := by decide +kernel
theorem dX12_init_545 : decode cX12_init 545 = .ok (.iastore, 1) := by decide +kernel
theorem dX12_init_546 : decode cX12_init 546 = .ok (.dup, 1) := by decide +kernel
theorem dX12_init_547 : decode cX12_init 547 = .ok (.bipush 89, 2) := by decide +kernel
theorem dX12_init_549 : decode cX12_init 549 = .ok (.bipush 114, 2) := by decide +kernel
theorem dX12_init_551 : decode cX12_init 551 = .ok (.iastore, 1) := by decide +kernel
theorem dX12_init_552 : decode cX12_init 552 = .ok (.dup, 1) := by decide +kernel
theorem dX12_init_553 : decode cX12_init 553 = .ok (.bipush 90, 2) := by decide +kernel
theorem dX12_init_555 : decode cX12_init 555 = .ok (.bipush 32, 2) := by decide +kernel
theorem dX12_init_557 : decode cX12_init 557 = .ok (.iastore, 1) := by decide +kernel
theorem dX12_init_558 : decode cX12_init 558 = .ok (.dup, 1) := by decide +kernel
theorem dX12_init_559 : decode cX12_init 559 = .ok (.bipush 91, 2) := by decide +kernel
theorem dX12_init_561 : decode cX12_init 561 = .ok (.bipush 115, 2) := by decide +kernel
theorem dX12_init_563 : decode cX12_init 563 = .ok (.iastore, 1) := by decide +kernel
theorem dX12_init_564 : decode cX12_init 564 = .ok (.dup, 1) := by decide +kernel
theorem dX12_init_565 : decode cX12_init 565 = .ok (.bipush 92, 2) := by decide +kernel
theorem dX12_init_567 : decode cX12_init 567 = .ok (.bipush 105, 2) := by decide +kernel
theorem dX12_init_569 : decode cX12_init 569 = .ok (.iastore, 1) := by decide +kernel
theorem dX12_init_570 : decode cX12_init 570 = .ok (.dup, 1) := by decide +kernel
theorem dX12_init_571 : decode cX12_init 571 = .ok (.bipush 93, 2) := by decide +kernel
theorem dX12_init_573 : decode cX12_init 573 = .ok (.bipush 100, 2) := by decide +kernel
theorem dX12_init_575 : decode cX12_init 575 = .ok (.iastore, 1) := by decide +kernel
theorem dX12_init_576 : decode cX12_init 576 = .ok (.dup, 1) := by decide +kernel
theorem dX12_init_577 : decode cX12_init 577 = .ok (.bipush 94, 2) := by decide +kernel
theorem dX12_init_579 : decode cX12_init 579 = .ok (.bipush 101, 2) := by decide +kernel
theorem dX12_init_581 : decode cX12_init 581 = .ok (.iastore, 1) := by decide +kernel
theorem dX12_init_582 : decode cX12_init 582 = .ok (.dup, 1) := by decide +kernel
theorem dX12_init_583 : decode cX12_init 583 = .ok (.bipush 95, 2) := by decide +kernel
theorem dX12_init_585 : decode cX12_init 585 = .ok (.bipush 32, 2) := by decide +kernel
theorem dX12_init_587 : decode cX12_init 587 = .ok (.iastore, 1) := by decide +kernel
theorem dX12_init_588 : decode cX12_init 588 = .ok (.dup, 1) := by decide +kernel
theorem dX12_init_589 : decode cX12_init 589 = .ok (.bipush 96, 2) := by decide +kernel
theorem dX12_init_591 : decode cX12_init 591 = .ok (.bipush 98, 2) := by decide +kernel
theorem dX12_init_593 : decode cX12_init 593 = .ok (.iastore, 1) := by decide +kernel
theorem dX12_init_594 : decode cX12_init 594 = .ok (.dup, 1) := by decide +kernel
theorem dX12_init_595 : decode cX12_init 595 = .ok (.bipush 97, 2) := by decide +kernel
theorem dX12_init_597 : decode cX12_init 597 = .ok (.bipush 111, 2) := by decide +kernel
theorem dX12_init_599 : decode cX12_init 599 = .ok (.iastore, 1) := by decide +kernel
theorem dX12_init_600 : decode cX12_init 600 = .ok (.dup, 1) := by decide +kernel
theorem dX12_init_601 : decode cX12_init 601 = .ok (.bipush 98, 2) := by decide +kernel
theorem dX12_init_603 : decode cX12_init 603 = .ok (.bipush 97, 2) := by decide +kernel
theorem dX12_init_605 : decode cX12_init 605 = .ok (.iastore, 1) := by decide +kernel
theorem dX12_init_606 : decode cX12_init 606 = .ok (.dup, 1) := by decide +kernel
theorem dX12_init_607 : decode cX12_init 607 = .ok (.bipush 99, 2) := by decide +kernel
theorem dX12_init_609 : decode cX12_init 609 = .ok (.bipush 114, 2) := by decide +kernel
theorem dX12_init_611 : decode cX12_init 611 = .ok (.iastore, 1) := by decide +kernel
theorem dX12_init_612 : decode cX12_init 612 = .ok (.dup, 1) := by decide +kernel
theorem dX12_init_613 : decode cX12_init 613 = .ok (.bipush 100, 2) := by decide +kernel
theorem dX12_init_615 : decode cX12_init 615 = .ok (.bipush 100, 2) := by decide +kernel
theorem dX12_init_617 : decode cX12_init 617 = .ok (.iastore, 1) := by decide +kernel
theorem dX12_init_618 : decode cX12_init 618 = .ok (.dup, 1) := by decide +kernel
theorem dX12_init_619 : decode cX12_init 619 = .ok (.bipush 101, 2) := by decide +kernel
theorem dX12_init_621 : decode cX12_init 621 = .ok (.bipush 32, 2) := by decide +kernel
theorem dX12_init_623 : decode cX12_init 623 = .ok (.iastore, 1) := by decide +kernel
theorem dX12_init_624 : decode cX12_init 624 = .ok (.dup, 1) := by decide +kernel
theorem dX12_init_625 : decode cX12_init 625 = .ok (.bipush 102, 2) := by decide +kernel
theorem dX12_init_627 : decode cX12_init 627 = .ok (.bipush 115, 2) := by decide +kernel
theorem dX12_init_629 : decode cX12_init 629 = .ok (.iastore, 1) := by decide +kernel
theorem dX12_init_630 : decode cX12_init 630 = .ok (.dup, 1) := by decide +kernel
theorem dX12_init_631 : decode cX12_init 631 = .ok (.bipush 103, 2) := by decide +kernel
theorem dX12_init_633 : decode cX12_init 633 = .ok (.bipush 105, 2) := by decide +kernel
theorem dX12_init_635 : decode cX12_init 635 = .ok (.iastore, 1) := by decide +kernel
theorem dX12_init_636 : decode cX12_init 636 = .ok (.dup, 1) := by decide +kernel
theorem dX12_init_637 : decode cX12_init 637 = .ok (.bipush 104, 2) := by decide +kernel
theorem dX12_init_639 : decode cX12_init 639 = .ok (.bipush 122, 2) := by decide +kernel
theorem dX12_init_641 : decode cX12_init 641 = .ok (.iastore, 1) := by decide +kernel
theorem dX12_init_642 : decode cX12_init 642 = .ok (.dup, 1) := by decide +kernel
theorem dX12_init_643 : decode cX12_init 643 = .ok (.bipush 105, 2) := by decide +kernel
theorem dX12_init_645 : decode cX12_init 645 = .ok (.bipush 101, 2) := by decide +kernel
theorem dX12_init_647 : decode cX12_init 647 = .ok (.iastore, 1) := by decide +kernel
theorem dX12_init_648 : decode cX12_init 648 = .ok (.dup, 1) := by decide +kernel
theorem dX12_init_649 : decode cX12_init 649 = .ok (.bipush 106, 2) := by decide +kernel
theorem dX12_init_651 : decode cX12_init 651 = .ok (.bipush 32, 2) := by decide +kernel
theorem dX12_init_653 : decode cX12_init 653 = .ok (.iastore, 1) := by decide +kernel
theorem dX12_init_654 : decode cX12_init 654 = .ok (.dup, 1) := by decide +kernel
theorem dX12_init_655 : decode cX12_init 655 = .ok (.bipush 107, 2) := by decide +kernel
theorem dX12_init_657 : decode cX12_init 657 = .ok (.bipush 109, 2) := by decide +kernel
theorem dX12_init_659 : decode cX12_init 659 = .ok (.iastore, 1) := by decide +kernel
theorem dX12_init_660 : decode cX12_init 660 = .ok (.dup, 1) := by decide +kernel
theorem dX12_init_661 : decode cX12_init 661 = .ok (.bipush 108, 2) := by decide +kernel
theorem dX12_init_663 : decode cX12_init 663 = .ok (.bipush 105, 2) := by decide +kernel
theorem dX12_init_665 : decode cX12_init 665 = .ok (.iastore, 1) := by decide +kernel
theorem dX12_init_666 : decode cX12_init 666 = .ok (.dup, 1) := by decide +kernel
theorem dX12_init_667 : decode cX12_init 667 = .ok (.bipush 109, 2) := by decide +kernel
theorem dX12_init_669 : decode cX12_init 669 = .ok (.bipush 110, 2) := by decide +kernel
theorem dX12_init_671 : decode cX12_init 671 = .ok (.iastore, 1) := by decide +kernel
theorem dX12_init_672 : decode cX12_init 672 = .ok (.dup, 1) := by decide +kernel
theorem dX12_init_673 : decode cX12_init 673 = .ok (.bipush 110, 2) := by decide +kernel
theorem dX12_init_675 : decode cX12_init 675 = .ok (.bipush 117, 2) := by decide +kernel
theorem dX12_init_677 : decode cX12_init 677 = .ok (.iastore, 1) := by decide +kernel
theorem dX12_init_678 : decode cX12_init 678 = .ok (.dup, 1) := by decide +kernel
theorem dX12_init_679 : decode cX12_init 679 = .ok (.bipush 111, 2) := by decide +kernel
theorem dX12_init_681 : decode cX12_init 681 = .ok (.bipush 116, 2) := by decide +kernel
theorem dX12_init_683 : decode cX12_init 683 = .ok (.iastore, 1) := by decide +kernel
theorem dX12_init_684 : decode cX12_init 684 = .ok (.dup, 1) := by decide +kernel
theorem dX12_init_685 : decode cX12_init 685 = .ok (.bipush 112, 2) := by decide +kernel
theorem dX12_init_687 : decode cX12_init 687 = .ok (.bipush 101, 2) := by decide +kernel
theorem dX12_init_689 : decode cX12_init 689 = .ok (.iastore, 1) := by decide +kernel
theorem dX12_init_690 : decode cX12_init 690 = .ok (.dup, 1) := by decide +kernel
theorem dX12_init_691 : decode cX12_init 691 = .ok (.bipush 113, 2) := by decide +kernel
theorem dX12_init_693 : decode cX12_init 693 = .ok (.bipush 32, 2) := by decide +kernel
theorem dX12_init_695 : decode cX12_init 695 = .ok (.iastore, 1) := by decide +kernel
theorem dX12_init_696 : decode cX12_init 696 = .ok (.dup, 1) := by decide +kernel
theorem dX12_init_697 : decode cX12_init 697 = .ok (.bipush 114, 2) := by decide +kernel
theorem dX12_init_699 : decode cX12_init 699 = .ok (.bipush 119, 2) := by decide +kernel
theorem dX12_init_701 : decode cX12_init 701 = .ok (.iastore, 1) := by decide +kernel
theorem dX12_init_702 : decode cX12_init 702 = .ok (.dup, 1) := by decide +kernel
theorem dX12_init_703 : decode cX12_init 703 = .ok (.bipush 115, 2) := by decide +kernel
theorem dX12_init_705 : decode cX12_init 705 = .ok (.bipush 104, 2) := by decide +kernel
theorem dX12_init_707 : decode cX12_init 707 = .ok (.iastore, 1) := by decide +kernel
theorem dX12_init_708 : decode cX12_init 708 = .ok (.dup, 1) := by decide +kernel
theorem dX12_init_709 : decode cX12_init 709 = .ok (.bipush 116, 2) := by decide +kernel
theorem dX12_init_711 : decode cX12_init 711 = .ok (.bipush 105, 2) := by decide +kernel
theorem dX12_init_713 : decode cX12_init 713 = .ok (.iastore, 1) := by decide +kernel
theorem dX12_init_714 : decode cX12_init 714 = .ok (.dup, 1) := by decide +kernel
theorem dX12_init_715 : decode cX12_init 715 = .ok (.bipush 117, 2) := by decide +kernel
theorem dX12_init_717 : decode cX12_init 717 = .ok (.bipush 99, 2) := by decide +kernel
theorem dX12_init_719 : decode cX12_init 719 = .ok (.iastore, 1) := by decide +kernel
theorem dX12_init_720 : decode cX12_init 720 = .ok (.dup, 1) := by decide +kernel
theorem dX12_init_721 : decode cX12_init 721 = .ok (.bipush 118, 2) := by decide +kernel
theorem dX12_init_723 : decode cX12_init 723 = .ok (.bipush 104, 2) := by decide +kernel
theorem dX12_init_725 : decode cX12_init 725 = .ok (.iastore, 1) := by decide +kernel
theorem dX12_init_726 : decode cX12_init 726 = .ok (.dup, 1) := by decide +kernel
theorem dX12_init_727 : decode cX12_init 727 = .ok (.bipush 119, 2) := by decide +kernel
theorem dX12_init_729 : decode cX12_init 729 = .ok (.bipush 32, 2) := by decide +kernel
theorem dX12_init_731 : decode cX12_init 731 = .ok (.iastore, 1) := by decide +kernel
theorem dX12_init_732 : decode cX12_init 732 = .ok (.putfield 13, 3) := by decide +kernel
theorem dX12_init_735 : decode cX12_init 735 = .ok (.aload_n 0, 1) := by decide +kernel
theorem dX12_init_736 : decode cX12_init 736 = .ok (.iconst (-1), 1) := by decide +kernel
theorem dX12_init_737 : decode cX12_init 737 = .ok (.putfield 16, 3) := by decide +kernel
theorem dX12_init_740 : decode cX12_init 740 = .ok (.aload_n 0, 1) := by decide +kernel
theorem dX12_init_741 : decode cX12_init 741 = .ok (.iconst 5, 1) := by decide +kernel
theorem dX12_init_742 : decode cX12_init 742 = .ok (.newarray .boolean, 2) := by decide +kernel
theorem dX12_init_744 : decode cX12_init 744 = .ok (.putfield 20, 3) := by decide +kernel
theorem dX12_init_747 : decode cX12_init 747 = .ok (.aload_n 0, 1) := by decide +kernel
theorem dX12_init_748 : decode cX12_init 748 = .ok (.bipush 14, 2) := by decide +kernel
theorem dX12_init_750 : decode cX12_init 750 = .ok (.newarray .int, 2) := by decide +kernel
theorem dX12_init_752 : decode cX12_init 752 = .ok (.putfield 24, 3) := by decide +kernel
theorem dX12_init_755 : decode cX12_init 755 = .ok (.aload_n 0, 1) := by decide +kernel
theorem dX12_init_756 : decode cX12_init 756 = .ok (.bipush 10, 2) := by decide +kernel
theorem dX12_init_758 : decode cX12_init 758 = .ok (.newarray .int, 2) := by decide +kernel
theorem dX12_init_760 : decode cX12_init 760 = .ok (.putfield 27, 3) := by decide +kernel
theorem dX12_init_763 : decode cX12_init 763 = .ok (.aload_n 0, 1) := by decide +kernel
theorem dX12_init_764 : decode cX12_init 764 = .ok (.bipush 10, 2) := by decide +kernel
theorem dX12_init_766 : decode cX12_init 766 = .ok (.newarray .int, 2) := by decide +kernel
theorem dX12_init_768 : decode cX12_init 768 = .ok (.putfield 30, 3) := by decide +kernel
theorem dX12_init_771 : decode cX12_init 771 = .ok (.aload_n 0, 1) := by decide +kernel
theorem dX12_init_772 : decode cX12_init 772 = .ok (.bipush 10, 2) := by decide +kernel
theorem dX12_init_774 : decode cX12_init 774 = .ok (.newarray .int, 2) := by decide +kernel
theorem dX12_init_776 : decode cX12_init 776 = .ok (.putfield 33, 3) := by decide +kernel
theorem dX12_init_779 : decode cX12_init 779 = .ok (.aload_n 0, 1) := by decide +kernel
theorem dX12_init_780 : decode cX12_init 780 = .ok (.bipush 10, 2) := by decide +kernel
theorem dX12_init_782 : decode cX12_init 782 = .ok (.newarray .int, 2) := by decide +kernel
theorem dX12_init_784 : decode cX12_init 784 = .ok (.putfield 36, 3) := by decide +kernel
theorem dX12_init_787 : decode cX12_init 787 = .ok (.aload_n 0, 1) := by decide +kernel
theorem dX12_init_788 : decode cX12_init 788 = .ok (.bipush 10, 2) := by decide +kernel
theorem dX12_init_790 : decode cX12_init 790 = .ok (.newarray .int, 2) := by decide +kernel
theorem dX12_init_792 : decode cX12_init 792 = .ok (.putfield 39, 3) := by decide +kernel
theorem dX12_init_795 : decode cX12_init 795 = .ok (.aload_n 0, 1) := by decide +kernel
theorem dX12_init_796 : decode cX12_init 796 = .ok (.bipush 10, 2) := by decide +kernel
theorem dX12_init_798 : decode cX12_init 798 = .ok (.newarray .int, 2) := by decide +kernel
theorem dX12_init_800 : decode cX12_init 800 = .ok (.putfield 42, 3) := by decide +kernel
theorem dX12_init_803 : decode cX12_init 803 = .ok (.aload_n 0, 1) := by decide +kernel
theorem dX12_init_804 : decode cX12_init 804 = .ok (.bipush 8, 2) := by decide +kernel
theorem dX12_init_806 : decode cX12_init 806 = .ok (.newarray .int, 2) := by decide +kernel
theorem dX12_init_808 : decode cX12_init 808 = .ok (.putfield 45, 3) := by decide +kernel
theorem dX12_init_811 : decode cX12_init 811 = .ok (.aload_n 0, 1) := by decide +kernel
theorem dX12_init_812 : decode cX12_init 812 = .ok (.bipush 56, 2) := by decide +kernel
theorem dX12_init_814 : decode cX12_init 814 = .ok (.newarray .int, 2) := by decide +kernel
theorem dX12_init_816 : decode cX12_init 816 = .ok (.putfield 48, 3) := by decide +kernel
theorem dX12_init_819 : decode cX12_init 819 = .ok (.aload_n 0, 1) := by decide +kernel
theorem dX12_init_820 : decode cX12_init 820 = .ok (.bipush 56, 2) := by decide +kernel
theorem dX12_init_822 : decode cX12_init 822 = .ok (.newarray .int, 2) := by decide +kernel
theorem dX12_init_824 : decode cX12_init 824 = .ok (.putfield 51, 3) := by decide +kernel
theorem dX12_init_827 : decode cX12_init 827 = .ok (.aload_n 0, 1) := by decide +kernel
theorem dX12_init_828 : decode cX12_init 828 = .ok (.bipush 56, 2) := by decide +kernel
theorem dX12_init_830 : decode cX12_init 830 = .ok (.newarray .int, 2) := by decide +kernel
theorem dX12_init_832 : decode cX12_init 832 = .ok (.putfield 54, 3) := by decide +kernel
theorem dX12_init_835 : decode cX12_init 835 = .ok (.aload_n 0, 1) := by decide +kernel
theorem dX12_init_836 : decode cX12_init 836 = .ok (.bipush 6, 2) := by decide +kernel
theorem dX12_init_838 : decode cX12_init 838 = .ok (.newarray .boolean, 2) := by decide +kernel
theorem dX12_init_840 : decode cX12_init 840 = .ok (.putfield 57, 3) := by decide +kernel
theorem dX12_init_843 : decode cX12_init 843 = .ok (.aload_n 0, 1) := by decide +kernel
theorem dX12_init_844 : decode cX12_init 844 = .ok (.bipush 6, 2) := by decide +kernel
theorem dX12_init_846 : decode cX12_init 846 = .ok (.newarray .int, 2) := by decide +kernel
theorem dX12_init_848 : decode cX12_init 848 = .ok (.putfield 60, 3) := by decide +kernel
theorem dX12_init_851 : decode cX12_init 851 = .ok (.aload_n 0, 1) := by decide +kernel
theorem dX12_init_852 : decode cX12_init 852 = .ok (.bipush 6, 2) := by decide +kernel
theorem dX12_init_854 : decode cX12_init 854 = .ok (.newarray .int, 2) := by decide +kernel
theorem dX12_init_856 : decode cX12_init 856 = .ok (.putfield 63, 3) := by decide +kernel
theorem dX12_init_859 : decode cX12_init 859 = .ok (.aload_n 0, 1) := by decide +kernel
theorem dX12_init_860 : decode cX12_init 860 = .ok (.sipush 128, 3) := by decide +kernel
theorem dX12_init_863 : decode cX12_init 863 = .ok (.newarray .int, 2) := by decide +kernel
theorem dX12_init_865 : decode cX12_init 865 = .ok (.putfield 66, 3) := by decide +kernel
theorem dX12_init_868 : decode cX12_init 868 = .ok (.aload_n 0, 1) := by decide +kernel
theorem dX12_init_869 : decode cX12_init 869 = .ok (.sipush 128, 3) := by decide +kernel
theorem dX12_init_872 : decode cX12_init 872 = .ok (.newarray .int, 2) := by decide +kernel
