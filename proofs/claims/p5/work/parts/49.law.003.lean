theorem zd_dL_law_545 : dq cL_law [(545, .iadd, 1), (546, .iaload, 1), (547, .aload_n 0, 1), (548, .iload 4, 2), (550, .iconst 3, 1), (551, .iadd, 1), (552, .iaload, 1), (553, .invokevirtual 62, 3), (556, .pop2, 1), (557, .goto 969, 3), (560, .aload_n 1, 1), (561, .aload_n 0, 1), (562, .iload 4, 2), (564, .iconst 1, 1), (565, .iadd, 1), (566, .iaload, 1), (567, .aload_n 0, 1), (568, .iload 4, 2), (570, .iconst 2, 1), (571, .iadd, 1), (572, .iaload, 1)] = true := by decide +kernel
theorem dL_law_545 : decode cL_law 545 = .ok (.iadd, 1) := dq_at zd_dL_law_545 0 rfl
theorem dL_law_546 : decode cL_law 546 = .ok (.iaload, 1) := dq_at zd_dL_law_545 1 rfl
theorem dL_law_547 : decode cL_law 547 = .ok (.aload_n 0, 1) := dq_at zd_dL_law_545 2 rfl
theorem dL_law_548 : decode cL_law 548 = .ok (.iload 4, 2) := dq_at zd_dL_law_545 3 rfl
theorem dL_law_550 : decode cL_law 550 = .ok (.iconst 3, 1) := dq_at zd_dL_law_545 4 rfl
theorem dL_law_551 : decode cL_law 551 = .ok (.iadd, 1) := dq_at zd_dL_law_545 5 rfl
theorem dL_law_552 : decode cL_law 552 = .ok (.iaload, 1) := dq_at zd_dL_law_545 6 rfl
theorem dL_law_553 : decode cL_law 553 = .ok (.invokevirtual 62, 3) := dq_at zd_dL_law_545 7 rfl
theorem dL_law_556 : decode cL_law 556 = .ok (.pop2, 1) := dq_at zd_dL_law_545 8 rfl
theorem dL_law_557 : decode cL_law 557 = .ok (.goto 969, 3) := dq_at zd_dL_law_545 9 rfl
theorem dL_law_560 : decode cL_law 560 = .ok (.aload_n 1, 1) := dq_at zd_dL_law_545 10 rfl
theorem dL_law_561 : decode cL_law 561 = .ok (.aload_n 0, 1) := dq_at zd_dL_law_545 11 rfl
theorem dL_law_562 : decode cL_law 562 = .ok (.iload 4, 2) := dq_at zd_dL_law_545 12 rfl
theorem dL_law_564 : decode cL_law 564 = .ok (.iconst 1, 1) := dq_at zd_dL_law_545 13 rfl
theorem dL_law_565 : decode cL_law 565 = .ok (.iadd, 1) := dq_at zd_dL_law_545 14 rfl
theorem dL_law_566 : decode cL_law 566 = .ok (.iaload, 1) := dq_at zd_dL_law_545 15 rfl
theorem dL_law_567 : decode cL_law 567 = .ok (.aload_n 0, 1) := dq_at zd_dL_law_545 16 rfl
theorem dL_law_568 : decode cL_law 568 = .ok (.iload 4, 2) := dq_at zd_dL_law_545 17 rfl
theorem dL_law_570 : decode cL_law 570 = .ok (.iconst 2, 1) := dq_at zd_dL_law_545 18 rfl
theorem dL_law_571 : decode cL_law 571 = .ok (.iadd, 1) := dq_at zd_dL_law_545 19 rfl
theorem dL_law_572 : decode cL_law 572 = .ok (.iaload, 1) := dq_at zd_dL_law_545 20 rfl
theorem zd_dL_law_573 : dq cL_law [(573, .invokevirtual 63, 3), (576, .pop, 1), (577, .aload_n 2, 1), (578, .aload_n 0, 1), (579, .iload 4, 2), (581, .iconst 1, 1), (582, .iadd, 1), (583, .iaload, 1), (584, .aload_n 0, 1), (585, .iload 4, 2), (587, .iconst 2, 1), (588, .iadd, 1), (589, .iaload, 1), (590, .invokevirtual 66, 3), (593, .pop, 1), (594, .goto 932, 3), (597, .aload_n 1, 1), (598, .aload_n 0, 1), (599, .iload 4, 2), (601, .iconst 1, 1), (602, .iadd, 1)] = true := by decide +kernel
theorem dL_law_573 : decode cL_law 573 = .ok (.invokevirtual 63, 3) := dq_at zd_dL_law_573 0 rfl
theorem dL_law_576 : decode cL_law 576 = .ok (.pop, 1) := dq_at zd_dL_law_573 1 rfl
theorem dL_law_577 : decode cL_law 577 = .ok (.aload_n 2, 1) := dq_at zd_dL_law_573 2 rfl
theorem dL_law_578 : decode cL_law 578 = .ok (.aload_n 0, 1) := dq_at zd_dL_law_573 3 rfl
theorem dL_law_579 : decode cL_law 579 = .ok (.iload 4, 2) := dq_at zd_dL_law_573 4 rfl
theorem dL_law_581 : decode cL_law 581 = .ok (.iconst 1, 1) := dq_at zd_dL_law_573 5 rfl
theorem dL_law_582 : decode cL_law 582 = .ok (.iadd, 1) := dq_at zd_dL_law_573 6 rfl
theorem dL_law_583 : decode cL_law 583 = .ok (.iaload, 1) := dq_at zd_dL_law_573 7 rfl
theorem dL_law_584 : decode cL_law 584 = .ok (.aload_n 0, 1) := dq_at zd_dL_law_573 8 rfl
theorem dL_law_585 : decode cL_law 585 = .ok (.iload 4, 2) := dq_at zd_dL_law_573 9 rfl
theorem dL_law_587 : decode cL_law 587 = .ok (.iconst 2, 1) := dq_at zd_dL_law_573 10 rfl
theorem dL_law_588 : decode cL_law 588 = .ok (.iadd, 1) := dq_at zd_dL_law_573 11 rfl
theorem dL_law_589 : decode cL_law 589 = .ok (.iaload, 1) := dq_at zd_dL_law_573 12 rfl
theorem dL_law_590 : decode cL_law 590 = .ok (.invokevirtual 66, 3) := dq_at zd_dL_law_573 13 rfl
theorem dL_law_593 : decode cL_law 593 = .ok (.pop, 1) := dq_at zd_dL_law_573 14 rfl
theorem dL_law_594 : decode cL_law 594 = .ok (.goto 932, 3) := dq_at zd_dL_law_573 15 rfl
theorem dL_law_597 : decode cL_law 597 = .ok (.aload_n 1, 1) := dq_at zd_dL_law_573 16 rfl
theorem dL_law_598 : decode cL_law 598 = .ok (.aload_n 0, 1) := dq_at zd_dL_law_573 17 rfl
theorem dL_law_599 : decode cL_law 599 = .ok (.iload 4, 2) := dq_at zd_dL_law_573 18 rfl
theorem dL_law_601 : decode cL_law 601 = .ok (.iconst 1, 1) := dq_at zd_dL_law_573 19 rfl
theorem dL_law_602 : decode cL_law 602 = .ok (.iadd, 1) := dq_at zd_dL_law_573 20 rfl
theorem zd_dL_law_603 : dq cL_law [(603, .iaload, 1), (604, .invokevirtual 67, 3), (607, .pop, 1), (608, .aload_n 2, 1), (609, .aload_n 0, 1), (610, .iload 4, 2), (612, .iconst 1, 1), (613, .iadd, 1), (614, .iaload, 1), (615, .invokevirtual 71, 3), (618, .pop, 1), (619, .goto 907, 3), (622, .aload_n 1, 1), (623, .aload_n 0, 1), (624, .iload 4, 2), (626, .iconst 1, 1), (627, .iadd, 1), (628, .iaload, 1), (629, .invokevirtual 72, 3), (632, .pop, 1), (633, .aload_n 2, 1)] = true := by decide +kernel
theorem dL_law_603 : decode cL_law 603 = .ok (.iaload, 1) := dq_at zd_dL_law_603 0 rfl
theorem dL_law_604 : decode cL_law 604 = .ok (.invokevirtual 67, 3) := dq_at zd_dL_law_603 1 rfl
theorem dL_law_607 : decode cL_law 607 = .ok (.pop, 1) := dq_at zd_dL_law_603 2 rfl
theorem dL_law_608 : decode cL_law 608 = .ok (.aload_n 2, 1) := dq_at zd_dL_law_603 3 rfl
theorem dL_law_609 : decode cL_law 609 = .ok (.aload_n 0, 1) := dq_at zd_dL_law_603 4 rfl
theorem dL_law_610 : decode cL_law 610 = .ok (.iload 4, 2) := dq_at zd_dL_law_603 5 rfl
theorem dL_law_612 : decode cL_law 612 = .ok (.iconst 1, 1) := dq_at zd_dL_law_603 6 rfl
theorem dL_law_613 : decode cL_law 613 = .ok (.iadd, 1) := dq_at zd_dL_law_603 7 rfl
theorem dL_law_614 : decode cL_law 614 = .ok (.iaload, 1) := dq_at zd_dL_law_603 8 rfl
theorem dL_law_615 : decode cL_law 615 = .ok (.invokevirtual 71, 3) := dq_at zd_dL_law_603 9 rfl
theorem dL_law_618 : decode cL_law 618 = .ok (.pop, 1) := dq_at zd_dL_law_603 10 rfl
theorem dL_law_619 : decode cL_law 619 = .ok (.goto 907, 3) := dq_at zd_dL_law_603 11 rfl
theorem dL_law_622 : decode cL_law 622 = .ok (.aload_n 1, 1) := dq_at zd_dL_law_603 12 rfl
theorem dL_law_623 : decode cL_law 623 = .ok (.aload_n 0, 1) := dq_at zd_dL_law_603 13 rfl
theorem dL_law_624 : decode cL_law 624 = .ok (.iload 4, 2) := dq_at zd_dL_law_603 14 rfl
theorem dL_law_626 : decode cL_law 626 = .ok (.iconst 1, 1) := dq_at zd_dL_law_603 15 rfl
theorem dL_law_627 : decode cL_law 627 = .ok (.iadd, 1) := dq_at zd_dL_law_603 16 rfl
theorem dL_law_628 : decode cL_law 628 = .ok (.iaload, 1) := dq_at zd_dL_law_603 17 rfl
theorem dL_law_629 : decode cL_law 629 = .ok (.invokevirtual 72, 3) := dq_at zd_dL_law_603 18 rfl
theorem dL_law_632 : decode cL_law 632 = .ok (.pop, 1) := dq_at zd_dL_law_603 19 rfl
theorem dL_law_633 : decode cL_law 633 = .ok (.aload_n 2, 1) := dq_at zd_dL_law_603 20 rfl
theorem zd_dL_law_634 : dq cL_law [(634, .aload_n 0, 1), (635, .iload 4, 2), (637, .iconst 1, 1), (638, .iadd, 1), (639, .iaload, 1), (640, .invokevirtual 75, 3), (643, .pop, 1), (644, .goto 882, 3), (647, .aload_n 1, 1), (648, .aload_n 0, 1), (649, .iload 4, 2), (651, .iconst 1, 1), (652, .iadd, 1), (653, .iaload, 1), (654, .aload_n 0, 1), (655, .iload 4, 2), (657, .iconst 2, 1), (658, .iadd, 1), (659, .iaload, 1), (660, .invokevirtual 76, 3), (663, .pop, 1)] = true := by decide +kernel
theorem dL_law_634 : decode cL_law 634 = .ok (.aload_n 0, 1) := dq_at zd_dL_law_634 0 rfl
theorem dL_law_635 : decode cL_law 635 = .ok (.iload 4, 2) := dq_at zd_dL_law_634 1 rfl
theorem dL_law_637 : decode cL_law 637 = .ok (.iconst 1, 1) := dq_at zd_dL_law_634 2 rfl
theorem dL_law_638 : decode cL_law 638 = .ok (.iadd, 1) := dq_at zd_dL_law_634 3 rfl
theorem dL_law_639 : decode cL_law 639 = .ok (.iaload, 1) := dq_at zd_dL_law_634 4 rfl
theorem dL_law_640 : decode cL_law 640 = .ok (.invokevirtual 75, 3) := dq_at zd_dL_law_634 5 rfl
theorem dL_law_643 : decode cL_law 643 = .ok (.pop, 1) := dq_at zd_dL_law_634 6 rfl
theorem dL_law_644 : decode cL_law 644 = .ok (.goto 882, 3) := dq_at zd_dL_law_634 7 rfl
theorem dL_law_647 : decode cL_law 647 = .ok (.aload_n 1, 1) := dq_at zd_dL_law_634 8 rfl
theorem dL_law_648 : decode cL_law 648 = .ok (.aload_n 0, 1) := dq_at zd_dL_law_634 9 rfl
theorem dL_law_649 : decode cL_law 649 = .ok (.iload 4, 2) := dq_at zd_dL_law_634 10 rfl
theorem dL_law_651 : decode cL_law 651 = .ok (.iconst 1, 1) := dq_at zd_dL_law_634 11 rfl
theorem dL_law_652 : decode cL_law 652 = .ok (.iadd, 1) := dq_at zd_dL_law_634 12 rfl
theorem dL_law_653 : decode cL_law 653 = .ok (.iaload, 1) := dq_at zd_dL_law_634 13 rfl
theorem dL_law_654 : decode cL_law 654 = .ok (.aload_n 0, 1) := dq_at zd_dL_law_634 14 rfl
theorem dL_law_655 : decode cL_law 655 = .ok (.iload 4, 2) := dq_at zd_dL_law_634 15 rfl
theorem dL_law_657 : decode cL_law 657 = .ok (.iconst 2, 1) := dq_at zd_dL_law_634 16 rfl
theorem dL_law_658 : decode cL_law 658 = .ok (.iadd, 1) := dq_at zd_dL_law_634 17 rfl
theorem dL_law_659 : decode cL_law 659 = .ok (.iaload, 1) := dq_at zd_dL_law_634 18 rfl
theorem dL_law_660 : decode cL_law 660 = .ok (.invokevirtual 76, 3) := dq_at zd_dL_law_634 19 rfl
theorem dL_law_663 : decode cL_law 663 = .ok (.pop, 1) := dq_at zd_dL_law_634 20 rfl
theorem zd_dL_law_664 : dq cL_law [(664, .aload_n 2, 1), (665, .aload_n 0, 1), (666, .iload 4, 2), (668, .iconst 1, 1), (669, .iadd, 1), (670, .iaload, 1), (671, .aload_n 0, 1), (672, .iload 4, 2), (674, .iconst 2, 1), (675, .iadd, 1), (676, .iaload, 1), (677, .invokevirtual 79, 3), (680, .pop, 1), (681, .goto 845, 3), (684, .aload_n 1, 1), (685, .aload_n 0, 1), (686, .iload 4, 2), (688, .iconst 1, 1), (689, .iadd, 1), (690, .iaload, 1), (691, .aload_n 0, 1)] = true := by decide +kernel
theorem dL_law_664 : decode cL_law 664 = .ok (.aload_n 2, 1) := dq_at zd_dL_law_664 0 rfl
theorem dL_law_665 : decode cL_law 665 = .ok (.aload_n 0, 1) := dq_at zd_dL_law_664 1 rfl
theorem dL_law_666 : decode cL_law 666 = .ok (.iload 4, 2) := dq_at zd_dL_law_664 2 rfl
theorem dL_law_668 : decode cL_law 668 = .ok (.iconst 1, 1) := dq_at zd_dL_law_664 3 rfl
theorem dL_law_669 : decode cL_law 669 = .ok (.iadd, 1) := dq_at zd_dL_law_664 4 rfl
theorem dL_law_670 : decode cL_law 670 = .ok (.iaload, 1) := dq_at zd_dL_law_664 5 rfl
theorem dL_law_671 : decode cL_law 671 = .ok (.aload_n 0, 1) := dq_at zd_dL_law_664 6 rfl
theorem dL_law_672 : decode cL_law 672 = .ok (.iload 4, 2) := dq_at zd_dL_law_664 7 rfl
theorem dL_law_674 : decode cL_law 674 = .ok (.iconst 2, 1) := dq_at zd_dL_law_664 8 rfl
theorem dL_law_675 : decode cL_law 675 = .ok (.iadd, 1) := dq_at zd_dL_law_664 9 rfl
theorem dL_law_676 : decode cL_law 676 = .ok (.iaload, 1) := dq_at zd_dL_law_664 10 rfl
theorem dL_law_677 : decode cL_law 677 = .ok (.invokevirtual 79, 3) := dq_at zd_dL_law_664 11 rfl
theorem dL_law_680 : decode cL_law 680 = .ok (.pop, 1) := dq_at zd_dL_law_664 12 rfl
theorem dL_law_681 : decode cL_law 681 = .ok (.goto 845, 3) := dq_at zd_dL_law_664 13 rfl
theorem dL_law_684 : decode cL_law 684 = .ok (.aload_n 1, 1) := dq_at zd_dL_law_664 14 rfl
theorem dL_law_685 : decode cL_law 685 = .ok (.aload_n 0, 1) := dq_at zd_dL_law_664 15 rfl
theorem dL_law_686 : decode cL_law 686 = .ok (.iload 4, 2) := dq_at zd_dL_law_664 16 rfl
theorem dL_law_688 : decode cL_law 688 = .ok (.iconst 1, 1) := dq_at zd_dL_law_664 17 rfl
theorem dL_law_689 : decode cL_law 689 = .ok (.iadd, 1) := dq_at zd_dL_law_664 18 rfl
theorem dL_law_690 : decode cL_law 690 = .ok (.iaload, 1) := dq_at zd_dL_law_664 19 rfl
theorem dL_law_691 : decode cL_law 691 = .ok (.aload_n 0, 1) := dq_at zd_dL_law_664 20 rfl
theorem zd_dL_law_692 : dq cL_law [(692, .iload 4, 2), (694, .iconst 2, 1), (695, .iadd, 1), (696, .iaload, 1), (697, .invokevirtual 80, 3), (700, .pop, 1), (701, .aload_n 2, 1), (702, .aload_n 0, 1), (703, .iload 4, 2), (705, .iconst 1, 1), (706, .iadd, 1), (707, .iaload, 1), (708, .aload_n 0, 1), (709, .iload 4, 2), (711, .iconst 2, 1), (712, .iadd, 1), (713, .iaload, 1), (714, .invokevirtual 83, 3)] = true := by decide +kernel
theorem dL_law_692 : decode cL_law 692 = .ok (.iload 4, 2) := dq_at zd_dL_law_692 0 rfl
theorem dL_law_694 : decode cL_law 694 = .ok (.iconst 2, 1) := dq_at zd_dL_law_692 1 rfl
theorem dL_law_695 : decode cL_law 695 = .ok (.iadd, 1) := dq_at zd_dL_law_692 2 rfl
theorem dL_law_696 : decode cL_law 696 = .ok (.iaload, 1) := dq_at zd_dL_law_692 3 rfl
theorem dL_law_697 : decode cL_law 697 = .ok (.invokevirtual 80, 3) := dq_at zd_dL_law_692 4 rfl
theorem dL_law_700 : decode cL_law 700 = .ok (.pop, 1) := dq_at zd_dL_law_692 5 rfl
theorem dL_law_701 : decode cL_law 701 = .ok (.aload_n 2, 1) := dq_at zd_dL_law_692 6 rfl
theorem dL_law_702 : decode cL_law 702 = .ok (.aload_n 0, 1) := dq_at zd_dL_law_692 7 rfl
theorem dL_law_703 : decode cL_law 703 = .ok (.iload 4, 2) := dq_at zd_dL_law_692 8 rfl
theorem dL_law_705 : decode cL_law 705 = .ok (.iconst 1, 1) := dq_at zd_dL_law_692 9 rfl
theorem dL_law_706 : decode cL_law 706 = .ok (.iadd, 1) := dq_at zd_dL_law_692 10 rfl
theorem dL_law_707 : decode cL_law 707 = .ok (.iaload, 1) := dq_at zd_dL_law_692 11 rfl
theorem dL_law_708 : decode cL_law 708 = .ok (.aload_n 0, 1) := dq_at zd_dL_law_692 12 rfl
theorem dL_law_709 : decode cL_law 709 = .ok (.iload 4, 2) := dq_at zd_dL_law_692 13 rfl
theorem dL_law_711 : decode cL_law 711 = .ok (.iconst 2, 1) := dq_at zd_dL_law_692 14 rfl
theorem dL_law_712 : decode cL_law 712 = .ok (.iadd, 1) := dq_at zd_dL_law_692 15 rfl
theorem dL_law_713 : decode cL_law 713 = .ok (.iaload, 1) := dq_at zd_dL_law_692 16 rfl
theorem dL_law_714 : decode cL_law 714 = .ok (.invokevirtual 83, 3) := dq_at zd_dL_law_692 17 rfl
