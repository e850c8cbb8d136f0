theorem zd_dX12_init_492 : dq cX12_init [(492, .dup, 1), (493, .bipush 80, 2), (495, .bipush 111, 2), (497, .iastore, 1), (498, .dup, 1), (499, .bipush 81, 2), (501, .bipush 114, 2), (503, .iastore, 1), (504, .dup, 1), (505, .bipush 82, 2), (507, .bipush 32, 2), (509, .iastore, 1), (510, .dup, 1), (511, .bipush 83, 2), (513, .bipush 110, 2), (515, .iastore, 1), (516, .dup, 1), (517, .bipush 84, 2), (519, .bipush 111, 2), (521, .iastore, 1), (522, .dup, 1), (523, .bipush 85, 2), (525, .bipush 116, 2), (527, .iastore, 1)] = true := by decide +kernel
theorem dX12_init_492 : decode cX12_init 492 = .ok (.dup, 1) := dq_at zd_dX12_init_492 0 rfl
theorem dX12_init_493 : decode cX12_init 493 = .ok (.bipush 80, 2) := dq_at zd_dX12_init_492 1 rfl
theorem dX12_init_495 : decode cX12_init 495 = .ok (.bipush 111, 2) := dq_at zd_dX12_init_492 2 rfl
theorem dX12_init_497 : decode cX12_init 497 = .ok (.iastore, 1) := dq_at zd_dX12_init_492 3 rfl
theorem dX12_init_498 : decode cX12_init 498 = .ok (.dup, 1) := dq_at zd_dX12_init_492 4 rfl
theorem dX12_init_499 : decode cX12_init 499 = .ok (.bipush 81, 2) := dq_at zd_dX12_init_492 5 rfl
theorem dX12_init_501 : decode cX12_init 501 = .ok (.bipush 114, 2) := dq_at zd_dX12_init_492 6 rfl
theorem dX12_init_503 : decode cX12_init 503 = .ok (.iastore, 1) := dq_at zd_dX12_init_492 7 rfl
theorem dX12_init_504 : decode cX12_init 504 = .ok (.dup, 1) := dq_at zd_dX12_init_492 8 rfl
theorem dX12_init_505 : decode cX12_init 505 = .ok (.bipush 82, 2) := dq_at zd_dX12_init_492 9 rfl
theorem dX12_init_507 : decode cX12_init 507 = .ok (.bipush 32, 2) := dq_at zd_dX12_init_492 10 rfl
theorem dX12_init_509 : decode cX12_init 509 = .ok (.iastore, 1) := dq_at zd_dX12_init_492 11 rfl
theorem dX12_init_510 : decode cX12_init 510 = .ok (.dup, 1) := dq_at zd_dX12_init_492 12 rfl
theorem dX12_init_511 : decode cX12_init 511 = .ok (.bipush 83, 2) := dq_at zd_dX12_init_492 13 rfl
theorem dX12_init_513 : decode cX12_init 513 = .ok (.bipush 110, 2) := dq_at zd_dX12_init_492 14 rfl
theorem dX12_init_515 : decode cX12_init 515 = .ok (.iastore, 1) := dq_at zd_dX12_init_492 15 rfl
theorem dX12_init_516 : decode cX12_init 516 = .ok (.dup, 1) := dq_at zd_dX12_init_492 16 rfl
theorem dX12_init_517 : decode cX12_init 517 = .ok (.bipush 84, 2) := dq_at zd_dX12_init_492 17 rfl
theorem dX12_init_519 : decode cX12_init 519 = .ok (.bipush 111, 2) := dq_at zd_dX12_init_492 18 rfl
theorem dX12_init_521 : decode cX12_init 521 = .ok (.iastore, 1) := dq_at zd_dX12_init_492 19 rfl
theorem dX12_init_522 : decode cX12_init 522 = .ok (.dup, 1) := dq_at zd_dX12_init_492 20 rfl
theorem dX12_init_523 : decode cX12_init 523 = .ok (.bipush 85, 2) := dq_at zd_dX12_init_492 21 rfl
theorem dX12_init_525 : decode cX12_init 525 = .ok (.bipush 116, 2) := dq_at zd_dX12_init_492 22 rfl
theorem dX12_init_527 : decode cX12_init 527 = .ok (.iastore, 1) := dq_at zd_dX12_init_492 23 rfl
theorem zd_dX12_init_528 : dq cX12_init [(528, .dup, 1), (529, .bipush 86, 2), (531, .bipush 32, 2), (533, .iastore, 1), (534, .dup, 1), (535, .bipush 87, 2), (537, .bipush 102, 2), (539, .iastore, 1), (540, .dup, 1), (541, .bipush 88, 2), (543, .bipush 97, 2), (545, .iastore, 1), (546, .dup, 1), (547, .bipush 89, 2), (549, .bipush 114, 2), (551, .iastore, 1), (552, .dup, 1), (553, .bipush 90, 2), (555, .bipush 32, 2), (557, .iastore, 1), (558, .dup, 1), (559, .bipush 91, 2), (561, .bipush 115, 2), (563, .iastore, 1)] = true := by decide +kernel
theorem dX12_init_528 : decode cX12_init 528 = .ok (.dup, 1) := dq_at zd_dX12_init_528 0 rfl
theorem dX12_init_529 : decode cX12_init 529 = .ok (.bipush 86, 2) := dq_at zd_dX12_init_528 1 rfl
theorem dX12_init_531 : decode cX12_init 531 = .ok (.bipush 32, 2) := dq_at zd_dX12_init_528 2 rfl
theorem dX12_init_533 : decode cX12_init 533 = .ok (.iastore, 1) := dq_at zd_dX12_init_528 3 rfl
theorem dX12_init_534 : decode cX12_init 534 = .ok (.dup, 1) := dq_at zd_dX12_init_528 4 rfl
theorem dX12_init_535 : decode cX12_init 535 = .ok (.bipush 87, 2) := dq_at zd_dX12_init_528 5 rfl
theorem dX12_init_537 : decode cX12_init 537 = .ok (.bipush 102, 2) := dq_at zd_dX12_init_528 6 rfl
theorem dX12_init_539 : decode cX12_init 539 = .ok (.iastore, 1) := dq_at zd_dX12_init_528 7 rfl
theorem dX12_init_540 : decode cX12_init 540 = .ok (.dup, 1) := dq_at zd_dX12_init_528 8 rfl
theorem dX12_init_541 : decode cX12_init 541 = .ok (.bipush 88, 2) := dq_at zd_dX12_init_528 9 rfl
theorem dX12_init_543 : decode cX12_init 543 = .ok (.bipush 97, 2) := dq_at zd_dX12_init_528 10 rfl
theorem dX12_init_545 : decode cX12_init 545 = .ok (.iastore, 1) := dq_at zd_dX12_init_528 11 rfl
theorem dX12_init_546 : decode cX12_init 546 = .ok (.dup, 1) := dq_at zd_dX12_init_528 12 rfl
theorem dX12_init_547 : decode cX12_init 547 = .ok (.bipush 89, 2) := dq_at zd_dX12_init_528 13 rfl
theorem dX12_init_549 : decode cX12_init 549 = .ok (.bipush 114, 2) := dq_at zd_dX12_init_528 14 rfl
theorem dX12_init_551 : decode cX12_init 551 = .ok (.iastore, 1) := dq_at zd_dX12_init_528 15 rfl
theorem dX12_init_552 : decode cX12_init 552 = .ok (.dup, 1) := dq_at zd_dX12_init_528 16 rfl
theorem dX12_init_553 : decode cX12_init 553 = .ok (.bipush 90, 2) := dq_at zd_dX12_init_528 17 rfl
theorem dX12_init_555 : decode cX12_init 555 = .ok (.bipush 32, 2) := dq_at zd_dX12_init_528 18 rfl
theorem dX12_init_557 : decode cX12_init 557 = .ok (.iastore, 1) := dq_at zd_dX12_init_528 19 rfl
theorem dX12_init_558 : decode cX12_init 558 = .ok (.dup, 1) := dq_at zd_dX12_init_528 20 rfl
theorem dX12_init_559 : decode cX12_init 559 = .ok (.bipush 91, 2) := dq_at zd_dX12_init_528 21 rfl
theorem dX12_init_561 : decode cX12_init 561 = .ok (.bipush 115, 2) := dq_at zd_dX12_init_528 22 rfl
theorem dX12_init_563 : decode cX12_init 563 = .ok (.iastore, 1) := dq_at zd_dX12_init_528 23 rfl
theorem zd_dX12_init_564 : dq cX12_init [(564, .dup, 1), (565, .bipush 92, 2), (567, .bipush 105, 2), (569, .iastore, 1), (570, .dup, 1), (571, .bipush 93, 2), (573, .bipush 100, 2), (575, .iastore, 1), (576, .dup, 1), (577, .bipush 94, 2), (579, .bipush 101, 2), (581, .iastore, 1), (582, .dup, 1), (583, .bipush 95, 2), (585, .bipush 32, 2), (587, .iastore, 1), (588, .dup, 1), (589, .bipush 96, 2), (591, .bipush 98, 2), (593, .iastore, 1), (594, .dup, 1), (595, .bipush 97, 2), (597, .bipush 111, 2), (599, .iastore, 1)] = true := by decide +kernel
theorem dX12_init_564 : decode cX12_init 564 = .ok (.dup, 1) := dq_at zd_dX12_init_564 0 rfl
theorem dX12_init_565 : decode cX12_init 565 = .ok (.bipush 92, 2) := dq_at zd_dX12_init_564 1 rfl
theorem dX12_init_567 : decode cX12_init 567 = .ok (.bipush 105, 2) := dq_at zd_dX12_init_564 2 rfl
theorem dX12_init_569 : decode cX12_init 569 = .ok (.iastore, 1) := dq_at zd_dX12_init_564 3 rfl
theorem dX12_init_570 : decode cX12_init 570 = .ok (.dup, 1) := dq_at zd_dX12_init_564 4 rfl
theorem dX12_init_571 : decode cX12_init 571 = .ok (.bipush 93, 2) := dq_at zd_dX12_init_564 5 rfl
theorem dX12_init_573 : decode cX12_init 573 = .ok (.bipush 100, 2) := dq_at zd_dX12_init_564 6 rfl
theorem dX12_init_575 : decode cX12_init 575 = .ok (.iastore, 1) := dq_at zd_dX12_init_564 7 rfl
theorem dX12_init_576 : decode cX12_init 576 = .ok (.dup, 1) := dq_at zd_dX12_init_564 8 rfl
theorem dX12_init_577 : decode cX12_init 577 = .ok (.bipush 94, 2) := dq_at zd_dX12_init_564 9 rfl
theorem dX12_init_579 : decode cX12_init 579 = .ok (.bipush 101, 2) := dq_at zd_dX12_init_564 10 rfl
theorem dX12_init_581 : decode cX12_init 581 = .ok (.iastore, 1) := dq_at zd_dX12_init_564 11 rfl
theorem dX12_init_582 : decode cX12_init 582 = .ok (.dup, 1) := dq_at zd_dX12_init_564 12 rfl
theorem dX12_init_583 : decode cX12_init 583 = .ok (.bipush 95, 2) := dq_at zd_dX12_init_564 13 rfl
theorem dX12_init_585 : decode cX12_init 585 = .ok (.bipush 32, 2) := dq_at zd_dX12_init_564 14 rfl
theorem dX12_init_587 : decode cX12_init 587 = .ok (.iastore, 1) := dq_at zd_dX12_init_564 15 rfl
theorem dX12_init_588 : decode cX12_init 588 = .ok (.dup, 1) := dq_at zd_dX12_init_564 16 rfl
theorem dX12_init_589 : decode cX12_init 589 = .ok (.bipush 96, 2) := dq_at zd_dX12_init_564 17 rfl
theorem dX12_init_591 : decode cX12_init 591 = .ok (.bipush 98, 2) := dq_at zd_dX12_init_564 18 rfl
theorem dX12_init_593 : decode cX12_init 593 = .ok (.iastore, 1) := dq_at zd_dX12_init_564 19 rfl
theorem dX12_init_594 : decode cX12_init 594 = .ok (.dup, 1) := dq_at zd_dX12_init_564 20 rfl
theorem dX12_init_595 : decode cX12_init 595 = .ok (.bipush 97, 2) := dq_at zd_dX12_init_564 21 rfl
theorem dX12_init_597 : decode cX12_init 597 = .ok (.bipush 111, 2) := dq_at zd_dX12_init_564 22 rfl
theorem dX12_init_599 : decode cX12_init 599 = .ok (.iastore, 1) := dq_at zd_dX12_init_564 23 rfl
theorem zd_dX12_init_600 : dq cX12_init [(600, .dup, 1), (601, .bipush 98, 2), (603, .bipush 97, 2), (605, .iastore, 1), (606, .dup, 1), (607, .bipush 99, 2), (609, .bipush 114, 2), (611, .iastore, 1), (612, .dup, 1), (613, .bipush 100, 2), (615, .bipush 100, 2), (617, .iastore, 1), (618, .dup, 1), (619, .bipush 101, 2), (621, .bipush 32, 2), (623, .iastore, 1), (624, .dup, 1), (625, .bipush 102, 2), (627, .bipush 115, 2), (629, .iastore, 1), (630, .dup, 1), (631, .bipush 103, 2), (633, .bipush 105, 2), (635, .iastore, 1)] = true := by decide +kernel
theorem dX12_init_600 : decode cX12_init 600 = .ok (.dup, 1) := dq_at zd_dX12_init_600 0 rfl
theorem dX12_init_601 : decode cX12_init 601 = .ok (.bipush 98, 2) := dq_at zd_dX12_init_600 1 rfl
theorem dX12_init_603 : decode cX12_init 603 = .ok (.bipush 97, 2) := dq_at zd_dX12_init_600 2 rfl
theorem dX12_init_605 : decode cX12_init 605 = .ok (.iastore, 1) := dq_at zd_dX12_init_600 3 rfl
theorem dX12_init_606 : decode cX12_init 606 = .ok (.dup, 1) := dq_at zd_dX12_init_600 4 rfl
theorem dX12_init_607 : decode cX12_init 607 = .ok (.bipush 99, 2) := dq_at zd_dX12_init_600 5 rfl
theorem dX12_init_609 : decode cX12_init 609 = .ok (.bipush 114, 2) := dq_at zd_dX12_init_600 6 rfl
theorem dX12_init_611 : decode cX12_init 611 = .ok (.iastore, 1) := dq_at zd_dX12_init_600 7 rfl
theorem dX12_init_612 : decode cX12_init 612 = .ok (.dup, 1) := dq_at zd_dX12_init_600 8 rfl
theorem dX12_init_613 : decode cX12_init 613 = .ok (.bipush 100, 2) := dq_at zd_dX12_init_600 9 rfl
theorem dX12_init_615 : decode cX12_init 615 = .ok (.bipush 100, 2) := dq_at zd_dX12_init_600 10 rfl
theorem dX12_init_617 : decode cX12_init 617 = .ok (.iastore, 1) := dq_at zd_dX12_init_600 11 rfl
theorem dX12_init_618 : decode cX12_init 618 = .ok (.dup, 1) := dq_at zd_dX12_init_600 12 rfl
theorem dX12_init_619 : decode cX12_init 619 = .ok (.bipush 101, 2) := dq_at zd_dX12_init_600 13 rfl
theorem dX12_init_621 : decode cX12_init 621 = .ok (.bipush 32, 2) := dq_at zd_dX12_init_600 14 rfl
theorem dX12_init_623 : decode cX12_init 623 = .ok (.iastore, 1) := dq_at zd_dX12_init_600 15 rfl
theorem dX12_init_624 : decode cX12_init 624 = .ok (.dup, 1) := dq_at zd_dX12_init_600 16 rfl
theorem dX12_init_625 : decode cX12_init 625 = .ok (.bipush 102, 2) := dq_at zd_dX12_init_600 17 rfl
theorem dX12_init_627 : decode cX12_init 627 = .ok (.bipush 115, 2) := dq_at zd_dX12_init_600 18 rfl
theorem dX12_init_629 : decode cX12_init 629 = .ok (.iastore, 1) := dq_at zd_dX12_init_600 19 rfl
theorem dX12_init_630 : decode cX12_init 630 = .ok (.dup, 1) := dq_at zd_dX12_init_600 20 rfl
theorem dX12_init_631 : decode cX12_init 631 = .ok (.bipush 103, 2) := dq_at zd_dX12_init_600 21 rfl
theorem dX12_init_633 : decode cX12_init 633 = .ok (.bipush 105, 2) := dq_at zd_dX12_init_600 22 rfl
theorem dX12_init_635 : decode cX12_init 635 = .ok (.iastore, 1) := dq_at zd_dX12_init_600 23 rfl
theorem zd_dX12_init_636 : dq cX12_init [(636, .dup, 1), (637, .bipush 104, 2), (639, .bipush 122, 2), (641, .iastore, 1), (642, .dup, 1), (643, .bipush 105, 2), (645, .bipush 101, 2), (647, .iastore, 1), (648, .dup, 1), (649, .bipush 106, 2), (651, .bipush 32, 2), (653, .iastore, 1), (654, .dup, 1), (655, .bipush 107, 2), (657, .bipush 109, 2), (659, .iastore, 1), (660, .dup, 1), (661, .bipush 108, 2), (663, .bipush 105, 2), (665, .iastore, 1), (666, .dup, 1), (667, .bipush 109, 2), (669, .bipush 110, 2), (671, .iastore, 1)] = true := by decide +kernel
theorem dX12_init_636 : decode cX12_init 636 = .ok (.dup, 1) := dq_at zd_dX12_init_636 0 rfl
theorem dX12_init_637 : decode cX12_init 637 = .ok (.bipush 104, 2) := dq_at zd_dX12_init_636 1 rfl
theorem dX12_init_639 : decode cX12_init 639 = .ok (.bipush 122, 2) := dq_at zd_dX12_init_636 2 rfl
theorem dX12_init_641 : decode cX12_init 641 = .ok (.iastore, 1) := dq_at zd_dX12_init_636 3 rfl
theorem dX12_init_642 : decode cX12_init 642 = .ok (.dup, 1) := dq_at zd_dX12_init_636 4 rfl
theorem dX12_init_643 : decode cX12_init 643 = .ok (.bipush 105, 2) := dq_at zd_dX12_init_636 5 rfl
theorem dX12_init_645 : decode cX12_init 645 = .ok (.bipush 101, 2) := dq_at zd_dX12_init_636 6 rfl
theorem dX12_init_647 : decode cX12_init 647 = .ok (.iastore, 1) := dq_at zd_dX12_init_636 7 rfl
theorem dX12_init_648 : decode cX12_init 648 = .ok (.dup, 1) := dq_at zd_dX12_init_636 8 rfl
theorem dX12_init_649 : decode cX12_init 649 = .ok (.bipush 106, 2) := dq_at zd_dX12_init_636 9 rfl
theorem dX12_init_651 : decode cX12_init 651 = .ok (.bipush 32, 2) := dq_at zd_dX12_init_636 10 rfl
theorem dX12_init_653 : decode cX12_init 653 = .ok (.iastore, 1) := dq_at zd_dX12_init_636 11 rfl
theorem dX12_init_654 : decode cX12_init 654 = .ok (.dup, 1) := dq_at zd_dX12_init_636 12 rfl
theorem dX12_init_655 : decode cX12_init 655 = .ok (.bipush 107, 2) := dq_at zd_dX12_init_636 13 rfl
theorem dX12_init_657 : decode cX12_init 657 = .ok (.bipush 109, 2) := dq_at zd_dX12_init_636 14 rfl
theorem dX12_init_659 : decode cX12_init 659 = .ok (.iastore, 1) := dq_at zd_dX12_init_636 15 rfl
theorem dX12_init_660 : decode cX12_init 660 = .ok (.dup, 1) := dq_at zd_dX12_init_636 16 rfl
theorem dX12_init_661 : decode cX12_init 661 = .ok (.bipush 108, 2) := dq_at zd_dX12_init_636 17 rfl
theorem dX12_init_663 : decode cX12_init 663 = .ok (.bipush 105, 2) := dq_at zd_dX12_init_636 18 rfl
theorem dX12_init_665 : decode cX12_init 665 = .ok (.iastore, 1) := dq_at zd_dX12_init_636 19 rfl
theorem dX12_init_666 : decode cX12_init 666 = .ok (.dup, 1) := dq_at zd_dX12_init_636 20 rfl
theorem dX12_init_667 : decode cX12_init 667 = .ok (.bipush 109, 2) := dq_at zd_dX12_init_636 21 rfl
theorem dX12_init_669 : decode cX12_init 669 = .ok (.bipush 110, 2) := dq_at zd_dX12_init_636 22 rfl
theorem dX12_init_671 : decode cX12_init 671 = .ok (.iastore, 1) := dq_at zd_dX12_init_636 23 rfl
theorem zd_dX12_init_672 : dq cX12_init [(672, .dup, 1), (673, .bipush 110, 2), (675, .bipush 117, 2), (677, .iastore, 1), (678, .dup, 1), (679, .bipush 111, 2), (681, .bipush 116, 2), (683, .iastore, 1), (684, .dup, 1), (685, .bipush 112, 2), (687, .bipush 101, 2), (689, .iastore, 1), (690, .dup, 1), (691, .bipush 113, 2), (693, .bipush 32, 2), (695, .iastore, 1), (696, .dup, 1), (697, .bipush 114, 2), (699, .bipush 119, 2), (701, .iastore, 1), (702, .dup, 1), (703, .bipush 115, 2), (705, .bipush 104, 2), (707, .iastore, 1)] = true := by decide +kernel
theorem dX12_init_672 : decode cX12_init 672 = .ok (.dup, 1) := dq_at zd_dX12_init_672 0 rfl
theorem dX12_init_673 : decode cX12_init 673 = .ok (.bipush 110, 2) := dq_at zd_dX12_init_672 1 rfl
theorem dX12_init_675 : decode cX12_init 675 = .ok (.bipush 117, 2) := dq_at zd_dX12_init_672 2 rfl
theorem dX12_init_677 : decode cX12_init 677 = .ok (.iastore, 1) := dq_at zd_dX12_init_672 3 rfl
theorem dX12_init_678 : decode cX12_init 678 = .ok (.dup, 1) := dq_at zd_dX12_init_672 4 rfl
theorem dX12_init_679 : decode cX12_init 679 = .ok (.bipush 111, 2) := dq_at zd_dX12_init_672 5 rfl
theorem dX12_init_681 : decode cX12_init 681 = .ok (.bipush 116, 2) := dq_at zd_dX12_init_672 6 rfl
theorem dX12_init_683 : decode cX12_init 683 = .ok (.iastore, 1) := dq_at zd_dX12_init_672 7 rfl
theorem dX12_init_684 : decode cX12_init 684 = .ok (.dup, 1) := dq_at zd_dX12_init_672 8 rfl
theorem dX12_init_685 : decode cX12_init 685 = .ok (.bipush 112, 2) := dq_at zd_dX12_init_672 9 rfl
theorem dX12_init_687 : decode cX12_init 687 = .ok (.bipush 101, 2) := dq_at zd_dX12_init_672 10 rfl
theorem dX12_init_689 : decode cX12_init 689 = .ok (.iastore, 1) := dq_at zd_dX12_init_672 11 rfl
theorem dX12_init_690 : decode cX12_init 690 = .ok (.dup, 1) := dq_at zd_dX12_init_672 12 rfl
theorem dX12_init_691 : decode cX12_init 691 = .ok (.bipush 113, 2) := dq_at zd_dX12_init_672 13 rfl
theorem dX12_init_693 : decode cX12_init 693 = .ok (.bipush 32, 2) := dq_at zd_dX12_init_672 14 rfl
theorem dX12_init_695 : decode cX12_init 695 = .ok (.iastore, 1) := dq_at zd_dX12_init_672 15 rfl
theorem dX12_init_696 : decode cX12_init 696 = .ok (.dup, 1) := dq_at zd_dX12_init_672 16 rfl
theorem dX12_init_697 : decode cX12_init 697 = .ok (.bipush 114, 2) := dq_at zd_dX12_init_672 17 rfl
theorem dX12_init_699 : decode cX12_init 699 = .ok (.bipush 119, 2) := dq_at zd_dX12_init_672 18 rfl
theorem dX12_init_701 : decode cX12_init 701 = .ok (.iastore, 1) := dq_at zd_dX12_init_672 19 rfl
theorem dX12_init_702 : decode cX12_init 702 = .ok (.dup, 1) := dq_at zd_dX12_init_672 20 rfl
theorem dX12_init_703 : decode cX12_init 703 = .ok (.bipush 115, 2) := dq_at zd_dX12_init_672 21 rfl
theorem dX12_init_705 : decode cX12_init 705 = .ok (.bipush 104, 2) := dq_at zd_dX12_init_672 22 rfl
theorem dX12_init_707 : decode cX12_init 707 = .ok (.iastore, 1) := dq_at zd_dX12_init_672 23 rfl
theorem zd_dX12_init_708 : dq cX12_init [(708, .dup, 1), (709, .bipush 116, 2), (711, .bipush 105, 2), (713, .iastore, 1), (714, .dup, 1), (715, .bipush 117, 2), (717, .bipush 99, 2), (719, .iastore, 1), (720, .dup, 1), (721, .bipush 118, 2), (723, .bipush 104, 2), (725, .iastore, 1), (726, .dup, 1), (727, .bipush 119, 2), (729, .bipush 32, 2), (731, .iastore, 1), (732, .putfield 13, 3), (735, .aload_n 0, 1), (736, .iconst (-1), 1), (737, .putfield 16, 3), (740, .aload_n 0, 1), (741, .iconst 5, 1), (742, .newarray .boolean, 2), (744, .putfield 20, 3)] = true := by decide +kernel
theorem dX12_init_708 : decode cX12_init 708 = .ok (.dup, 1) := dq_at zd_dX12_init_708 0 rfl
theorem dX12_init_709 : decode cX12_init 709 = .ok (.bipush 116, 2) := dq_at zd_dX12_init_708 1 rfl
theorem dX12_init_711 : decode cX12_init 711 = .ok (.bipush 105, 2) := dq_at zd_dX12_init_708 2 rfl
theorem dX12_init_713 : decode cX12_init 713 = .ok (.iastore, 1) := dq_at zd_dX12_init_708 3 rfl
theorem dX12_init_714 : decode cX12_init 714 = .ok (.dup, 1) := dq_at zd_dX12_init_708 4 rfl
theorem dX12_init_715 : decode cX12_init 715 = .ok (.bipush 117, 2) := dq_at zd_dX12_init_708 5 rfl
theorem dX12_init_717 : decode cX12_init 717 = .ok (.bipush 99, 2) := dq_at zd_dX12_init_708 6 rfl
theorem dX12_init_719 : decode cX12_init 719 = .ok (.iastore, 1) := dq_at zd_dX12_init_708 7 rfl
theorem dX12_init_720 : decode cX12_init 720 = .ok (.dup, 1) := dq_at zd_dX12_init_708 8 rfl
theorem dX12_init_721 : decode cX12_init 721 = .ok (.bipush 118, 2) := dq_at zd_dX12_init_708 9 rfl
theorem dX12_init_723 : decode cX12_init 723 = .ok (.bipush 104, 2) := dq_at zd_dX12_init_708 10 rfl
theorem dX12_init_725 : decode cX12_init 725 = .ok (.iastore, 1) := dq_at zd_dX12_init_708 11 rfl
theorem dX12_init_726 : decode cX12_init 726 = .ok (.dup, 1) := dq_at zd_dX12_init_708 12 rfl
theorem dX12_init_727 : decode cX12_init 727 = .ok (.bipush 119, 2) := dq_at zd_dX12_init_708 13 rfl
theorem dX12_init_729 : decode cX12_init 729 = .ok (.bipush 32, 2) := dq_at zd_dX12_init_708 14 rfl
theorem dX12_init_731 : decode cX12_init 731 = .ok (.iastore, 1) := dq_at zd_dX12_init_708 15 rfl
theorem dX12_init_732 : decode cX12_init 732 = .ok (.putfield 13, 3) := dq_at zd_dX12_init_708 16 rfl
theorem dX12_init_735 : decode cX12_init 735 = .ok (.aload_n 0, 1) := dq_at zd_dX12_init_708 17 rfl
theorem dX12_init_736 : decode cX12_init 736 = .ok (.iconst (-1), 1) := dq_at zd_dX12_init_708 18 rfl
theorem dX12_init_737 : decode cX12_init 737 = .ok (.putfield 16, 3) := dq_at zd_dX12_init_708 19 rfl
theorem dX12_init_740 : decode cX12_init 740 = .ok (.aload_n 0, 1) := dq_at zd_dX12_init_708 20 rfl
theorem dX12_init_741 : decode cX12_init 741 = .ok (.iconst 5, 1) := dq_at zd_dX12_init_708 21 rfl
theorem dX12_init_742 : decode cX12_init 742 = .ok (.newarray .boolean, 2) := dq_at zd_dX12_init_708 22 rfl
theorem dX12_init_744 : decode cX12_init 744 = .ok (.putfield 20, 3) := dq_at zd_dX12_init_708 23 rfl
theorem zd_dX12_init_747 : dq cX12_init [(747, .aload_n 0, 1), (748, .bipush 14, 2), (750, .newarray .int, 2), (752, .putfield 24, 3), (755, .aload_n 0, 1), (756, .bipush 10, 2), (758, .newarray .int, 2), (760, .putfield 27, 3), (763, .aload_n 0, 1), (764, .bipush 10, 2), (766, .newarray .int, 2), (768, .putfield 30, 3), (771, .aload_n 0, 1), (772, .bipush 10, 2), (774, .newarray .int, 2), (776, .putfield 33, 3), (779, .aload_n 0, 1), (780, .bipush 10, 2), (782, .newarray .int, 2), (784, .putfield 36, 3), (787, .aload_n 0, 1), (788, .bipush 10, 2), (790, .newarray .int, 2), (792, .putfield 39, 3)] = true := by decide +kernel
theorem dX12_init_747 : decode cX12_init 747 = .ok (.aload_n 0, 1) := dq_at zd_dX12_init_747 0 rfl
theorem dX12_init_748 : decode cX12_init 748 = .ok (.bipush 14, 2) := dq_at zd_dX12_init_747 1 rfl
theorem dX12_init_750 : decode cX12_init 750 = .ok (.newarray .int, 2) := dq_at zd_dX12_init_747 2 rfl
theorem dX12_init_752 : decode cX12_init 752 = .ok (.putfield 24, 3) := dq_at zd_dX12_init_747 3 rfl
theorem dX12_init_755 : decode cX12_init 755 = .ok (.aload_n 0, 1) := dq_at zd_dX12_init_747 4 rfl
theorem dX12_init_756 : decode cX12_init 756 = .ok (.bipush 10, 2) := dq_at zd_dX12_init_747 5 rfl
theorem dX12_init_758 : decode cX12_init 758 = .ok (.newarray .int, 2) := dq_at zd_dX12_init_747 6 rfl
theorem dX12_init_760 : decode cX12_init 760 = .ok (.putfield 27, 3) := dq_at zd_dX12_init_747 7 rfl
theorem dX12_init_763 : decode cX12_init 763 = .ok (.aload_n 0, 1) := dq_at zd_dX12_init_747 8 rfl
theorem dX12_init_764 : decode cX12_init 764 = .ok (.bipush 10, 2) := dq_at zd_dX12_init_747 9 rfl
theorem dX12_init_766 : decode cX12_init 766 = .ok (.newarray .int, 2) := dq_at zd_dX12_init_747 10 rfl
theorem dX12_init_768 : decode cX12_init 768 = .ok (.putfield 30, 3) := dq_at zd_dX12_init_747 11 rfl
theorem dX12_init_771 : decode cX12_init 771 = .ok (.aload_n 0, 1) := dq_at zd_dX12_init_747 12 rfl
theorem dX12_init_772 : decode cX12_init 772 = .ok (.bipush 10, 2) := dq_at zd_dX12_init_747 13 rfl
theorem dX12_init_774 : decode cX12_init 774 = .ok (.newarray .int, 2) := dq_at zd_dX12_init_747 14 rfl
theorem dX12_init_776 : decode cX12_init 776 = .ok (.putfield 33, 3) := dq_at zd_dX12_init_747 15 rfl
theorem dX12_init_779 : decode cX12_init 779 = .ok (.aload_n 0, 1) := dq_at zd_dX12_init_747 16 rfl
theorem dX12_init_780 : decode cX12_init 780 = .ok (.bipush 10, 2) := dq_at zd_dX12_init_747 17 rfl
theorem dX12_init_782 : decode cX12_init 782 = .ok (.newarray .int, 2) := dq_at zd_dX12_init_747 18 rfl
theorem dX12_init_784 : decode cX12_init 784 = .ok (.putfield 36, 3) := dq_at zd_dX12_init_747 19 rfl
theorem dX12_init_787 : decode cX12_init 787 = .ok (.aload_n 0, 1) := dq_at zd_dX12_init_747 20 rfl
theorem dX12_init_788 : decode cX12_init 788 = .ok (.bipush 10, 2) := dq_at zd_dX12_init_747 21 rfl
theorem dX12_init_790 : decode cX12_init 790 = .ok (.newarray .int, 2) := dq_at zd_dX12_init_747 22 rfl
theorem dX12_init_792 : decode cX12_init 792 = .ok (.putfield 39, 3) := dq_at zd_dX12_init_747 23 rfl
theorem zd_dX12_init_795 : dq cX12_init [(795, .aload_n 0, 1), (796, .bipush 10, 2), (798, .newarray .int, 2), (800, .putfield 42, 3), (803, .aload_n 0, 1), (804, .bipush 8, 2), (806, .newarray .int, 2), (808, .putfield 45, 3), (811, .aload_n 0, 1), (812, .bipush 56, 2), (814, .newarray .int, 2), (816, .putfield 48, 3), (819, .aload_n 0, 1), (820, .bipush 56, 2), (822, .newarray .int, 2), (824, .putfield 51, 3), (827, .aload_n 0, 1), (828, .bipush 56, 2), (830, .newarray .int, 2), (832, .putfield 54, 3), (835, .aload_n 0, 1), (836, .bipush 6, 2), (838, .newarray .boolean, 2), (840, .putfield 57, 3)] = true := by decide +kernel
theorem dX12_init_795 : decode cX12_init 795 = .ok (.aload_n 0, 1) := dq_at zd_dX12_init_795 0 rfl
theorem dX12_init_796 : decode cX12_init 796 = .ok (.bipush 10, 2) := dq_at zd_dX12_init_795 1 rfl
theorem dX12_init_798 : decode cX12_init 798 = .ok (.newarray .int, 2) := dq_at zd_dX12_init_795 2 rfl
theorem dX12_init_800 : decode cX12_init 800 = .ok (.putfield 42, 3) := dq_at zd_dX12_init_795 3 rfl
theorem dX12_init_803 : decode cX12_init 803 = .ok (.aload_n 0, 1) := dq_at zd_dX12_init_795 4 rfl
theorem dX12_init_804 : decode cX12_init 804 = .ok (.bipush 8, 2) := dq_at zd_dX12_init_795 5 rfl
theorem dX12_init_806 : decode cX12_init 806 = .ok (.newarray .int, 2) := dq_at zd_dX12_init_795 6 rfl
theorem dX12_init_808 : decode cX12_init 808 = .ok (.putfield 45, 3) := dq_at zd_dX12_init_795 7 rfl
theorem dX12_init_811 : decode cX12_init 811 = .ok (.aload_n 0, 1) := dq_at zd_dX12_init_795 8 rfl
theorem dX12_init_812 : decode cX12_init 812 = .ok (.bipush 56, 2) := dq_at zd_dX12_init_795 9 rfl
theorem dX12_init_814 : decode cX12_init 814 = .ok (.newarray .int, 2) := dq_at zd_dX12_init_795 10 rfl
theorem dX12_init_816 : decode cX12_init 816 = .ok (.putfield 48, 3) := dq_at zd_dX12_init_795 11 rfl
theorem dX12_init_819 : decode cX12_init 819 = .ok (.aload_n 0, 1) := dq_at zd_dX12_init_795 12 rfl
theorem dX12_init_820 : decode cX12_init 820 = .ok (.bipush 56, 2) := dq_at zd_dX12_init_795 13 rfl
theorem dX12_init_822 : decode cX12_init 822 = .ok (.newarray .int, 2) := dq_at zd_dX12_init_795 14 rfl
theorem dX12_init_824 : decode cX12_init 824 = .ok (.putfield 51, 3) := dq_at zd_dX12_init_795 15 rfl
theorem dX12_init_827 : decode cX12_init 827 = .ok (.aload_n 0, 1) := dq_at zd_dX12_init_795 16 rfl
theorem dX12_init_828 : decode cX12_init 828 = .ok (.bipush 56, 2) := dq_at zd_dX12_init_795 17 rfl
theorem dX12_init_830 : decode cX12_init 830 = .ok (.newarray .int, 2) := dq_at zd_dX12_init_795 18 rfl
theorem dX12_init_832 : decode cX12_init 832 = .ok (.putfield 54, 3) := dq_at zd_dX12_init_795 19 rfl
theorem dX12_init_835 : decode cX12_init 835 = .ok (.aload_n 0, 1) := dq_at zd_dX12_init_795 20 rfl
theorem dX12_init_836 : decode cX12_init 836 = .ok (.bipush 6, 2) := dq_at zd_dX12_init_795 21 rfl
theorem dX12_init_838 : decode cX12_init 838 = .ok (.newarray .boolean, 2) := dq_at zd_dX12_init_795 22 rfl
theorem dX12_init_840 : decode cX12_init 840 = .ok (.putfield 57, 3) := dq_at zd_dX12_init_795 23 rfl
theorem zd_dX12_init_843 : dq cX12_init [(843, .aload_n 0, 1), (844, .bipush 6, 2), (846, .newarray .int, 2), (848, .putfield 60, 3), (851, .aload_n 0, 1), (852, .bipush 6, 2), (854, .newarray .int, 2), (856, .putfield 63, 3), (859, .aload_n 0, 1), (860, .sipush 128, 3), (863, .newarray .int, 2), (865, .putfield 66, 3), (868, .aload_n 0, 1), (869, .sipush 128, 3), (872, .newarray .int, 2)] = true := by decide +kernel
theorem dX12_init_843 : decode cX12_init 843 = .ok (.aload_n 0, 1) := dq_at zd_dX12_init_843 0 rfl
theorem dX12_init_844 : decode cX12_init 844 = .ok (.bipush 6, 2) := dq_at zd_dX12_init_843 1 rfl
theorem dX12_init_846 : decode cX12_init 846 = .ok (.newarray .int, 2) := dq_at zd_dX12_init_843 2 rfl
theorem dX12_init_848 : decode cX12_init 848 = .ok (.putfield 60, 3) := dq_at zd_dX12_init_843 3 rfl
theorem dX12_init_851 : decode cX12_init 851 = .ok (.aload_n 0, 1) := dq_at zd_dX12_init_843 4 rfl
theorem dX12_init_852 : decode cX12_init 852 = .ok (.bipush 6, 2) := dq_at zd_dX12_init_843 5 rfl
theorem dX12_init_854 : decode cX12_init 854 = .ok (.newarray .int, 2) := dq_at zd_dX12_init_843 6 rfl
theorem dX12_init_856 : decode cX12_init 856 = .ok (.putfield 63, 3) := dq_at zd_dX12_init_843 7 rfl
theorem dX12_init_859 : decode cX12_init 859 = .ok (.aload_n 0, 1) := dq_at zd_dX12_init_843 8 rfl
theorem dX12_init_860 : decode cX12_init 860 = .ok (.sipush 128, 3) := dq_at zd_dX12_init_843 9 rfl
theorem dX12_init_863 : decode cX12_init 863 = .ok (.newarray .int, 2) := dq_at zd_dX12_init_843 10 rfl
theorem dX12_init_865 : decode cX12_init 865 = .ok (.putfield 66, 3) := dq_at zd_dX12_init_843 11 rfl
theorem dX12_init_868 : decode cX12_init 868 = .ok (.aload_n 0, 1) := dq_at zd_dX12_init_843 12 rfl
theorem dX12_init_869 : decode cX12_init 869 = .ok (.sipush 128, 3) := dq_at zd_dX12_init_843 13 rfl
theorem dX12_init_872 : decode cX12_init 872 = .ok (.newarray .int, 2) := dq_at zd_dX12_init_843 14 rfl
