theorem zd_dL_law_717 : dq cL_law [(717, .pop, 1), (718, .goto 808, 3), (721, .aload_n 1, 1), (722, .aload_n 0, 1), (723, .iload 4, 2), (725, .iconst 1, 1), (726, .iadd, 1), (727, .iaload, 1), (728, .aload_n 0, 1), (729, .iload 4, 2), (731, .iconst 2, 1), (732, .iadd, 1), (733, .iaload, 1), (734, .invokevirtual 84, 3), (737, .pop, 1), (738, .aload_n 2, 1), (739, .aload_n 0, 1), (740, .iload 4, 2), (742, .iconst 1, 1), (743, .iadd, 1), (744, .iaload, 1)] = true := by decide +kernel
theorem dL_law_717 : decode cL_law 717 = .ok (.pop, 1) := dq_at zd_dL_law_717 0 rfl
theorem dL_law_718 : decode cL_law 718 = .ok (.goto 808, 3) := dq_at zd_dL_law_717 1 rfl
theorem dL_law_721 : decode cL_law 721 = .ok (.aload_n 1, 1) := dq_at zd_dL_law_717 2 rfl
theorem dL_law_722 : decode cL_law 722 = .ok (.aload_n 0, 1) := dq_at zd_dL_law_717 3 rfl
theorem dL_law_723 : decode cL_law 723 = .ok (.iload 4, 2) := dq_at zd_dL_law_717 4 rfl
theorem dL_law_725 : decode cL_law 725 = .ok (.iconst 1, 1) := dq_at zd_dL_law_717 5 rfl
theorem dL_law_726 : decode cL_law 726 = .ok (.iadd, 1) := dq_at zd_dL_law_717 6 rfl
theorem dL_law_727 : decode cL_law 727 = .ok (.iaload, 1) := dq_at zd_dL_law_717 7 rfl
theorem dL_law_728 : decode cL_law 728 = .ok (.aload_n 0, 1) := dq_at zd_dL_law_717 8 rfl
theorem dL_law_729 : decode cL_law 729 = .ok (.iload 4, 2) := dq_at zd_dL_law_717 9 rfl
theorem dL_law_731 : decode cL_law 731 = .ok (.iconst 2, 1) := dq_at zd_dL_law_717 10 rfl
theorem dL_law_732 : decode cL_law 732 = .ok (.iadd, 1) := dq_at zd_dL_law_717 11 rfl
theorem dL_law_733 : decode cL_law 733 = .ok (.iaload, 1) := dq_at zd_dL_law_717 12 rfl
theorem dL_law_734 : decode cL_law 734 = .ok (.invokevirtual 84, 3) := dq_at zd_dL_law_717 13 rfl
theorem dL_law_737 : decode cL_law 737 = .ok (.pop, 1) := dq_at zd_dL_law_717 14 rfl
theorem dL_law_738 : decode cL_law 738 = .ok (.aload_n 2, 1) := dq_at zd_dL_law_717 15 rfl
theorem dL_law_739 : decode cL_law 739 = .ok (.aload_n 0, 1) := dq_at zd_dL_law_717 16 rfl
theorem dL_law_740 : decode cL_law 740 = .ok (.iload 4, 2) := dq_at zd_dL_law_717 17 rfl
theorem dL_law_742 : decode cL_law 742 = .ok (.iconst 1, 1) := dq_at zd_dL_law_717 18 rfl
theorem dL_law_743 : decode cL_law 743 = .ok (.iadd, 1) := dq_at zd_dL_law_717 19 rfl
theorem dL_law_744 : decode cL_law 744 = .ok (.iaload, 1) := dq_at zd_dL_law_717 20 rfl
theorem zd_dL_law_745 : dq cL_law [(745, .aload_n 0, 1), (746, .iload 4, 2), (748, .iconst 2, 1), (749, .iadd, 1), (750, .iaload, 1), (751, .invokevirtual 87, 3), (754, .pop, 1), (755, .goto 771, 3), (758, .aload_n 1, 1), (759, .aload_n 0, 1), (760, .iload 4, 2), (762, .iconst 1, 1), (763, .iadd, 1), (764, .iaload, 1), (765, .invokevirtual 88, 3), (768, .pop, 1), (769, .aload_n 2, 1), (770, .aload_n 0, 1), (771, .iload 4, 2), (773, .iconst 1, 1), (774, .iadd, 1)] = true := by decide +kernel
theorem dL_law_745 : decode cL_law 745 = .ok (.aload_n 0, 1) := dq_at zd_dL_law_745 0 rfl
theorem dL_law_746 : decode cL_law 746 = .ok (.iload 4, 2) := dq_at zd_dL_law_745 1 rfl
theorem dL_law_748 : decode cL_law 748 = .ok (.iconst 2, 1) := dq_at zd_dL_law_745 2 rfl
theorem dL_law_749 : decode cL_law 749 = .ok (.iadd, 1) := dq_at zd_dL_law_745 3 rfl
theorem dL_law_750 : decode cL_law 750 = .ok (.iaload, 1) := dq_at zd_dL_law_745 4 rfl
theorem dL_law_751 : decode cL_law 751 = .ok (.invokevirtual 87, 3) := dq_at zd_dL_law_745 5 rfl
theorem dL_law_754 : decode cL_law 754 = .ok (.pop, 1) := dq_at zd_dL_law_745 6 rfl
theorem dL_law_755 : decode cL_law 755 = .ok (.goto 771, 3) := dq_at zd_dL_law_745 7 rfl
theorem dL_law_758 : decode cL_law 758 = .ok (.aload_n 1, 1) := dq_at zd_dL_law_745 8 rfl
theorem dL_law_759 : decode cL_law 759 = .ok (.aload_n 0, 1) := dq_at zd_dL_law_745 9 rfl
theorem dL_law_760 : decode cL_law 760 = .ok (.iload 4, 2) := dq_at zd_dL_law_745 10 rfl
theorem dL_law_762 : decode cL_law 762 = .ok (.iconst 1, 1) := dq_at zd_dL_law_745 11 rfl
theorem dL_law_763 : decode cL_law 763 = .ok (.iadd, 1) := dq_at zd_dL_law_745 12 rfl
theorem dL_law_764 : decode cL_law 764 = .ok (.iaload, 1) := dq_at zd_dL_law_745 13 rfl
theorem dL_law_765 : decode cL_law 765 = .ok (.invokevirtual 88, 3) := dq_at zd_dL_law_745 14 rfl
theorem dL_law_768 : decode cL_law 768 = .ok (.pop, 1) := dq_at zd_dL_law_745 15 rfl
theorem dL_law_769 : decode cL_law 769 = .ok (.aload_n 2, 1) := dq_at zd_dL_law_745 16 rfl
theorem dL_law_770 : decode cL_law 770 = .ok (.aload_n 0, 1) := dq_at zd_dL_law_745 17 rfl
theorem dL_law_771 : decode cL_law 771 = .ok (.iload 4, 2) := dq_at zd_dL_law_745 18 rfl
theorem dL_law_773 : decode cL_law 773 = .ok (.iconst 1, 1) := dq_at zd_dL_law_745 19 rfl
theorem dL_law_774 : decode cL_law 774 = .ok (.iadd, 1) := dq_at zd_dL_law_745 20 rfl
theorem zd_dL_law_775 : dq cL_law [(775, .iaload, 1), (776, .invokevirtual 91, 3), (779, .pop, 1), (780, .goto 746, 3), (783, .aload_n 1, 1), (784, .aload_n 0, 1), (785, .iload 4, 2), (787, .iconst 1, 1), (788, .iadd, 1), (789, .iaload, 1), (790, .aload_n 0, 1), (791, .iload 4, 2), (793, .iconst 2, 1), (794, .iadd, 1), (795, .iaload, 1), (796, .invokevirtual 92, 3), (799, .pop, 1), (800, .aload_n 2, 1), (801, .aload_n 0, 1), (802, .iload 4, 2), (804, .iconst 1, 1)] = true := by decide +kernel
theorem dL_law_775 : decode cL_law 775 = .ok (.iaload, 1) := dq_at zd_dL_law_775 0 rfl
theorem dL_law_776 : decode cL_law 776 = .ok (.invokevirtual 91, 3) := dq_at zd_dL_law_775 1 rfl
theorem dL_law_779 : decode cL_law 779 = .ok (.pop, 1) := dq_at zd_dL_law_775 2 rfl
theorem dL_law_780 : decode cL_law 780 = .ok (.goto 746, 3) := dq_at zd_dL_law_775 3 rfl
theorem dL_law_783 : decode cL_law 783 = .ok (.aload_n 1, 1) := dq_at zd_dL_law_775 4 rfl
theorem dL_law_784 : decode cL_law 784 = .ok (.aload_n 0, 1) := dq_at zd_dL_law_775 5 rfl
theorem dL_law_785 : decode cL_law 785 = .ok (.iload 4, 2) := dq_at zd_dL_law_775 6 rfl
theorem dL_law_787 : decode cL_law 787 = .ok (.iconst 1, 1) := dq_at zd_dL_law_775 7 rfl
theorem dL_law_788 : decode cL_law 788 = .ok (.iadd, 1) := dq_at zd_dL_law_775 8 rfl
theorem dL_law_789 : decode cL_law 789 = .ok (.iaload, 1) := dq_at zd_dL_law_775 9 rfl
theorem dL_law_790 : decode cL_law 790 = .ok (.aload_n 0, 1) := dq_at zd_dL_law_775 10 rfl
theorem dL_law_791 : decode cL_law 791 = .ok (.iload 4, 2) := dq_at zd_dL_law_775 11 rfl
theorem dL_law_793 : decode cL_law 793 = .ok (.iconst 2, 1) := dq_at zd_dL_law_775 12 rfl
theorem dL_law_794 : decode cL_law 794 = .ok (.iadd, 1) := dq_at zd_dL_law_775 13 rfl
theorem dL_law_795 : decode cL_law 795 = .ok (.iaload, 1) := dq_at zd_dL_law_775 14 rfl
theorem dL_law_796 : decode cL_law 796 = .ok (.invokevirtual 92, 3) := dq_at zd_dL_law_775 15 rfl
theorem dL_law_799 : decode cL_law 799 = .ok (.pop, 1) := dq_at zd_dL_law_775 16 rfl
theorem dL_law_800 : decode cL_law 800 = .ok (.aload_n 2, 1) := dq_at zd_dL_law_775 17 rfl
theorem dL_law_801 : decode cL_law 801 = .ok (.aload_n 0, 1) := dq_at zd_dL_law_775 18 rfl
theorem dL_law_802 : decode cL_law 802 = .ok (.iload 4, 2) := dq_at zd_dL_law_775 19 rfl
theorem dL_law_804 : decode cL_law 804 = .ok (.iconst 1, 1) := dq_at zd_dL_law_775 20 rfl
theorem zd_dL_law_805 : dq cL_law [(805, .iadd, 1), (806, .iaload, 1), (807, .aload_n 0, 1), (808, .iload 4, 2), (810, .iconst 2, 1), (811, .iadd, 1), (812, .iaload, 1), (813, .invokevirtual 95, 3), (816, .pop, 1), (817, .goto 709, 3), (820, .aload_n 1, 1), (821, .aload_n 0, 1), (822, .iload 4, 2), (824, .iconst 1, 1), (825, .iadd, 1), (826, .iaload, 1), (827, .aload_n 0, 1), (828, .iload 4, 2), (830, .iconst 2, 1), (831, .iadd, 1), (832, .iaload, 1)] = true := by decide +kernel
theorem dL_law_805 : decode cL_law 805 = .ok (.iadd, 1) := dq_at zd_dL_law_805 0 rfl
theorem dL_law_806 : decode cL_law 806 = .ok (.iaload, 1) := dq_at zd_dL_law_805 1 rfl
theorem dL_law_807 : decode cL_law 807 = .ok (.aload_n 0, 1) := dq_at zd_dL_law_805 2 rfl
theorem dL_law_808 : decode cL_law 808 = .ok (.iload 4, 2) := dq_at zd_dL_law_805 3 rfl
theorem dL_law_810 : decode cL_law 810 = .ok (.iconst 2, 1) := dq_at zd_dL_law_805 4 rfl
theorem dL_law_811 : decode cL_law 811 = .ok (.iadd, 1) := dq_at zd_dL_law_805 5 rfl
theorem dL_law_812 : decode cL_law 812 = .ok (.iaload, 1) := dq_at zd_dL_law_805 6 rfl
theorem dL_law_813 : decode cL_law 813 = .ok (.invokevirtual 95, 3) := dq_at zd_dL_law_805 7 rfl
theorem dL_law_816 : decode cL_law 816 = .ok (.pop, 1) := dq_at zd_dL_law_805 8 rfl
theorem dL_law_817 : decode cL_law 817 = .ok (.goto 709, 3) := dq_at zd_dL_law_805 9 rfl
theorem dL_law_820 : decode cL_law 820 = .ok (.aload_n 1, 1) := dq_at zd_dL_law_805 10 rfl
theorem dL_law_821 : decode cL_law 821 = .ok (.aload_n 0, 1) := dq_at zd_dL_law_805 11 rfl
theorem dL_law_822 : decode cL_law 822 = .ok (.iload 4, 2) := dq_at zd_dL_law_805 12 rfl
theorem dL_law_824 : decode cL_law 824 = .ok (.iconst 1, 1) := dq_at zd_dL_law_805 13 rfl
theorem dL_law_825 : decode cL_law 825 = .ok (.iadd, 1) := dq_at zd_dL_law_805 14 rfl
theorem dL_law_826 : decode cL_law 826 = .ok (.iaload, 1) := dq_at zd_dL_law_805 15 rfl
theorem dL_law_827 : decode cL_law 827 = .ok (.aload_n 0, 1) := dq_at zd_dL_law_805 16 rfl
theorem dL_law_828 : decode cL_law 828 = .ok (.iload 4, 2) := dq_at zd_dL_law_805 17 rfl
theorem dL_law_830 : decode cL_law 830 = .ok (.iconst 2, 1) := dq_at zd_dL_law_805 18 rfl
theorem dL_law_831 : decode cL_law 831 = .ok (.iadd, 1) := dq_at zd_dL_law_805 19 rfl
theorem dL_law_832 : decode cL_law 832 = .ok (.iaload, 1) := dq_at zd_dL_law_805 20 rfl
theorem zd_dL_law_833 : dq cL_law [(833, .aload_n 0, 1), (834, .iload 4, 2), (836, .iconst 3, 1), (837, .iadd, 1), (838, .iaload, 1), (839, .invokevirtual 96, 3), (842, .pop, 1), (843, .aload_n 2, 1), (844, .aload_n 0, 1), (845, .iload 4, 2), (847, .iconst 1, 1), (848, .iadd, 1), (849, .iaload, 1), (850, .aload_n 0, 1), (851, .iload 4, 2), (853, .iconst 2, 1), (854, .iadd, 1), (855, .iaload, 1), (856, .aload_n 0, 1), (857, .iload 4, 2), (859, .iconst 3, 1)] = true := by decide +kernel
theorem dL_law_833 : decode cL_law 833 = .ok (.aload_n 0, 1) := dq_at zd_dL_law_833 0 rfl
theorem dL_law_834 : decode cL_law 834 = .ok (.iload 4, 2) := dq_at zd_dL_law_833 1 rfl
theorem dL_law_836 : decode cL_law 836 = .ok (.iconst 3, 1) := dq_at zd_dL_law_833 2 rfl
theorem dL_law_837 : decode cL_law 837 = .ok (.iadd, 1) := dq_at zd_dL_law_833 3 rfl
theorem dL_law_838 : decode cL_law 838 = .ok (.iaload, 1) := dq_at zd_dL_law_833 4 rfl
theorem dL_law_839 : decode cL_law 839 = .ok (.invokevirtual 96, 3) := dq_at zd_dL_law_833 5 rfl
theorem dL_law_842 : decode cL_law 842 = .ok (.pop, 1) := dq_at zd_dL_law_833 6 rfl
theorem dL_law_843 : decode cL_law 843 = .ok (.aload_n 2, 1) := dq_at zd_dL_law_833 7 rfl
theorem dL_law_844 : decode cL_law 844 = .ok (.aload_n 0, 1) := dq_at zd_dL_law_833 8 rfl
theorem dL_law_845 : decode cL_law 845 = .ok (.iload 4, 2) := dq_at zd_dL_law_833 9 rfl
theorem dL_law_847 : decode cL_law 847 = .ok (.iconst 1, 1) := dq_at zd_dL_law_833 10 rfl
theorem dL_law_848 : decode cL_law 848 = .ok (.iadd, 1) := dq_at zd_dL_law_833 11 rfl
theorem dL_law_849 : decode cL_law 849 = .ok (.iaload, 1) := dq_at zd_dL_law_833 12 rfl
theorem dL_law_850 : decode cL_law 850 = .ok (.aload_n 0, 1) := dq_at zd_dL_law_833 13 rfl
theorem dL_law_851 : decode cL_law 851 = .ok (.iload 4, 2) := dq_at zd_dL_law_833 14 rfl
theorem dL_law_853 : decode cL_law 853 = .ok (.iconst 2, 1) := dq_at zd_dL_law_833 15 rfl
theorem dL_law_854 : decode cL_law 854 = .ok (.iadd, 1) := dq_at zd_dL_law_833 16 rfl
theorem dL_law_855 : decode cL_law 855 = .ok (.iaload, 1) := dq_at zd_dL_law_833 17 rfl
theorem dL_law_856 : decode cL_law 856 = .ok (.aload_n 0, 1) := dq_at zd_dL_law_833 18 rfl
theorem dL_law_857 : decode cL_law 857 = .ok (.iload 4, 2) := dq_at zd_dL_law_833 19 rfl
theorem dL_law_859 : decode cL_law 859 = .ok (.iconst 3, 1) := dq_at zd_dL_law_833 20 rfl
theorem zd_dL_law_860 : dq cL_law [(860, .iadd, 1), (861, .iaload, 1), (862, .invokevirtual 99, 3), (865, .pop, 1), (866, .goto 660, 3), (869, .aload_n 1, 1), (870, .aload_n 0, 1), (871, .iload 4, 2), (873, .iconst 1, 1), (874, .iadd, 1), (875, .iaload, 1), (876, .aload_n 0, 1), (877, .iload 4, 2), (879, .iconst 2, 1), (880, .iadd, 1), (881, .iaload, 1), (882, .invokevirtual 100, 3), (885, .pop, 1)] = true := by decide +kernel
theorem dL_law_860 : decode cL_law 860 = .ok (.iadd, 1) := dq_at zd_dL_law_860 0 rfl
theorem dL_law_861 : decode cL_law 861 = .ok (.iaload, 1) := dq_at zd_dL_law_860 1 rfl
theorem dL_law_862 : decode cL_law 862 = .ok (.invokevirtual 99, 3) := dq_at zd_dL_law_860 2 rfl
theorem dL_law_865 : decode cL_law 865 = .ok (.pop, 1) := dq_at zd_dL_law_860 3 rfl
theorem dL_law_866 : decode cL_law 866 = .ok (.goto 660, 3) := dq_at zd_dL_law_860 4 rfl
theorem dL_law_869 : decode cL_law 869 = .ok (.aload_n 1, 1) := dq_at zd_dL_law_860 5 rfl
theorem dL_law_870 : decode cL_law 870 = .ok (.aload_n 0, 1) := dq_at zd_dL_law_860 6 rfl
theorem dL_law_871 : decode cL_law 871 = .ok (.iload 4, 2) := dq_at zd_dL_law_860 7 rfl
theorem dL_law_873 : decode cL_law 873 = .ok (.iconst 1, 1) := dq_at zd_dL_law_860 8 rfl
theorem dL_law_874 : decode cL_law 874 = .ok (.iadd, 1) := dq_at zd_dL_law_860 9 rfl
theorem dL_law_875 : decode cL_law 875 = .ok (.iaload, 1) := dq_at zd_dL_law_860 10 rfl
theorem dL_law_876 : decode cL_law 876 = .ok (.aload_n 0, 1) := dq_at zd_dL_law_860 11 rfl
theorem dL_law_877 : decode cL_law 877 = .ok (.iload 4, 2) := dq_at zd_dL_law_860 12 rfl
theorem dL_law_879 : decode cL_law 879 = .ok (.iconst 2, 1) := dq_at zd_dL_law_860 13 rfl
theorem dL_law_880 : decode cL_law 880 = .ok (.iadd, 1) := dq_at zd_dL_law_860 14 rfl
theorem dL_law_881 : decode cL_law 881 = .ok (.iaload, 1) := dq_at zd_dL_law_860 15 rfl
theorem dL_law_882 : decode cL_law 882 = .ok (.invokevirtual 100, 3) := dq_at zd_dL_law_860 16 rfl
theorem dL_law_885 : decode cL_law 885 = .ok (.pop, 1) := dq_at zd_dL_law_860 17 rfl
