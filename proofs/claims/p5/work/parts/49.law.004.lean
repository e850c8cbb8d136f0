theorem dL_law_717 : decode cL_law 717 = .ok (.pop, 1) := zd_dL_law_708.1.2.1.1.1
theorem dL_law_718 : decode cL_law 718 = .ok (.goto 808, 3) := zd_dL_law_708.1.2.1.1.2
theorem dL_law_721 : decode cL_law 721 = .ok (.aload_n 1, 1) := zd_dL_law_708.1.2.1.2
theorem dL_law_722 : decode cL_law 722 = .ok (.aload_n 0, 1) := zd_dL_law_708.1.2.2.1.1
theorem dL_law_723 : decode cL_law 723 = .ok (.iload 4, 2) := zd_dL_law_708.1.2.2.1.2
theorem dL_law_725 : decode cL_law 725 = .ok (.iconst 1, 1) := zd_dL_law_708.1.2.2.2
theorem dL_law_726 : decode cL_law 726 = .ok (.iadd, 1) := zd_dL_law_708.2.1.1.1.1
theorem dL_law_727 : decode cL_law 727 = .ok (.iaload, 1) := zd_dL_law_708.2.1.1.1.2
theorem dL_law_728 : decode cL_law 728 = .ok (.aload_n 0, 1) := zd_dL_law_708.2.1.1.2
theorem dL_law_729 : decode cL_law 729 = .ok (.iload 4, 2) := zd_dL_law_708.2.1.2.1.1
theorem dL_law_731 : decode cL_law 731 = .ok (.iconst 2, 1) := zd_dL_law_708.2.1.2.1.2
theorem dL_law_732 : decode cL_law 732 = .ok (.iadd, 1) := zd_dL_law_708.2.1.2.2
theorem dL_law_733 : decode cL_law 733 = .ok (.iaload, 1) := zd_dL_law_708.2.2.1.1.1
theorem dL_law_734 : decode cL_law 734 = .ok (.invokevirtual 84, 3) := zd_dL_law_708.2.2.1.1.2
theorem dL_law_737 : decode cL_law 737 = .ok (.pop, 1) := zd_dL_law_708.2.2.1.2
theorem dL_law_738 : decode cL_law 738 = .ok (.aload_n 2, 1) := zd_dL_law_708.2.2.2.1.1
theorem dL_law_739 : decode cL_law 739 = .ok (.aload_n 0, 1) := zd_dL_law_708.2.2.2.1.2
theorem dL_law_740 : decode cL_law 740 = .ok (.iload 4, 2) := zd_dL_law_708.2.2.2.2
theorem zd_dL_law_742 : ((((((decode cL_law 742 = .ok (.iconst 1, 1)) ∧ (decode cL_law 743 = .ok (.iadd, 1))) ∧ (decode cL_law 744 = .ok (.iaload, 1))) ∧ (((decode cL_law 745 = .ok (.aload_n 0, 1)) ∧ (decode cL_law 746 = .ok (.iload 4, 2))) ∧ (decode cL_law 748 = .ok (.iconst 2, 1)))) ∧ ((((decode cL_law 749 = .ok (.iadd, 1)) ∧ (decode cL_law 750 = .ok (.iaload, 1))) ∧ (decode cL_law 751 = .ok (.invokevirtual 87, 3))) ∧ (((decode cL_law 754 = .ok (.pop, 1)) ∧ (decode cL_law 755 = .ok (.goto 771, 3))) ∧ (decode cL_law 758 = .ok (.aload_n 1, 1))))) ∧ (((((decode cL_law 759 = .ok (.aload_n 0, 1)) ∧ (decode cL_law 760 = .ok (.iload 4, 2))) ∧ (decode cL_law 762 = .ok (.iconst 1, 1))) ∧ (((decode cL_law 763 = .ok (.iadd, 1)) ∧ (decode cL_law 764 = .ok (.iaload, 1))) ∧ (decode cL_law 765 = .ok (.invokevirtual 88, 3)))) ∧ ((((decode cL_law 768 = .ok (.pop, 1)) ∧ (decode cL_law 769 = .ok (.aload_n 2, 1))) ∧ (decode cL_law 770 = .ok (.aload_n 0, 1))) ∧ (((decode cL_law 771 = .ok (.iload 4, 2)) ∧ (decode cL_law 773 = .ok (.iconst 1, 1))) ∧ (decode cL_law 774 = .ok (.iadd, 1)))))) := by decide +kernel
theorem dL_law_742 : decode cL_law 742 = .ok (.iconst 1, 1) := zd_dL_law_742.1.1.1.1.1
theorem dL_law_743 : decode cL_law 743 = .ok (.iadd, 1) := zd_dL_law_742.1.1.1.1.2
theorem dL_law_744 : decode cL_law 744 = .ok (.iaload, 1) := zd_dL_law_742.1.1.1.2
theorem dL_law_745 : decode cL_law 745 = .ok (.aload_n 0, 1) := zd_dL_law_742.1.1.2.1.1
theorem dL_law_746 : decode cL_law 746 = .ok (.iload 4, 2) := zd_dL_law_742.1.1.2.1.2
theorem dL_law_748 : decode cL_law 748 = .ok (.iconst 2, 1) := zd_dL_law_742.1.1.2.2
theorem dL_law_749 : decode cL_law 749 = .ok (.iadd, 1) := zd_dL_law_742.1.2.1.1.1
theorem dL_law_750 : decode cL_law 750 = .ok (.iaload, 1) := zd_dL_law_742.1.2.1.1.2
theorem dL_law_751 : decode cL_law 751 = .ok (.invokevirtual 87, 3) := zd_dL_law_742.1.2.1.2
theorem dL_law_754 : decode cL_law 754 = .ok (.pop, 1) := zd_dL_law_742.1.2.2.1.1
theorem dL_law_755 : decode cL_law 755 = .ok (.goto 771, 3) := zd_dL_law_742.1.2.2.1.2
theorem dL_law_758 : decode cL_law 758 = .ok (.aload_n 1, 1) := zd_dL_law_742.1.2.2.2
theorem dL_law_759 : decode cL_law 759 = .ok (.aload_n 0, 1) := zd_dL_law_742.2.1.1.1.1
theorem dL_law_760 : decode cL_law 760 = .ok (.iload 4, 2) := zd_dL_law_742.2.1.1.1.2
theorem dL_law_762 : decode cL_law 762 = .ok (.iconst 1, 1) := zd_dL_law_742.2.1.1.2
theorem dL_law_763 : decode cL_law 763 = .ok (.iadd, 1) := zd_dL_law_742.2.1.2.1.1
theorem dL_law_764 : decode cL_law 764 = .ok (.iaload, 1) := zd_dL_law_742.2.1.2.1.2
theorem dL_law_765 : decode cL_law 765 = .ok (.invokevirtual 88, 3) := zd_dL_law_742.2.1.2.2
theorem dL_law_768 : decode cL_law 768 = .ok (.pop, 1) := zd_dL_law_742.2.2.1.1.1
theorem dL_law_769 : decode cL_law 769 = .ok (.aload_n 2, 1) := zd_dL_law_742.2.2.1.1.2
theorem dL_law_770 : decode cL_law 770 = .ok (.aload_n 0, 1) := zd_dL_law_742.2.2.1.2
theorem dL_law_771 : decode cL_law 771 = .ok (.iload 4, 2) := zd_dL_law_742.2.2.2.1.1
theorem dL_law_773 : decode cL_law 773 = .ok (.iconst 1, 1) := zd_dL_law_742.2.2.2.1.2
theorem dL_law_774 : decode cL_law 774 = .ok (.iadd, 1) := zd_dL_law_742.2.2.2.2
theorem zd_dL_law_775 : ((((((decode cL_law 775 = .ok (.iaload, 1)) ∧ (decode cL_law 776 = .ok (.invokevirtual 91, 3))) ∧ (decode cL_law 779 = .ok (.pop, 1))) ∧ (((decode cL_law 780 = .ok (.goto 746, 3)) ∧ (decode cL_law 783 = .ok (.aload_n 1, 1))) ∧ (decode cL_law 784 = .ok (.aload_n 0, 1)))) ∧ ((((decode cL_law 785 = .ok (.iload 4, 2)) ∧ (decode cL_law 787 = .ok (.iconst 1, 1))) ∧ (decode cL_law 788 = .ok (.iadd, 1))) ∧ (((decode cL_law 789 = .ok (.iaload, 1)) ∧ (decode cL_law 790 = .ok (.aload_n 0, 1))) ∧ (decode cL_law 791 = .ok (.iload 4, 2))))) ∧ (((((decode cL_law 793 = .ok (.iconst 2, 1)) ∧ (decode cL_law 794 = .ok (.iadd, 1))) ∧ (decode cL_law 795 = .ok (.iaload, 1))) ∧ (((decode cL_law 796 = .ok (.invokevirtual 92, 3)) ∧ (decode cL_law 799 = .ok (.pop, 1))) ∧ (decode cL_law 800 = .ok (.aload_n 2, 1)))) ∧ ((((decode cL_law 801 = .ok (.aload_n 0, 1)) ∧ (decode cL_law 802 = .ok (.iload 4, 2))) ∧ (decode cL_law 804 = .ok (.iconst 1, 1))) ∧ (((decode cL_law 805 = .ok (.iadd, 1)) ∧ (decode cL_law 806 = .ok (.iaload, 1))) ∧ (decode cL_law 807 = .ok (.aload_n 0, 1)))))) := by decide +kernel
theorem dL_law_775 : decode cL_law 775 = .ok (.iaload, 1) := zd_dL_law_775.1.1.1.1.1
theorem dL_law_776 : decode cL_law 776 = .ok (.invokevirtual 91, 3) := zd_dL_law_775.1.1.1.1.2
theorem dL_law_779 : decode cL_law 779 = .ok (.pop, 1) := zd_dL_law_775.1.1.1.2
theorem dL_law_780 : decode cL_law 780 = .ok (.goto 746, 3) := zd_dL_law_775.1.1.2.1.1
theorem dL_law_783 : decode cL_law 783 = .ok (.aload_n 1, 1) := zd_dL_law_775.1.1.2.1.2
theorem dL_law_784 : decode cL_law 784 = .ok (.aload_n 0, 1) := zd_dL_law_775.1.1.2.2
theorem dL_law_785 : decode cL_law 785 = .ok (.iload 4, 2) := zd_dL_law_775.1.2.1.1.1
theorem dL_law_787 : decode cL_law 787 = .ok (.iconst 1, 1) := zd_dL_law_775.1.2.1.1.2
theorem dL_law_788 : decode cL_law 788 = .ok (.iadd, 1) := zd_dL_law_775.1.2.1.2
theorem dL_law_789 : decode cL_law 789 = .ok (.iaload, 1) := zd_dL_law_775.1.2.2.1.1
theorem dL_law_790 : decode cL_law 790 = .ok (.aload_n 0, 1) := zd_dL_law_775.1.2.2.1.2
theorem dL_law_791 : decode cL_law 791 = .ok (.iload 4, 2) := zd_dL_law_775.1.2.2.2
theorem dL_law_793 : decode cL_law 793 = .ok (.iconst 2, 1) := zd_dL_law_775.2.1.1.1.1
theorem dL_law_794 : decode cL_law 794 = .ok (.iadd, 1) := zd_dL_law_775.2.1.1.1.2
theorem dL_law_795 : decode cL_law 795 = .ok (.iaload, 1) := zd_dL_law_775.2.1.1.2
theorem dL_law_796 : decode cL_law 796 = .ok (.invokevirtual 92, 3) := zd_dL_law_775.2.1.2.1.1
theorem dL_law_799 : decode cL_law 799 = .ok (.pop, 1) := zd_dL_law_775.2.1.2.1.2
theorem dL_law_800 : decode cL_law 800 = .ok (.aload_n 2, 1) := zd_dL_law_775.2.1.2.2
theorem dL_law_801 : decode cL_law 801 = .ok (.aload_n 0, 1) := zd_dL_law_775.2.2.1.1.1
theorem dL_law_802 : decode cL_law 802 = .ok (.iload 4, 2) := zd_dL_law_775.2.2.1.1.2
theorem dL_law_804 : decode cL_law 804 = .ok (.iconst 1, 1) := zd_dL_law_775.2.2.1.2
theorem dL_law_805 : decode cL_law 805 = .ok (.iadd, 1) := zd_dL_law_775.2.2.2.1.1
theorem dL_law_806 : decode cL_law 806 = .ok (.iaload, 1) := zd_dL_law_775.2.2.2.1.2
theorem dL_law_807 : decode cL_law 807 = .ok (.aload_n 0, 1) := zd_dL_law_775.2.2.2.2
theorem zd_dL_law_808 : ((((((decode cL_law 808 = .ok (.iload 4, 2)) ∧ (decode cL_law 810 = .ok (.iconst 2, 1))) ∧ (decode cL_law 811 = .ok (.iadd, 1))) ∧ (((decode cL_law 812 = .ok (.iaload, 1)) ∧ (decode cL_law 813 = .ok (.invokevirtual 95, 3))) ∧ (decode cL_law 816 = .ok (.pop, 1)))) ∧ ((((decode cL_law 817 = .ok (.goto 709, 3)) ∧ (decode cL_law 820 = .ok (.aload_n 1, 1))) ∧ (decode cL_law 821 = .ok (.aload_n 0, 1))) ∧ (((decode cL_law 822 = .ok (.iload 4, 2)) ∧ (decode cL_law 824 = .ok (.iconst 1, 1))) ∧ (decode cL_law 825 = .ok (.iadd, 1))))) ∧ (((((decode cL_law 826 = .ok (.iaload, 1)) ∧ (decode cL_law 827 = .ok (.aload_n 0, 1))) ∧ (decode cL_law 828 = .ok (.iload 4, 2))) ∧ (((decode cL_law 830 = .ok (.iconst 2, 1)) ∧ (decode cL_law 831 = .ok (.iadd, 1))) ∧ (decode cL_law 832 = .ok (.iaload, 1)))) ∧ ((((decode cL_law 833 = .ok (.aload_n 0, 1)) ∧ (decode cL_law 834 = .ok (.iload 4, 2))) ∧ (decode cL_law 836 = .ok (.iconst 3, 1))) ∧ (((decode cL_law 837 = .ok (.iadd, 1)) ∧ (decode cL_law 838 = .ok (.iaload, 1))) ∧ (decode cL_law 839 = .ok (.invokevirtual 96, 3)))))) := by decide +kernel
theorem dL_law_808 : decode cL_law 808 = .ok (.iload 4, 2) := zd_dL_law_808.1.1.1.1.1
theorem dL_law_810 : decode cL_law 810 = .ok (.iconst 2, 1) := zd_dL_law_808.1.1.1.1.2
theorem dL_law_811 : decode cL_law 811 = .ok (.iadd, 1) := zd_dL_law_808.1.1.1.2
theorem dL_law_812 : decode cL_law 812 = .ok (.iaload, 1) := zd_dL_law_808.1.1.2.1.1
theorem dL_law_813 : decode cL_law 813 = .ok (.invokevirtual 95, 3) := zd_dL_law_808.1.1.2.1.2
theorem dL_law_816 : decode cL_law 816 = .ok (.pop, 1) := zd_dL_law_808.1.1.2.2
theorem dL_law_817 : decode cL_law 817 = .ok (.goto 709, 3) := zd_dL_law_808.1.2.1.1.1
theorem dL_law_820 : decode cL_law 820 = .ok (.aload_n 1, 1) := zd_dL_law_808.1.2.1.1.2
theorem dL_law_821 : decode cL_law 821 = .ok (.aload_n 0, 1) := zd_dL_law_808.1.2.1.2
theorem dL_law_822 : decode cL_law 822 = .ok (.iload 4, 2) := zd_dL_law_808.1.2.2.1.1
theorem dL_law_824 : decode cL_law 824 = .ok (.iconst 1, 1) := zd_dL_law_808.1.2.2.1.2
theorem dL_law_825 : decode cL_law 825 = .ok (.iadd, 1) := zd_dL_law_808.1.2.2.2
theorem dL_law_826 : decode cL_law 826 = .ok (.iaload, 1) := zd_dL_law_808.2.1.1.1.1
theorem dL_law_827 : decode cL_law 827 = .ok (.aload_n 0, 1) := zd_dL_law_808.2.1.1.1.2
theorem dL_law_828 : decode cL_law 828 = .ok (.iload 4, 2) := zd_dL_law_808.2.1.1.2
theorem dL_law_830 : decode cL_law 830 = .ok (.iconst 2, 1) := zd_dL_law_808.2.1.2.1.1
theorem dL_law_831 : decode cL_law 831 = .ok (.iadd, 1) := zd_dL_law_808.2.1.2.1.2
theorem dL_law_832 : decode cL_law 832 = .ok (.iaload, 1) := zd_dL_law_808.2.1.2.2
theorem dL_law_833 : decode cL_law 833 = .ok (.aload_n 0, 1) := zd_dL_law_808.2.2.1.1.1
theorem dL_law_834 : decode cL_law 834 = .ok (.iload 4, 2) := zd_dL_law_808.2.2.1.1.2
theorem dL_law_836 : decode cL_law 836 = .ok (.iconst 3, 1) := zd_dL_law_808.2.2.1.2
theorem dL_law_837 : decode cL_law 837 = .ok (.iadd, 1) := zd_dL_law_808.2.2.2.1.1
theorem dL_law_838 : decode cL_law 838 = .ok (.iaload, 1) := zd_dL_law_808.2.2.2.1.2
theorem dL_law_839 : decode cL_law 839 = .ok (.invokevirtual 96, 3) := zd_dL_law_808.2.2.2.2
theorem zd_dL_law_842 : ((((((decode cL_law 842 = .ok (.pop, 1)) ∧ (decode cL_law 843 = .ok (.aload_n 2, 1))) ∧ (decode cL_law 844 = .ok (.aload_n 0, 1))) ∧ (((decode cL_law 845 = .ok (.iload 4, 2)) ∧ (decode cL_law 847 = .ok (.iconst 1, 1))) ∧ (decode cL_law 848 = .ok (.iadd, 1)))) ∧ ((((decode cL_law 849 = .ok (.iaload, 1)) ∧ (decode cL_law 850 = .ok (.aload_n 0, 1))) ∧ (decode cL_law 851 = .ok (.iload 4, 2))) ∧ (((decode cL_law 853 = .ok (.iconst 2, 1)) ∧ (decode cL_law 854 = .ok (.iadd, 1))) ∧ (decode cL_law 855 = .ok (.iaload, 1))))) ∧ (((((decode cL_law 856 = .ok (.aload_n 0, 1)) ∧ (decode cL_law 857 = .ok (.iload 4, 2))) ∧ (decode cL_law 859 = .ok (.iconst 3, 1))) ∧ (((decode cL_law 860 = .ok (.iadd, 1)) ∧ (decode cL_law 861 = .ok (.iaload, 1))) ∧ (decode cL_law 862 = .ok (.invokevirtual 99, 3)))) ∧ ((((decode cL_law 865 = .ok (.pop, 1)) ∧ (decode cL_law 866 = .ok (.goto 660, 3))) ∧ (decode cL_law 869 = .ok (.aload_n 1, 1))) ∧ (((decode cL_law 870 = .ok (.aload_n 0, 1)) ∧ (decode cL_law 871 = .ok (.iload 4, 2))) ∧ (decode cL_law 873 = .ok (.iconst 1, 1)))))) := by decide +kernel
theorem dL_law_842 : decode cL_law 842 = .ok (.pop, 1) := zd_dL_law_842.1.1.1.1.1
theorem dL_law_843 : decode cL_law 843 = .ok (.aload_n 2, 1) := zd_dL_law_842.1.1.1.1.2
theorem dL_law_844 : decode cL_law 844 = .ok (.aload_n 0, 1) := zd_dL_law_842.1.1.1.2
theorem dL_law_845 : decode cL_law 845 = .ok (.iload 4, 2) := zd_dL_law_842.1.1.2.1.1
theorem dL_law_847 : decode cL_law 847 = .ok (.iconst 1, 1) := zd_dL_law_842.1.1.2.1.2
theorem dL_law_848 : decode cL_law 848 = .ok (.iadd, 1) := zd_dL_law_842.1.1.2.2
theorem dL_law_849 : decode cL_law 849 = .ok (.iaload, 1) := zd_dL_law_842.1.2.1.1.1
theorem dL_law_850 : decode cL_law 850 = .ok (.aload_n 0, 1) := zd_dL_law_842.1.2.1.1.2
theorem dL_law_851 : decode cL_law 851 = .ok (.iload 4, 2) := zd_dL_law_842.1.2.1.2
theorem dL_law_853 : decode cL_law 853 = .ok (.iconst 2, 1) := zd_dL_law_842.1.2.2.1.1
theorem dL_law_854 : decode cL_law 854 = .ok (.iadd, 1) := zd_dL_law_842.1.2.2.1.2
theorem dL_law_855 : decode cL_law 855 = .ok (.iaload, 1) := zd_dL_law_842.1.2.2.2
theorem dL_law_856 : decode cL_law 856 = .ok (.aload_n 0, 1) := zd_dL_law_842.2.1.1.1.1
theorem dL_law_857 : decode cL_law 857 = .ok (.iload 4, 2) := zd_dL_law_842.2.1.1.1.2
theorem dL_law_859 : decode cL_law 859 = .ok (.iconst 3, 1) := zd_dL_law_842.2.1.1.2
theorem dL_law_860 : decode cL_law 860 = .ok (.iadd, 1) := zd_dL_law_842.2.1.2.1.1
theorem dL_law_861 : decode cL_law 861 = .ok (.iaload, 1) := zd_dL_law_842.2.1.2.1.2
theorem dL_law_862 : decode cL_law 862 = .ok (.invokevirtual 99, 3) := zd_dL_law_842.2.1.2.2
theorem dL_law_865 : decode cL_law 865 = .ok (.pop, 1) := zd_dL_law_842.2.2.1.1.1
theorem dL_law_866 : decode cL_law 866 = .ok (.goto 660, 3) := zd_dL_law_842.2.2.1.1.2
theorem dL_law_869 : decode cL_law 869 = .ok (.aload_n 1, 1) := zd_dL_law_842.2.2.1.2
theorem dL_law_870 : decode cL_law 870 = .ok (.aload_n 0, 1) := zd_dL_law_842.2.2.2.1.1
theorem dL_law_871 : decode cL_law 871 = .ok (.iload 4, 2) := zd_dL_law_842.2.2.2.1.2
theorem dL_law_873 : decode cL_law 873 = .ok (.iconst 1, 1) := zd_dL_law_842.2.2.2.2
theorem zd_dL_law_874 : ((((((decode cL_law 874 = .ok (.iadd, 1)) ∧ (decode cL_law 875 = .ok (.iaload, 1))) ∧ (decode cL_law 876 = .ok (.aload_n 0, 1))) ∧ (((decode cL_law 877 = .ok (.iload 4, 2)) ∧ (decode cL_law 879 = .ok (.iconst 2, 1))) ∧ (decode cL_law 880 = .ok (.iadd, 1)))) ∧ ((((decode cL_law 881 = .ok (.iaload, 1)) ∧ (decode cL_law 882 = .ok (.invokevirtual 100, 3))) ∧ (decode cL_law 885 = .ok (.pop, 1))) ∧ (((decode cL_law 886 = .ok (.aload_n 2, 1)) ∧ (decode cL_law 887 = .ok (.aload_n 0, 1))) ∧ (decode cL_law 888 = .ok (.iload 4, 2))))) ∧ (((((decode cL_law 890 = .ok (.iconst 1, 1)) ∧ (decode cL_law 891 = .ok (.iadd, 1))) ∧ (decode cL_law 892 = .ok (.iaload, 1))) ∧ (((decode cL_law 893 = .ok (.aload_n 0, 1)) ∧ (decode cL_law 894 = .ok (.iload 4, 2))) ∧ (decode cL_law 896 = .ok (.iconst 2, 1)))) ∧ ((((decode cL_law 897 = .ok (.iadd, 1)) ∧ (decode cL_law 898 = .ok (.iaload, 1))) ∧ (decode cL_law 899 = .ok (.invokevirtual 103, 3))) ∧ (((decode cL_law 902 = .ok (.pop, 1)) ∧ (decode cL_law 903 = .ok (.goto 623, 3))) ∧ (decode cL_law 906 = .ok (.aload_n 1, 1)))))) := by decide +kernel
theorem dL_law_874 : decode cL_law 874 = .ok (.iadd, 1) := zd_dL_law_874.1.1.1.1.1
theorem dL_law_875 : decode cL_law 875 = .ok (.iaload, 1) := zd_dL_law_874.1.1.1.1.2
theorem dL_law_876 : decode cL_law 876 = .ok (.aload_n 0, 1) := zd_dL_law_874.1.1.1.2
theorem dL_law_877 : decode cL_law 877 = .ok (.iload 4, 2) := zd_dL_law_874.1.1.2.1.1
theorem dL_law_879 : decode cL_law 879 = .ok (.iconst 2, 1) := zd_dL_law_874.1.1.2.1.2
theorem dL_law_880 : decode cL_law 880 = .ok (.iadd, 1) := zd_dL_law_874.1.1.2.2
theorem dL_law_881 : decode cL_law 881 = .ok (.iaload, 1) := zd_dL_law_874.1.2.1.1.1
theorem dL_law_882 : decode cL_law 882 = .ok (.invokevirtual 100, 3) := zd_dL_law_874.1.2.1.1.2
theorem dL_law_885 : decode cL_law 885 = .ok (.pop, 1) := zd_dL_law_874.1.2.1.2
