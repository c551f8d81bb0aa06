theorem dL_law_685 : decode bL_law 685 = .ok (.iadd, 1) := by decide +kernel
theorem dL_law_686 : decode bL_law 686 = .ok (.iaload, 1) := by decide +kernel
theorem dL_law_687 : decode bL_law 687 = .ok (.i2c, 1) := by decide +kernel
theorem dL_law_688 : decode bL_law 688 = .ok (.invokevirtual 99, 3) := by decide +kernel
theorem dL_law_691 : decode bL_law 691 = .ok (.aload_n 2, 1) := by decide +kernel
theorem dL_law_692 : decode bL_law 692 = .ok (.aload_n 0, 1) := by decide +kernel
theorem dL_law_693 : decode bL_law 693 = .ok (.iload 4, 2) := by decide +kernel
theorem dL_law_695 : decode bL_law 695 = .ok (.iconst 1, 1) := by decide +kernel
theorem dL_law_696 : decode bL_law 696 = .ok (.iadd, 1) := by decide +kernel
theorem dL_law_697 : decode bL_law 697 = .ok (.iaload, 1) := by decide +kernel
theorem dL_law_698 : decode bL_law 698 = .ok (.i2c, 1) := by decide +kernel
theorem dL_law_699 : decode bL_law 699 = .ok (.invokevirtual 103, 3) := by decide +kernel
theorem dL_law_702 : decode bL_law 702 = .ok (.if_icmp .eq 202, 3) := by decide +kernel
theorem dL_law_705 : decode bL_law 705 = .ok (.iconst 0, 1) := by decide +kernel
theorem dL_law_706 : decode bL_law 706 = .ok (.ireturn, 1) := by decide +kernel
theorem dL_law_707 : decode bL_law 707 = .ok (.aload_n 1, 1) := by decide +kernel
theorem dL_law_708 : decode bL_law 708 = .ok (.invokevirtual 104, 3) := by decide +kernel
theorem dL_law_711 : decode bL_law 711 = .ok (.aload_n 2, 1) := by decide +kernel
theorem dL_law_712 : decode bL_law 712 = .ok (.invokevirtual 107, 3) := by decide +kernel
theorem dL_law_715 : decode bL_law 715 = .ok (.goto 189, 3) := by decide +kernel
theorem dL_law_718 : decode bL_law 718 = .ok (.aload_n 1, 1) := by decide +kernel
theorem dL_law_719 : decode bL_law 719 = .ok (.aload_n 0, 1) := by decide +kernel
theorem dL_law_720 : decode bL_law 720 = .ok (.iload 4, 2) := by decide +kernel
theorem dL_law_722 : decode bL_law 722 = .ok (.iconst 1, 1) := by decide +kernel
theorem dL_law_723 : decode bL_law 723 = .ok (.iadd, 1) := by decide +kernel
theorem dL_law_724 : decode bL_law 724 = .ok (.iaload, 1) := by decide +kernel
theorem dL_law_725 : decode bL_law 725 = .ok (.invokestatic 108, 3) := by decide +kernel
theorem dL_law_728 : decode bL_law 728 = .ok (.istore 5, 2) := by decide +kernel
theorem dL_law_730 : decode bL_law 730 = .ok (.aload_n 2, 1) := by decide +kernel
theorem dL_law_731 : decode bL_law 731 = .ok (.aload_n 0, 1) := by decide +kernel
theorem dL_law_732 : decode bL_law 732 = .ok (.iload 4, 2) := by decide +kernel
theorem dL_law_734 : decode bL_law 734 = .ok (.iconst 1, 1) := by decide +kernel
theorem dL_law_735 : decode bL_law 735 = .ok (.iadd, 1) := by decide +kernel
theorem dL_law_736 : decode bL_law 736 = .ok (.iaload, 1) := by decide +kernel
theorem dL_law_737 : decode bL_law 737 = .ok (.invokevirtual 111, 3) := by decide +kernel
theorem dL_law_740 : decode bL_law 740 = .ok (.aload_n 2, 1) := by decide +kernel
theorem dL_law_741 : decode bL_law 741 = .ok (.invokevirtual 57, 3) := by decide +kernel
theorem dL_law_744 : decode bL_law 744 = .ok (.iload 5, 2) := by decide +kernel
theorem dL_law_746 : decode bL_law 746 = .ok (.if_icmp .eq 5, 3) := by decide +kernel
theorem dL_law_749 : decode bL_law 749 = .ok (.iconst 0, 1) := by decide +kernel
theorem dL_law_750 : decode bL_law 750 = .ok (.ireturn, 1) := by decide +kernel
theorem dL_law_751 : decode bL_law 751 = .ok (.goto 153, 3) := by decide +kernel
theorem dL_law_754 : decode bL_law 754 = .ok (.aload_n 1, 1) := by decide +kernel
theorem dL_law_755 : decode bL_law 755 = .ok (.aload_n 0, 1) := by decide +kernel
theorem dL_law_756 : decode bL_law 756 = .ok (.iload 4, 2) := by decide +kernel
theorem dL_law_758 : decode bL_law 758 = .ok (.iconst 1, 1) := by decide +kernel
theorem dL_law_759 : decode bL_law 759 = .ok (.iadd, 1) := by decide +kernel
theorem dL_law_760 : decode bL_law 760 = .ok (.iaload, 1) := by decide +kernel
theorem dL_law_761 : decode bL_law 761 = .ok (.aload_n 3, 1) := by decide +kernel
theorem dL_law_762 : decode bL_law 762 = .ok (.invokestatic 112, 3) := by decide +kernel
theorem dL_law_765 : decode bL_law 765 = .ok (.istore 5, 2) := by decide +kernel
theorem dL_law_767 : decode bL_law 767 = .ok (.aload_n 2, 1) := by decide +kernel
theorem dL_law_768 : decode bL_law 768 = .ok (.aload_n 0, 1) := by decide +kernel
theorem dL_law_769 : decode bL_law 769 = .ok (.iload 4, 2) := by decide +kernel
theorem dL_law_771 : decode bL_law 771 = .ok (.iconst 1, 1) := by decide +kernel
theorem dL_law_772 : decode bL_law 772 = .ok (.iadd, 1) := by decide +kernel
theorem dL_law_773 : decode bL_law 773 = .ok (.iaload, 1) := by decide +kernel
theorem dL_law_774 : decode bL_law 774 = .ok (.invokevirtual 115, 3) := by decide +kernel
theorem dL_law_777 : decode bL_law 777 = .ok (.istore 6, 2) := by decide +kernel
theorem dL_law_779 : decode bL_law 779 = .ok (.aload_n 2, 1) := by decide +kernel
theorem dL_law_780 : decode bL_law 780 = .ok (.invokevirtual 57, 3) := by decide +kernel
theorem dL_law_783 : decode bL_law 783 = .ok (.iload 5, 2) := by decide +kernel
theorem dL_law_785 : decode bL_law 785 = .ok (.if_icmp .eq 5, 3) := by decide +kernel
theorem dL_law_788 : decode bL_law 788 = .ok (.iconst 0, 1) := by decide +kernel
theorem dL_law_789 : decode bL_law 789 = .ok (.ireturn, 1) := by decide +kernel
theorem dL_law_790 : decode bL_law 790 = .ok (.iload 5, 2) := by decide +kernel
theorem dL_law_792 : decode bL_law 792 = .ok (.ifCond .ne 15, 3) := by decide +kernel
theorem dL_law_795 : decode bL_law 795 = .ok (.aload_n 3, 1) := by decide +kernel
theorem dL_law_796 : decode bL_law 796 = .ok (.iconst 0, 1) := by decide +kernel
theorem dL_law_797 : decode bL_law 797 = .ok (.laload, 1) := by decide +kernel
theorem dL_law_798 : decode bL_law 798 = .ok (.iload 6, 2) := by decide +kernel
theorem dL_law_800 : decode bL_law 800 = .ok (.i2l, 1) := by decide +kernel
theorem dL_law_801 : decode bL_law 801 = .ok (.lcmp, 1) := by decide +kernel
theorem dL_law_802 : decode bL_law 802 = .ok (.ifCond .eq 5, 3) := by decide +kernel
theorem dL_law_805 : decode bL_law 805 = .ok (.iconst 0, 1) := by decide +kernel
theorem dL_law_806 : decode bL_law 806 = .ok (.ireturn, 1) := by decide +kernel
theorem dL_law_807 : decode bL_law 807 = .ok (.goto 97, 3) := by decide +kernel
theorem dL_law_810 : decode bL_law 810 = .ok (.aload_n 1, 1) := by decide +kernel
theorem dL_law_811 : decode bL_law 811 = .ok (.aload_n 0, 1) := by decide +kernel
theorem dL_law_812 : decode bL_law 812 = .ok (.iload 4, 2) := by decide +kernel
theorem dL_law_814 : decode bL_law 814 = .ok (.iconst 1, 1) := by decide +kernel
theorem dL_law_815 : decode bL_law 815 = .ok (.iadd, 1) := by decide +kernel
theorem dL_law_816 : decode bL_law 816 = .ok (.iaload, 1) := by decide +kernel
theorem dL_law_817 : decode bL_law 817 = .ok (.aload_n 3, 1) := by decide +kernel
theorem dL_law_818 : decode bL_law 818 = .ok (.invokestatic 116, 3) := by decide +kernel
theorem dL_law_821 : decode bL_law 821 = .ok (.istore 5, 2) := by decide +kernel
theorem dL_law_823 : decode bL_law 823 = .ok (.aload_n 2, 1) := by decide +kernel
theorem dL_law_824 : decode bL_law 824 = .ok (.aload_n 0, 1) := by decide +kernel
theorem dL_law_825 : decode bL_law 825 = .ok (.iload 4, 2) := by decide +kernel
theorem dL_law_827 : decode bL_law 827 = .ok (.iconst 1, 1) := by decide +kernel
theorem dL_law_828 : decode bL_law 828 = .ok (.iadd, 1) := by decide +kernel
theorem dL_law_829 : decode bL_law 829 = .ok (.iaload, 1) := by decide +kernel
theorem dL_law_830 : decode bL_law 830 = .ok (.invokevirtual 118, 3) := by decide +kernel
theorem dL_law_833 : decode bL_law 833 = .ok (.istore 6, 2) := by decide +kernel
theorem dL_law_835 : decode bL_law 835 = .ok (.aload_n 2, 1) := by decide +kernel
theorem dL_law_836 : decode bL_law 836 = .ok (.invokevirtual 57, 3) := by decide +kernel
theorem dL_law_839 : decode bL_law 839 = .ok (.iload 5, 2) := by decide +kernel
theorem dL_law_841 : decode bL_law 841 = .ok (.if_icmp .eq 5, 3) := by decide +kernel
theorem dL_law_844 : decode bL_law 844 = .ok (.iconst 0, 1) := by decide +kernel
theorem dL_law_845 : decode bL_law 845 = .ok (.ireturn, 1) := by decide +kernel
theorem dL_law_846 : decode bL_law 846 = .ok (.iload 5, 2) := by decide +kernel
theorem dL_law_848 : decode bL_law 848 = .ok (.ifCond .ne 15, 3) := by decide +kernel
theorem dL_law_851 : decode bL_law 851 = .ok (.aload_n 3, 1) := by decide +kernel
theorem dL_law_852 : decode bL_law 852 = .ok (.iconst 0, 1) := by decide +kernel
theorem dL_law_853 : decode bL_law 853 = .ok (.laload, 1) := by decide +kernel
theorem dL_law_854 : decode bL_law 854 = .ok (.iload 6, 2) := by decide +kernel
theorem dL_law_856 : decode bL_law 856 = .ok (.i2l, 1) := by decide +kernel
theorem dL_law_857 : decode bL_law 857 = .ok (.lcmp, 1) := by decide +kernel
theorem dL_law_858 : decode bL_law 858 = .ok (.ifCond .eq 5, 3) := by decide +kernel
theorem dL_law_861 : decode bL_law 861 = .ok (.iconst 0, 1) := by decide +kernel
theorem dL_law_862 : decode bL_law 862 = .ok (.ireturn, 1) := by decide +kernel
theorem dL_law_863 : decode bL_law 863 = .ok (.goto 41, 3) := by decide +kernel
theorem dL_law_866 : decode bL_law 866 = .ok (.aload_n 1, 1) := by decide +kernel
theorem dL_law_867 : decode bL_law 867 = .ok (.aload_n 0, 1) := by decide +kernel
theorem dL_law_868 : decode bL_law 868 = .ok (.iload 4, 2) := by decide +kernel
theorem dL_law_870 : decode bL_law 870 = .ok (.iconst 1, 1) := by decide +kernel
theorem dL_law_871 : decode bL_law 871 = .ok (.iadd, 1) := by decide +kernel
theorem dL_law_872 : decode bL_law 872 = .ok (.iaload, 1) := by decide +kernel
theorem dL_law_873 : decode bL_law 873 = .ok (.invokevirtual 119, 3) := by decide +kernel
theorem dL_law_876 : decode bL_law 876 = .ok (.aload_n 2, 1) := by decide +kernel
theorem dL_law_877 : decode bL_law 877 = .ok (.aload_n 0, 1) := by decide +kernel
theorem dL_law_878 : decode bL_law 878 = .ok (.iload 4, 2) := by decide +kernel
theorem dL_law_880 : decode bL_law 880 = .ok (.iconst 1, 1) := by decide +kernel
theorem dL_law_881 : decode bL_law 881 = .ok (.iadd, 1) := by decide +kernel
theorem dL_law_882 : decode bL_law 882 = .ok (.iaload, 1) := by decide +kernel
theorem dL_law_883 : decode bL_law 883 = .ok (.invokevirtual 122, 3) := by decide +kernel
theorem dL_law_886 : decode bL_law 886 = .ok (.if_icmp .eq 18, 3) := by decide +kernel
theorem dL_law_889 : decode bL_law 889 = .ok (.iconst 0, 1) := by decide +kernel
theorem dL_law_890 : decode bL_law 890 = .ok (.ireturn, 1) := by decide +kernel
theorem dL_law_891 : decode bL_law 891 = .ok (.aload_n 1, 1) := by decide +kernel
theorem dL_law_892 : decode bL_law 892 = .ok (.invokevirtual 123, 3) := by decide +kernel
theorem dL_law_895 : decode bL_law 895 = .ok (.aload_n 2, 1) := by decide +kernel
theorem dL_law_896 : decode bL_law 896 = .ok (.invokevirtual 127, 3) := by decide +kernel
theorem dL_law_899 : decode bL_law 899 = .ok (.if_icmp .eq 5, 3) := by decide +kernel
theorem dL_law_902 : decode bL_law 902 = .ok (.iconst 0, 1) := by decide +kernel
theorem dL_law_903 : decode bL_law 903 = .ok (.ireturn, 1) := by decide +kernel
theorem dL_law_904 : decode bL_law 904 = .ok (.iinc 4 7, 3) := by decide +kernel
theorem dL_law_907 : decode bL_law 907 = .ok (.goto (-884), 3) := by decide +kernel
theorem dL_law_910 : decode bL_law 910 = .ok (.iconst 1, 1) := by decide +kernel
theorem dL_law_911 : decode bL_law 911 = .ok (.ireturn, 1) := by decide +kernel
