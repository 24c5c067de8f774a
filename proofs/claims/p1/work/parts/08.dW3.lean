theorem d_law_676 : decode code 676 = .ok (.goto 163, 3) := by decide +kernel
theorem d_law_679 : decode code 679 = .ok (.aload_n 1, 1) := by decide +kernel
theorem d_law_680 : decode code 680 = .ok (.aload_n 0, 1) := by decide +kernel
theorem d_law_681 : decode code 681 = .ok (.iload 4, 2) := by decide +kernel
theorem d_law_683 : decode code 683 = .ok (.iconst 1, 1) := by decide +kernel
theorem d_law_684 : decode code 684 = .ok (.iadd, 1) := by decide +kernel
theorem d_law_685 : decode code 685 = .ok (.iaload, 1) := by decide +kernel
theorem d_law_686 : decode code 686 = .ok (.aload_n 0, 1) := by decide +kernel
theorem d_law_687 : decode code 687 = .ok (.iload 4, 2) := by decide +kernel
theorem d_law_689 : decode code 689 = .ok (.iconst 2, 1) := by decide +kernel
theorem d_law_690 : decode code 690 = .ok (.iadd, 1) := by decide +kernel
theorem d_law_691 : decode code 691 = .ok (.iaload, 1) := by decide +kernel
theorem d_law_692 : decode code 692 = .ok (.aload_n 0, 1) := by decide +kernel
theorem d_law_693 : decode code 693 = .ok (.iload 4, 2) := by decide +kernel
theorem d_law_695 : decode code 695 = .ok (.iconst 3, 1) := by decide +kernel
theorem d_law_696 : decode code 696 = .ok (.iadd, 1) := by decide +kernel
theorem d_law_697 : decode code 697 = .ok (.iaload, 1) := by decide +kernel
theorem d_law_698 : decode code 698 = .ok (.invokestatic 122, 3) := by decide +kernel
theorem d_law_701 : decode code 701 = .ok (.istore 5, 2) := by decide +kernel
theorem d_law_703 : decode code 703 = .ok (.aload_n 2, 1) := by decide +kernel
theorem d_law_704 : decode code 704 = .ok (.aload_n 0, 1) := by decide +kernel
theorem d_law_705 : decode code 705 = .ok (.iload 4, 2) := by decide +kernel
theorem d_law_707 : decode code 707 = .ok (.iconst 1, 1) := by decide +kernel
theorem d_law_708 : decode code 708 = .ok (.iadd, 1) := by decide +kernel
theorem d_law_709 : decode code 709 = .ok (.iaload, 1) := by decide +kernel
theorem d_law_710 : decode code 710 = .ok (.aload_n 0, 1) := by decide +kernel
theorem d_law_711 : decode code 711 = .ok (.iload 4, 2) := by decide +kernel
theorem d_law_713 : decode code 713 = .ok (.iconst 2, 1) := by decide +kernel
theorem d_law_714 : decode code 714 = .ok (.iadd, 1) := by decide +kernel
theorem d_law_715 : decode code 715 = .ok (.iaload, 1) := by decide +kernel
theorem d_law_716 : decode code 716 = .ok (.aload_n 0, 1) := by decide +kernel
theorem d_law_717 : decode code 717 = .ok (.iload 4, 2) := by decide +kernel
theorem d_law_719 : decode code 719 = .ok (.iconst 3, 1) := by decide +kernel
theorem d_law_720 : decode code 720 = .ok (.iadd, 1) := by decide +kernel
theorem d_law_721 : decode code 721 = .ok (.iaload, 1) := by decide +kernel
theorem d_law_722 : decode code 722 = .ok (.invokevirtual 125, 3) := by decide +kernel
theorem d_law_725 : decode code 725 = .ok (.aload_n 2, 1) := by decide +kernel
theorem d_law_726 : decode code 726 = .ok (.invokevirtual 80, 3) := by decide +kernel
theorem d_law_729 : decode code 729 = .ok (.iload 5, 2) := by decide +kernel
theorem d_law_731 : decode code 731 = .ok (.if_icmp .eq 5, 3) := by decide +kernel
theorem d_law_734 : decode code 734 = .ok (.iconst 0, 1) := by decide +kernel
theorem d_law_735 : decode code 735 = .ok (.ireturn, 1) := by decide +kernel
theorem d_law_736 : decode code 736 = .ok (.goto 103, 3) := by decide +kernel
theorem d_law_739 : decode code 739 = .ok (.aload_n 1, 1) := by decide +kernel
theorem d_law_740 : decode code 740 = .ok (.aload_n 3, 1) := by decide +kernel
theorem d_law_741 : decode code 741 = .ok (.invokestatic 126, 3) := by decide +kernel
theorem d_law_744 : decode code 744 = .ok (.istore 5, 2) := by decide +kernel
theorem d_law_746 : decode code 746 = .ok (.aload_n 2, 1) := by decide +kernel
theorem d_law_747 : decode code 747 = .ok (.invokevirtual 128, 3) := by decide +kernel
theorem d_law_750 : decode code 750 = .ok (.istore 6, 2) := by decide +kernel
theorem d_law_752 : decode code 752 = .ok (.aload_n 2, 1) := by decide +kernel
theorem d_law_753 : decode code 753 = .ok (.invokevirtual 80, 3) := by decide +kernel
theorem d_law_756 : decode code 756 = .ok (.iload 5, 2) := by decide +kernel
theorem d_law_758 : decode code 758 = .ok (.if_icmp .eq 5, 3) := by decide +kernel
theorem d_law_761 : decode code 761 = .ok (.iconst 0, 1) := by decide +kernel
theorem d_law_762 : decode code 762 = .ok (.ireturn, 1) := by decide +kernel
theorem d_law_763 : decode code 763 = .ok (.iload 5, 2) := by decide +kernel
theorem d_law_765 : decode code 765 = .ok (.ifCond .ne 15, 3) := by decide +kernel
theorem d_law_768 : decode code 768 = .ok (.aload_n 3, 1) := by decide +kernel
theorem d_law_769 : decode code 769 = .ok (.iconst 0, 1) := by decide +kernel
theorem d_law_770 : decode code 770 = .ok (.laload, 1) := by decide +kernel
theorem d_law_771 : decode code 771 = .ok (.iload 6, 2) := by decide +kernel
theorem d_law_773 : decode code 773 = .ok (.i2l, 1) := by decide +kernel
theorem d_law_774 : decode code 774 = .ok (.lcmp, 1) := by decide +kernel
theorem d_law_775 : decode code 775 = .ok (.ifCond .eq 5, 3) := by decide +kernel
theorem d_law_778 : decode code 778 = .ok (.iconst 0, 1) := by decide +kernel
theorem d_law_779 : decode code 779 = .ok (.ireturn, 1) := by decide +kernel
theorem d_law_780 : decode code 780 = .ok (.goto 59, 3) := by decide +kernel
theorem d_law_783 : decode code 783 = .ok (.aload_n 1, 1) := by decide +kernel
theorem d_law_784 : decode code 784 = .ok (.aload_n 0, 1) := by decide +kernel
theorem d_law_785 : decode code 785 = .ok (.iload 4, 2) := by decide +kernel
theorem d_law_787 : decode code 787 = .ok (.iconst 1, 1) := by decide +kernel
theorem d_law_788 : decode code 788 = .ok (.iadd, 1) := by decide +kernel
theorem d_law_789 : decode code 789 = .ok (.iaload, 1) := by decide +kernel
theorem d_law_790 : decode code 790 = .ok (.aload_n 3, 1) := by decide +kernel
theorem d_law_791 : decode code 791 = .ok (.invokestatic 129, 3) := by decide +kernel
theorem d_law_794 : decode code 794 = .ok (.istore 5, 2) := by decide +kernel
theorem d_law_796 : decode code 796 = .ok (.aload_n 2, 1) := by decide +kernel
theorem d_law_797 : decode code 797 = .ok (.aload_n 0, 1) := by decide +kernel
theorem d_law_798 : decode code 798 = .ok (.iload 4, 2) := by decide +kernel
theorem d_law_800 : decode code 800 = .ok (.iconst 1, 1) := by decide +kernel
theorem d_law_801 : decode code 801 = .ok (.iadd, 1) := by decide +kernel
theorem d_law_802 : decode code 802 = .ok (.iaload, 1) := by decide +kernel
theorem d_law_803 : decode code 803 = .ok (.invokevirtual 131, 3) := by decide +kernel
theorem d_law_806 : decode code 806 = .ok (.istore 6, 2) := by decide +kernel
theorem d_law_808 : decode code 808 = .ok (.aload_n 2, 1) := by decide +kernel
theorem d_law_809 : decode code 809 = .ok (.invokevirtual 80, 3) := by decide +kernel
theorem d_law_812 : decode code 812 = .ok (.iload 5, 2) := by decide +kernel
theorem d_law_814 : decode code 814 = .ok (.if_icmp .eq 5, 3) := by decide +kernel
theorem d_law_817 : decode code 817 = .ok (.iconst 0, 1) := by decide +kernel
theorem d_law_818 : decode code 818 = .ok (.ireturn, 1) := by decide +kernel
theorem d_law_819 : decode code 819 = .ok (.iload 5, 2) := by decide +kernel
theorem d_law_821 : decode code 821 = .ok (.ifCond .ne 15, 3) := by decide +kernel
theorem d_law_824 : decode code 824 = .ok (.aload_n 3, 1) := by decide +kernel
theorem d_law_825 : decode code 825 = .ok (.iconst 0, 1) := by decide +kernel
theorem d_law_826 : decode code 826 = .ok (.laload, 1) := by decide +kernel
theorem d_law_827 : decode code 827 = .ok (.iload 6, 2) := by decide +kernel
theorem d_law_829 : decode code 829 = .ok (.i2l, 1) := by decide +kernel
theorem d_law_830 : decode code 830 = .ok (.lcmp, 1) := by decide +kernel
theorem d_law_831 : decode code 831 = .ok (.ifCond .eq 5, 3) := by decide +kernel
theorem d_law_834 : decode code 834 = .ok (.iconst 0, 1) := by decide +kernel
theorem d_law_835 : decode code 835 = .ok (.ireturn, 1) := by decide +kernel
theorem d_law_836 : decode code 836 = .ok (.goto 3, 3) := by decide +kernel
theorem d_law_839 : decode code 839 = .ok (.iinc 4 6, 3) := by decide +kernel
theorem d_law_842 : decode code 842 = .ok (.goto (-819), 3) := by decide +kernel
theorem d_law_845 : decode code 845 = .ok (.iconst 1, 1) := by decide +kernel
theorem d_law_846 : decode code 846 = .ok (.ireturn, 1) := by decide +kernel
