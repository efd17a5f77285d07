/-! What each instruction of the law is. -/
theorem d_W_652 : decode code 652 = .ok (.lcmp, 1) := by decide +kernel
theorem d_W_653 : decode code 653 = .ok (.ifCond .eq 5, 3) := by decide +kernel
theorem d_W_656 : decode code 656 = .ok (.iconst 0, 1) := by decide +kernel
theorem d_W_657 : decode code 657 = .ok (.ireturn, 1) := by decide +kernel
theorem d_W_658 : decode code 658 = .ok (.goto 183, 3) := by decide +kernel
theorem d_W_661 : decode code 661 = .ok (.aload_n 1, 1) := by decide +kernel
theorem d_W_662 : decode code 662 = .ok (.aload_n 0, 1) := by decide +kernel
theorem d_W_663 : decode code 663 = .ok (.iload 4, 2) := by decide +kernel
theorem d_W_665 : decode code 665 = .ok (.iconst 1, 1) := by decide +kernel
theorem d_W_666 : decode code 666 = .ok (.iadd, 1) := by decide +kernel
theorem d_W_667 : decode code 667 = .ok (.iaload, 1) := by decide +kernel
theorem d_W_668 : decode code 668 = .ok (.aload_n 3, 1) := by decide +kernel
theorem d_W_669 : decode code 669 = .ok (.invokestatic 111, 3) := by decide +kernel
theorem d_W_672 : decode code 672 = .ok (.istore 5, 2) := by decide +kernel
theorem d_W_674 : decode code 674 = .ok (.aload_n 2, 1) := by decide +kernel
theorem d_W_675 : decode code 675 = .ok (.aload_n 0, 1) := by decide +kernel
theorem d_W_676 : decode code 676 = .ok (.iload 4, 2) := by decide +kernel
theorem d_W_678 : decode code 678 = .ok (.iconst 1, 1) := by decide +kernel
theorem d_W_679 : decode code 679 = .ok (.iadd, 1) := by decide +kernel
theorem d_W_680 : decode code 680 = .ok (.iaload, 1) := by decide +kernel
theorem d_W_681 : decode code 681 = .ok (.invokevirtual 113, 3) := by decide +kernel
theorem d_W_684 : decode code 684 = .ok (.istore 6, 2) := by decide +kernel
theorem d_W_686 : decode code 686 = .ok (.aload_n 2, 1) := by decide +kernel
theorem d_W_687 : decode code 687 = .ok (.invokevirtual 74, 3) := by decide +kernel
theorem d_W_690 : decode code 690 = .ok (.iload 5, 2) := by decide +kernel
theorem d_W_692 : decode code 692 = .ok (.if_icmp .eq 5, 3) := by decide +kernel
theorem d_W_695 : decode code 695 = .ok (.iconst 0, 1) := by decide +kernel
theorem d_W_696 : decode code 696 = .ok (.ireturn, 1) := by decide +kernel
theorem d_W_697 : decode code 697 = .ok (.iload 5, 2) := by decide +kernel
theorem d_W_699 : decode code 699 = .ok (.ifCond .ne 15, 3) := by decide +kernel
theorem d_W_702 : decode code 702 = .ok (.aload_n 3, 1) := by decide +kernel
theorem d_W_703 : decode code 703 = .ok (.iconst 0, 1) := by decide +kernel
theorem d_W_704 : decode code 704 = .ok (.laload, 1) := by decide +kernel
theorem d_W_705 : decode code 705 = .ok (.iload 6, 2) := by decide +kernel
theorem d_W_707 : decode code 707 = .ok (.i2l, 1) := by decide +kernel
theorem d_W_708 : decode code 708 = .ok (.lcmp, 1) := by decide +kernel
theorem d_W_709 : decode code 709 = .ok (.ifCond .eq 5, 3) := by decide +kernel
theorem d_W_712 : decode code 712 = .ok (.iconst 0, 1) := by decide +kernel
theorem d_W_713 : decode code 713 = .ok (.ireturn, 1) := by decide +kernel
theorem d_W_714 : decode code 714 = .ok (.goto 127, 3) := by decide +kernel
theorem d_W_717 : decode code 717 = .ok (.aload_n 1, 1) := by decide +kernel
theorem d_W_718 : decode code 718 = .ok (.aload_n 0, 1) := by decide +kernel
theorem d_W_719 : decode code 719 = .ok (.iload 4, 2) := by decide +kernel
theorem d_W_721 : decode code 721 = .ok (.iconst 1, 1) := by decide +kernel
theorem d_W_722 : decode code 722 = .ok (.iadd, 1) := by decide +kernel
theorem d_W_723 : decode code 723 = .ok (.iaload, 1) := by decide +kernel
theorem d_W_724 : decode code 724 = .ok (.aload_n 0, 1) := by decide +kernel
theorem d_W_725 : decode code 725 = .ok (.iload 4, 2) := by decide +kernel
theorem d_W_727 : decode code 727 = .ok (.iconst 2, 1) := by decide +kernel
theorem d_W_728 : decode code 728 = .ok (.iadd, 1) := by decide +kernel
theorem d_W_729 : decode code 729 = .ok (.iaload, 1) := by decide +kernel
theorem d_W_730 : decode code 730 = .ok (.aload_n 3, 1) := by decide +kernel
theorem d_W_731 : decode code 731 = .ok (.invokestatic 114, 3) := by decide +kernel
theorem d_W_734 : decode code 734 = .ok (.istore 5, 2) := by decide +kernel
theorem d_W_736 : decode code 736 = .ok (.aload_n 2, 1) := by decide +kernel
theorem d_W_737 : decode code 737 = .ok (.aload_n 0, 1) := by decide +kernel
theorem d_W_738 : decode code 738 = .ok (.iload 4, 2) := by decide +kernel
theorem d_W_740 : decode code 740 = .ok (.iconst 1, 1) := by decide +kernel
theorem d_W_741 : decode code 741 = .ok (.iadd, 1) := by decide +kernel
theorem d_W_742 : decode code 742 = .ok (.iaload, 1) := by decide +kernel
theorem d_W_743 : decode code 743 = .ok (.aload_n 0, 1) := by decide +kernel
theorem d_W_744 : decode code 744 = .ok (.iload 4, 2) := by decide +kernel
theorem d_W_746 : decode code 746 = .ok (.iconst 2, 1) := by decide +kernel
theorem d_W_747 : decode code 747 = .ok (.iadd, 1) := by decide +kernel
theorem d_W_748 : decode code 748 = .ok (.iaload, 1) := by decide +kernel
theorem d_W_749 : decode code 749 = .ok (.invokevirtual 116, 3) := by decide +kernel
theorem d_W_752 : decode code 752 = .ok (.istore 6, 2) := by decide +kernel
theorem d_W_754 : decode code 754 = .ok (.aload_n 2, 1) := by decide +kernel
theorem d_W_755 : decode code 755 = .ok (.invokevirtual 74, 3) := by decide +kernel
theorem d_W_758 : decode code 758 = .ok (.iload 5, 2) := by decide +kernel
theorem d_W_760 : decode code 760 = .ok (.if_icmp .eq 5, 3) := by decide +kernel
theorem d_W_763 : decode code 763 = .ok (.iconst 0, 1) := by decide +kernel
theorem d_W_764 : decode code 764 = .ok (.ireturn, 1) := by decide +kernel
theorem d_W_765 : decode code 765 = .ok (.iload 5, 2) := by decide +kernel
theorem d_W_767 : decode code 767 = .ok (.ifCond .ne 15, 3) := by decide +kernel
theorem d_W_770 : decode code 770 = .ok (.aload_n 3, 1) := by decide +kernel
theorem d_W_771 : decode code 771 = .ok (.iconst 0, 1) := by decide +kernel
theorem d_W_772 : decode code 772 = .ok (.laload, 1) := by decide +kernel
theorem d_W_773 : decode code 773 = .ok (.iload 6, 2) := by decide +kernel
theorem d_W_775 : decode code 775 = .ok (.i2l, 1) := by decide +kernel
theorem d_W_776 : decode code 776 = .ok (.lcmp, 1) := by decide +kernel
theorem d_W_777 : decode code 777 = .ok (.ifCond .eq 5, 3) := by decide +kernel
theorem d_W_780 : decode code 780 = .ok (.iconst 0, 1) := by decide +kernel
theorem d_W_781 : decode code 781 = .ok (.ireturn, 1) := by decide +kernel
theorem d_W_782 : decode code 782 = .ok (.goto 59, 3) := by decide +kernel
theorem d_W_785 : decode code 785 = .ok (.aload_n 1, 1) := by decide +kernel
theorem d_W_786 : decode code 786 = .ok (.aload_n 0, 1) := by decide +kernel
theorem d_W_787 : decode code 787 = .ok (.iload 4, 2) := by decide +kernel
theorem d_W_789 : decode code 789 = .ok (.iconst 1, 1) := by decide +kernel
theorem d_W_790 : decode code 790 = .ok (.iadd, 1) := by decide +kernel
theorem d_W_791 : decode code 791 = .ok (.iaload, 1) := by decide +kernel
theorem d_W_792 : decode code 792 = .ok (.aload_n 3, 1) := by decide +kernel
theorem d_W_793 : decode code 793 = .ok (.invokestatic 117, 3) := by decide +kernel
theorem d_W_796 : decode code 796 = .ok (.istore 5, 2) := by decide +kernel
theorem d_W_798 : decode code 798 = .ok (.aload_n 2, 1) := by decide +kernel
theorem d_W_799 : decode code 799 = .ok (.aload_n 0, 1) := by decide +kernel
theorem d_W_800 : decode code 800 = .ok (.iload 4, 2) := by decide +kernel
theorem d_W_802 : decode code 802 = .ok (.iconst 1, 1) := by decide +kernel
theorem d_W_803 : decode code 803 = .ok (.iadd, 1) := by decide +kernel
theorem d_W_804 : decode code 804 = .ok (.iaload, 1) := by decide +kernel
theorem d_W_805 : decode code 805 = .ok (.invokevirtual 119, 3) := by decide +kernel
theorem d_W_808 : decode code 808 = .ok (.istore 6, 2) := by decide +kernel
theorem d_W_810 : decode code 810 = .ok (.aload_n 2, 1) := by decide +kernel
theorem d_W_811 : decode code 811 = .ok (.invokevirtual 74, 3) := by decide +kernel
theorem d_W_814 : decode code 814 = .ok (.iload 5, 2) := by decide +kernel
theorem d_W_816 : decode code 816 = .ok (.if_icmp .eq 5, 3) := by decide +kernel
theorem d_W_819 : decode code 819 = .ok (.iconst 0, 1) := by decide +kernel
theorem d_W_820 : decode code 820 = .ok (.ireturn, 1) := by decide +kernel
theorem d_W_821 : decode code 821 = .ok (.iload 5, 2) := by decide +kernel
theorem d_W_823 : decode code 823 = .ok (.ifCond .ne 15, 3) := by decide +kernel
theorem d_W_826 : decode code 826 = .ok (.aload_n 3, 1) := by decide +kernel
theorem d_W_827 : decode code 827 = .ok (.iconst 0, 1) := by decide +kernel
theorem d_W_828 : decode code 828 = .ok (.laload, 1) := by decide +kernel
theorem d_W_829 : decode code 829 = .ok (.iload 6, 2) := by decide +kernel
theorem d_W_831 : decode code 831 = .ok (.i2l, 1) := by decide +kernel
theorem d_W_832 : decode code 832 = .ok (.lcmp, 1) := by decide +kernel
theorem d_W_833 : decode code 833 = .ok (.ifCond .eq 5, 3) := by decide +kernel
theorem d_W_836 : decode code 836 = .ok (.iconst 0, 1) := by decide +kernel
theorem d_W_837 : decode code 837 = .ok (.ireturn, 1) := by decide +kernel
theorem d_W_838 : decode code 838 = .ok (.goto 3, 3) := by decide +kernel
theorem d_W_841 : decode code 841 = .ok (.iinc 4 5, 3) := by decide +kernel
theorem d_W_844 : decode code 844 = .ok (.goto (-821), 3) := by decide +kernel
theorem d_W_847 : decode code 847 = .ok (.iconst 1, 1) := by decide +kernel
theorem d_W_848 : decode code 848 = .ok (.ireturn, 1) := by decide +kernel
