theorem dL_666 : decode code 666 = .ok (.aload_n 0, 1) := by decide +kernel
theorem dL_667 : decode code 667 = .ok (.iload_n 3, 1) := by decide +kernel
theorem dL_668 : decode code 668 = .ok (.iconst 2, 1) := by decide +kernel
theorem dL_669 : decode code 669 = .ok (.iadd, 1) := by decide +kernel
theorem dL_670 : decode code 670 = .ok (.iaload, 1) := by decide +kernel
theorem dL_671 : decode code 671 = .ok (.invokevirtual 93, 3) := by decide +kernel
theorem dL_674 : decode code 674 = .ok (.if_icmp .eq 156, 3) := by decide +kernel
theorem dL_679 : decode code 679 = .ok (.aload_n 1, 1) := by decide +kernel
theorem dL_680 : decode code 680 = .ok (.aload_n 0, 1) := by decide +kernel
theorem dL_681 : decode code 681 = .ok (.iload_n 3, 1) := by decide +kernel
theorem dL_682 : decode code 682 = .ok (.iconst 1, 1) := by decide +kernel
theorem dL_683 : decode code 683 = .ok (.iadd, 1) := by decide +kernel
theorem dL_684 : decode code 684 = .ok (.iaload, 1) := by decide +kernel
theorem dL_685 : decode code 685 = .ok (.aload_n 0, 1) := by decide +kernel
theorem dL_686 : decode code 686 = .ok (.iload_n 3, 1) := by decide +kernel
theorem dL_687 : decode code 687 = .ok (.iconst 2, 1) := by decide +kernel
theorem dL_688 : decode code 688 = .ok (.iadd, 1) := by decide +kernel
theorem dL_689 : decode code 689 = .ok (.iaload, 1) := by decide +kernel
theorem dL_690 : decode code 690 = .ok (.aload_n 0, 1) := by decide +kernel
theorem dL_691 : decode code 691 = .ok (.iload_n 3, 1) := by decide +kernel
theorem dL_692 : decode code 692 = .ok (.iconst 3, 1) := by decide +kernel
theorem dL_693 : decode code 693 = .ok (.iadd, 1) := by decide +kernel
theorem dL_694 : decode code 694 = .ok (.iaload, 1) := by decide +kernel
theorem dL_695 : decode code 695 = .ok (.invokevirtual 94, 3) := by decide +kernel
theorem dL_698 : decode code 698 = .ok (.aload_n 2, 1) := by decide +kernel
theorem dL_699 : decode code 699 = .ok (.aload_n 0, 1) := by decide +kernel
theorem dL_700 : decode code 700 = .ok (.iload_n 3, 1) := by decide +kernel
theorem dL_701 : decode code 701 = .ok (.iconst 1, 1) := by decide +kernel
theorem dL_702 : decode code 702 = .ok (.iadd, 1) := by decide +kernel
theorem dL_703 : decode code 703 = .ok (.iaload, 1) := by decide +kernel
theorem dL_704 : decode code 704 = .ok (.aload_n 0, 1) := by decide +kernel
theorem dL_705 : decode code 705 = .ok (.iload_n 3, 1) := by decide +kernel
theorem dL_706 : decode code 706 = .ok (.iconst 2, 1) := by decide +kernel
theorem dL_707 : decode code 707 = .ok (.iadd, 1) := by decide +kernel
theorem dL_708 : decode code 708 = .ok (.iaload, 1) := by decide +kernel
theorem dL_709 : decode code 709 = .ok (.aload_n 0, 1) := by decide +kernel
theorem dL_710 : decode code 710 = .ok (.iload_n 3, 1) := by decide +kernel
theorem dL_711 : decode code 711 = .ok (.iconst 3, 1) := by decide +kernel
theorem dL_712 : decode code 712 = .ok (.iadd, 1) := by decide +kernel
theorem dL_713 : decode code 713 = .ok (.iaload, 1) := by decide +kernel
theorem dL_714 : decode code 714 = .ok (.invokevirtual 98, 3) := by decide +kernel
theorem dL_717 : decode code 717 = .ok (.if_icmp .eq 113, 3) := by decide +kernel
theorem dL_722 : decode code 722 = .ok (.aload_n 1, 1) := by decide +kernel
theorem dL_723 : decode code 723 = .ok (.invokevirtual 99, 3) := by decide +kernel
theorem dL_726 : decode code 726 = .ok (.aload_n 2, 1) := by decide +kernel
theorem dL_727 : decode code 727 = .ok (.invokevirtual 102, 3) := by decide +kernel
theorem dL_730 : decode code 730 = .ok (.if_icmp .eq 100, 3) := by decide +kernel
theorem dL_735 : decode code 735 = .ok (.aload_n 1, 1) := by decide +kernel
theorem dL_736 : decode code 736 = .ok (.aload_n 0, 1) := by decide +kernel
theorem dL_737 : decode code 737 = .ok (.iload_n 3, 1) := by decide +kernel
theorem dL_738 : decode code 738 = .ok (.iconst 1, 1) := by decide +kernel
theorem dL_739 : decode code 739 = .ok (.iadd, 1) := by decide +kernel
theorem dL_740 : decode code 740 = .ok (.iaload, 1) := by decide +kernel
theorem dL_741 : decode code 741 = .ok (.invokevirtual 103, 3) := by decide +kernel
theorem dL_744 : decode code 744 = .ok (.aload_n 2, 1) := by decide +kernel
theorem dL_745 : decode code 745 = .ok (.aload_n 0, 1) := by decide +kernel
theorem dL_746 : decode code 746 = .ok (.iload_n 3, 1) := by decide +kernel
theorem dL_747 : decode code 747 = .ok (.iconst 1, 1) := by decide +kernel
theorem dL_748 : decode code 748 = .ok (.iadd, 1) := by decide +kernel
theorem dL_749 : decode code 749 = .ok (.iaload, 1) := by decide +kernel
theorem dL_750 : decode code 750 = .ok (.invokevirtual 107, 3) := by decide +kernel
theorem dL_753 : decode code 753 = .ok (.if_icmp .eq 77, 3) := by decide +kernel
theorem dL_758 : decode code 758 = .ok (.aload_n 1, 1) := by decide +kernel
theorem dL_759 : decode code 759 = .ok (.invokevirtual 108, 3) := by decide +kernel
theorem dL_762 : decode code 762 = .ok (.aload_n 2, 1) := by decide +kernel
theorem dL_763 : decode code 763 = .ok (.invokevirtual 111, 3) := by decide +kernel
theorem dL_766 : decode code 766 = .ok (.if_icmp .eq 64, 3) := by decide +kernel
theorem dL_771 : decode code 771 = .ok (.aload_n 1, 1) := by decide +kernel
theorem dL_772 : decode code 772 = .ok (.invokevirtual 112, 3) := by decide +kernel
theorem dL_775 : decode code 775 = .ok (.aload_n 2, 1) := by decide +kernel
theorem dL_776 : decode code 776 = .ok (.invokevirtual 116, 3) := by decide +kernel
theorem dL_779 : decode code 779 = .ok (.if_icmp .eq 51, 3) := by decide +kernel
theorem dL_784 : decode code 784 = .ok (.aload_n 1, 1) := by decide +kernel
theorem dL_785 : decode code 785 = .ok (.aload_n 0, 1) := by decide +kernel
theorem dL_786 : decode code 786 = .ok (.iload_n 3, 1) := by decide +kernel
theorem dL_787 : decode code 787 = .ok (.iconst 1, 1) := by decide +kernel
theorem dL_788 : decode code 788 = .ok (.iadd, 1) := by decide +kernel
theorem dL_789 : decode code 789 = .ok (.iaload, 1) := by decide +kernel
theorem dL_790 : decode code 790 = .ok (.invokevirtual 117, 3) := by decide +kernel
theorem dL_793 : decode code 793 = .ok (.aload_n 2, 1) := by decide +kernel
theorem dL_794 : decode code 794 = .ok (.aload_n 0, 1) := by decide +kernel
theorem dL_795 : decode code 795 = .ok (.iload_n 3, 1) := by decide +kernel
theorem dL_796 : decode code 796 = .ok (.iconst 1, 1) := by decide +kernel
theorem dL_797 : decode code 797 = .ok (.iadd, 1) := by decide +kernel
theorem dL_798 : decode code 798 = .ok (.iaload, 1) := by decide +kernel
theorem dL_799 : decode code 799 = .ok (.invokevirtual 120, 3) := by decide +kernel
theorem dL_802 : decode code 802 = .ok (.if_icmp .eq 28, 3) := by decide +kernel
theorem dL_807 : decode code 807 = .ok (.aload_n 1, 1) := by decide +kernel
theorem dL_808 : decode code 808 = .ok (.aload_n 0, 1) := by decide +kernel
theorem dL_809 : decode code 809 = .ok (.iload_n 3, 1) := by decide +kernel
theorem dL_810 : decode code 810 = .ok (.iconst 1, 1) := by decide +kernel
theorem dL_811 : decode code 811 = .ok (.iadd, 1) := by decide +kernel
theorem dL_812 : decode code 812 = .ok (.iaload, 1) := by decide +kernel
theorem dL_813 : decode code 813 = .ok (.invokevirtual 121, 3) := by decide +kernel
theorem dL_816 : decode code 816 = .ok (.aload_n 2, 1) := by decide +kernel
theorem dL_817 : decode code 817 = .ok (.aload_n 0, 1) := by decide +kernel
theorem dL_818 : decode code 818 = .ok (.iload_n 3, 1) := by decide +kernel
theorem dL_819 : decode code 819 = .ok (.iconst 1, 1) := by decide +kernel
theorem dL_820 : decode code 820 = .ok (.iadd, 1) := by decide +kernel
theorem dL_821 : decode code 821 = .ok (.iaload, 1) := by decide +kernel
theorem dL_822 : decode code 822 = .ok (.invokevirtual 124, 3) := by decide +kernel
theorem dL_825 : decode code 825 = .ok (.if_icmp .eq 5, 3) := by decide +kernel
theorem dL_830 : decode code 830 = .ok (.iinc 3 6, 3) := by decide +kernel
theorem dL_833 : decode code 833 = .ok (.goto (-815), 3) := by decide +kernel
theorem dL_836 : decode code 836 = .ok (.iconst 1, 1) := by decide +kernel
theorem dL_837 : decode code 837 = .ok (.ireturn, 1) := by decide +kernel
