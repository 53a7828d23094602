theorem dL_616 : decode code 616 = .ok (.pop, 1) := by decide +kernel
theorem dL_617 : decode code 617 = .ok (.goto 213, 3) := by decide +kernel
theorem dL_620 : decode code 620 = .ok (.aload_n 1, 1) := by decide +kernel
theorem dL_621 : decode code 621 = .ok (.invokevirtual 81, 3) := by decide +kernel
theorem dL_624 : decode code 624 = .ok (.pop, 1) := by decide +kernel
theorem dL_625 : decode code 625 = .ok (.aload_n 2, 1) := by decide +kernel
theorem dL_626 : decode code 626 = .ok (.invokevirtual 85, 3) := by decide +kernel
theorem dL_629 : decode code 629 = .ok (.pop, 1) := by decide +kernel
theorem dL_630 : decode code 630 = .ok (.goto 200, 3) := by decide +kernel
theorem dL_633 : decode code 633 = .ok (.aload_n 1, 1) := by decide +kernel
theorem dL_634 : decode code 634 = .ok (.invokevirtual 86, 3) := by decide +kernel
theorem dL_637 : decode code 637 = .ok (.pop, 1) := by decide +kernel
theorem dL_638 : decode code 638 = .ok (.aload_n 2, 1) := by decide +kernel
theorem dL_639 : decode code 639 = .ok (.invokevirtual 89, 3) := by decide +kernel
theorem dL_642 : decode code 642 = .ok (.pop, 1) := by decide +kernel
theorem dL_643 : decode code 643 = .ok (.goto 187, 3) := by decide +kernel
theorem dL_646 : decode code 646 = .ok (.aload_n 1, 1) := by decide +kernel
theorem dL_647 : decode code 647 = .ok (.aload_n 0, 1) := by decide +kernel
theorem dL_648 : decode code 648 = .ok (.iload_n 3, 1) := by decide +kernel
theorem dL_649 : decode code 649 = .ok (.iconst 1, 1) := by decide +kernel
theorem dL_650 : decode code 650 = .ok (.iadd, 1) := by decide +kernel
theorem dL_651 : decode code 651 = .ok (.iaload, 1) := by decide +kernel
theorem dL_652 : decode code 652 = .ok (.aload_n 0, 1) := by decide +kernel
theorem dL_653 : decode code 653 = .ok (.iload_n 3, 1) := by decide +kernel
theorem dL_654 : decode code 654 = .ok (.iconst 2, 1) := by decide +kernel
theorem dL_655 : decode code 655 = .ok (.iadd, 1) := by decide +kernel
theorem dL_656 : decode code 656 = .ok (.iaload, 1) := by decide +kernel
theorem dL_657 : decode code 657 = .ok (.invokevirtual 90, 3) := by decide +kernel
theorem dL_660 : decode code 660 = .ok (.pop, 1) := by decide +kernel
theorem dL_661 : decode code 661 = .ok (.aload_n 2, 1) := by decide +kernel
theorem dL_662 : decode code 662 = .ok (.aload_n 0, 1) := by decide +kernel
theorem dL_663 : decode code 663 = .ok (.iload_n 3, 1) := by decide +kernel
theorem dL_664 : decode code 664 = .ok (.iconst 1, 1) := by decide +kernel
theorem dL_665 : decode code 665 = .ok (.iadd, 1) := by decide +kernel
theorem dL_666 : decode code 666 = .ok (.iaload, 1) := by decide +kernel
theorem dL_667 : decode code 667 = .ok (.aload_n 0, 1) := by decide +kernel
theorem dL_668 : decode code 668 = .ok (.iload_n 3, 1) := by decide +kernel
theorem dL_669 : decode code 669 = .ok (.iconst 2, 1) := by decide +kernel
theorem dL_670 : decode code 670 = .ok (.iadd, 1) := by decide +kernel
theorem dL_671 : decode code 671 = .ok (.iaload, 1) := by decide +kernel
theorem dL_672 : decode code 672 = .ok (.invokevirtual 93, 3) := by decide +kernel
theorem dL_675 : decode code 675 = .ok (.pop, 1) := by decide +kernel
theorem dL_676 : decode code 676 = .ok (.goto 154, 3) := by decide +kernel
theorem dL_679 : decode code 679 = .ok (.aload_n 1, 1) := by decide +kernel
theorem dL_680 : decode code 680 = .ok (.aload_n 0, 1) := by decide +kernel
theorem dL_681 : decode code 681 = .ok (.iload_n 3, 1) := by decide +kernel
theorem dL_682 : decode code 682 = .ok (.iconst 1, 1) := by decide +kernel
theorem dL_683 : decode code 683 = .ok (.iadd, 1) := by decide +kernel
theorem dL_684 : decode code 684 = .ok (.iaload, 1) := by decide +kernel
theorem dL_685 : decode code 685 = .ok (.aload_n 0, 1) := by decide +kernel
theorem dL_686 : decode code 686 = .ok (.iload_n 3, 1) := by decide +kernel
theorem dL_687 : decode code 687 = .ok (.iconst 2, 1) := by decide +kernel
theorem dL_688 : decode code 688 = .ok (.iadd, 1) := by decide +kernel
theorem dL_689 : decode code 689 = .ok (.iaload, 1) := by decide +kernel
theorem dL_690 : decode code 690 = .ok (.aload_n 0, 1) := by decide +kernel
theorem dL_691 : decode code 691 = .ok (.iload_n 3, 1) := by decide +kernel
theorem dL_692 : decode code 692 = .ok (.iconst 3, 1) := by decide +kernel
theorem dL_693 : decode code 693 = .ok (.iadd, 1) := by decide +kernel
theorem dL_694 : decode code 694 = .ok (.iaload, 1) := by decide +kernel
theorem dL_695 : decode code 695 = .ok (.invokevirtual 94, 3) := by decide +kernel
theorem dL_698 : decode code 698 = .ok (.pop, 1) := by decide +kernel
theorem dL_699 : decode code 699 = .ok (.aload_n 2, 1) := by decide +kernel
theorem dL_700 : decode code 700 = .ok (.aload_n 0, 1) := by decide +kernel
theorem dL_701 : decode code 701 = .ok (.iload_n 3, 1) := by decide +kernel
theorem dL_702 : decode code 702 = .ok (.iconst 1, 1) := by decide +kernel
theorem dL_703 : decode code 703 = .ok (.iadd, 1) := by decide +kernel
theorem dL_704 : decode code 704 = .ok (.iaload, 1) := by decide +kernel
theorem dL_705 : decode code 705 = .ok (.aload_n 0, 1) := by decide +kernel
theorem dL_706 : decode code 706 = .ok (.iload_n 3, 1) := by decide +kernel
theorem dL_707 : decode code 707 = .ok (.iconst 2, 1) := by decide +kernel
theorem dL_708 : decode code 708 = .ok (.iadd, 1) := by decide +kernel
theorem dL_709 : decode code 709 = .ok (.iaload, 1) := by decide +kernel
theorem dL_710 : decode code 710 = .ok (.aload_n 0, 1) := by decide +kernel
theorem dL_711 : decode code 711 = .ok (.iload_n 3, 1) := by decide +kernel
theorem dL_712 : decode code 712 = .ok (.iconst 3, 1) := by decide +kernel
theorem dL_713 : decode code 713 = .ok (.iadd, 1) := by decide +kernel
theorem dL_714 : decode code 714 = .ok (.iaload, 1) := by decide +kernel
theorem dL_715 : decode code 715 = .ok (.invokevirtual 98, 3) := by decide +kernel
theorem dL_718 : decode code 718 = .ok (.pop, 1) := by decide +kernel
theorem dL_719 : decode code 719 = .ok (.goto 111, 3) := by decide +kernel
theorem dL_722 : decode code 722 = .ok (.aload_n 1, 1) := by decide +kernel
theorem dL_723 : decode code 723 = .ok (.invokevirtual 99, 3) := by decide +kernel
theorem dL_726 : decode code 726 = .ok (.pop, 1) := by decide +kernel
theorem dL_727 : decode code 727 = .ok (.aload_n 2, 1) := by decide +kernel
theorem dL_728 : decode code 728 = .ok (.invokevirtual 102, 3) := by decide +kernel
theorem dL_731 : decode code 731 = .ok (.pop, 1) := by decide +kernel
theorem dL_732 : decode code 732 = .ok (.goto 98, 3) := by decide +kernel
theorem dL_735 : decode code 735 = .ok (.aload_n 1, 1) := by decide +kernel
theorem dL_736 : decode code 736 = .ok (.aload_n 0, 1) := by decide +kernel
theorem dL_737 : decode code 737 = .ok (.iload_n 3, 1) := by decide +kernel
theorem dL_738 : decode code 738 = .ok (.iconst 1, 1) := by decide +kernel
theorem dL_739 : decode code 739 = .ok (.iadd, 1) := by decide +kernel
theorem dL_740 : decode code 740 = .ok (.iaload, 1) := by decide +kernel
theorem dL_741 : decode code 741 = .ok (.invokevirtual 103, 3) := by decide +kernel
theorem dL_744 : decode code 744 = .ok (.pop, 1) := by decide +kernel
theorem dL_745 : decode code 745 = .ok (.aload_n 2, 1) := by decide +kernel
theorem dL_746 : decode code 746 = .ok (.aload_n 0, 1) := by decide +kernel
theorem dL_747 : decode code 747 = .ok (.iload_n 3, 1) := by decide +kernel
theorem dL_748 : decode code 748 = .ok (.iconst 1, 1) := by decide +kernel
theorem dL_749 : decode code 749 = .ok (.iadd, 1) := by decide +kernel
theorem dL_750 : decode code 750 = .ok (.iaload, 1) := by decide +kernel
theorem dL_751 : decode code 751 = .ok (.invokevirtual 107, 3) := by decide +kernel
theorem dL_754 : decode code 754 = .ok (.pop, 1) := by decide +kernel
theorem dL_755 : decode code 755 = .ok (.goto 75, 3) := by decide +kernel
theorem dL_758 : decode code 758 = .ok (.aload_n 1, 1) := by decide +kernel
theorem dL_759 : decode code 759 = .ok (.invokevirtual 108, 3) := by decide +kernel
theorem dL_762 : decode code 762 = .ok (.pop, 1) := by decide +kernel
theorem dL_763 : decode code 763 = .ok (.aload_n 2, 1) := by decide +kernel
theorem dL_764 : decode code 764 = .ok (.invokevirtual 111, 3) := by decide +kernel
theorem dL_767 : decode code 767 = .ok (.pop, 1) := by decide +kernel
theorem dL_768 : decode code 768 = .ok (.goto 62, 3) := by decide +kernel
theorem dL_771 : decode code 771 = .ok (.aload_n 1, 1) := by decide +kernel
theorem dL_772 : decode code 772 = .ok (.invokevirtual 112, 3) := by decide +kernel
theorem dL_775 : decode code 775 = .ok (.pop, 1) := by decide +kernel
theorem dL_776 : decode code 776 = .ok (.aload_n 2, 1) := by decide +kernel
theorem dL_777 : decode code 777 = .ok (.invokevirtual 116, 3) := by decide +kernel
theorem dL_780 : decode code 780 = .ok (.pop, 1) := by decide +kernel
theorem dL_781 : decode code 781 = .ok (.goto 49, 3) := by decide +kernel
theorem dL_784 : decode code 784 = .ok (.aload_n 1, 1) := by decide +kernel
theorem dL_785 : decode code 785 = .ok (.aload_n 0, 1) := by decide +kernel
theorem dL_786 : decode code 786 = .ok (.iload_n 3, 1) := by decide +kernel
theorem dL_787 : decode code 787 = .ok (.iconst 1, 1) := by decide +kernel
theorem dL_788 : decode code 788 = .ok (.iadd, 1) := by decide +kernel
theorem dL_789 : decode code 789 = .ok (.iaload, 1) := by decide +kernel
theorem dL_790 : decode code 790 = .ok (.invokevirtual 117, 3) := by decide +kernel
theorem dL_793 : decode code 793 = .ok (.pop, 1) := by decide +kernel
theorem dL_794 : decode code 794 = .ok (.aload_n 2, 1) := by decide +kernel
theorem dL_795 : decode code 795 = .ok (.aload_n 0, 1) := by decide +kernel
theorem dL_796 : decode code 796 = .ok (.iload_n 3, 1) := by decide +kernel
theorem dL_797 : decode code 797 = .ok (.iconst 1, 1) := by decide +kernel
