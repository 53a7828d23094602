theorem dL_798 : decode code 798 = .ok (.iadd, 1) := by decide +kernel
theorem dL_799 : decode code 799 = .ok (.iaload, 1) := by decide +kernel
theorem dL_800 : decode code 800 = .ok (.invokevirtual 120, 3) := by decide +kernel
theorem dL_803 : decode code 803 = .ok (.pop, 1) := by decide +kernel
theorem dL_804 : decode code 804 = .ok (.goto 26, 3) := by decide +kernel
theorem dL_807 : decode code 807 = .ok (.aload_n 1, 1) := by decide +kernel
theorem dL_808 : decode code 808 = .ok (.aload_n 0, 1) := by decide +kernel
theorem dL_809 : decode code 809 = .ok (.iload_n 3, 1) := by decide +kernel
theorem dL_810 : decode code 810 = .ok (.iconst 1, 1) := by decide +kernel
theorem dL_811 : decode code 811 = .ok (.iadd, 1) := by decide +kernel
theorem dL_812 : decode code 812 = .ok (.iaload, 1) := by decide +kernel
theorem dL_813 : decode code 813 = .ok (.invokevirtual 121, 3) := by decide +kernel
theorem dL_816 : decode code 816 = .ok (.pop, 1) := by decide +kernel
theorem dL_817 : decode code 817 = .ok (.aload_n 2, 1) := by decide +kernel
theorem dL_818 : decode code 818 = .ok (.aload_n 0, 1) := by decide +kernel
theorem dL_819 : decode code 819 = .ok (.iload_n 3, 1) := by decide +kernel
theorem dL_820 : decode code 820 = .ok (.iconst 1, 1) := by decide +kernel
theorem dL_821 : decode code 821 = .ok (.iadd, 1) := by decide +kernel
theorem dL_822 : decode code 822 = .ok (.iaload, 1) := by decide +kernel
theorem dL_823 : decode code 823 = .ok (.invokevirtual 124, 3) := by decide +kernel
theorem dL_826 : decode code 826 = .ok (.pop, 1) := by decide +kernel
theorem dL_827 : decode code 827 = .ok (.goto 3, 3) := by decide +kernel
theorem dL_830 : decode code 830 = .ok (.iinc 3 6, 3) := by decide +kernel
theorem dL_833 : decode code 833 = .ok (.goto (-815), 3) := by decide +kernel
theorem dL_836 : decode code 836 = .ok (.iconst 1, 1) := by decide +kernel
theorem dL_837 : decode code 837 = .ok (.ireturn, 1) := by decide +kernel
