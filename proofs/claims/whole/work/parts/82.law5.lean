theorem d_Law_law_737 : decode code 737 = .ok (.iadd, 1) := by decide +kernel
theorem d_Law_law_738 : decode code 738 = .ok (.iaload, 1) := by decide +kernel
theorem d_Law_law_739 : decode code 739 = .ok (.invokevirtual 105, 3) := by decide +kernel
theorem d_Law_law_742 : decode code 742 = .ok (.if_icmp .eq 55, 3) := by decide +kernel
theorem d_Law_law_745 : decode code 745 = .ok (.iconst 0, 1) := by decide +kernel
theorem d_Law_law_747 : decode code 747 = .ok (.aload_n 1, 1) := by decide +kernel
theorem d_Law_law_748 : decode code 748 = .ok (.aload_n 0, 1) := by decide +kernel
theorem d_Law_law_749 : decode code 749 = .ok (.iload 4, 2) := by decide +kernel
theorem d_Law_law_751 : decode code 751 = .ok (.iconst 1, 1) := by decide +kernel
theorem d_Law_law_752 : decode code 752 = .ok (.iadd, 1) := by decide +kernel
theorem d_Law_law_753 : decode code 753 = .ok (.iaload, 1) := by decide +kernel
theorem d_Law_law_754 : decode code 754 = .ok (.aload_n 0, 1) := by decide +kernel
theorem d_Law_law_755 : decode code 755 = .ok (.iload 4, 2) := by decide +kernel
theorem d_Law_law_757 : decode code 757 = .ok (.iconst 2, 1) := by decide +kernel
theorem d_Law_law_758 : decode code 758 = .ok (.iadd, 1) := by decide +kernel
theorem d_Law_law_759 : decode code 759 = .ok (.iaload, 1) := by decide +kernel
theorem d_Law_law_760 : decode code 760 = .ok (.invokevirtual 106, 3) := by decide +kernel
theorem d_Law_law_763 : decode code 763 = .ok (.aload_n 2, 1) := by decide +kernel
theorem d_Law_law_764 : decode code 764 = .ok (.aload_n 0, 1) := by decide +kernel
theorem d_Law_law_765 : decode code 765 = .ok (.iload 4, 2) := by decide +kernel
theorem d_Law_law_767 : decode code 767 = .ok (.iconst 1, 1) := by decide +kernel
theorem d_Law_law_768 : decode code 768 = .ok (.iadd, 1) := by decide +kernel
theorem d_Law_law_769 : decode code 769 = .ok (.iaload, 1) := by decide +kernel
theorem d_Law_law_770 : decode code 770 = .ok (.aload_n 0, 1) := by decide +kernel
theorem d_Law_law_771 : decode code 771 = .ok (.iload 4, 2) := by decide +kernel
theorem d_Law_law_773 : decode code 773 = .ok (.iconst 2, 1) := by decide +kernel
theorem d_Law_law_774 : decode code 774 = .ok (.iadd, 1) := by decide +kernel
theorem d_Law_law_775 : decode code 775 = .ok (.iaload, 1) := by decide +kernel
theorem d_Law_law_776 : decode code 776 = .ok (.invokevirtual 109, 3) := by decide +kernel
theorem d_Law_law_779 : decode code 779 = .ok (.if_icmp .eq 18, 3) := by decide +kernel
theorem d_Law_law_782 : decode code 782 = .ok (.iconst 0, 1) := by decide +kernel
theorem d_Law_law_784 : decode code 784 = .ok (.aload_n 1, 1) := by decide +kernel
theorem d_Law_law_785 : decode code 785 = .ok (.invokevirtual 110, 3) := by decide +kernel
theorem d_Law_law_788 : decode code 788 = .ok (.aload_n 2, 1) := by decide +kernel
theorem d_Law_law_789 : decode code 789 = .ok (.invokevirtual 113, 3) := by decide +kernel
theorem d_Law_law_792 : decode code 792 = .ok (.if_icmp .eq 5, 3) := by decide +kernel
theorem d_Law_law_795 : decode code 795 = .ok (.iconst 0, 1) := by decide +kernel
theorem d_Law_law_797 : decode code 797 = .ok (.iinc 4 6, 3) := by decide +kernel
theorem d_Law_law_800 : decode code 800 = .ok (.goto (-767), 3) := by decide +kernel
theorem d_Law_law_803 : decode code 803 = .ok (.iconst 1, 1) := by decide +kernel
theorem d_Law_law_804 : decode code 804 = .ok (.ireturn, 1) := by decide +kernel
