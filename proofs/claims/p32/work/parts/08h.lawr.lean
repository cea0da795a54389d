theorem dL_refused_813 : decode cL_refused 813 = .ok (.bipush (-4), 2) := by decide +kernel
theorem dL_refused_815 : decode cL_refused 815 = .ok (.invokestatic 140, 3) := by decide +kernel
theorem dL_refused_818 : decode cL_refused 818 = .ok (.ifCond .eq 7, 3) := by decide +kernel
theorem dL_refused_821 : decode cL_refused 821 = .ok (.iconst 1, 1) := by decide +kernel
theorem dL_refused_822 : decode cL_refused 822 = .ok (.goto 4, 3) := by decide +kernel
theorem dL_refused_825 : decode cL_refused 825 = .ok (.iconst 0, 1) := by decide +kernel
theorem dL_refused_826 : decode cL_refused 826 = .ok (.istore_n 3, 1) := by decide +kernel
theorem dL_refused_827 : decode cL_refused 827 = .ok (.iload_n 3, 1) := by decide +kernel
theorem dL_refused_828 : decode cL_refused 828 = .ok (.ifCond .eq 80, 3) := by decide +kernel
theorem dL_refused_831 : decode cL_refused 831 = .ok (.aload_n 0, 1) := by decide +kernel
theorem dL_refused_832 : decode cL_refused 832 = .ok (.ldc 144, 2) := by decide +kernel
theorem dL_refused_834 : decode cL_refused 834 = .ok (.invokestatic 132, 3) := by decide +kernel
theorem dL_refused_837 : decode cL_refused 837 = .ok (.bipush (-100), 2) := by decide +kernel
theorem dL_refused_839 : decode cL_refused 839 = .ok (.if_icmp .ne 69, 3) := by decide +kernel
theorem dL_refused_842 : decode cL_refused 842 = .ok (.aload_n 0, 1) := by decide +kernel
theorem dL_refused_843 : decode cL_refused 843 = .ok (.ldc 146, 2) := by decide +kernel
theorem dL_refused_845 : decode cL_refused 845 = .ok (.invokestatic 132, 3) := by decide +kernel
theorem dL_refused_848 : decode cL_refused 848 = .ok (.bipush (-3), 2) := by decide +kernel
theorem dL_refused_850 : decode cL_refused 850 = .ok (.if_icmp .ne 58, 3) := by decide +kernel
theorem dL_refused_853 : decode cL_refused 853 = .ok (.aload_n 0, 1) := by decide +kernel
theorem dL_refused_854 : decode cL_refused 854 = .ok (.iconst 4, 1) := by decide +kernel
theorem dL_refused_855 : decode cL_refused 855 = .ok (.iconst 2, 1) := by decide +kernel
theorem dL_refused_856 : decode cL_refused 856 = .ok (.iconst 1, 1) := by decide +kernel
theorem dL_refused_857 : decode cL_refused 857 = .ok (.invokestatic 140, 3) := by decide +kernel
theorem dL_refused_860 : decode cL_refused 860 = .ok (.ifCond .eq 48, 3) := by decide +kernel
theorem dL_refused_863 : decode cL_refused 863 = .ok (.aload_n 0, 1) := by decide +kernel
theorem dL_refused_864 : decode cL_refused 864 = .ok (.ldc 148, 2) := by decide +kernel
theorem dL_refused_866 : decode cL_refused 866 = .ok (.invokestatic 132, 3) := by decide +kernel
theorem dL_refused_869 : decode cL_refused 869 = .ok (.bipush (-2), 2) := by decide +kernel
theorem dL_refused_871 : decode cL_refused 871 = .ok (.if_icmp .ne 37, 3) := by decide +kernel
theorem dL_refused_874 : decode cL_refused 874 = .ok (.aload_n 0, 1) := by decide +kernel
theorem dL_refused_875 : decode cL_refused 875 = .ok (.iconst 4, 1) := by decide +kernel
theorem dL_refused_876 : decode cL_refused 876 = .ok (.iconst 2, 1) := by decide +kernel
theorem dL_refused_877 : decode cL_refused 877 = .ok (.iconst 1, 1) := by decide +kernel
theorem dL_refused_878 : decode cL_refused 878 = .ok (.invokestatic 140, 3) := by decide +kernel
theorem dL_refused_881 : decode cL_refused 881 = .ok (.ifCond .eq 27, 3) := by decide +kernel
theorem dL_refused_884 : decode cL_refused 884 = .ok (.aload_n 0, 1) := by decide +kernel
theorem dL_refused_885 : decode cL_refused 885 = .ok (.ldc 150, 2) := by decide +kernel
theorem dL_refused_887 : decode cL_refused 887 = .ok (.invokestatic 132, 3) := by decide +kernel
theorem dL_refused_890 : decode cL_refused 890 = .ok (.bipush (-2), 2) := by decide +kernel
theorem dL_refused_892 : decode cL_refused 892 = .ok (.if_icmp .ne 16, 3) := by decide +kernel
theorem dL_refused_895 : decode cL_refused 895 = .ok (.aload_n 0, 1) := by decide +kernel
theorem dL_refused_896 : decode cL_refused 896 = .ok (.invokestatic 136, 3) := by decide +kernel
theorem dL_refused_899 : decode cL_refused 899 = .ok (.lload_n 1, 1) := by decide +kernel
theorem dL_refused_900 : decode cL_refused 900 = .ok (.lcmp, 1) := by decide +kernel
theorem dL_refused_901 : decode cL_refused 901 = .ok (.ifCond .ne 7, 3) := by decide +kernel
theorem dL_refused_904 : decode cL_refused 904 = .ok (.iconst 1, 1) := by decide +kernel
theorem dL_refused_905 : decode cL_refused 905 = .ok (.goto 4, 3) := by decide +kernel
theorem dL_refused_908 : decode cL_refused 908 = .ok (.iconst 0, 1) := by decide +kernel
theorem dL_refused_909 : decode cL_refused 909 = .ok (.ireturn, 1) := by decide +kernel
