theorem dL_law_2817 : decode cL_law 2817 = .ok (.aload_n 0, 1) := by decide +kernel
theorem dL_law_2818 : decode cL_law 2818 = .ok (.iload 5, 2) := by decide +kernel
theorem dL_law_2820 : decode cL_law 2820 = .ok (.iconst 1, 1) := by decide +kernel
theorem dL_law_2821 : decode cL_law 2821 = .ok (.iadd, 1) := by decide +kernel
theorem dL_law_2822 : decode cL_law 2822 = .ok (.iaload, 1) := by decide +kernel
theorem dL_law_2823 : decode cL_law 2823 = .ok (.aload_n 3, 1) := by decide +kernel
theorem dL_law_2824 : decode cL_law 2824 = .ok (.invokestatic 315, 3) := by decide +kernel
theorem dL_law_2827 : decode cL_law 2827 = .ok (.istore 6, 2) := by decide +kernel
theorem dL_law_2829 : decode cL_law 2829 = .ok (.aload_n 2, 1) := by decide +kernel
theorem dL_law_2830 : decode cL_law 2830 = .ok (.aload_n 0, 1) := by decide +kernel
theorem dL_law_2831 : decode cL_law 2831 = .ok (.iload 5, 2) := by decide +kernel
theorem dL_law_2833 : decode cL_law 2833 = .ok (.iconst 1, 1) := by decide +kernel
theorem dL_law_2834 : decode cL_law 2834 = .ok (.iadd, 1) := by decide +kernel
theorem dL_law_2835 : decode cL_law 2835 = .ok (.iaload, 1) := by decide +kernel
theorem dL_law_2836 : decode cL_law 2836 = .ok (.invokevirtual 317, 3) := by decide +kernel
theorem dL_law_2839 : decode cL_law 2839 = .ok (.istore 7, 2) := by decide +kernel
theorem dL_law_2841 : decode cL_law 2841 = .ok (.aload_n 2, 1) := by decide +kernel
theorem dL_law_2842 : decode cL_law 2842 = .ok (.invokevirtual 156, 3) := by decide +kernel
theorem dL_law_2845 : decode cL_law 2845 = .ok (.iload 6, 2) := by decide +kernel
theorem dL_law_2847 : decode cL_law 2847 = .ok (.if_icmp .eq 5, 3) := by decide +kernel
theorem dL_law_2852 : decode cL_law 2852 = .ok (.iload 6, 2) := by decide +kernel
theorem dL_law_2854 : decode cL_law 2854 = .ok (.ifCond .ne 15, 3) := by decide +kernel
theorem dL_law_2857 : decode cL_law 2857 = .ok (.aload_n 3, 1) := by decide +kernel
theorem dL_law_2858 : decode cL_law 2858 = .ok (.iconst 0, 1) := by decide +kernel
theorem dL_law_2859 : decode cL_law 2859 = .ok (.laload, 1) := by decide +kernel
theorem dL_law_2860 : decode cL_law 2860 = .ok (.iload 7, 2) := by decide +kernel
theorem dL_law_2862 : decode cL_law 2862 = .ok (.i2l, 1) := by decide +kernel
theorem dL_law_2863 : decode cL_law 2863 = .ok (.lcmp, 1) := by decide +kernel
theorem dL_law_2864 : decode cL_law 2864 = .ok (.ifCond .eq 5, 3) := by decide +kernel
theorem dL_law_2869 : decode cL_law 2869 = .ok (.goto 3, 3) := by decide +kernel
theorem dL_law_2872 : decode cL_law 2872 = .ok (.iinc 5 4, 3) := by decide +kernel
theorem dL_law_2875 : decode cL_law 2875 = .ok (.goto (-2847), 3) := by decide +kernel
theorem dL_law_2878 : decode cL_law 2878 = .ok (.iconst 1, 1) := by decide +kernel
theorem dL_law_2879 : decode cL_law 2879 = .ok (.ireturn, 1) := by decide +kernel
