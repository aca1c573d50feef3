theorem dL_law_776 : decode cL_law 776 = .ok (.ireturn, 1) := by decide +kernel
theorem dL_law_777 : decode cL_law 777 = .ok (.aload_n 1, 1) := by decide +kernel
theorem dL_law_778 : decode cL_law 778 = .ok (.invokevirtual 95, 3) := by decide +kernel
theorem dL_law_781 : decode cL_law 781 = .ok (.lstore 17, 2) := by decide +kernel
theorem dL_law_783 : decode cL_law 783 = .ok (.aload_n 1, 1) := by decide +kernel
theorem dL_law_784 : decode cL_law 784 = .ok (.invokevirtual 99, 3) := by decide +kernel
theorem dL_law_787 : decode cL_law 787 = .ok (.istore 19, 2) := by decide +kernel
theorem dL_law_789 : decode cL_law 789 = .ok (.aload_n 1, 1) := by decide +kernel
theorem dL_law_790 : decode cL_law 790 = .ok (.invokevirtual 103, 3) := by decide +kernel
theorem dL_law_793 : decode cL_law 793 = .ok (.istore 20, 2) := by decide +kernel
theorem dL_law_795 : decode cL_law 795 = .ok (.aload_n 1, 1) := by decide +kernel
theorem dL_law_796 : decode cL_law 796 = .ok (.invokevirtual 106, 3) := by decide +kernel
theorem dL_law_799 : decode cL_law 799 = .ok (.istore 21, 2) := by decide +kernel
theorem dL_law_801 : decode cL_law 801 = .ok (.iload 9, 2) := by decide +kernel
theorem dL_law_803 : decode cL_law 803 = .ok (.iload 8, 2) := by decide +kernel
theorem dL_law_805 : decode cL_law 805 = .ok (.if_icmp .ge 13, 3) := by decide +kernel
theorem dL_law_808 : decode cL_law 808 = .ok (.iload 19, 2) := by decide +kernel
theorem dL_law_810 : decode cL_law 810 = .ok (.ifCond .ne 72, 3) := by decide +kernel
theorem dL_law_813 : decode cL_law 813 = .ok (.iload 20, 2) := by decide +kernel
theorem dL_law_815 : decode cL_law 815 = .ok (.ifCond .ne 67, 3) := by decide +kernel
theorem dL_law_818 : decode cL_law 818 = .ok (.iload 9, 2) := by decide +kernel
theorem dL_law_820 : decode cL_law 820 = .ok (.iload 8, 2) := by decide +kernel
theorem dL_law_822 : decode cL_law 822 = .ok (.if_icmp .ne 21, 3) := by decide +kernel
theorem dL_law_825 : decode cL_law 825 = .ok (.iload 6, 2) := by decide +kernel
theorem dL_law_827 : decode cL_law 827 = .ok (.iload 7, 2) := by decide +kernel
theorem dL_law_829 : decode cL_law 829 = .ok (.if_icmp .ne 14, 3) := by decide +kernel
theorem dL_law_832 : decode cL_law 832 = .ok (.iload 19, 2) := by decide +kernel
theorem dL_law_834 : decode cL_law 834 = .ok (.iconst 1, 1) := by decide +kernel
theorem dL_law_835 : decode cL_law 835 = .ok (.if_icmp .ne 47, 3) := by decide +kernel
theorem dL_law_838 : decode cL_law 838 = .ok (.iload 20, 2) := by decide +kernel
theorem dL_law_840 : decode cL_law 840 = .ok (.ifCond .ne 42, 3) := by decide +kernel
theorem dL_law_843 : decode cL_law 843 = .ok (.iload 19, 2) := by decide +kernel
theorem dL_law_845 : decode cL_law 845 = .ok (.iconst (-1), 1) := by decide +kernel
theorem dL_law_846 : decode cL_law 846 = .ok (.if_icmp .lt 36, 3) := by decide +kernel
theorem dL_law_849 : decode cL_law 849 = .ok (.iload 19, 2) := by decide +kernel
theorem dL_law_851 : decode cL_law 851 = .ok (.bipush 100, 2) := by decide +kernel
theorem dL_law_853 : decode cL_law 853 = .ok (.if_icmp .gt 29, 3) := by decide +kernel
theorem dL_law_856 : decode cL_law 856 = .ok (.iload 19, 2) := by decide +kernel
theorem dL_law_858 : decode cL_law 858 = .ok (.ifCond .ge 7, 3) := by decide +kernel
theorem dL_law_861 : decode cL_law 861 = .ok (.iconst 1, 1) := by decide +kernel
theorem dL_law_862 : decode cL_law 862 = .ok (.goto 4, 3) := by decide +kernel
theorem dL_law_865 : decode cL_law 865 = .ok (.iconst 0, 1) := by decide +kernel
theorem dL_law_866 : decode cL_law 866 = .ok (.iload 20, 2) := by decide +kernel
theorem dL_law_868 : decode cL_law 868 = .ok (.sipush 4001, 3) := by decide +kernel
theorem dL_law_871 : decode cL_law 871 = .ok (.if_icmp .ne 7, 3) := by decide +kernel
theorem dL_law_874 : decode cL_law 874 = .ok (.iconst 1, 1) := by decide +kernel
theorem dL_law_875 : decode cL_law 875 = .ok (.goto 4, 3) := by decide +kernel
theorem dL_law_878 : decode cL_law 878 = .ok (.iconst 0, 1) := by decide +kernel
theorem dL_law_879 : decode cL_law 879 = .ok (.if_icmp .eq 5, 3) := by decide +kernel
theorem dL_law_882 : decode cL_law 882 = .ok (.iconst 0, 1) := by decide +kernel
theorem dL_law_883 : decode cL_law 883 = .ok (.ireturn, 1) := by decide +kernel
theorem dL_law_884 : decode cL_law 884 = .ok (.iload 11, 2) := by decide +kernel
theorem dL_law_886 : decode cL_law 886 = .ok (.ifCond .le 8, 3) := by decide +kernel
theorem dL_law_889 : decode cL_law 889 = .ok (.iload 19, 2) := by decide +kernel
theorem dL_law_891 : decode cL_law 891 = .ok (.ifCond .gt 28, 3) := by decide +kernel
theorem dL_law_894 : decode cL_law 894 = .ok (.iload 21, 2) := by decide +kernel
theorem dL_law_896 : decode cL_law 896 = .ok (.ifCond .ge 7, 3) := by decide +kernel
theorem dL_law_899 : decode cL_law 899 = .ok (.iconst 1, 1) := by decide +kernel
theorem dL_law_900 : decode cL_law 900 = .ok (.goto 4, 3) := by decide +kernel
theorem dL_law_903 : decode cL_law 903 = .ok (.iconst 0, 1) := by decide +kernel
theorem dL_law_904 : decode cL_law 904 = .ok (.iload 6, 2) := by decide +kernel
theorem dL_law_906 : decode cL_law 906 = .ok (.iload 7, 2) := by decide +kernel
theorem dL_law_908 : decode cL_law 908 = .ok (.if_icmp .ne 7, 3) := by decide +kernel
theorem dL_law_911 : decode cL_law 911 = .ok (.iconst 1, 1) := by decide +kernel
theorem dL_law_912 : decode cL_law 912 = .ok (.goto 4, 3) := by decide +kernel
theorem dL_law_915 : decode cL_law 915 = .ok (.iconst 0, 1) := by decide +kernel
theorem dL_law_916 : decode cL_law 916 = .ok (.if_icmp .eq 5, 3) := by decide +kernel
theorem dL_law_919 : decode cL_law 919 = .ok (.iconst 0, 1) := by decide +kernel
theorem dL_law_920 : decode cL_law 920 = .ok (.ireturn, 1) := by decide +kernel
theorem dL_law_921 : decode cL_law 921 = .ok (.iload 21, 2) := by decide +kernel
theorem dL_law_923 : decode cL_law 923 = .ok (.ifCond .lt 79, 3) := by decide +kernel
theorem dL_law_926 : decode cL_law 926 = .ok (.iconst 0, 1) := by decide +kernel
theorem dL_law_927 : decode cL_law 927 = .ok (.istore 22, 2) := by decide +kernel
theorem dL_law_929 : decode cL_law 929 = .ok (.iload 22, 2) := by decide +kernel
theorem dL_law_931 : decode cL_law 931 = .ok (.iload 5, 2) := by decide +kernel
theorem dL_law_933 : decode cL_law 933 = .ok (.if_icmp .ge 69, 3) := by decide +kernel
theorem dL_law_936 : decode cL_law 936 = .ok (.aload_n 1, 1) := by decide +kernel
theorem dL_law_937 : decode cL_law 937 = .ok (.iload 22, 2) := by decide +kernel
theorem dL_law_939 : decode cL_law 939 = .ok (.invokevirtual 79, 3) := by decide +kernel
theorem dL_law_942 : decode cL_law 942 = .ok (.ifCond .ne 54, 3) := by decide +kernel
theorem dL_law_945 : decode cL_law 945 = .ok (.aload_n 1, 1) := by decide +kernel
theorem dL_law_946 : decode cL_law 946 = .ok (.iload 22, 2) := by decide +kernel
theorem dL_law_948 : decode cL_law 948 = .ok (.invokevirtual 82, 3) := by decide +kernel
theorem dL_law_951 : decode cL_law 951 = .ok (.invokestatic 84, 3) := by decide +kernel
theorem dL_law_954 : decode cL_law 954 = .ok (.aload_n 1, 1) := by decide +kernel
theorem dL_law_955 : decode cL_law 955 = .ok (.iload 21, 2) := by decide +kernel
theorem dL_law_957 : decode cL_law 957 = .ok (.invokevirtual 82, 3) := by decide +kernel
theorem dL_law_960 : decode cL_law 960 = .ok (.invokestatic 84, 3) := by decide +kernel
theorem dL_law_963 : decode cL_law 963 = .ok (.if_icmp .lt 31, 3) := by decide +kernel
theorem dL_law_966 : decode cL_law 966 = .ok (.iload 22, 2) := by decide +kernel
theorem dL_law_968 : decode cL_law 968 = .ok (.iload 21, 2) := by decide +kernel
theorem dL_law_970 : decode cL_law 970 = .ok (.if_icmp .ge 26, 3) := by decide +kernel
theorem dL_law_973 : decode cL_law 973 = .ok (.aload_n 1, 1) := by decide +kernel
theorem dL_law_974 : decode cL_law 974 = .ok (.iload 22, 2) := by decide +kernel
theorem dL_law_976 : decode cL_law 976 = .ok (.invokevirtual 82, 3) := by decide +kernel
theorem dL_law_979 : decode cL_law 979 = .ok (.invokestatic 84, 3) := by decide +kernel
theorem dL_law_982 : decode cL_law 982 = .ok (.aload_n 1, 1) := by decide +kernel
theorem dL_law_983 : decode cL_law 983 = .ok (.iload 21, 2) := by decide +kernel
theorem dL_law_985 : decode cL_law 985 = .ok (.invokevirtual 82, 3) := by decide +kernel
theorem dL_law_988 : decode cL_law 988 = .ok (.invokestatic 84, 3) := by decide +kernel
