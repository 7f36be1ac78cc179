/-! the law: its instructions, part b. Packed by wip/gen25/p25names.py -/
theorem dL_isRefused_821 : decode cL_isRefused 821 = .ok (.iconst 4, 1) := by decide +kernel
theorem dL_isRefused_822 : decode cL_isRefused 822 = .ok (.iconst 5, 1) := by decide +kernel
theorem dL_isRefused_823 : decode cL_isRefused 823 = .ok (.iconst 0, 1) := by decide +kernel
theorem dL_isRefused_824 : decode cL_isRefused 824 = .ok (.iload 4, 2) := by decide +kernel
theorem dL_isRefused_826 : decode cL_isRefused 826 = .ok (.iconst 0, 1) := by decide +kernel
theorem dL_isRefused_827 : decode cL_isRefused 827 = .ok (.invokestatic 109, 3) := by decide +kernel
theorem dL_isRefused_830 : decode cL_isRefused 830 = .ok (.sipush (-1381), 3) := by decide +kernel
theorem dL_isRefused_833 : decode cL_isRefused 833 = .ok (.if_icmp .ne 36, 3) := by decide +kernel
theorem dL_isRefused_836 : decode cL_isRefused 836 = .ok (.aload_n 0, 1) := by decide +kernel
theorem dL_isRefused_837 : decode cL_isRefused 837 = .ok (.iconst 4, 1) := by decide +kernel
theorem dL_isRefused_838 : decode cL_isRefused 838 = .ok (.iconst 4, 1) := by decide +kernel
theorem dL_isRefused_839 : decode cL_isRefused 839 = .ok (.iconst 0, 1) := by decide +kernel
theorem dL_isRefused_840 : decode cL_isRefused 840 = .ok (.iload_n 3, 1) := by decide +kernel
theorem dL_isRefused_841 : decode cL_isRefused 841 = .ok (.ifCond .eq 12, 3) := by decide +kernel
theorem dL_isRefused_844 : decode cL_isRefused 844 = .ok (.iconst 0, 1) := by decide +kernel
theorem dL_isRefused_845 : decode cL_isRefused 845 = .ok (.iload_n 2, 1) := by decide +kernel
theorem dL_isRefused_846 : decode cL_isRefused 846 = .ok (.bipush 30, 2) := by decide +kernel
theorem dL_isRefused_848 : decode cL_isRefused 848 = .ok (.irem, 1) := by decide +kernel
theorem dL_isRefused_849 : decode cL_isRefused 849 = .ok (.isub, 1) := by decide +kernel
theorem dL_isRefused_850 : decode cL_isRefused 850 = .ok (.goto 5, 3) := by decide +kernel
theorem dL_isRefused_853 : decode cL_isRefused 853 = .ok (.bipush 100, 2) := by decide +kernel
theorem dL_isRefused_855 : decode cL_isRefused 855 = .ok (.iconst 0, 1) := by decide +kernel
theorem dL_isRefused_856 : decode cL_isRefused 856 = .ok (.invokestatic 109, 3) := by decide +kernel
theorem dL_isRefused_859 : decode cL_isRefused 859 = .ok (.sipush (-1382), 3) := by decide +kernel
theorem dL_isRefused_862 : decode cL_isRefused 862 = .ok (.if_icmp .ne 7, 3) := by decide +kernel
theorem dL_isRefused_865 : decode cL_isRefused 865 = .ok (.iconst 1, 1) := by decide +kernel
theorem dL_isRefused_866 : decode cL_isRefused 866 = .ok (.goto 4, 3) := by decide +kernel
theorem dL_isRefused_869 : decode cL_isRefused 869 = .ok (.iconst 0, 1) := by decide +kernel
theorem dL_isRefused_870 : decode cL_isRefused 870 = .ok (.istore 8, 2) := by decide +kernel
theorem dL_isRefused_872 : decode cL_isRefused 872 = .ok (.iload 8, 2) := by decide +kernel
theorem dL_isRefused_874 : decode cL_isRefused 874 = .ok (.ifCond .eq 18, 3) := by decide +kernel
theorem dL_isRefused_877 : decode cL_isRefused 877 = .ok (.aload_n 0, 1) := by decide +kernel
theorem dL_isRefused_878 : decode cL_isRefused 878 = .ok (.aload_n 1, 1) := by decide +kernel
theorem dL_isRefused_879 : decode cL_isRefused 879 = .ok (.invokestatic 105, 3) := by decide +kernel
theorem dL_isRefused_882 : decode cL_isRefused 882 = .ok (.lload 6, 2) := by decide +kernel
theorem dL_isRefused_884 : decode cL_isRefused 884 = .ok (.lcmp, 1) := by decide +kernel
theorem dL_isRefused_885 : decode cL_isRefused 885 = .ok (.ifCond .ne 7, 3) := by decide +kernel
theorem dL_isRefused_888 : decode cL_isRefused 888 = .ok (.iconst 1, 1) := by decide +kernel
theorem dL_isRefused_889 : decode cL_isRefused 889 = .ok (.goto 4, 3) := by decide +kernel
theorem dL_isRefused_892 : decode cL_isRefused 892 = .ok (.iconst 0, 1) := by decide +kernel
theorem dL_isRefused_893 : decode cL_isRefused 893 = .ok (.ireturn, 1) := by decide +kernel
theorem dL_begins_0 : decode cL_begins 0 = .ok (.iload 4, 2) := by decide +kernel
theorem dL_begins_2 : decode cL_begins 2 = .ok (.istore 5, 2) := by decide +kernel
theorem dL_begins_4 : decode cL_begins 4 = .ok (.aload_n 1, 1) := by decide +kernel
theorem dL_begins_5 : decode cL_begins 5 = .ok (.iload 5, 2) := by decide +kernel
theorem dL_begins_7 : decode cL_begins 7 = .ok (.iaload, 1) := by decide +kernel
theorem dL_begins_8 : decode cL_begins 8 = .ok (.iconst 4, 1) := by decide +kernel
theorem dL_begins_9 : decode cL_begins 9 = .ok (.irem, 1) := by decide +kernel
theorem dL_begins_10 : decode cL_begins 10 = .ok (.iconst 2, 1) := by decide +kernel
theorem dL_begins_11 : decode cL_begins 11 = .ok (.if_icmp .ne 14, 3) := by decide +kernel
theorem dL_begins_14 : decode cL_begins 14 = .ok (.aload_n 1, 1) := by decide +kernel
theorem dL_begins_15 : decode cL_begins 15 = .ok (.iload 5, 2) := by decide +kernel
theorem dL_begins_17 : decode cL_begins 17 = .ok (.iaload, 1) := by decide +kernel
theorem dL_begins_18 : decode cL_begins 18 = .ok (.iconst 4, 1) := by decide +kernel
theorem dL_begins_19 : decode cL_begins 19 = .ok (.idiv, 1) := by decide +kernel
theorem dL_begins_20 : decode cL_begins 20 = .ok (.istore 5, 2) := by decide +kernel
theorem dL_begins_22 : decode cL_begins 22 = .ok (.goto (-18), 3) := by decide +kernel
theorem dL_begins_25 : decode cL_begins 25 = .ok (.aload_n 3, 1) := by decide +kernel
theorem dL_begins_26 : decode cL_begins 26 = .ok (.iload 5, 2) := by decide +kernel
theorem dL_begins_28 : decode cL_begins 28 = .ok (.iaload, 1) := by decide +kernel
theorem dL_begins_29 : decode cL_begins 29 = .ok (.ifCond .le 21, 3) := by decide +kernel
theorem dL_begins_32 : decode cL_begins 32 = .ok (.aload_n 3, 1) := by decide +kernel
theorem dL_begins_33 : decode cL_begins 33 = .ok (.iload 5, 2) := by decide +kernel
theorem dL_begins_35 : decode cL_begins 35 = .ok (.iaload, 1) := by decide +kernel
theorem dL_begins_36 : decode cL_begins 36 = .ok (.bipush 13, 2) := by decide +kernel
theorem dL_begins_38 : decode cL_begins 38 = .ok (.ishr, 1) := by decide +kernel
theorem dL_begins_39 : decode cL_begins 39 = .ok (.aload_n 0, 1) := by decide +kernel
theorem dL_begins_40 : decode cL_begins 40 = .ok (.bipush 6, 2) := by decide +kernel
theorem dL_begins_42 : decode cL_begins 42 = .ok (.iaload, 1) := by decide +kernel
theorem dL_begins_43 : decode cL_begins 43 = .ok (.if_icmp .gt 7, 3) := by decide +kernel
theorem dL_begins_46 : decode cL_begins 46 = .ok (.iconst 1, 1) := by decide +kernel
theorem dL_begins_47 : decode cL_begins 47 = .ok (.goto 4, 3) := by decide +kernel
theorem dL_begins_50 : decode cL_begins 50 = .ok (.iconst 0, 1) := by decide +kernel
theorem dL_begins_51 : decode cL_begins 51 = .ok (.istore 6, 2) := by decide +kernel
theorem dL_begins_53 : decode cL_begins 53 = .ok (.aload_n 2, 1) := by decide +kernel
theorem dL_begins_54 : decode cL_begins 54 = .ok (.iload 4, 2) := by decide +kernel
theorem dL_begins_56 : decode cL_begins 56 = .ok (.iaload, 1) := by decide +kernel
theorem dL_begins_57 : decode cL_begins 57 = .ok (.iconst 3, 1) := by decide +kernel
theorem dL_begins_58 : decode cL_begins 58 = .ok (.ishr, 1) := by decide +kernel
theorem dL_begins_59 : decode cL_begins 59 = .ok (.sipush 8191, 3) := by decide +kernel
theorem dL_begins_62 : decode cL_begins 62 = .ok (.iand, 1) := by decide +kernel
theorem dL_begins_63 : decode cL_begins 63 = .ok (.aload_n 0, 1) := by decide +kernel
theorem dL_begins_64 : decode cL_begins 64 = .ok (.bipush 6, 2) := by decide +kernel
theorem dL_begins_66 : decode cL_begins 66 = .ok (.iaload, 1) := by decide +kernel
theorem dL_begins_67 : decode cL_begins 67 = .ok (.if_icmp .le 7, 3) := by decide +kernel
theorem dL_begins_70 : decode cL_begins 70 = .ok (.iconst (-1), 1) := by decide +kernel
theorem dL_begins_71 : decode cL_begins 71 = .ok (.goto 40, 3) := by decide +kernel
theorem dL_begins_74 : decode cL_begins 74 = .ok (.aload_n 1, 1) := by decide +kernel
theorem dL_begins_75 : decode cL_begins 75 = .ok (.iload 5, 2) := by decide +kernel
theorem dL_begins_77 : decode cL_begins 77 = .ok (.iaload, 1) := by decide +kernel
theorem dL_begins_78 : decode cL_begins 78 = .ok (.iconst 4, 1) := by decide +kernel
theorem dL_begins_79 : decode cL_begins 79 = .ok (.irem, 1) := by decide +kernel
theorem dL_begins_80 : decode cL_begins 80 = .ok (.ifCond .ne 12, 3) := by decide +kernel
theorem dL_begins_83 : decode cL_begins 83 = .ok (.aload_n 1, 1) := by decide +kernel
theorem dL_begins_84 : decode cL_begins 84 = .ok (.iload 5, 2) := by decide +kernel
theorem dL_begins_86 : decode cL_begins 86 = .ok (.iaload, 1) := by decide +kernel
theorem dL_begins_87 : decode cL_begins 87 = .ok (.iconst 4, 1) := by decide +kernel
theorem dL_begins_88 : decode cL_begins 88 = .ok (.idiv, 1) := by decide +kernel
theorem dL_begins_89 : decode cL_begins 89 = .ok (.goto 22, 3) := by decide +kernel
theorem dL_begins_92 : decode cL_begins 92 = .ok (.iload 6, 2) := by decide +kernel
theorem dL_begins_94 : decode cL_begins 94 = .ok (.ifCond .eq 16, 3) := by decide +kernel
theorem dL_begins_97 : decode cL_begins 97 = .ok (.aload_n 3, 1) := by decide +kernel
theorem dL_begins_98 : decode cL_begins 98 = .ok (.iload 5, 2) := by decide +kernel
theorem dL_begins_100 : decode cL_begins 100 = .ok (.iaload, 1) := by decide +kernel
theorem dL_begins_101 : decode cL_begins 101 = .ok (.sipush 8191, 3) := by decide +kernel
theorem dL_begins_104 : decode cL_begins 104 = .ok (.iand, 1) := by decide +kernel
theorem dL_begins_105 : decode cL_begins 105 = .ok (.iconst 1, 1) := by decide +kernel
theorem dL_begins_106 : decode cL_begins 106 = .ok (.isub, 1) := by decide +kernel
theorem dL_begins_107 : decode cL_begins 107 = .ok (.goto 4, 3) := by decide +kernel
theorem dL_begins_110 : decode cL_begins 110 = .ok (.iconst (-1), 1) := by decide +kernel
theorem dL_begins_111 : decode cL_begins 111 = .ok (.ireturn, 1) := by decide +kernel
theorem dL_key_0 : decode cL_key 0 = .ok (.iload_n 0, 1) := by decide +kernel
theorem dL_key_1 : decode cL_key 1 = .ok (.sipush 1000, 3) := by decide +kernel
theorem dL_key_4 : decode cL_key 4 = .ok (.irem, 1) := by decide +kernel
theorem dL_key_5 : decode cL_key 5 = .ok (.istore_n 1, 1) := by decide +kernel
theorem dL_key_6 : decode cL_key 6 = .ok (.iload_n 0, 1) := by decide +kernel
theorem dL_key_7 : decode cL_key 7 = .ok (.sipush 1000, 3) := by decide +kernel
theorem dL_key_10 : decode cL_key 10 = .ok (.idiv, 1) := by decide +kernel
theorem dL_key_11 : decode cL_key 11 = .ok (.sipush 1000, 3) := by decide +kernel
theorem dL_key_14 : decode cL_key 14 = .ok (.imul, 1) := by decide +kernel
theorem dL_key_15 : decode cL_key 15 = .ok (.iload_n 1, 1) := by decide +kernel
theorem dL_key_16 : decode cL_key 16 = .ok (.bipush 27, 2) := by decide +kernel
theorem dL_key_18 : decode cL_key 18 = .ok (.if_icmp .ge 10, 3) := by decide +kernel
theorem dL_key_21 : decode cL_key 21 = .ok (.bipush 27, 2) := by decide +kernel
theorem dL_key_23 : decode cL_key 23 = .ok (.iload_n 1, 1) := by decide +kernel
theorem dL_key_24 : decode cL_key 24 = .ok (.imul, 1) := by decide +kernel
theorem dL_key_25 : decode cL_key 25 = .ok (.goto 4, 3) := by decide +kernel
theorem dL_key_28 : decode cL_key 28 = .ok (.iload_n 1, 1) := by decide +kernel
theorem dL_key_29 : decode cL_key 29 = .ok (.iadd, 1) := by decide +kernel
theorem dL_key_30 : decode cL_key 30 = .ok (.ireturn, 1) := by decide +kernel
theorem dL_areSound_0 : decode cL_areSound 0 = .ok (.iconst 1, 1) := by decide +kernel
theorem dL_areSound_1 : decode cL_areSound 1 = .ok (.istore 6, 2) := by decide +kernel
theorem dL_areSound_3 : decode cL_areSound 3 = .ok (.iconst 0, 1) := by decide +kernel
theorem dL_areSound_4 : decode cL_areSound 4 = .ok (.istore 7, 2) := by decide +kernel
theorem dL_areSound_6 : decode cL_areSound 6 = .ok (.iload 7, 2) := by decide +kernel
theorem dL_areSound_8 : decode cL_areSound 8 = .ok (.aload_n 1, 1) := by decide +kernel
theorem dL_areSound_9 : decode cL_areSound 9 = .ok (.iconst 2, 1) := by decide +kernel
theorem dL_areSound_10 : decode cL_areSound 10 = .ok (.iaload, 1) := by decide +kernel
theorem dL_areSound_11 : decode cL_areSound 11 = .ok (.if_icmp .ge 132, 3) := by decide +kernel
theorem dL_areSound_14 : decode cL_areSound 14 = .ok (.iload 6, 2) := by decide +kernel
theorem dL_areSound_16 : decode cL_areSound 16 = .ok (.ifCond .eq 127, 3) := by decide +kernel
theorem dL_areSound_19 : decode cL_areSound 19 = .ok (.aload_n 1, 1) := by decide +kernel
theorem dL_areSound_20 : decode cL_areSound 20 = .ok (.aload_n 2, 1) := by decide +kernel
theorem dL_areSound_21 : decode cL_areSound 21 = .ok (.aload_n 3, 1) := by decide +kernel
theorem dL_areSound_22 : decode cL_areSound 22 = .ok (.aload 4, 2) := by decide +kernel
theorem dL_areSound_24 : decode cL_areSound 24 = .ok (.iload 7, 2) := by decide +kernel
theorem dL_areSound_26 : decode cL_areSound 26 = .ok (.invokestatic 116, 3) := by decide +kernel
theorem dL_areSound_29 : decode cL_areSound 29 = .ok (.istore 8, 2) := by decide +kernel
theorem dL_areSound_31 : decode cL_areSound 31 = .ok (.aload_n 0, 1) := by decide +kernel
theorem dL_areSound_32 : decode cL_areSound 32 = .ok (.iload 7, 2) := by decide +kernel
theorem dL_areSound_34 : decode cL_areSound 34 = .ok (.invokevirtual 59, 3) := by decide +kernel
theorem dL_areSound_37 : decode cL_areSound 37 = .ok (.istore 9, 2) := by decide +kernel
theorem dL_areSound_39 : decode cL_areSound 39 = .ok (.aload_n 3, 1) := by decide +kernel
theorem dL_areSound_40 : decode cL_areSound 40 = .ok (.iload 7, 2) := by decide +kernel
theorem dL_areSound_42 : decode cL_areSound 42 = .ok (.iaload, 1) := by decide +kernel
theorem dL_areSound_43 : decode cL_areSound 43 = .ok (.bipush 16, 2) := by decide +kernel
theorem dL_areSound_45 : decode cL_areSound 45 = .ok (.ishr, 1) := by decide +kernel
theorem dL_areSound_46 : decode cL_areSound 46 = .ok (.iconst 1, 1) := by decide +kernel
theorem dL_areSound_47 : decode cL_areSound 47 = .ok (.isub, 1) := by decide +kernel
theorem dL_areSound_48 : decode cL_areSound 48 = .ok (.istore 10, 2) := by decide +kernel
theorem dL_areSound_50 : decode cL_areSound 50 = .ok (.iload 8, 2) := by decide +kernel
theorem dL_areSound_52 : decode cL_areSound 52 = .ok (.ifCond .lt 43, 3) := by decide +kernel
theorem dL_areSound_55 : decode cL_areSound 55 = .ok (.iload 8, 2) := by decide +kernel
theorem dL_areSound_57 : decode cL_areSound 57 = .ok (.aload_n 1, 1) := by decide +kernel
theorem dL_areSound_58 : decode cL_areSound 58 = .ok (.iconst 5, 1) := by decide +kernel
theorem dL_areSound_59 : decode cL_areSound 59 = .ok (.iaload, 1) := by decide +kernel
theorem dL_areSound_60 : decode cL_areSound 60 = .ok (.if_icmp .gt 35, 3) := by decide +kernel
theorem dL_areSound_63 : decode cL_areSound 63 = .ok (.aload_n 3, 1) := by decide +kernel
theorem dL_areSound_64 : decode cL_areSound 64 = .ok (.iload 7, 2) := by decide +kernel
theorem dL_areSound_66 : decode cL_areSound 66 = .ok (.iaload, 1) := by decide +kernel
theorem dL_areSound_67 : decode cL_areSound 67 = .ok (.aload_n 1, 1) := by decide +kernel
theorem dL_areSound_68 : decode cL_areSound 68 = .ok (.bipush 7, 2) := by decide +kernel
theorem dL_areSound_70 : decode cL_areSound 70 = .ok (.iaload, 1) := by decide +kernel
theorem dL_areSound_71 : decode cL_areSound 71 = .ok (.ishr, 1) := by decide +kernel
theorem dL_areSound_72 : decode cL_areSound 72 = .ok (.iconst 1, 1) := by decide +kernel
theorem dL_areSound_73 : decode cL_areSound 73 = .ok (.iand, 1) := by decide +kernel
theorem dL_areSound_74 : decode cL_areSound 74 = .ok (.iconst 1, 1) := by decide +kernel
theorem dL_areSound_75 : decode cL_areSound 75 = .ok (.if_icmp .ne 20, 3) := by decide +kernel
theorem dL_areSound_78 : decode cL_areSound 78 = .ok (.iload 10, 2) := by decide +kernel
theorem dL_areSound_80 : decode cL_areSound 80 = .ok (.ifCond .lt 11, 3) := by decide +kernel
theorem dL_areSound_83 : decode cL_areSound 83 = .ok (.iload 10, 2) := by decide +kernel
theorem dL_areSound_85 : decode cL_areSound 85 = .ok (.aload_n 1, 1) := by decide +kernel
theorem dL_areSound_86 : decode cL_areSound 86 = .ok (.iconst 5, 1) := by decide +kernel
theorem dL_areSound_87 : decode cL_areSound 87 = .ok (.iaload, 1) := by decide +kernel
theorem dL_areSound_88 : decode cL_areSound 88 = .ok (.if_icmp .le 7, 3) := by decide +kernel
theorem dL_areSound_91 : decode cL_areSound 91 = .ok (.iconst 1, 1) := by decide +kernel
theorem dL_areSound_92 : decode cL_areSound 92 = .ok (.goto 4, 3) := by decide +kernel
theorem dL_areSound_95 : decode cL_areSound 95 = .ok (.iconst 0, 1) := by decide +kernel
theorem dL_areSound_96 : decode cL_areSound 96 = .ok (.istore 11, 2) := by decide +kernel
theorem dL_areSound_98 : decode cL_areSound 98 = .ok (.aload_n 0, 1) := by decide +kernel
theorem dL_areSound_99 : decode cL_areSound 99 = .ok (.iload 7, 2) := by decide +kernel
theorem dL_areSound_101 : decode cL_areSound 101 = .ok (.invokevirtual 62, 3) := by decide +kernel
theorem dL_areSound_104 : decode cL_areSound 104 = .ok (.iload 8, 2) := by decide +kernel
theorem dL_areSound_106 : decode cL_areSound 106 = .ok (.if_icmp .ne 28, 3) := by decide +kernel
theorem dL_areSound_109 : decode cL_areSound 109 = .ok (.iload 9, 2) := by decide +kernel
theorem dL_areSound_111 : decode cL_areSound 111 = .ok (.ifCond .lt 23, 3) := by decide +kernel
theorem dL_areSound_114 : decode cL_areSound 114 = .ok (.iload 9, 2) := by decide +kernel
theorem dL_areSound_116 : decode cL_areSound 116 = .ok (.iconst 2, 1) := by decide +kernel
theorem dL_areSound_117 : decode cL_areSound 117 = .ok (.if_icmp .gt 17, 3) := by decide +kernel
theorem dL_areSound_120 : decode cL_areSound 120 = .ok (.iload 11, 2) := by decide +kernel
theorem dL_areSound_122 : decode cL_areSound 122 = .ok (.ifCond .ne 8, 3) := by decide +kernel
theorem dL_areSound_125 : decode cL_areSound 125 = .ok (.iload 9, 2) := by decide +kernel
theorem dL_areSound_127 : decode cL_areSound 127 = .ok (.ifCond .ne 7, 3) := by decide +kernel
theorem dL_areSound_130 : decode cL_areSound 130 = .ok (.iconst 1, 1) := by decide +kernel
theorem dL_areSound_131 : decode cL_areSound 131 = .ok (.goto 4, 3) := by decide +kernel
theorem dL_areSound_134 : decode cL_areSound 134 = .ok (.iconst 0, 1) := by decide +kernel
theorem dL_areSound_135 : decode cL_areSound 135 = .ok (.istore 6, 2) := by decide +kernel
theorem dL_areSound_137 : decode cL_areSound 137 = .ok (.iinc 7 1, 3) := by decide +kernel
theorem dL_areSound_140 : decode cL_areSound 140 = .ok (.goto (-134), 3) := by decide +kernel
theorem dL_areSound_143 : decode cL_areSound 143 = .ok (.iconst 0, 1) := by decide +kernel
theorem dL_areSound_144 : decode cL_areSound 144 = .ok (.istore 7, 2) := by decide +kernel
theorem dL_areSound_146 : decode cL_areSound 146 = .ok (.iconst (-1), 1) := by decide +kernel
theorem dL_areSound_147 : decode cL_areSound 147 = .ok (.istore 8, 2) := by decide +kernel
theorem dL_areSound_149 : decode cL_areSound 149 = .ok (.iconst 0, 1) := by decide +kernel
theorem dL_areSound_150 : decode cL_areSound 150 = .ok (.istore 9, 2) := by decide +kernel
theorem dL_areSound_152 : decode cL_areSound 152 = .ok (.iload 9, 2) := by decide +kernel
theorem dL_areSound_154 : decode cL_areSound 154 = .ok (.aload_n 1, 1) := by decide +kernel
theorem dL_areSound_155 : decode cL_areSound 155 = .ok (.iconst 3, 1) := by decide +kernel
theorem dL_areSound_156 : decode cL_areSound 156 = .ok (.iaload, 1) := by decide +kernel
theorem dL_areSound_157 : decode cL_areSound 157 = .ok (.if_icmp .gt 527, 3) := by decide +kernel
theorem dL_areSound_160 : decode cL_areSound 160 = .ok (.iload 6, 2) := by decide +kernel
theorem dL_areSound_162 : decode cL_areSound 162 = .ok (.ifCond .eq 522, 3) := by decide +kernel
theorem dL_areSound_165 : decode cL_areSound 165 = .ok (.aload_n 0, 1) := by decide +kernel
theorem dL_areSound_166 : decode cL_areSound 166 = .ok (.iload 9, 2) := by decide +kernel
theorem dL_areSound_168 : decode cL_areSound 168 = .ok (.invokevirtual 34, 3) := by decide +kernel
theorem dL_areSound_171 : decode cL_areSound 171 = .ok (.istore 10, 2) := by decide +kernel
theorem dL_areSound_173 : decode cL_areSound 173 = .ok (.iload 10, 2) := by decide +kernel
theorem dL_areSound_175 : decode cL_areSound 175 = .ok (.ifCond .lt 482, 3) := by decide +kernel
theorem dL_areSound_178 : decode cL_areSound 178 = .ok (.aload_n 0, 1) := by decide +kernel
theorem dL_areSound_179 : decode cL_areSound 179 = .ok (.iload 10, 2) := by decide +kernel
theorem dL_areSound_181 : decode cL_areSound 181 = .ok (.invokevirtual 40, 3) := by decide +kernel
theorem dL_areSound_184 : decode cL_areSound 184 = .ok (.istore 11, 2) := by decide +kernel
theorem dL_areSound_186 : decode cL_areSound 186 = .ok (.aload_n 0, 1) := by decide +kernel
theorem dL_areSound_187 : decode cL_areSound 187 = .ok (.iload 10, 2) := by decide +kernel
theorem dL_areSound_189 : decode cL_areSound 189 = .ok (.invokevirtual 43, 3) := by decide +kernel
theorem dL_areSound_192 : decode cL_areSound 192 = .ok (.istore 12, 2) := by decide +kernel
theorem dL_areSound_194 : decode cL_areSound 194 = .ok (.iload 9, 2) := by decide +kernel
theorem dL_areSound_196 : decode cL_areSound 196 = .ok (.aload_n 1, 1) := by decide +kernel
theorem dL_areSound_197 : decode cL_areSound 197 = .ok (.iconst 3, 1) := by decide +kernel
theorem dL_areSound_198 : decode cL_areSound 198 = .ok (.iaload, 1) := by decide +kernel
theorem dL_areSound_199 : decode cL_areSound 199 = .ok (.if_icmp .ge 92, 3) := by decide +kernel
theorem dL_areSound_202 : decode cL_areSound 202 = .ok (.iload 7, 2) := by decide +kernel
theorem dL_areSound_204 : decode cL_areSound 204 = .ok (.iload 10, 2) := by decide +kernel
theorem dL_areSound_206 : decode cL_areSound 206 = .ok (.ishr, 1) := by decide +kernel
theorem dL_areSound_207 : decode cL_areSound 207 = .ok (.iconst 1, 1) := by decide +kernel
theorem dL_areSound_208 : decode cL_areSound 208 = .ok (.iand, 1) := by decide +kernel
theorem dL_areSound_209 : decode cL_areSound 209 = .ok (.ifCond .ne 82, 3) := by decide +kernel
theorem dL_areSound_212 : decode cL_areSound 212 = .ok (.iload 11, 2) := by decide +kernel
theorem dL_areSound_214 : decode cL_areSound 214 = .ok (.iconst (-1), 1) := by decide +kernel
theorem dL_areSound_215 : decode cL_areSound 215 = .ok (.if_icmp .eq 14, 3) := by decide +kernel
theorem dL_areSound_218 : decode cL_areSound 218 = .ok (.iload 7, 2) := by decide +kernel
theorem dL_areSound_220 : decode cL_areSound 220 = .ok (.iload 11, 2) := by decide +kernel
theorem dL_areSound_222 : decode cL_areSound 222 = .ok (.ishr, 1) := by decide +kernel
theorem dL_areSound_223 : decode cL_areSound 223 = .ok (.iconst 1, 1) := by decide +kernel
theorem dL_areSound_224 : decode cL_areSound 224 = .ok (.iand, 1) := by decide +kernel
theorem dL_areSound_225 : decode cL_areSound 225 = .ok (.iconst 1, 1) := by decide +kernel
theorem dL_areSound_226 : decode cL_areSound 226 = .ok (.if_icmp .ne 65, 3) := by decide +kernel
theorem dL_areSound_229 : decode cL_areSound 229 = .ok (.iload 12, 2) := by decide +kernel
theorem dL_areSound_231 : decode cL_areSound 231 = .ok (.ifCond .lt 60, 3) := by decide +kernel
theorem dL_areSound_234 : decode cL_areSound 234 = .ok (.iload 12, 2) := by decide +kernel
theorem dL_areSound_236 : decode cL_areSound 236 = .ok (.bipush 12, 2) := by decide +kernel
theorem dL_areSound_238 : decode cL_areSound 238 = .ok (.if_icmp .gt 53, 3) := by decide +kernel
theorem dL_areSound_241 : decode cL_areSound 241 = .ok (.aload_n 0, 1) := by decide +kernel
theorem dL_areSound_242 : decode cL_areSound 242 = .ok (.iload 10, 2) := by decide +kernel
theorem dL_areSound_244 : decode cL_areSound 244 = .ok (.invokevirtual 37, 3) := by decide +kernel
theorem dL_areSound_247 : decode cL_areSound 247 = .ok (.sipush 999, 3) := by decide +kernel
theorem dL_areSound_250 : decode cL_areSound 250 = .ok (.if_icmp .le 41, 3) := by decide +kernel
theorem dL_areSound_253 : decode cL_areSound 253 = .ok (.aload_n 0, 1) := by decide +kernel
theorem dL_areSound_254 : decode cL_areSound 254 = .ok (.bipush 10, 2) := by decide +kernel
theorem dL_areSound_256 : decode cL_areSound 256 = .ok (.iload 10, 2) := by decide +kernel
theorem dL_areSound_258 : decode cL_areSound 258 = .ok (.iload 12, 2) := by decide +kernel
theorem dL_areSound_260 : decode cL_areSound 260 = .ok (.iconst 0, 1) := by decide +kernel
theorem dL_areSound_261 : decode cL_areSound 261 = .ok (.iconst 0, 1) := by decide +kernel
theorem dL_areSound_262 : decode cL_areSound 262 = .ok (.invokestatic 109, 3) := by decide +kernel
theorem dL_areSound_265 : decode cL_areSound 265 = .ok (.sipush (-1381), 3) := by decide +kernel
theorem dL_areSound_268 : decode cL_areSound 268 = .ok (.if_icmp .ne 23, 3) := by decide +kernel
theorem dL_areSound_271 : decode cL_areSound 271 = .ok (.aload_n 0, 1) := by decide +kernel
theorem dL_areSound_272 : decode cL_areSound 272 = .ok (.bipush 11, 2) := by decide +kernel
theorem dL_areSound_274 : decode cL_areSound 274 = .ok (.iload 10, 2) := by decide +kernel
theorem dL_areSound_276 : decode cL_areSound 276 = .ok (.iload 12, 2) := by decide +kernel
theorem dL_areSound_278 : decode cL_areSound 278 = .ok (.iconst 0, 1) := by decide +kernel
theorem dL_areSound_279 : decode cL_areSound 279 = .ok (.iconst 0, 1) := by decide +kernel
theorem dL_areSound_280 : decode cL_areSound 280 = .ok (.invokestatic 109, 3) := by decide +kernel
theorem dL_areSound_283 : decode cL_areSound 283 = .ok (.iconst (-1), 1) := by decide +kernel
theorem dL_areSound_284 : decode cL_areSound 284 = .ok (.if_icmp .ne 7, 3) := by decide +kernel
theorem dL_areSound_287 : decode cL_areSound 287 = .ok (.iconst 1, 1) := by decide +kernel
theorem dL_areSound_288 : decode cL_areSound 288 = .ok (.goto 4, 3) := by decide +kernel
theorem dL_areSound_291 : decode cL_areSound 291 = .ok (.iconst 0, 1) := by decide +kernel
theorem dL_areSound_292 : decode cL_areSound 292 = .ok (.istore 6, 2) := by decide +kernel
theorem dL_areSound_294 : decode cL_areSound 294 = .ok (.iload 8, 2) := by decide +kernel
theorem dL_areSound_296 : decode cL_areSound 296 = .ok (.istore 13, 2) := by decide +kernel
theorem dL_areSound_298 : decode cL_areSound 298 = .ok (.iconst 0, 1) := by decide +kernel
theorem dL_areSound_299 : decode cL_areSound 299 = .ok (.istore 14, 2) := by decide +kernel
theorem dL_areSound_301 : decode cL_areSound 301 = .ok (.iload 14, 2) := by decide +kernel
theorem dL_areSound_303 : decode cL_areSound 303 = .ok (.bipush 20, 2) := by decide +kernel
theorem dL_areSound_305 : decode cL_areSound 305 = .ok (.if_icmp .ge 40, 3) := by decide +kernel
theorem dL_areSound_308 : decode cL_areSound 308 = .ok (.iload 13, 2) := by decide +kernel
theorem dL_areSound_310 : decode cL_areSound 310 = .ok (.ifCond .lt 35, 3) := by decide +kernel
theorem dL_areSound_313 : decode cL_areSound 313 = .ok (.aload_n 0, 1) := by decide +kernel
theorem dL_areSound_314 : decode cL_areSound 314 = .ok (.iload 13, 2) := by decide +kernel
theorem dL_areSound_316 : decode cL_areSound 316 = .ok (.invokevirtual 40, 3) := by decide +kernel
theorem dL_areSound_319 : decode cL_areSound 319 = .ok (.iload 11, 2) := by decide +kernel
theorem dL_areSound_321 : decode cL_areSound 321 = .ok (.if_icmp .eq 24, 3) := by decide +kernel
theorem dL_areSound_324 : decode cL_areSound 324 = .ok (.iload 13, 2) := by decide +kernel
theorem dL_areSound_326 : decode cL_areSound 326 = .ok (.iload 11, 2) := by decide +kernel
theorem dL_areSound_328 : decode cL_areSound 328 = .ok (.if_icmp .eq 17, 3) := by decide +kernel
theorem dL_areSound_331 : decode cL_areSound 331 = .ok (.aload_n 0, 1) := by decide +kernel
theorem dL_areSound_332 : decode cL_areSound 332 = .ok (.iload 13, 2) := by decide +kernel
theorem dL_areSound_334 : decode cL_areSound 334 = .ok (.invokevirtual 40, 3) := by decide +kernel
theorem dL_areSound_337 : decode cL_areSound 337 = .ok (.istore 13, 2) := by decide +kernel
theorem dL_areSound_339 : decode cL_areSound 339 = .ok (.iinc 14 1, 3) := by decide +kernel
theorem dL_areSound_342 : decode cL_areSound 342 = .ok (.goto (-41), 3) := by decide +kernel
theorem dL_areSound_345 : decode cL_areSound 345 = .ok (.iload 6, 2) := by decide +kernel
theorem dL_areSound_347 : decode cL_areSound 347 = .ok (.ifCond .eq 64, 3) := by decide +kernel
theorem dL_areSound_350 : decode cL_areSound 350 = .ok (.iload 8, 2) := by decide +kernel
theorem dL_areSound_352 : decode cL_areSound 352 = .ok (.ifCond .ge 12, 3) := by decide +kernel
theorem dL_areSound_355 : decode cL_areSound 355 = .ok (.iload 11, 2) := by decide +kernel
theorem dL_areSound_357 : decode cL_areSound 357 = .ok (.iconst (-1), 1) := by decide +kernel
theorem dL_areSound_358 : decode cL_areSound 358 = .ok (.if_icmp .ne 53, 3) := by decide +kernel
theorem dL_areSound_361 : decode cL_areSound 361 = .ok (.goto 46, 3) := by decide +kernel
theorem dL_areSound_364 : decode cL_areSound 364 = .ok (.iload 13, 2) := by decide +kernel
theorem dL_areSound_366 : decode cL_areSound 366 = .ok (.ifCond .lt 45, 3) := by decide +kernel
theorem dL_areSound_369 : decode cL_areSound 369 = .ok (.iload 13, 2) := by decide +kernel
theorem dL_areSound_371 : decode cL_areSound 371 = .ok (.iload 11, 2) := by decide +kernel
theorem dL_areSound_373 : decode cL_areSound 373 = .ok (.if_icmp .ne 13, 3) := by decide +kernel
theorem dL_areSound_376 : decode cL_areSound 376 = .ok (.iload 13, 2) := by decide +kernel
theorem dL_areSound_378 : decode cL_areSound 378 = .ok (.iload 8, 2) := by decide +kernel
theorem dL_areSound_380 : decode cL_areSound 380 = .ok (.if_icmp .ne 31, 3) := by decide +kernel
theorem dL_areSound_383 : decode cL_areSound 383 = .ok (.goto 24, 3) := by decide +kernel
theorem dL_areSound_386 : decode cL_areSound 386 = .ok (.aload_n 0, 1) := by decide +kernel
theorem dL_areSound_387 : decode cL_areSound 387 = .ok (.iload 13, 2) := by decide +kernel
theorem dL_areSound_389 : decode cL_areSound 389 = .ok (.invokevirtual 37, 3) := by decide +kernel
theorem dL_areSound_392 : decode cL_areSound 392 = .ok (.invokestatic 120, 3) := by decide +kernel
theorem dL_areSound_395 : decode cL_areSound 395 = .ok (.aload_n 0, 1) := by decide +kernel
theorem dL_areSound_396 : decode cL_areSound 396 = .ok (.iload 10, 2) := by decide +kernel
theorem dL_areSound_398 : decode cL_areSound 398 = .ok (.invokevirtual 37, 3) := by decide +kernel
theorem dL_areSound_401 : decode cL_areSound 401 = .ok (.invokestatic 120, 3) := by decide +kernel
theorem dL_areSound_404 : decode cL_areSound 404 = .ok (.if_icmp .ge 7, 3) := by decide +kernel
theorem dL_areSound_407 : decode cL_areSound 407 = .ok (.iconst 1, 1) := by decide +kernel
theorem dL_areSound_408 : decode cL_areSound 408 = .ok (.goto 4, 3) := by decide +kernel
theorem dL_areSound_411 : decode cL_areSound 411 = .ok (.iconst 0, 1) := by decide +kernel
theorem dL_areSound_412 : decode cL_areSound 412 = .ok (.istore 6, 2) := by decide +kernel
theorem dL_areSound_414 : decode cL_areSound 414 = .ok (.iconst 0, 1) := by decide +kernel
theorem dL_areSound_415 : decode cL_areSound 415 = .ok (.istore 14, 2) := by decide +kernel
theorem dL_areSound_417 : decode cL_areSound 417 = .ok (.iload 14, 2) := by decide +kernel
theorem dL_areSound_419 : decode cL_areSound 419 = .ok (.iload 12, 2) := by decide +kernel
theorem dL_areSound_421 : decode cL_areSound 421 = .ok (.if_icmp .ge 220, 3) := by decide +kernel
theorem dL_areSound_424 : decode cL_areSound 424 = .ok (.iload 6, 2) := by decide +kernel
theorem dL_areSound_426 : decode cL_areSound 426 = .ok (.ifCond .eq 215, 3) := by decide +kernel
theorem dL_areSound_429 : decode cL_areSound 429 = .ok (.aload_n 0, 1) := by decide +kernel
theorem dL_areSound_430 : decode cL_areSound 430 = .ok (.iload 10, 2) := by decide +kernel
theorem dL_areSound_432 : decode cL_areSound 432 = .ok (.iload 14, 2) := by decide +kernel
theorem dL_areSound_434 : decode cL_areSound 434 = .ok (.invokevirtual 46, 3) := by decide +kernel
theorem dL_areSound_437 : decode cL_areSound 437 = .ok (.istore 15, 2) := by decide +kernel
theorem dL_areSound_439 : decode cL_areSound 439 = .ok (.aload_n 0, 1) := by decide +kernel
theorem dL_areSound_440 : decode cL_areSound 440 = .ok (.iload 10, 2) := by decide +kernel
theorem dL_areSound_442 : decode cL_areSound 442 = .ok (.iload 14, 2) := by decide +kernel
theorem dL_areSound_444 : decode cL_areSound 444 = .ok (.invokevirtual 53, 3) := by decide +kernel
theorem dL_areSound_447 : decode cL_areSound 447 = .ok (.istore 16, 2) := by decide +kernel
theorem dL_areSound_449 : decode cL_areSound 449 = .ok (.iload 10, 2) := by decide +kernel
theorem dL_areSound_451 : decode cL_areSound 451 = .ok (.iload 5, 2) := by decide +kernel
theorem dL_areSound_453 : decode cL_areSound 453 = .ok (.aload_n 1, 1) := by decide +kernel
theorem dL_areSound_454 : decode cL_areSound 454 = .ok (.iconst 3, 1) := by decide +kernel
theorem dL_areSound_455 : decode cL_areSound 455 = .ok (.iaload, 1) := by decide +kernel
theorem dL_areSound_456 : decode cL_areSound 456 = .ok (.irem, 1) := by decide +kernel
theorem dL_areSound_457 : decode cL_areSound 457 = .ok (.if_icmp .eq 10, 3) := by decide +kernel
theorem dL_areSound_460 : decode cL_areSound 460 = .ok (.iload 15, 2) := by decide +kernel
theorem dL_areSound_462 : decode cL_areSound 462 = .ok (.bipush 120, 2) := by decide +kernel
theorem dL_areSound_464 : decode cL_areSound 464 = .ok (.if_icmp .ge 14, 3) := by decide +kernel
theorem dL_areSound_467 : decode cL_areSound 467 = .ok (.aload_n 0, 1) := by decide +kernel
theorem dL_areSound_468 : decode cL_areSound 468 = .ok (.iload 10, 2) := by decide +kernel
theorem dL_areSound_470 : decode cL_areSound 470 = .ok (.iload 14, 2) := by decide +kernel
theorem dL_areSound_472 : decode cL_areSound 472 = .ok (.invokevirtual 56, 3) := by decide +kernel
theorem dL_areSound_475 : decode cL_areSound 475 = .ok (.goto 4, 3) := by decide +kernel
theorem dL_areSound_478 : decode cL_areSound 478 = .ok (.iconst (-1), 1) := by decide +kernel
theorem dL_areSound_479 : decode cL_areSound 479 = .ok (.istore 17, 2) := by decide +kernel
theorem dL_areSound_481 : decode cL_areSound 481 = .ok (.iload 15, 2) := by decide +kernel
theorem dL_areSound_483 : decode cL_areSound 483 = .ok (.ifCond .lt 81, 3) := by decide +kernel
theorem dL_areSound_486 : decode cL_areSound 486 = .ok (.iload 15, 2) := by decide +kernel
theorem dL_areSound_488 : decode cL_areSound 488 = .ok (.sipush 140, 3) := by decide +kernel
theorem dL_areSound_491 : decode cL_areSound 491 = .ok (.if_icmp .ge 73, 3) := by decide +kernel
theorem dL_areSound_494 : decode cL_areSound 494 = .ok (.aload_n 0, 1) := by decide +kernel
theorem dL_areSound_495 : decode cL_areSound 495 = .ok (.iload 10, 2) := by decide +kernel
theorem dL_areSound_497 : decode cL_areSound 497 = .ok (.iload 14, 2) := by decide +kernel
theorem dL_areSound_499 : decode cL_areSound 499 = .ok (.invokevirtual 50, 3) := by decide +kernel
theorem dL_areSound_502 : decode cL_areSound 502 = .ok (.iload 15, 2) := by decide +kernel
theorem dL_areSound_504 : decode cL_areSound 504 = .ok (.if_icmp .ne 60, 3) := by decide +kernel
theorem dL_areSound_507 : decode cL_areSound 507 = .ok (.iload 16, 2) := by decide +kernel
theorem dL_areSound_509 : decode cL_areSound 509 = .ok (.ifCond .lt 55, 3) := by decide +kernel
theorem dL_areSound_512 : decode cL_areSound 512 = .ok (.iload 16, 2) := by decide +kernel
theorem dL_areSound_514 : decode cL_areSound 514 = .ok (.aload_n 1, 1) := by decide +kernel
theorem dL_areSound_515 : decode cL_areSound 515 = .ok (.iconst 2, 1) := by decide +kernel
theorem dL_areSound_516 : decode cL_areSound 516 = .ok (.iaload, 1) := by decide +kernel
theorem dL_areSound_517 : decode cL_areSound 517 = .ok (.if_icmp .ge 47, 3) := by decide +kernel
theorem dL_areSound_520 : decode cL_areSound 520 = .ok (.aload_n 0, 1) := by decide +kernel
theorem dL_areSound_521 : decode cL_areSound 521 = .ok (.iload 16, 2) := by decide +kernel
theorem dL_areSound_523 : decode cL_areSound 523 = .ok (.invokevirtual 59, 3) := by decide +kernel
theorem dL_areSound_526 : decode cL_areSound 526 = .ok (.iconst 1, 1) := by decide +kernel
theorem dL_areSound_527 : decode cL_areSound 527 = .ok (.if_icmp .ne 37, 3) := by decide +kernel
theorem dL_areSound_530 : decode cL_areSound 530 = .ok (.iload 15, 2) := by decide +kernel
theorem dL_areSound_532 : decode cL_areSound 532 = .ok (.bipush 99, 2) := by decide +kernel
theorem dL_areSound_534 : decode cL_areSound 534 = .ok (.if_icmp .le 20, 3) := by decide +kernel
theorem dL_areSound_537 : decode cL_areSound 537 = .ok (.iload 17, 2) := by decide +kernel
theorem dL_areSound_539 : decode cL_areSound 539 = .ok (.iconst (-1), 1) := by decide +kernel
theorem dL_areSound_540 : decode cL_areSound 540 = .ok (.if_icmp .eq 20, 3) := by decide +kernel
theorem dL_areSound_543 : decode cL_areSound 543 = .ok (.iload 17, 2) := by decide +kernel
theorem dL_areSound_545 : decode cL_areSound 545 = .ok (.sipush 999, 3) := by decide +kernel
theorem dL_areSound_548 : decode cL_areSound 548 = .ok (.if_icmp .le 16, 3) := by decide +kernel
theorem dL_areSound_551 : decode cL_areSound 551 = .ok (.goto 9, 3) := by decide +kernel
theorem dL_areSound_554 : decode cL_areSound 554 = .ok (.iload 17, 2) := by decide +kernel
theorem dL_areSound_556 : decode cL_areSound 556 = .ok (.iconst (-1), 1) := by decide +kernel
theorem dL_areSound_557 : decode cL_areSound 557 = .ok (.if_icmp .ne 7, 3) := by decide +kernel
theorem dL_areSound_560 : decode cL_areSound 560 = .ok (.iconst 1, 1) := by decide +kernel
theorem dL_areSound_561 : decode cL_areSound 561 = .ok (.goto 4, 3) := by decide +kernel
theorem dL_areSound_564 : decode cL_areSound 564 = .ok (.iconst 0, 1) := by decide +kernel
theorem dL_areSound_565 : decode cL_areSound 565 = .ok (.istore 6, 2) := by decide +kernel
theorem dL_areSound_567 : decode cL_areSound 567 = .ok (.iload 6, 2) := by decide +kernel
theorem dL_areSound_569 : decode cL_areSound 569 = .ok (.ifCond .eq 63, 3) := by decide +kernel
theorem dL_areSound_572 : decode cL_areSound 572 = .ok (.iload 15, 2) := by decide +kernel
theorem dL_areSound_574 : decode cL_areSound 574 = .ok (.bipush 100, 2) := by decide +kernel
theorem dL_areSound_576 : decode cL_areSound 576 = .ok (.if_icmp .lt 52, 3) := by decide +kernel
theorem dL_areSound_579 : decode cL_areSound 579 = .ok (.iload 15, 2) := by decide +kernel
theorem dL_areSound_581 : decode cL_areSound 581 = .ok (.bipush 119, 2) := by decide +kernel
theorem dL_areSound_583 : decode cL_areSound 583 = .ok (.if_icmp .gt 45, 3) := by decide +kernel
theorem dL_areSound_586 : decode cL_areSound 586 = .ok (.iload 15, 2) := by decide +kernel
theorem dL_areSound_588 : decode cL_areSound 588 = .ok (.bipush 100, 2) := by decide +kernel
theorem dL_areSound_590 : decode cL_areSound 590 = .ok (.isub, 1) := by decide +kernel
theorem dL_areSound_591 : decode cL_areSound 591 = .ok (.aload_n 1, 1) := by decide +kernel
theorem dL_areSound_592 : decode cL_areSound 592 = .ok (.iconst 3, 1) := by decide +kernel
theorem dL_areSound_593 : decode cL_areSound 593 = .ok (.iaload, 1) := by decide +kernel
theorem dL_areSound_594 : decode cL_areSound 594 = .ok (.if_icmp .ge 17, 3) := by decide +kernel
theorem dL_areSound_597 : decode cL_areSound 597 = .ok (.iload 17, 2) := by decide +kernel
theorem dL_areSound_599 : decode cL_areSound 599 = .ok (.aload_n 0, 1) := by decide +kernel
theorem dL_areSound_600 : decode cL_areSound 600 = .ok (.iload 15, 2) := by decide +kernel
theorem dL_areSound_602 : decode cL_areSound 602 = .ok (.bipush 100, 2) := by decide +kernel
theorem dL_areSound_604 : decode cL_areSound 604 = .ok (.isub, 1) := by decide +kernel
theorem dL_areSound_605 : decode cL_areSound 605 = .ok (.invokevirtual 37, 3) := by decide +kernel
theorem dL_areSound_608 : decode cL_areSound 608 = .ok (.if_icmp .eq 20, 3) := by decide +kernel
theorem dL_areSound_611 : decode cL_areSound 611 = .ok (.iload 15, 2) := by decide +kernel
theorem dL_areSound_613 : decode cL_areSound 613 = .ok (.bipush 100, 2) := by decide +kernel
theorem dL_areSound_615 : decode cL_areSound 615 = .ok (.isub, 1) := by decide +kernel
theorem dL_areSound_616 : decode cL_areSound 616 = .ok (.aload_n 1, 1) := by decide +kernel
theorem dL_areSound_617 : decode cL_areSound 617 = .ok (.iconst 3, 1) := by decide +kernel
theorem dL_areSound_618 : decode cL_areSound 618 = .ok (.iaload, 1) := by decide +kernel
theorem dL_areSound_619 : decode cL_areSound 619 = .ok (.if_icmp .lt 13, 3) := by decide +kernel
theorem dL_areSound_622 : decode cL_areSound 622 = .ok (.iload 17, 2) := by decide +kernel
theorem dL_areSound_624 : decode cL_areSound 624 = .ok (.iconst (-1), 1) := by decide +kernel
theorem dL_areSound_625 : decode cL_areSound 625 = .ok (.if_icmp .ne 7, 3) := by decide +kernel
theorem dL_areSound_628 : decode cL_areSound 628 = .ok (.iconst 1, 1) := by decide +kernel
theorem dL_areSound_629 : decode cL_areSound 629 = .ok (.goto 4, 3) := by decide +kernel
theorem dL_areSound_632 : decode cL_areSound 632 = .ok (.iconst 0, 1) := by decide +kernel
theorem dL_areSound_633 : decode cL_areSound 633 = .ok (.istore 6, 2) := by decide +kernel
theorem dL_areSound_635 : decode cL_areSound 635 = .ok (.iinc 14 2, 3) := by decide +kernel
theorem dL_areSound_638 : decode cL_areSound 638 = .ok (.goto (-221), 3) := by decide +kernel
theorem dL_areSound_641 : decode cL_areSound 641 = .ok (.iload 7, 2) := by decide +kernel
theorem dL_areSound_643 : decode cL_areSound 643 = .ok (.iconst 1, 1) := by decide +kernel
theorem dL_areSound_644 : decode cL_areSound 644 = .ok (.iload 10, 2) := by decide +kernel
theorem dL_areSound_646 : decode cL_areSound 646 = .ok (.ishl, 1) := by decide +kernel
theorem dL_areSound_647 : decode cL_areSound 647 = .ok (.ior, 1) := by decide +kernel
theorem dL_areSound_648 : decode cL_areSound 648 = .ok (.istore 7, 2) := by decide +kernel
theorem dL_areSound_650 : decode cL_areSound 650 = .ok (.iload 10, 2) := by decide +kernel
theorem dL_areSound_652 : decode cL_areSound 652 = .ok (.istore 8, 2) := by decide +kernel
theorem dL_areSound_654 : decode cL_areSound 654 = .ok (.goto 24, 3) := by decide +kernel
theorem dL_areSound_657 : decode cL_areSound 657 = .ok (.iload 10, 2) := by decide +kernel
theorem dL_areSound_659 : decode cL_areSound 659 = .ok (.iconst (-1), 1) := by decide +kernel
theorem dL_areSound_660 : decode cL_areSound 660 = .ok (.if_icmp .ne 15, 3) := by decide +kernel
theorem dL_areSound_663 : decode cL_areSound 663 = .ok (.iload 9, 2) := by decide +kernel
theorem dL_areSound_665 : decode cL_areSound 665 = .ok (.aload_n 1, 1) := by decide +kernel
theorem dL_areSound_666 : decode cL_areSound 666 = .ok (.iconst 3, 1) := by decide +kernel
theorem dL_areSound_667 : decode cL_areSound 667 = .ok (.iaload, 1) := by decide +kernel
theorem dL_areSound_668 : decode cL_areSound 668 = .ok (.if_icmp .gt 7, 3) := by decide +kernel
theorem dL_areSound_671 : decode cL_areSound 671 = .ok (.iconst 1, 1) := by decide +kernel
theorem dL_areSound_672 : decode cL_areSound 672 = .ok (.goto 4, 3) := by decide +kernel
theorem dL_areSound_675 : decode cL_areSound 675 = .ok (.iconst 0, 1) := by decide +kernel
theorem dL_areSound_676 : decode cL_areSound 676 = .ok (.istore 6, 2) := by decide +kernel
theorem dL_areSound_678 : decode cL_areSound 678 = .ok (.iinc 9 1, 3) := by decide +kernel
theorem dL_areSound_681 : decode cL_areSound 681 = .ok (.goto (-529), 3) := by decide +kernel
theorem dL_areSound_684 : decode cL_areSound 684 = .ok (.iconst 0, 1) := by decide +kernel
theorem dL_areSound_685 : decode cL_areSound 685 = .ok (.istore 9, 2) := by decide +kernel
theorem dL_areSound_687 : decode cL_areSound 687 = .ok (.iload 9, 2) := by decide +kernel
theorem dL_areSound_689 : decode cL_areSound 689 = .ok (.aload_n 1, 1) := by decide +kernel
theorem dL_areSound_690 : decode cL_areSound 690 = .ok (.iconst 3, 1) := by decide +kernel
theorem dL_areSound_691 : decode cL_areSound 691 = .ok (.iaload, 1) := by decide +kernel
theorem dL_areSound_692 : decode cL_areSound 692 = .ok (.if_icmp .ge 84, 3) := by decide +kernel
theorem dL_areSound_695 : decode cL_areSound 695 = .ok (.iload 6, 2) := by decide +kernel
theorem dL_areSound_697 : decode cL_areSound 697 = .ok (.ifCond .eq 79, 3) := by decide +kernel
theorem dL_areSound_700 : decode cL_areSound 700 = .ok (.aload_n 0, 1) := by decide +kernel
theorem dL_areSound_701 : decode cL_areSound 701 = .ok (.iload 9, 2) := by decide +kernel
theorem dL_areSound_703 : decode cL_areSound 703 = .ok (.invokevirtual 37, 3) := by decide +kernel
theorem dL_areSound_706 : decode cL_areSound 706 = .ok (.iconst (-1), 1) := by decide +kernel
theorem dL_areSound_707 : decode cL_areSound 707 = .ok (.if_icmp .ne 7, 3) := by decide +kernel
theorem dL_areSound_710 : decode cL_areSound 710 = .ok (.iconst 1, 1) := by decide +kernel
theorem dL_areSound_711 : decode cL_areSound 711 = .ok (.goto 4, 3) := by decide +kernel
theorem dL_areSound_714 : decode cL_areSound 714 = .ok (.iconst 0, 1) := by decide +kernel
theorem dL_areSound_715 : decode cL_areSound 715 = .ok (.iload 7, 2) := by decide +kernel
theorem dL_areSound_717 : decode cL_areSound 717 = .ok (.iload 9, 2) := by decide +kernel
theorem dL_areSound_719 : decode cL_areSound 719 = .ok (.ishr, 1) := by decide +kernel
theorem dL_areSound_720 : decode cL_areSound 720 = .ok (.iconst 1, 1) := by decide +kernel
theorem dL_areSound_721 : decode cL_areSound 721 = .ok (.iand, 1) := by decide +kernel
theorem dL_areSound_722 : decode cL_areSound 722 = .ok (.ifCond .ne 7, 3) := by decide +kernel
theorem dL_areSound_725 : decode cL_areSound 725 = .ok (.iconst 1, 1) := by decide +kernel
theorem dL_areSound_726 : decode cL_areSound 726 = .ok (.goto 4, 3) := by decide +kernel
theorem dL_areSound_729 : decode cL_areSound 729 = .ok (.iconst 0, 1) := by decide +kernel
theorem dL_areSound_730 : decode cL_areSound 730 = .ok (.if_icmp .ne 37, 3) := by decide +kernel
theorem dL_areSound_733 : decode cL_areSound 733 = .ok (.aload_n 0, 1) := by decide +kernel
theorem dL_areSound_734 : decode cL_areSound 734 = .ok (.iload 9, 2) := by decide +kernel
theorem dL_areSound_736 : decode cL_areSound 736 = .ok (.invokevirtual 37, 3) := by decide +kernel
theorem dL_areSound_739 : decode cL_areSound 739 = .ok (.iconst (-1), 1) := by decide +kernel
theorem dL_areSound_740 : decode cL_areSound 740 = .ok (.if_icmp .ne 23, 3) := by decide +kernel
theorem dL_areSound_743 : decode cL_areSound 743 = .ok (.aload_n 0, 1) := by decide +kernel
theorem dL_areSound_744 : decode cL_areSound 744 = .ok (.iload 9, 2) := by decide +kernel
theorem dL_areSound_746 : decode cL_areSound 746 = .ok (.invokevirtual 40, 3) := by decide +kernel
theorem dL_areSound_749 : decode cL_areSound 749 = .ok (.iconst (-1), 1) := by decide +kernel
theorem dL_areSound_750 : decode cL_areSound 750 = .ok (.if_icmp .ne 17, 3) := by decide +kernel
theorem dL_areSound_753 : decode cL_areSound 753 = .ok (.aload_n 0, 1) := by decide +kernel
theorem dL_areSound_754 : decode cL_areSound 754 = .ok (.iload 9, 2) := by decide +kernel
theorem dL_areSound_756 : decode cL_areSound 756 = .ok (.invokevirtual 43, 3) := by decide +kernel
theorem dL_areSound_759 : decode cL_areSound 759 = .ok (.iconst (-1), 1) := by decide +kernel
theorem dL_areSound_760 : decode cL_areSound 760 = .ok (.if_icmp .ne 7, 3) := by decide +kernel
theorem dL_areSound_763 : decode cL_areSound 763 = .ok (.iconst 1, 1) := by decide +kernel
theorem dL_areSound_764 : decode cL_areSound 764 = .ok (.goto 4, 3) := by decide +kernel
theorem dL_areSound_767 : decode cL_areSound 767 = .ok (.iconst 0, 1) := by decide +kernel
theorem dL_areSound_768 : decode cL_areSound 768 = .ok (.istore 6, 2) := by decide +kernel
theorem dL_areSound_770 : decode cL_areSound 770 = .ok (.iinc 9 1, 3) := by decide +kernel
theorem dL_areSound_773 : decode cL_areSound 773 = .ok (.goto (-86), 3) := by decide +kernel
theorem dL_areSound_776 : decode cL_areSound 776 = .ok (.iload 6, 2) := by decide +kernel
theorem dL_areSound_778 : decode cL_areSound 778 = .ok (.ifCond .eq 14, 3) := by decide +kernel
theorem dL_areSound_781 : decode cL_areSound 781 = .ok (.aload_n 0, 1) := by decide +kernel
theorem dL_areSound_782 : decode cL_areSound 782 = .ok (.invokevirtual 98, 3) := by decide +kernel
theorem dL_areSound_785 : decode cL_areSound 785 = .ok (.ifCond .lt 7, 3) := by decide +kernel
theorem dL_areSound_788 : decode cL_areSound 788 = .ok (.iconst 1, 1) := by decide +kernel
theorem dL_areSound_789 : decode cL_areSound 789 = .ok (.goto 4, 3) := by decide +kernel
theorem dL_areSound_792 : decode cL_areSound 792 = .ok (.iconst 0, 1) := by decide +kernel
theorem dL_areSound_793 : decode cL_areSound 793 = .ok (.ireturn, 1) := by decide +kernel
theorem dL_isLooked_0 : decode cL_isLooked 0 = .ok (.aload_n 1, 1) := by decide +kernel
theorem dL_isLooked_1 : decode cL_isLooked 1 = .ok (.iconst 5, 1) := by decide +kernel
theorem dL_isLooked_2 : decode cL_isLooked 2 = .ok (.iload_n 2, 1) := by decide +kernel
theorem dL_isLooked_3 : decode cL_isLooked 3 = .ok (.iastore, 1) := by decide +kernel
theorem dL_isLooked_4 : decode cL_isLooked 4 = .ok (.aload_n 1, 1) := by decide +kernel
theorem dL_isLooked_5 : decode cL_isLooked 5 = .ok (.bipush 6, 2) := by decide +kernel
theorem dL_isLooked_7 : decode cL_isLooked 7 = .ok (.iload_n 3, 1) := by decide +kernel
theorem dL_isLooked_8 : decode cL_isLooked 8 = .ok (.iastore, 1) := by decide +kernel
theorem dL_isLooked_9 : decode cL_isLooked 9 = .ok (.aload_n 1, 1) := by decide +kernel
theorem dL_isLooked_10 : decode cL_isLooked 10 = .ok (.bipush 7, 2) := by decide +kernel
theorem dL_isLooked_12 : decode cL_isLooked 12 = .ok (.iload 4, 2) := by decide +kernel
theorem dL_isLooked_14 : decode cL_isLooked 14 = .ok (.iastore, 1) := by decide +kernel
theorem dL_isLooked_15 : decode cL_isLooked 15 = .ok (.aload_n 0, 1) := by decide +kernel
theorem dL_isLooked_16 : decode cL_isLooked 16 = .ok (.iconst 5, 1) := by decide +kernel
theorem dL_isLooked_17 : decode cL_isLooked 17 = .ok (.iload_n 2, 1) := by decide +kernel
theorem dL_isLooked_18 : decode cL_isLooked 18 = .ok (.iload_n 3, 1) := by decide +kernel
theorem dL_isLooked_19 : decode cL_isLooked 19 = .ok (.iload 4, 2) := by decide +kernel
theorem dL_isLooked_21 : decode cL_isLooked 21 = .ok (.iconst 0, 1) := by decide +kernel
theorem dL_isLooked_22 : decode cL_isLooked 22 = .ok (.invokestatic 109, 3) := by decide +kernel
theorem dL_isLooked_25 : decode cL_isLooked 25 = .ok (.istore 5, 2) := by decide +kernel
theorem dL_isLooked_27 : decode cL_isLooked 27 = .ok (.iload 5, 2) := by decide +kernel
theorem dL_isLooked_29 : decode cL_isLooked 29 = .ok (.ifCond .lt 30, 3) := by decide +kernel
theorem dL_isLooked_32 : decode cL_isLooked 32 = .ok (.iload 5, 2) := by decide +kernel
theorem dL_isLooked_34 : decode cL_isLooked 34 = .ok (.aload_n 1, 1) := by decide +kernel
theorem dL_isLooked_35 : decode cL_isLooked 35 = .ok (.iconst 3, 1) := by decide +kernel
theorem dL_isLooked_36 : decode cL_isLooked 36 = .ok (.iaload, 1) := by decide +kernel
theorem dL_isLooked_37 : decode cL_isLooked 37 = .ok (.if_icmp .gt 22, 3) := by decide +kernel
theorem dL_isLooked_40 : decode cL_isLooked 40 = .ok (.aload_n 0, 1) := by decide +kernel
theorem dL_isLooked_41 : decode cL_isLooked 41 = .ok (.bipush 6, 2) := by decide +kernel
theorem dL_isLooked_43 : decode cL_isLooked 43 = .ok (.iload 5, 2) := by decide +kernel
theorem dL_isLooked_45 : decode cL_isLooked 45 = .ok (.iconst 0, 1) := by decide +kernel
theorem dL_isLooked_46 : decode cL_isLooked 46 = .ok (.iconst 0, 1) := by decide +kernel
theorem dL_isLooked_47 : decode cL_isLooked 47 = .ok (.iconst 0, 1) := by decide +kernel
theorem dL_isLooked_48 : decode cL_isLooked 48 = .ok (.invokestatic 109, 3) := by decide +kernel
theorem dL_isLooked_51 : decode cL_isLooked 51 = .ok (.iconst (-1), 1) := by decide +kernel
theorem dL_isLooked_52 : decode cL_isLooked 52 = .ok (.if_icmp .ne 7, 3) := by decide +kernel
theorem dL_isLooked_55 : decode cL_isLooked 55 = .ok (.iconst 1, 1) := by decide +kernel
theorem dL_isLooked_56 : decode cL_isLooked 56 = .ok (.goto 4, 3) := by decide +kernel
theorem dL_isLooked_59 : decode cL_isLooked 59 = .ok (.iconst 0, 1) := by decide +kernel
theorem dL_isLooked_60 : decode cL_isLooked 60 = .ok (.istore 6, 2) := by decide +kernel
theorem dL_isLooked_62 : decode cL_isLooked 62 = .ok (.iload 6, 2) := by decide +kernel
theorem dL_isLooked_64 : decode cL_isLooked 64 = .ok (.ifCond .eq 28, 3) := by decide +kernel
theorem dL_isLooked_67 : decode cL_isLooked 67 = .ok (.iload 5, 2) := by decide +kernel
theorem dL_isLooked_69 : decode cL_isLooked 69 = .ok (.ifCond .eq 19, 3) := by decide +kernel
theorem dL_isLooked_72 : decode cL_isLooked 72 = .ok (.aload_n 0, 1) := by decide +kernel
theorem dL_isLooked_73 : decode cL_isLooked 73 = .ok (.bipush 6, 2) := by decide +kernel
theorem dL_isLooked_75 : decode cL_isLooked 75 = .ok (.iload 5, 2) := by decide +kernel
theorem dL_isLooked_77 : decode cL_isLooked 77 = .ok (.iconst 1, 1) := by decide +kernel
theorem dL_isLooked_78 : decode cL_isLooked 78 = .ok (.isub, 1) := by decide +kernel
theorem dL_isLooked_79 : decode cL_isLooked 79 = .ok (.iconst 0, 1) := by decide +kernel
theorem dL_isLooked_80 : decode cL_isLooked 80 = .ok (.iconst 0, 1) := by decide +kernel
theorem dL_isLooked_81 : decode cL_isLooked 81 = .ok (.iconst 0, 1) := by decide +kernel
theorem dL_isLooked_82 : decode cL_isLooked 82 = .ok (.invokestatic 109, 3) := by decide +kernel
theorem dL_isLooked_85 : decode cL_isLooked 85 = .ok (.ifCond .lt 7, 3) := by decide +kernel
theorem dL_isLooked_88 : decode cL_isLooked 88 = .ok (.iconst 1, 1) := by decide +kernel
theorem dL_isLooked_89 : decode cL_isLooked 89 = .ok (.goto 4, 3) := by decide +kernel
theorem dL_isLooked_92 : decode cL_isLooked 92 = .ok (.iconst 0, 1) := by decide +kernel
theorem dL_isLooked_93 : decode cL_isLooked 93 = .ok (.ireturn, 1) := by decide +kernel
theorem dL_law_0 : decode cL_law 0 = .ok (.new 10, 3) := by decide +kernel
theorem dL_law_3 : decode cL_law 3 = .ok (.dup, 1) := by decide +kernel
theorem dL_law_4 : decode cL_law 4 = .ok (.invokespecial 123, 3) := by decide +kernel
theorem dL_law_7 : decode cL_law 7 = .ok (.astore_n 1, 1) := by decide +kernel
theorem dL_law_8 : decode cL_law 8 = .ok (.bipush 14, 2) := by decide +kernel
theorem dL_law_10 : decode cL_law 10 = .ok (.newarray .int, 2) := by decide +kernel
theorem dL_law_12 : decode cL_law 12 = .ok (.astore_n 2, 1) := by decide +kernel
theorem dL_law_13 : decode cL_law 13 = .ok (.bipush 40, 2) := by decide +kernel
theorem dL_law_15 : decode cL_law 15 = .ok (.newarray .int, 2) := by decide +kernel
theorem dL_law_17 : decode cL_law 17 = .ok (.astore_n 3, 1) := by decide +kernel
theorem dL_law_18 : decode cL_law 18 = .ok (.bipush 40, 2) := by decide +kernel
theorem dL_law_20 : decode cL_law 20 = .ok (.newarray .int, 2) := by decide +kernel
theorem dL_law_22 : decode cL_law 22 = .ok (.astore 4, 2) := by decide +kernel
theorem dL_law_24 : decode cL_law 24 = .ok (.bipush 40, 2) := by decide +kernel
theorem dL_law_26 : decode cL_law 26 = .ok (.newarray .int, 2) := by decide +kernel
theorem dL_law_28 : decode cL_law 28 = .ok (.astore 5, 2) := by decide +kernel
theorem dL_law_30 : decode cL_law 30 = .ok (.aload_n 2, 1) := by decide +kernel
theorem dL_law_31 : decode cL_law 31 = .ok (.iconst 4, 1) := by decide +kernel
theorem dL_law_32 : decode cL_law 32 = .ok (.iconst (-1), 1) := by decide +kernel
theorem dL_law_33 : decode cL_law 33 = .ok (.iastore, 1) := by decide +kernel
theorem dL_law_34 : decode cL_law 34 = .ok (.aload_n 2, 1) := by decide +kernel
theorem dL_law_35 : decode cL_law 35 = .ok (.bipush 12, 2) := by decide +kernel
theorem dL_law_37 : decode cL_law 37 = .ok (.bipush 7, 2) := by decide +kernel
theorem dL_law_39 : decode cL_law 39 = .ok (.iastore, 1) := by decide +kernel
theorem dL_law_40 : decode cL_law 40 = .ok (.aload_n 2, 1) := by decide +kernel
theorem dL_law_41 : decode cL_law 41 = .ok (.bipush 13, 2) := by decide +kernel
theorem dL_law_43 : decode cL_law 43 = .ok (.iconst (-1), 1) := by decide +kernel
theorem dL_law_44 : decode cL_law 44 = .ok (.iastore, 1) := by decide +kernel
theorem dL_law_45 : decode cL_law 45 = .ok (.lconst 0, 1) := by decide +kernel
theorem dL_law_46 : decode cL_law 46 = .ok (.lstore 6, 2) := by decide +kernel
theorem dL_law_48 : decode cL_law 48 = .ok (.iconst 0, 1) := by decide +kernel
theorem dL_law_49 : decode cL_law 49 = .ok (.istore 8, 2) := by decide +kernel
theorem dL_law_51 : decode cL_law 51 = .ok (.iconst (-1), 1) := by decide +kernel
theorem dL_law_52 : decode cL_law 52 = .ok (.istore 9, 2) := by decide +kernel
theorem dL_law_54 : decode cL_law 54 = .ok (.aload_n 1, 1) := by decide +kernel
theorem dL_law_55 : decode cL_law 55 = .ok (.aload_n 2, 1) := by decide +kernel
theorem dL_law_56 : decode cL_law 56 = .ok (.iconst 0, 1) := by decide +kernel
theorem dL_law_57 : decode cL_law 57 = .ok (.invokestatic 124, 3) := by decide +kernel
theorem dL_law_60 : decode cL_law 60 = .ok (.ifCond .eq 49, 3) := by decide +kernel
theorem dL_law_63 : decode cL_law 63 = .ok (.aload_n 1, 1) := by decide +kernel
theorem dL_law_64 : decode cL_law 64 = .ok (.aload_n 2, 1) := by decide +kernel
theorem dL_law_65 : decode cL_law 65 = .ok (.iconst 1, 1) := by decide +kernel
theorem dL_law_66 : decode cL_law 66 = .ok (.invokestatic 124, 3) := by decide +kernel
theorem dL_law_69 : decode cL_law 69 = .ok (.ifCond .eq 40, 3) := by decide +kernel
theorem dL_law_72 : decode cL_law 72 = .ok (.aload_n 1, 1) := by decide +kernel
theorem dL_law_73 : decode cL_law 73 = .ok (.invokevirtual 92, 3) := by decide +kernel
theorem dL_law_76 : decode cL_law 76 = .ok (.ldc2_w 128, 3) := by decide +kernel
theorem dL_law_79 : decode cL_law 79 = .ok (.lcmp, 1) := by decide +kernel
theorem dL_law_80 : decode cL_law 80 = .ok (.ifCond .ne 29, 3) := by decide +kernel
theorem dL_law_83 : decode cL_law 83 = .ok (.aload_n 1, 1) := by decide +kernel
theorem dL_law_84 : decode cL_law 84 = .ok (.invokevirtual 98, 3) := by decide +kernel
theorem dL_law_87 : decode cL_law 87 = .ok (.ifCond .ne 22, 3) := by decide +kernel
theorem dL_law_90 : decode cL_law 90 = .ok (.aload_n 1, 1) := by decide +kernel
theorem dL_law_91 : decode cL_law 91 = .ok (.iconst 3, 1) := by decide +kernel
theorem dL_law_92 : decode cL_law 92 = .ok (.iconst (-1), 1) := by decide +kernel
theorem dL_law_93 : decode cL_law 93 = .ok (.iconst 1, 1) := by decide +kernel
theorem dL_law_94 : decode cL_law 94 = .ok (.iconst 0, 1) := by decide +kernel
theorem dL_law_95 : decode cL_law 95 = .ok (.iconst 0, 1) := by decide +kernel
theorem dL_law_96 : decode cL_law 96 = .ok (.invokestatic 109, 3) := by decide +kernel
theorem dL_law_99 : decode cL_law 99 = .ok (.sipush (-1383), 3) := by decide +kernel
theorem dL_law_102 : decode cL_law 102 = .ok (.if_icmp .ne 7, 3) := by decide +kernel
theorem dL_law_105 : decode cL_law 105 = .ok (.iconst 1, 1) := by decide +kernel
theorem dL_law_106 : decode cL_law 106 = .ok (.goto 4, 3) := by decide +kernel
theorem dL_law_109 : decode cL_law 109 = .ok (.iconst 0, 1) := by decide +kernel
theorem dL_law_110 : decode cL_law 110 = .ok (.istore 10, 2) := by decide +kernel
theorem dL_law_112 : decode cL_law 112 = .ok (.iconst 0, 1) := by decide +kernel
theorem dL_law_113 : decode cL_law 113 = .ok (.istore 11, 2) := by decide +kernel
theorem dL_law_115 : decode cL_law 115 = .ok (.iload 11, 2) := by decide +kernel
theorem dL_law_117 : decode cL_law 117 = .ok (.sipush 130, 3) := by decide +kernel
theorem dL_law_120 : decode cL_law 120 = .ok (.if_icmp .ge 1417, 3) := by decide +kernel
theorem dL_law_123 : decode cL_law 123 = .ok (.iload 10, 2) := by decide +kernel
theorem dL_law_125 : decode cL_law 125 = .ok (.ifCond .eq 1412, 3) := by decide +kernel
theorem dL_law_128 : decode cL_law 128 = .ok (.aload_n 0, 1) := by decide +kernel
theorem dL_law_129 : decode cL_law 129 = .ok (.iload 11, 2) := by decide +kernel
theorem dL_law_131 : decode cL_law 131 = .ok (.invokestatic 130, 3) := by decide +kernel
theorem dL_law_134 : decode cL_law 134 = .ok (.istore 12, 2) := by decide +kernel
theorem dL_law_136 : decode cL_law 136 = .ok (.iload 12, 2) := by decide +kernel
theorem dL_law_138 : decode cL_law 138 = .ok (.bipush 32, 2) := by decide +kernel
theorem dL_law_140 : decode cL_law 140 = .ok (.irem, 1) := by decide +kernel
theorem dL_law_141 : decode cL_law 141 = .ok (.istore 13, 2) := by decide +kernel
theorem dL_law_143 : decode cL_law 143 = .ok (.iload 12, 2) := by decide +kernel
theorem dL_law_145 : decode cL_law 145 = .ok (.bipush 32, 2) := by decide +kernel
theorem dL_law_147 : decode cL_law 147 = .ok (.idiv, 1) := by decide +kernel
theorem dL_law_148 : decode cL_law 148 = .ok (.istore 14, 2) := by decide +kernel
theorem dL_law_150 : decode cL_law 150 = .ok (.aload_n 2, 1) := by decide +kernel
theorem dL_law_151 : decode cL_law 151 = .ok (.iconst 2, 1) := by decide +kernel
theorem dL_law_152 : decode cL_law 152 = .ok (.iaload, 1) := by decide +kernel
theorem dL_law_153 : decode cL_law 153 = .ok (.ifCond .ne 7, 3) := by decide +kernel
theorem dL_law_156 : decode cL_law 156 = .ok (.iconst 0, 1) := by decide +kernel
theorem dL_law_157 : decode cL_law 157 = .ok (.goto 9, 3) := by decide +kernel
theorem dL_law_160 : decode cL_law 160 = .ok (.iload 14, 2) := by decide +kernel
theorem dL_law_162 : decode cL_law 162 = .ok (.aload_n 2, 1) := by decide +kernel
theorem dL_law_163 : decode cL_law 163 = .ok (.iconst 2, 1) := by decide +kernel
theorem dL_law_164 : decode cL_law 164 = .ok (.iaload, 1) := by decide +kernel
theorem dL_law_165 : decode cL_law 165 = .ok (.irem, 1) := by decide +kernel
theorem dL_law_166 : decode cL_law 166 = .ok (.istore 15, 2) := by decide +kernel
theorem dL_law_168 : decode cL_law 168 = .ok (.iload 13, 2) := by decide +kernel
theorem dL_law_170 : decode cL_law 170 = .ok (.iconst 2, 1) := by decide +kernel
theorem dL_law_171 : decode cL_law 171 = .ok (.if_icmp .lt 9, 3) := by decide +kernel
theorem dL_law_174 : decode cL_law 174 = .ok (.aload_n 2, 1) := by decide +kernel
theorem dL_law_175 : decode cL_law 175 = .ok (.iconst 1, 1) := by decide +kernel
theorem dL_law_176 : decode cL_law 176 = .ok (.iaload, 1) := by decide +kernel
theorem dL_law_177 : decode cL_law 177 = .ok (.ifCond .ne 79, 3) := by decide +kernel
theorem dL_law_180 : decode cL_law 180 = .ok (.aload_n 1, 1) := by decide +kernel
theorem dL_law_181 : decode cL_law 181 = .ok (.iconst 1, 1) := by decide +kernel
theorem dL_law_182 : decode cL_law 182 = .ok (.iconst 0, 1) := by decide +kernel
theorem dL_law_183 : decode cL_law 183 = .ok (.iconst 0, 1) := by decide +kernel
theorem dL_law_184 : decode cL_law 184 = .ok (.iconst 0, 1) := by decide +kernel
theorem dL_law_185 : decode cL_law 185 = .ok (.iconst 0, 1) := by decide +kernel
theorem dL_law_186 : decode cL_law 186 = .ok (.invokestatic 109, 3) := by decide +kernel
theorem dL_law_189 : decode cL_law 189 = .ok (.istore 16, 2) := by decide +kernel
theorem dL_law_191 : decode cL_law 191 = .ok (.iload 16, 2) := by decide +kernel
theorem dL_law_193 : decode cL_law 193 = .ok (.aload_n 2, 1) := by decide +kernel
theorem dL_law_194 : decode cL_law 194 = .ok (.iconst 1, 1) := by decide +kernel
theorem dL_law_195 : decode cL_law 195 = .ok (.iaload, 1) := by decide +kernel
theorem dL_law_196 : decode cL_law 196 = .ok (.bipush 10, 2) := by decide +kernel
theorem dL_law_198 : decode cL_law 198 = .ok (.if_icmp .ne 9, 3) := by decide +kernel
theorem dL_law_201 : decode cL_law 201 = .ok (.sipush (-1383), 3) := by decide +kernel
theorem dL_law_204 : decode cL_law 204 = .ok (.goto 6, 3) := by decide +kernel
theorem dL_law_207 : decode cL_law 207 = .ok (.aload_n 2, 1) := by decide +kernel
theorem dL_law_208 : decode cL_law 208 = .ok (.iconst 1, 1) := by decide +kernel
theorem dL_law_209 : decode cL_law 209 = .ok (.iaload, 1) := by decide +kernel
theorem dL_law_210 : decode cL_law 210 = .ok (.if_icmp .ne 7, 3) := by decide +kernel
theorem dL_law_213 : decode cL_law 213 = .ok (.iconst 1, 1) := by decide +kernel
theorem dL_law_214 : decode cL_law 214 = .ok (.goto 4, 3) := by decide +kernel
theorem dL_law_217 : decode cL_law 217 = .ok (.iconst 0, 1) := by decide +kernel
theorem dL_law_218 : decode cL_law 218 = .ok (.istore 10, 2) := by decide +kernel
theorem dL_law_220 : decode cL_law 220 = .ok (.aload_n 2, 1) := by decide +kernel
theorem dL_law_221 : decode cL_law 221 = .ok (.iconst 4, 1) := by decide +kernel
theorem dL_law_222 : decode cL_law 222 = .ok (.iload 16, 2) := by decide +kernel
theorem dL_law_224 : decode cL_law 224 = .ok (.ifCond .ge 9, 3) := by decide +kernel
theorem dL_law_227 : decode cL_law 227 = .ok (.aload_n 2, 1) := by decide +kernel
theorem dL_law_228 : decode cL_law 228 = .ok (.iconst 4, 1) := by decide +kernel
theorem dL_law_229 : decode cL_law 229 = .ok (.iaload, 1) := by decide +kernel
theorem dL_law_230 : decode cL_law 230 = .ok (.goto 6, 3) := by decide +kernel
theorem dL_law_233 : decode cL_law 233 = .ok (.aload_n 2, 1) := by decide +kernel
theorem dL_law_234 : decode cL_law 234 = .ok (.iconst 0, 1) := by decide +kernel
theorem dL_law_235 : decode cL_law 235 = .ok (.iaload, 1) := by decide +kernel
theorem dL_law_236 : decode cL_law 236 = .ok (.iastore, 1) := by decide +kernel
theorem dL_law_237 : decode cL_law 237 = .ok (.aload_n 2, 1) := by decide +kernel
theorem dL_law_238 : decode cL_law 238 = .ok (.iconst 1, 1) := by decide +kernel
theorem dL_law_239 : decode cL_law 239 = .ok (.dup2, 1) := by decide +kernel
theorem dL_law_240 : decode cL_law 240 = .ok (.iaload, 1) := by decide +kernel
theorem dL_law_241 : decode cL_law 241 = .ok (.iload 16, 2) := by decide +kernel
theorem dL_law_243 : decode cL_law 243 = .ok (.ifCond .ge 7, 3) := by decide +kernel
theorem dL_law_246 : decode cL_law 246 = .ok (.iconst 0, 1) := by decide +kernel
theorem dL_law_247 : decode cL_law 247 = .ok (.goto 4, 3) := by decide +kernel
theorem dL_law_250 : decode cL_law 250 = .ok (.iconst 1, 1) := by decide +kernel
theorem dL_law_251 : decode cL_law 251 = .ok (.iadd, 1) := by decide +kernel
theorem dL_law_252 : decode cL_law 252 = .ok (.iastore, 1) := by decide +kernel
theorem dL_law_253 : decode cL_law 253 = .ok (.goto 1224, 3) := by decide +kernel
theorem dL_law_256 : decode cL_law 256 = .ok (.iload 13, 2) := by decide +kernel
theorem dL_law_258 : decode cL_law 258 = .ok (.bipush 13, 2) := by decide +kernel
theorem dL_law_260 : decode cL_law 260 = .ok (.if_icmp .ge 526, 3) := by decide +kernel
theorem dL_law_263 : decode cL_law 263 = .ok (.iload 13, 2) := by decide +kernel
theorem dL_law_265 : decode cL_law 265 = .ok (.bipush 6, 2) := by decide +kernel
theorem dL_law_267 : decode cL_law 267 = .ok (.if_icmp .ge 7, 3) := by decide +kernel
theorem dL_law_270 : decode cL_law 270 = .ok (.iconst 1, 1) := by decide +kernel
