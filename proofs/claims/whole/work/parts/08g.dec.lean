/-! decode rows -/
theorem dX7_beginAnew_6 : decode cX7_beginAnew 6 = .ok (.iconst 0, 1) := by decide +kernel
theorem dX7_beginAnew_7 : decode cX7_beginAnew 7 = .ok (.iastore, 1) := by decide +kernel
theorem dX7_beginAnew_8 : decode cX7_beginAnew 8 = .ok (.aload_n 0, 1) := by decide +kernel
theorem dX7_beginAnew_9 : decode cX7_beginAnew 9 = .ok (.getfield 7, 3) := by decide +kernel
theorem dX7_beginAnew_12 : decode cX7_beginAnew 12 = .ok (.bipush 11, 2) := by decide +kernel
theorem dX7_beginAnew_14 : decode cX7_beginAnew 14 = .ok (.iconst 0, 1) := by decide +kernel
theorem dX7_beginAnew_15 : decode cX7_beginAnew 15 = .ok (.iastore, 1) := by decide +kernel
theorem dX7_beginAnew_16 : decode cX7_beginAnew 16 = .ok (.aload_n 0, 1) := by decide +kernel
theorem dX7_beginAnew_17 : decode cX7_beginAnew 17 = .ok (.getfield 7, 3) := by decide +kernel
theorem dX7_beginAnew_20 : decode cX7_beginAnew 20 = .ok (.bipush 12, 2) := by decide +kernel
theorem dX7_beginAnew_22 : decode cX7_beginAnew 22 = .ok (.iconst 0, 1) := by decide +kernel
theorem dX7_beginAnew_23 : decode cX7_beginAnew 23 = .ok (.iastore, 1) := by decide +kernel
theorem dX7_beginAnew_24 : decode cX7_beginAnew 24 = .ok (.return_, 1) := by decide +kernel
theorem dX7_longest_0 : decode cX7_longest 0 = .ok (.iconst (-1), 1) := by decide +kernel
theorem dX7_longest_1 : decode cX7_longest 1 = .ok (.istore_n 1, 1) := by decide +kernel
theorem dX7_longest_2 : decode cX7_longest 2 = .ok (.iconst 0, 1) := by decide +kernel
theorem dX7_longest_3 : decode cX7_longest 3 = .ok (.istore_n 2, 1) := by decide +kernel
theorem dX7_longest_4 : decode cX7_longest 4 = .ok (.iload_n 2, 1) := by decide +kernel
theorem dX7_longest_5 : decode cX7_longest 5 = .ok (.aload_n 0, 1) := by decide +kernel
theorem dX7_longest_6 : decode cX7_longest 6 = .ok (.getfield 7, 3) := by decide +kernel
theorem dX7_longest_9 : decode cX7_longest 9 = .ok (.bipush 14, 2) := by decide +kernel
theorem dX7_longest_11 : decode cX7_longest 11 = .ok (.iaload, 1) := by decide +kernel
theorem dX7_longest_12 : decode cX7_longest 12 = .ok (.if_icmp .ge 63, 3) := by decide +kernel
theorem dX7_longest_15 : decode cX7_longest 15 = .ok (.aload_n 0, 1) := by decide +kernel
theorem dX7_longest_16 : decode cX7_longest 16 = .ok (.iload_n 2, 1) := by decide +kernel
theorem dX7_longest_17 : decode cX7_longest 17 = .ok (.invokevirtual 82, 3) := by decide +kernel
theorem dX7_longest_20 : decode cX7_longest 20 = .ok (.ifCond .eq 17, 3) := by decide +kernel
theorem dX7_longest_23 : decode cX7_longest 23 = .ok (.iload_n 2, 1) := by decide +kernel
theorem dX7_longest_24 : decode cX7_longest 24 = .ok (.aload_n 0, 1) := by decide +kernel
theorem dX7_longest_25 : decode cX7_longest 25 = .ok (.getfield 7, 3) := by decide +kernel
theorem dX7_longest_28 : decode cX7_longest 28 = .ok (.iconst 4, 1) := by decide +kernel
theorem dX7_longest_29 : decode cX7_longest 29 = .ok (.iaload, 1) := by decide +kernel
theorem dX7_longest_30 : decode cX7_longest 30 = .ok (.if_icmp .eq 7, 3) := by decide +kernel
theorem dX7_longest_33 : decode cX7_longest 33 = .ok (.iconst 1, 1) := by decide +kernel
theorem dX7_longest_34 : decode cX7_longest 34 = .ok (.goto 4, 3) := by decide +kernel
theorem dX7_longest_37 : decode cX7_longest 37 = .ok (.iconst 0, 1) := by decide +kernel
theorem dX7_longest_38 : decode cX7_longest 38 = .ok (.istore_n 3, 1) := by decide +kernel
theorem dX7_longest_39 : decode cX7_longest 39 = .ok (.iload_n 3, 1) := by decide +kernel
theorem dX7_longest_40 : decode cX7_longest 40 = .ok (.ifCond .eq 27, 3) := by decide +kernel
theorem dX7_longest_43 : decode cX7_longest 43 = .ok (.iload_n 1, 1) := by decide +kernel
theorem dX7_longest_44 : decode cX7_longest 44 = .ok (.iconst (-1), 1) := by decide +kernel
theorem dX7_longest_45 : decode cX7_longest 45 = .ok (.if_icmp .eq 18, 3) := by decide +kernel
theorem dX7_longest_48 : decode cX7_longest 48 = .ok (.aload_n 0, 1) := by decide +kernel
theorem dX7_longest_49 : decode cX7_longest 49 = .ok (.iload_n 2, 1) := by decide +kernel
theorem dX7_longest_50 : decode cX7_longest 50 = .ok (.iconst 5, 1) := by decide +kernel
theorem dX7_longest_51 : decode cX7_longest 51 = .ok (.invokevirtual 78, 3) := by decide +kernel
theorem dX7_longest_54 : decode cX7_longest 54 = .ok (.aload_n 0, 1) := by decide +kernel
theorem dX7_longest_55 : decode cX7_longest 55 = .ok (.iload_n 1, 1) := by decide +kernel
theorem dX7_longest_56 : decode cX7_longest 56 = .ok (.iconst 5, 1) := by decide +kernel
theorem dX7_longest_57 : decode cX7_longest 57 = .ok (.invokevirtual 78, 3) := by decide +kernel
theorem dX7_longest_60 : decode cX7_longest 60 = .ok (.if_icmp .le 7, 3) := by decide +kernel
theorem dX7_longest_63 : decode cX7_longest 63 = .ok (.iload_n 2, 1) := by decide +kernel
theorem dX7_longest_64 : decode cX7_longest 64 = .ok (.goto 4, 3) := by decide +kernel
theorem dX7_longest_67 : decode cX7_longest 67 = .ok (.iload_n 1, 1) := by decide +kernel
theorem dX7_longest_68 : decode cX7_longest 68 = .ok (.istore_n 1, 1) := by decide +kernel
theorem dX7_longest_69 : decode cX7_longest 69 = .ok (.iinc 2 1, 3) := by decide +kernel
theorem dX7_longest_72 : decode cX7_longest 72 = .ok (.goto (-68), 3) := by decide +kernel
theorem dX7_longest_75 : decode cX7_longest 75 = .ok (.iload_n 1, 1) := by decide +kernel
theorem dX7_longest_76 : decode cX7_longest 76 = .ok (.ireturn, 1) := by decide +kernel
theorem dX7_cascade_0 : decode cX7_cascade 0 = .ok (.aload_n 0, 1) := by decide +kernel
theorem dX7_cascade_1 : decode cX7_cascade 1 = .ok (.getfield 7, 3) := by decide +kernel
theorem dX7_cascade_4 : decode cX7_cascade 4 = .ok (.bipush 10, 2) := by decide +kernel
theorem dX7_cascade_6 : decode cX7_cascade 6 = .ok (.iaload, 1) := by decide +kernel
theorem dX7_cascade_7 : decode cX7_cascade 7 = .ok (.aload_n 0, 1) := by decide +kernel
theorem dX7_cascade_8 : decode cX7_cascade 8 = .ok (.iconst 5, 1) := by decide +kernel
theorem dX7_cascade_9 : decode cX7_cascade 9 = .ok (.invokevirtual 66, 3) := by decide +kernel
theorem dX7_cascade_12 : decode cX7_cascade 12 = .ok (.if_icmp .lt 28, 3) := by decide +kernel
theorem dX7_cascade_15 : decode cX7_cascade 15 = .ok (.aload_n 0, 1) := by decide +kernel
theorem dX7_cascade_16 : decode cX7_cascade 16 = .ok (.iconst 0, 1) := by decide +kernel
theorem dX7_cascade_17 : decode cX7_cascade 17 = .ok (.invokevirtual 133, 3) := by decide +kernel
theorem dX7_cascade_20 : decode cX7_cascade 20 = .ok (.iconst (-1), 1) := by decide +kernel
theorem dX7_cascade_21 : decode cX7_cascade 21 = .ok (.if_icmp .eq 19, 3) := by decide +kernel
theorem dX7_cascade_24 : decode cX7_cascade 24 = .ok (.aload_n 0, 1) := by decide +kernel
theorem dX7_cascade_25 : decode cX7_cascade 25 = .ok (.aload_n 0, 1) := by decide +kernel
theorem dX7_cascade_26 : decode cX7_cascade 26 = .ok (.iconst 0, 1) := by decide +kernel
theorem dX7_cascade_27 : decode cX7_cascade 27 = .ok (.invokevirtual 133, 3) := by decide +kernel
theorem dX7_cascade_30 : decode cX7_cascade 30 = .ok (.invokevirtual 175, 3) := by decide +kernel
theorem dX7_cascade_33 : decode cX7_cascade 33 = .ok (.aload_n 0, 1) := by decide +kernel
theorem dX7_cascade_34 : decode cX7_cascade 34 = .ok (.invokevirtual 178, 3) := by decide +kernel
theorem dX7_cascade_37 : decode cX7_cascade 37 = .ok (.goto 78, 3) := by decide +kernel
theorem dX7_cascade_40 : decode cX7_cascade 40 = .ok (.aload_n 0, 1) := by decide +kernel
theorem dX7_cascade_41 : decode cX7_cascade 41 = .ok (.getfield 7, 3) := by decide +kernel
theorem dX7_cascade_44 : decode cX7_cascade 44 = .ok (.bipush 11, 2) := by decide +kernel
theorem dX7_cascade_46 : decode cX7_cascade 46 = .ok (.iaload, 1) := by decide +kernel
theorem dX7_cascade_47 : decode cX7_cascade 47 = .ok (.aload_n 0, 1) := by decide +kernel
theorem dX7_cascade_48 : decode cX7_cascade 48 = .ok (.bipush 6, 2) := by decide +kernel
theorem dX7_cascade_50 : decode cX7_cascade 50 = .ok (.invokevirtual 66, 3) := by decide +kernel
theorem dX7_cascade_53 : decode cX7_cascade 53 = .ok (.if_icmp .lt 26, 3) := by decide +kernel
theorem dX7_cascade_56 : decode cX7_cascade 56 = .ok (.aload_n 0, 1) := by decide +kernel
theorem dX7_cascade_57 : decode cX7_cascade 57 = .ok (.invokevirtual 181, 3) := by decide +kernel
theorem dX7_cascade_60 : decode cX7_cascade 60 = .ok (.iconst (-1), 1) := by decide +kernel
theorem dX7_cascade_61 : decode cX7_cascade 61 = .ok (.if_icmp .eq 18, 3) := by decide +kernel
theorem dX7_cascade_64 : decode cX7_cascade 64 = .ok (.aload_n 0, 1) := by decide +kernel
theorem dX7_cascade_65 : decode cX7_cascade 65 = .ok (.aload_n 0, 1) := by decide +kernel
theorem dX7_cascade_66 : decode cX7_cascade 66 = .ok (.invokevirtual 181, 3) := by decide +kernel
theorem dX7_cascade_69 : decode cX7_cascade 69 = .ok (.invokevirtual 116, 3) := by decide +kernel
theorem dX7_cascade_72 : decode cX7_cascade 72 = .ok (.aload_n 0, 1) := by decide +kernel
theorem dX7_cascade_73 : decode cX7_cascade 73 = .ok (.invokevirtual 178, 3) := by decide +kernel
theorem dX7_cascade_76 : decode cX7_cascade 76 = .ok (.goto 39, 3) := by decide +kernel
theorem dX7_cascade_79 : decode cX7_cascade 79 = .ok (.aload_n 0, 1) := by decide +kernel
theorem dX7_cascade_80 : decode cX7_cascade 80 = .ok (.getfield 7, 3) := by decide +kernel
theorem dX7_cascade_83 : decode cX7_cascade 83 = .ok (.bipush 12, 2) := by decide +kernel
theorem dX7_cascade_85 : decode cX7_cascade 85 = .ok (.iaload, 1) := by decide +kernel
theorem dX7_cascade_86 : decode cX7_cascade 86 = .ok (.aload_n 0, 1) := by decide +kernel
theorem dX7_cascade_87 : decode cX7_cascade 87 = .ok (.bipush 8, 2) := by decide +kernel
theorem dX7_cascade_89 : decode cX7_cascade 89 = .ok (.invokevirtual 66, 3) := by decide +kernel
theorem dX7_cascade_92 : decode cX7_cascade 92 = .ok (.if_icmp .lt 23, 3) := by decide +kernel
theorem dX7_cascade_95 : decode cX7_cascade 95 = .ok (.aload_n 0, 1) := by decide +kernel
theorem dX7_cascade_96 : decode cX7_cascade 96 = .ok (.aload_n 0, 1) := by decide +kernel
theorem dX7_cascade_97 : decode cX7_cascade 97 = .ok (.getfield 7, 3) := by decide +kernel
theorem dX7_cascade_100 : decode cX7_cascade 100 = .ok (.iconst 4, 1) := by decide +kernel
theorem dX7_cascade_101 : decode cX7_cascade 101 = .ok (.iaload, 1) := by decide +kernel
theorem dX7_cascade_102 : decode cX7_cascade 102 = .ok (.invokevirtual 116, 3) := by decide +kernel
theorem dX7_cascade_105 : decode cX7_cascade 105 = .ok (.aload_n 0, 1) := by decide +kernel
theorem dX7_cascade_106 : decode cX7_cascade 106 = .ok (.iconst 2, 1) := by decide +kernel
theorem dX7_cascade_107 : decode cX7_cascade 107 = .ok (.iconst (-1), 1) := by decide +kernel
theorem dX7_cascade_108 : decode cX7_cascade 108 = .ok (.invokevirtual 105, 3) := by decide +kernel
theorem dX7_cascade_111 : decode cX7_cascade 111 = .ok (.aload_n 0, 1) := by decide +kernel
theorem dX7_cascade_112 : decode cX7_cascade 112 = .ok (.invokevirtual 178, 3) := by decide +kernel
theorem dX7_cascade_115 : decode cX7_cascade 115 = .ok (.return_, 1) := by decide +kernel
theorem dX7_rotate_0 : decode cX7_rotate 0 = .ok (.aload_n 0, 1) := by decide +kernel
theorem dX7_rotate_1 : decode cX7_rotate 1 = .ok (.getfield 7, 3) := by decide +kernel
theorem dX7_rotate_4 : decode cX7_rotate 4 = .ok (.iconst 4, 1) := by decide +kernel
theorem dX7_rotate_5 : decode cX7_rotate 5 = .ok (.iaload, 1) := by decide +kernel
theorem dX7_rotate_6 : decode cX7_rotate 6 = .ok (.istore_n 1, 1) := by decide +kernel
theorem dX7_rotate_7 : decode cX7_rotate 7 = .ok (.aload_n 0, 1) := by decide +kernel
theorem dX7_rotate_8 : decode cX7_rotate 8 = .ok (.bipush 18, 2) := by decide +kernel
theorem dX7_rotate_10 : decode cX7_rotate 10 = .ok (.invokevirtual 66, 3) := by decide +kernel
theorem dX7_rotate_13 : decode cX7_rotate 13 = .ok (.ifCond .eq 24, 3) := by decide +kernel
theorem dX7_rotate_16 : decode cX7_rotate 16 = .ok (.iload_n 1, 1) := by decide +kernel
theorem dX7_rotate_17 : decode cX7_rotate 17 = .ok (.iconst (-1), 1) := by decide +kernel
theorem dX7_rotate_18 : decode cX7_rotate 18 = .ok (.if_icmp .eq 19, 3) := by decide +kernel
theorem dX7_rotate_21 : decode cX7_rotate 21 = .ok (.aload_n 0, 1) := by decide +kernel
theorem dX7_rotate_22 : decode cX7_rotate 22 = .ok (.iload_n 1, 1) := by decide +kernel
theorem dX7_rotate_23 : decode cX7_rotate 23 = .ok (.bipush 6, 2) := by decide +kernel
theorem dX7_rotate_25 : decode cX7_rotate 25 = .ok (.invokevirtual 78, 3) := by decide +kernel
theorem dX7_rotate_28 : decode cX7_rotate 28 = .ok (.aload_n 0, 1) := by decide +kernel
theorem dX7_rotate_29 : decode cX7_rotate 29 = .ok (.bipush 18, 2) := by decide +kernel
theorem dX7_rotate_31 : decode cX7_rotate 31 = .ok (.invokevirtual 66, 3) := by decide +kernel
theorem dX7_rotate_34 : decode cX7_rotate 34 = .ok (.if_icmp .ge 4, 3) := by decide +kernel
theorem dX7_rotate_37 : decode cX7_rotate 37 = .ok (.return_, 1) := by decide +kernel
theorem dX7_rotate_38 : decode cX7_rotate 38 = .ok (.iconst (-1), 1) := by decide +kernel
theorem dX7_rotate_39 : decode cX7_rotate 39 = .ok (.istore_n 2, 1) := by decide +kernel
theorem dX7_rotate_40 : decode cX7_rotate 40 = .ok (.iconst 0, 1) := by decide +kernel
theorem dX7_rotate_41 : decode cX7_rotate 41 = .ok (.istore_n 3, 1) := by decide +kernel
theorem dX7_rotate_42 : decode cX7_rotate 42 = .ok (.iload_n 3, 1) := by decide +kernel
theorem dX7_rotate_43 : decode cX7_rotate 43 = .ok (.aload_n 0, 1) := by decide +kernel
theorem dX7_rotate_44 : decode cX7_rotate 44 = .ok (.getfield 7, 3) := by decide +kernel
theorem dX7_rotate_47 : decode cX7_rotate 47 = .ok (.bipush 14, 2) := by decide +kernel
theorem dX7_rotate_49 : decode cX7_rotate 49 = .ok (.iaload, 1) := by decide +kernel
theorem dX7_rotate_50 : decode cX7_rotate 50 = .ok (.if_icmp .ge 79, 3) := by decide +kernel
theorem dX7_rotate_53 : decode cX7_rotate 53 = .ok (.aload_n 0, 1) := by decide +kernel
theorem dX7_rotate_54 : decode cX7_rotate 54 = .ok (.iload_n 3, 1) := by decide +kernel
theorem dX7_rotate_55 : decode cX7_rotate 55 = .ok (.invokevirtual 96, 3) := by decide +kernel
theorem dX7_rotate_58 : decode cX7_rotate 58 = .ok (.ifCond .eq 31, 3) := by decide +kernel
theorem dX7_rotate_61 : decode cX7_rotate 61 = .ok (.aload_n 0, 1) := by decide +kernel
theorem dX7_rotate_62 : decode cX7_rotate 62 = .ok (.iload_n 3, 1) := by decide +kernel
theorem dX7_rotate_63 : decode cX7_rotate 63 = .ok (.iconst 0, 1) := by decide +kernel
theorem dX7_rotate_64 : decode cX7_rotate 64 = .ok (.invokevirtual 78, 3) := by decide +kernel
theorem dX7_rotate_67 : decode cX7_rotate 67 = .ok (.ifCond .eq 22, 3) := by decide +kernel
theorem dX7_rotate_70 : decode cX7_rotate 70 = .ok (.aload_n 0, 1) := by decide +kernel
theorem dX7_rotate_71 : decode cX7_rotate 71 = .ok (.iload_n 3, 1) := by decide +kernel
theorem dX7_rotate_72 : decode cX7_rotate 72 = .ok (.iconst 5, 1) := by decide +kernel
theorem dX7_rotate_73 : decode cX7_rotate 73 = .ok (.invokevirtual 78, 3) := by decide +kernel
theorem dX7_rotate_76 : decode cX7_rotate 76 = .ok (.aload_n 0, 1) := by decide +kernel
theorem dX7_rotate_77 : decode cX7_rotate 77 = .ok (.iload_n 1, 1) := by decide +kernel
theorem dX7_rotate_78 : decode cX7_rotate 78 = .ok (.iconst 5, 1) := by decide +kernel
theorem dX7_rotate_79 : decode cX7_rotate 79 = .ok (.invokevirtual 78, 3) := by decide +kernel
theorem dX7_rotate_82 : decode cX7_rotate 82 = .ok (.if_icmp .ge 7, 3) := by decide +kernel
theorem dX7_rotate_85 : decode cX7_rotate 85 = .ok (.iconst 1, 1) := by decide +kernel
theorem dX7_rotate_86 : decode cX7_rotate 86 = .ok (.goto 4, 3) := by decide +kernel
theorem dX7_rotate_89 : decode cX7_rotate 89 = .ok (.iconst 0, 1) := by decide +kernel
theorem dX7_rotate_90 : decode cX7_rotate 90 = .ok (.istore 4, 2) := by decide +kernel
theorem dX7_rotate_92 : decode cX7_rotate 92 = .ok (.iload 4, 2) := by decide +kernel
theorem dX7_rotate_94 : decode cX7_rotate 94 = .ok (.ifCond .eq 27, 3) := by decide +kernel
theorem dX7_rotate_97 : decode cX7_rotate 97 = .ok (.iload_n 2, 1) := by decide +kernel
theorem dX7_rotate_98 : decode cX7_rotate 98 = .ok (.iconst (-1), 1) := by decide +kernel
theorem dX7_rotate_99 : decode cX7_rotate 99 = .ok (.if_icmp .eq 18, 3) := by decide +kernel
theorem dX7_rotate_102 : decode cX7_rotate 102 = .ok (.aload_n 0, 1) := by decide +kernel
theorem dX7_rotate_103 : decode cX7_rotate 103 = .ok (.iload_n 3, 1) := by decide +kernel
theorem dX7_rotate_104 : decode cX7_rotate 104 = .ok (.iconst 5, 1) := by decide +kernel
theorem dX7_rotate_105 : decode cX7_rotate 105 = .ok (.invokevirtual 78, 3) := by decide +kernel
theorem dX7_rotate_108 : decode cX7_rotate 108 = .ok (.aload_n 0, 1) := by decide +kernel
theorem dX7_rotate_109 : decode cX7_rotate 109 = .ok (.iload_n 2, 1) := by decide +kernel
theorem dX7_rotate_110 : decode cX7_rotate 110 = .ok (.iconst 5, 1) := by decide +kernel
theorem dX7_rotate_111 : decode cX7_rotate 111 = .ok (.invokevirtual 78, 3) := by decide +kernel
theorem dX7_rotate_114 : decode cX7_rotate 114 = .ok (.if_icmp .ge 7, 3) := by decide +kernel
theorem dX7_rotate_117 : decode cX7_rotate 117 = .ok (.iload_n 3, 1) := by decide +kernel
theorem dX7_rotate_118 : decode cX7_rotate 118 = .ok (.goto 4, 3) := by decide +kernel
theorem dX7_rotate_121 : decode cX7_rotate 121 = .ok (.iload_n 2, 1) := by decide +kernel
theorem dX7_rotate_122 : decode cX7_rotate 122 = .ok (.istore_n 2, 1) := by decide +kernel
theorem dX7_rotate_123 : decode cX7_rotate 123 = .ok (.iinc 3 1, 3) := by decide +kernel
theorem dX7_rotate_126 : decode cX7_rotate 126 = .ok (.goto (-84), 3) := by decide +kernel
theorem dX7_rotate_129 : decode cX7_rotate 129 = .ok (.iload_n 2, 1) := by decide +kernel
theorem dX7_rotate_130 : decode cX7_rotate 130 = .ok (.iconst (-1), 1) := by decide +kernel
theorem dX7_rotate_131 : decode cX7_rotate 131 = .ok (.if_icmp .eq 27, 3) := by decide +kernel
theorem dX7_rotate_134 : decode cX7_rotate 134 = .ok (.aload_n 0, 1) := by decide +kernel
theorem dX7_rotate_135 : decode cX7_rotate 135 = .ok (.iload_n 2, 1) := by decide +kernel
theorem dX7_rotate_136 : decode cX7_rotate 136 = .ok (.aload_n 0, 1) := by decide +kernel
theorem dX7_rotate_137 : decode cX7_rotate 137 = .ok (.iload_n 1, 1) := by decide +kernel
theorem dX7_rotate_138 : decode cX7_rotate 138 = .ok (.iconst 4, 1) := by decide +kernel
theorem dX7_rotate_139 : decode cX7_rotate 139 = .ok (.invokevirtual 78, 3) := by decide +kernel
theorem dX7_rotate_142 : decode cX7_rotate 142 = .ok (.iconst 1, 1) := by decide +kernel
theorem dX7_rotate_143 : decode cX7_rotate 143 = .ok (.invokevirtual 109, 3) := by decide +kernel
theorem dX7_rotate_146 : decode cX7_rotate 146 = .ok (.aload_n 0, 1) := by decide +kernel
theorem dX7_rotate_147 : decode cX7_rotate 147 = .ok (.bipush 7, 2) := by decide +kernel
theorem dX7_rotate_149 : decode cX7_rotate 149 = .ok (.iload_n 2, 1) := by decide +kernel
theorem dX7_rotate_150 : decode cX7_rotate 150 = .ok (.invokevirtual 105, 3) := by decide +kernel
theorem dX7_rotate_153 : decode cX7_rotate 153 = .ok (.aload_n 0, 1) := by decide +kernel
theorem dX7_rotate_154 : decode cX7_rotate 154 = .ok (.iload_n 1, 1) := by decide +kernel
theorem dX7_rotate_155 : decode cX7_rotate 155 = .ok (.invokevirtual 116, 3) := by decide +kernel
theorem dX7_rotate_158 : decode cX7_rotate 158 = .ok (.return_, 1) := by decide +kernel
theorem dX7_minute_0 : decode cX7_minute 0 = .ok (.aload_n 0, 1) := by decide +kernel
theorem dX7_minute_1 : decode cX7_minute 1 = .ok (.getfield 7, 3) := by decide +kernel
theorem dX7_minute_4 : decode cX7_minute 4 = .ok (.iconst 0, 1) := by decide +kernel
theorem dX7_minute_5 : decode cX7_minute 5 = .ok (.dup2, 1) := by decide +kernel
theorem dX7_minute_6 : decode cX7_minute 6 = .ok (.iaload, 1) := by decide +kernel
theorem dX7_minute_7 : decode cX7_minute 7 = .ok (.iconst 1, 1) := by decide +kernel
theorem dX7_minute_8 : decode cX7_minute 8 = .ok (.iadd, 1) := by decide +kernel
theorem dX7_minute_9 : decode cX7_minute 9 = .ok (.iastore, 1) := by decide +kernel
theorem dX7_minute_10 : decode cX7_minute 10 = .ok (.aload_n 0, 1) := by decide +kernel
theorem dX7_minute_11 : decode cX7_minute 11 = .ok (.invokevirtual 184, 3) := by decide +kernel
theorem dX7_minute_14 : decode cX7_minute 14 = .ok (.aload_n 0, 1) := by decide +kernel
theorem dX7_minute_15 : decode cX7_minute 15 = .ok (.invokevirtual 187, 3) := by decide +kernel
theorem dX7_minute_18 : decode cX7_minute 18 = .ok (.aload_n 0, 1) := by decide +kernel
theorem dX7_minute_19 : decode cX7_minute 19 = .ok (.invokevirtual 190, 3) := by decide +kernel
theorem dX7_minute_22 : decode cX7_minute 22 = .ok (.aload_n 0, 1) := by decide +kernel
theorem dX7_minute_23 : decode cX7_minute 23 = .ok (.invokevirtual 193, 3) := by decide +kernel
theorem dX7_minute_26 : decode cX7_minute 26 = .ok (.aload_n 0, 1) := by decide +kernel
theorem dX7_minute_27 : decode cX7_minute 27 = .ok (.getfield 7, 3) := by decide +kernel
theorem dX7_minute_30 : decode cX7_minute 30 = .ok (.iconst 5, 1) := by decide +kernel
theorem dX7_minute_31 : decode cX7_minute 31 = .ok (.iaload, 1) := by decide +kernel
theorem dX7_minute_32 : decode cX7_minute 32 = .ok (.iconst 1, 1) := by decide +kernel
theorem dX7_minute_33 : decode cX7_minute 33 = .ok (.if_icmp .ne 8, 3) := by decide +kernel
theorem dX7_minute_36 : decode cX7_minute 36 = .ok (.aload_n 0, 1) := by decide +kernel
theorem dX7_minute_37 : decode cX7_minute 37 = .ok (.invokevirtual 178, 3) := by decide +kernel
theorem dX7_minute_40 : decode cX7_minute 40 = .ok (.return_, 1) := by decide +kernel
theorem dX7_minute_41 : decode cX7_minute 41 = .ok (.aload_n 0, 1) := by decide +kernel
theorem dX7_minute_42 : decode cX7_minute 42 = .ok (.invokevirtual 196, 3) := by decide +kernel
theorem dX7_minute_45 : decode cX7_minute 45 = .ok (.aload_n 0, 1) := by decide +kernel
theorem dX7_minute_46 : decode cX7_minute 46 = .ok (.invokevirtual 92, 3) := by decide +kernel
theorem dX7_minute_49 : decode cX7_minute 49 = .ok (.ifCond .ne 48, 3) := by decide +kernel
theorem dX7_minute_52 : decode cX7_minute 52 = .ok (.aload_n 0, 1) := by decide +kernel
theorem dX7_minute_53 : decode cX7_minute 53 = .ok (.getfield 7, 3) := by decide +kernel
theorem dX7_minute_56 : decode cX7_minute 56 = .ok (.iconst 1, 1) := by decide +kernel
theorem dX7_minute_57 : decode cX7_minute 57 = .ok (.iaload, 1) := by decide +kernel
theorem dX7_minute_58 : decode cX7_minute 58 = .ok (.aload_n 0, 1) := by decide +kernel
theorem dX7_minute_59 : decode cX7_minute 59 = .ok (.iconst 0, 1) := by decide +kernel
theorem dX7_minute_60 : decode cX7_minute 60 = .ok (.invokevirtual 66, 3) := by decide +kernel
theorem dX7_minute_63 : decode cX7_minute 63 = .ok (.aload_n 0, 1) := by decide +kernel
theorem dX7_minute_64 : decode cX7_minute 64 = .ok (.bipush 9, 2) := by decide +kernel
theorem dX7_minute_66 : decode cX7_minute 66 = .ok (.invokevirtual 66, 3) := by decide +kernel
theorem dX7_minute_69 : decode cX7_minute 69 = .ok (.isub, 1) := by decide +kernel
theorem dX7_minute_70 : decode cX7_minute 70 = .ok (.if_icmp .ge 27, 3) := by decide +kernel
theorem dX7_minute_73 : decode cX7_minute 73 = .ok (.aload_n 0, 1) := by decide +kernel
theorem dX7_minute_74 : decode cX7_minute 74 = .ok (.iconst 0, 1) := by decide +kernel
theorem dX7_minute_75 : decode cX7_minute 75 = .ok (.invokevirtual 133, 3) := by decide +kernel
theorem dX7_minute_78 : decode cX7_minute 78 = .ok (.iconst (-1), 1) := by decide +kernel
theorem dX7_minute_79 : decode cX7_minute 79 = .ok (.if_icmp .eq 18, 3) := by decide +kernel
theorem dX7_minute_82 : decode cX7_minute 82 = .ok (.aload_n 0, 1) := by decide +kernel
theorem dX7_minute_83 : decode cX7_minute 83 = .ok (.aload_n 0, 1) := by decide +kernel
theorem dX7_minute_84 : decode cX7_minute 84 = .ok (.iconst 0, 1) := by decide +kernel
theorem dX7_minute_85 : decode cX7_minute 85 = .ok (.invokevirtual 133, 3) := by decide +kernel
theorem dX7_minute_88 : decode cX7_minute 88 = .ok (.invokevirtual 175, 3) := by decide +kernel
theorem dX7_minute_91 : decode cX7_minute 91 = .ok (.aload_n 0, 1) := by decide +kernel
theorem dX7_minute_92 : decode cX7_minute 92 = .ok (.iconst 3, 1) := by decide +kernel
theorem dX7_minute_93 : decode cX7_minute 93 = .ok (.iconst (-1), 1) := by decide +kernel
theorem dX7_minute_94 : decode cX7_minute 94 = .ok (.invokevirtual 105, 3) := by decide +kernel
theorem dX7_minute_97 : decode cX7_minute 97 = .ok (.aload_n 0, 1) := by decide +kernel
theorem dX7_minute_98 : decode cX7_minute 98 = .ok (.invokevirtual 199, 3) := by decide +kernel
theorem dX7_minute_101 : decode cX7_minute 101 = .ok (.aload_n 0, 1) := by decide +kernel
theorem dX7_minute_102 : decode cX7_minute 102 = .ok (.invokevirtual 202, 3) := by decide +kernel
theorem dX7_minute_105 : decode cX7_minute 105 = .ok (.aload_n 0, 1) := by decide +kernel
theorem dX7_minute_106 : decode cX7_minute 106 = .ok (.invokevirtual 205, 3) := by decide +kernel
theorem dX7_minute_109 : decode cX7_minute 109 = .ok (.return_, 1) := by decide +kernel
theorem dX7_minutes_0 : decode cX7_minutes 0 = .ok (.iconst 0, 1) := by decide +kernel
theorem dX7_minutes_1 : decode cX7_minutes 1 = .ok (.istore_n 2, 1) := by decide +kernel
theorem dX7_minutes_2 : decode cX7_minutes 2 = .ok (.iload_n 2, 1) := by decide +kernel
theorem dX7_minutes_3 : decode cX7_minutes 3 = .ok (.iload_n 1, 1) := by decide +kernel
theorem dX7_minutes_4 : decode cX7_minutes 4 = .ok (.if_icmp .ge 13, 3) := by decide +kernel
theorem dX7_minutes_7 : decode cX7_minutes 7 = .ok (.aload_n 0, 1) := by decide +kernel
theorem dX7_minutes_8 : decode cX7_minutes 8 = .ok (.invokevirtual 208, 3) := by decide +kernel
theorem dX7_minutes_11 : decode cX7_minutes 11 = .ok (.iinc 2 1, 3) := by decide +kernel
theorem dX7_minutes_14 : decode cX7_minutes 14 = .ok (.goto (-12), 3) := by decide +kernel
theorem dX7_minutes_17 : decode cX7_minutes 17 = .ok (.return_, 1) := by decide +kernel
theorem dX7_passFault_0 : decode cX7_passFault 0 = .ok (.iload_n 1, 1) := by decide +kernel
theorem dX7_passFault_1 : decode cX7_passFault 1 = .ok (.i2l, 1) := by decide +kernel
theorem dX7_passFault_2 : decode cX7_passFault 2 = .ok (.lconst 1, 1) := by decide +kernel
theorem dX7_passFault_3 : decode cX7_passFault 3 = .ok (.ldc2_w 211, 3) := by decide +kernel
theorem dX7_passFault_6 : decode cX7_passFault 6 = .ok (.invokestatic 30, 3) := by decide +kernel
theorem dX7_passFault_9 : decode cX7_passFault 9 = .ok (.ifCond .ne 8, 3) := by decide +kernel
theorem dX7_passFault_12 : decode cX7_passFault 12 = .ok (.ldc 62, 2) := by decide +kernel
theorem dX7_passFault_14 : decode cX7_passFault 14 = .ok (.goto 23, 3) := by decide +kernel
theorem dX7_passFault_17 : decode cX7_passFault 17 = .ok (.aload_n 0, 1) := by decide +kernel
theorem dX7_passFault_18 : decode cX7_passFault 18 = .ok (.getfield 7, 3) := by decide +kernel
theorem dX7_passFault_21 : decode cX7_passFault 21 = .ok (.iconst 0, 1) := by decide +kernel
theorem dX7_passFault_22 : decode cX7_passFault 22 = .ok (.iaload, 1) := by decide +kernel
theorem dX7_passFault_23 : decode cX7_passFault 23 = .ok (.iload_n 1, 1) := by decide +kernel
theorem dX7_passFault_24 : decode cX7_passFault 24 = .ok (.iadd, 1) := by decide +kernel
theorem dX7_passFault_25 : decode cX7_passFault 25 = .ok (.sipush 20000, 3) := by decide +kernel
theorem dX7_passFault_28 : decode cX7_passFault 28 = .ok (.if_icmp .le 8, 3) := by decide +kernel
theorem dX7_passFault_31 : decode cX7_passFault 31 = .ok (.ldc 73, 2) := by decide +kernel
theorem dX7_passFault_33 : decode cX7_passFault 33 = .ok (.goto 4, 3) := by decide +kernel
theorem dX7_passFault_36 : decode cX7_passFault 36 = .ok (.iconst 0, 1) := by decide +kernel
theorem dX7_passFault_37 : decode cX7_passFault 37 = .ok (.ireturn, 1) := by decide +kernel
theorem dX7_pass_0 : decode cX7_pass 0 = .ok (.aload_n 0, 1) := by decide +kernel
theorem dX7_pass_1 : decode cX7_pass 1 = .ok (.iload_n 1, 1) := by decide +kernel
theorem dX7_pass_2 : decode cX7_pass 2 = .ok (.invokevirtual 213, 3) := by decide +kernel
theorem dX7_pass_5 : decode cX7_pass 5 = .ok (.istore_n 2, 1) := by decide +kernel
theorem dX7_pass_6 : decode cX7_pass 6 = .ok (.iload_n 2, 1) := by decide +kernel
theorem dX7_pass_7 : decode cX7_pass 7 = .ok (.ifCond .eq 5, 3) := by decide +kernel
theorem dX7_pass_10 : decode cX7_pass 10 = .ok (.iload_n 2, 1) := by decide +kernel
theorem dX7_pass_11 : decode cX7_pass 11 = .ok (.ireturn, 1) := by decide +kernel
theorem dX7_pass_12 : decode cX7_pass 12 = .ok (.aload_n 0, 1) := by decide +kernel
theorem dX7_pass_13 : decode cX7_pass 13 = .ok (.invokevirtual 63, 3) := by decide +kernel
theorem dX7_pass_16 : decode cX7_pass 16 = .ok (.aload_n 0, 1) := by decide +kernel
theorem dX7_pass_17 : decode cX7_pass 17 = .ok (.iload_n 1, 1) := by decide +kernel
theorem dX7_pass_18 : decode cX7_pass 18 = .ok (.invokevirtual 216, 3) := by decide +kernel
theorem dX7_pass_21 : decode cX7_pass 21 = .ok (.aload_n 0, 1) := by decide +kernel
theorem dX7_pass_22 : decode cX7_pass 22 = .ok (.getfield 7, 3) := by decide +kernel
theorem dX7_pass_25 : decode cX7_pass 25 = .ok (.iconst 0, 1) := by decide +kernel
theorem dX7_pass_26 : decode cX7_pass 26 = .ok (.iaload, 1) := by decide +kernel
theorem dX7_pass_27 : decode cX7_pass 27 = .ok (.ireturn, 1) := by decide +kernel
theorem dX7_layAside_0 : decode cX7_layAside 0 = .ok (.iconst 0, 1) := by decide +kernel
theorem dX7_layAside_1 : decode cX7_layAside 1 = .ok (.istore_n 1, 1) := by decide +kernel
theorem dX7_layAside_2 : decode cX7_layAside 2 = .ok (.iload_n 1, 1) := by decide +kernel
theorem dX7_layAside_3 : decode cX7_layAside 3 = .ok (.sipush 170, 3) := by decide +kernel
theorem dX7_layAside_6 : decode cX7_layAside 6 = .ok (.if_icmp .ge 21, 3) := by decide +kernel
theorem dX7_layAside_9 : decode cX7_layAside 9 = .ok (.aload_n 0, 1) := by decide +kernel
theorem dX7_layAside_10 : decode cX7_layAside 10 = .ok (.getfield 16, 3) := by decide +kernel
theorem dX7_layAside_13 : decode cX7_layAside 13 = .ok (.iload_n 1, 1) := by decide +kernel
theorem dX7_layAside_14 : decode cX7_layAside 14 = .ok (.aload_n 0, 1) := by decide +kernel
theorem dX7_layAside_15 : decode cX7_layAside 15 = .ok (.getfield 7, 3) := by decide +kernel
theorem dX7_layAside_18 : decode cX7_layAside 18 = .ok (.iload_n 1, 1) := by decide +kernel
theorem dX7_layAside_19 : decode cX7_layAside 19 = .ok (.iaload, 1) := by decide +kernel
theorem dX7_layAside_20 : decode cX7_layAside 20 = .ok (.iastore, 1) := by decide +kernel
theorem dX7_layAside_21 : decode cX7_layAside 21 = .ok (.iinc 1 1, 3) := by decide +kernel
theorem dX7_layAside_24 : decode cX7_layAside 24 = .ok (.goto (-22), 3) := by decide +kernel
theorem dX7_layAside_27 : decode cX7_layAside 27 = .ok (.return_, 1) := by decide +kernel
theorem dX7_takeBack_0 : decode cX7_takeBack 0 = .ok (.iconst 0, 1) := by decide +kernel
theorem dX7_takeBack_1 : decode cX7_takeBack 1 = .ok (.istore_n 1, 1) := by decide +kernel
theorem dX7_takeBack_2 : decode cX7_takeBack 2 = .ok (.iload_n 1, 1) := by decide +kernel
theorem dX7_takeBack_3 : decode cX7_takeBack 3 = .ok (.sipush 170, 3) := by decide +kernel
theorem dX7_takeBack_6 : decode cX7_takeBack 6 = .ok (.if_icmp .ge 21, 3) := by decide +kernel
theorem dX7_takeBack_9 : decode cX7_takeBack 9 = .ok (.aload_n 0, 1) := by decide +kernel
theorem dX7_takeBack_10 : decode cX7_takeBack 10 = .ok (.getfield 7, 3) := by decide +kernel
theorem dX7_takeBack_13 : decode cX7_takeBack 13 = .ok (.iload_n 1, 1) := by decide +kernel
theorem dX7_takeBack_14 : decode cX7_takeBack 14 = .ok (.aload_n 0, 1) := by decide +kernel
theorem dX7_takeBack_15 : decode cX7_takeBack 15 = .ok (.getfield 16, 3) := by decide +kernel
theorem dX7_takeBack_18 : decode cX7_takeBack 18 = .ok (.iload_n 1, 1) := by decide +kernel
theorem dX7_takeBack_19 : decode cX7_takeBack 19 = .ok (.iaload, 1) := by decide +kernel
theorem dX7_takeBack_20 : decode cX7_takeBack 20 = .ok (.iastore, 1) := by decide +kernel
theorem dX7_takeBack_21 : decode cX7_takeBack 21 = .ok (.iinc 1 1, 3) := by decide +kernel
theorem dX7_takeBack_24 : decode cX7_takeBack 24 = .ok (.goto (-22), 3) := by decide +kernel
theorem dX7_takeBack_27 : decode cX7_takeBack 27 = .ok (.return_, 1) := by decide +kernel
theorem dX7_foresee_0 : decode cX7_foresee 0 = .ok (.iload_n 1, 1) := by decide +kernel
theorem dX7_foresee_1 : decode cX7_foresee 1 = .ok (.i2l, 1) := by decide +kernel
theorem dX7_foresee_2 : decode cX7_foresee 2 = .ok (.lconst 1, 1) := by decide +kernel
theorem dX7_foresee_3 : decode cX7_foresee 3 = .ok (.ldc2_w 52, 3) := by decide +kernel
theorem dX7_foresee_6 : decode cX7_foresee 6 = .ok (.invokestatic 30, 3) := by decide +kernel
theorem dX7_foresee_9 : decode cX7_foresee 9 = .ok (.ifCond .eq 15, 3) := by decide +kernel
theorem dX7_foresee_12 : decode cX7_foresee 12 = .ok (.iload_n 2, 1) := by decide +kernel
theorem dX7_foresee_13 : decode cX7_foresee 13 = .ok (.i2l, 1) := by decide +kernel
theorem dX7_foresee_14 : decode cX7_foresee 14 = .ok (.lconst 0, 1) := by decide +kernel
theorem dX7_foresee_15 : decode cX7_foresee 15 = .ok (.ldc2_w 219, 3) := by decide +kernel
theorem dX7_foresee_18 : decode cX7_foresee 18 = .ok (.invokestatic 30, 3) := by decide +kernel
theorem dX7_foresee_21 : decode cX7_foresee 21 = .ok (.ifCond .ne 6, 3) := by decide +kernel
theorem dX7_foresee_24 : decode cX7_foresee 24 = .ok (.ldc 62, 2) := by decide +kernel
theorem dX7_foresee_26 : decode cX7_foresee 26 = .ok (.ireturn, 1) := by decide +kernel
theorem dX7_foresee_27 : decode cX7_foresee 27 = .ok (.aload_n 0, 1) := by decide +kernel
theorem dX7_foresee_28 : decode cX7_foresee 28 = .ok (.invokevirtual 221, 3) := by decide +kernel
theorem dX7_foresee_31 : decode cX7_foresee 31 = .ok (.aload_n 0, 1) := by decide +kernel
theorem dX7_foresee_32 : decode cX7_foresee 32 = .ok (.iload_n 1, 1) := by decide +kernel
theorem dX7_foresee_33 : decode cX7_foresee 33 = .ok (.invokevirtual 216, 3) := by decide +kernel
theorem dX7_foresee_36 : decode cX7_foresee 36 = .ok (.iload_n 2, 1) := by decide +kernel
theorem dX7_foresee_37 : decode cX7_foresee 37 = .ok (.iconst 2, 1) := by decide +kernel
theorem dX7_foresee_38 : decode cX7_foresee 38 = .ok (.if_icmp .ne 10, 3) := by decide +kernel
theorem dX7_foresee_41 : decode cX7_foresee 41 = .ok (.aload_n 0, 1) := by decide +kernel
theorem dX7_foresee_42 : decode cX7_foresee 42 = .ok (.invokevirtual 92, 3) := by decide +kernel
theorem dX7_foresee_45 : decode cX7_foresee 45 = .ok (.goto 34, 3) := by decide +kernel
theorem dX7_foresee_48 : decode cX7_foresee 48 = .ok (.iload_n 2, 1) := by decide +kernel
theorem dX7_foresee_49 : decode cX7_foresee 49 = .ok (.iconst 3, 1) := by decide +kernel
theorem dX7_foresee_50 : decode cX7_foresee 50 = .ok (.if_icmp .ne 12, 3) := by decide +kernel
theorem dX7_foresee_53 : decode cX7_foresee 53 = .ok (.aload_n 0, 1) := by decide +kernel
theorem dX7_foresee_54 : decode cX7_foresee 54 = .ok (.getfield 7, 3) := by decide +kernel
theorem dX7_foresee_57 : decode cX7_foresee 57 = .ok (.iconst 4, 1) := by decide +kernel
theorem dX7_foresee_58 : decode cX7_foresee 58 = .ok (.iaload, 1) := by decide +kernel
theorem dX7_foresee_59 : decode cX7_foresee 59 = .ok (.goto 20, 3) := by decide +kernel
theorem dX7_foresee_62 : decode cX7_foresee 62 = .ok (.aload_n 0, 1) := by decide +kernel
theorem dX7_foresee_63 : decode cX7_foresee 63 = .ok (.getfield 7, 3) := by decide +kernel
theorem dX7_foresee_66 : decode cX7_foresee 66 = .ok (.iload_n 2, 1) := by decide +kernel
theorem dX7_foresee_67 : decode cX7_foresee 67 = .ok (.iconst 4, 1) := by decide +kernel
theorem dX7_foresee_68 : decode cX7_foresee 68 = .ok (.if_icmp .ne 7, 3) := by decide +kernel
theorem dX7_foresee_71 : decode cX7_foresee 71 = .ok (.iconst 3, 1) := by decide +kernel
theorem dX7_foresee_72 : decode cX7_foresee 72 = .ok (.goto 6, 3) := by decide +kernel
theorem dX7_foresee_75 : decode cX7_foresee 75 = .ok (.iconst 1, 1) := by decide +kernel
theorem dX7_foresee_76 : decode cX7_foresee 76 = .ok (.iload_n 2, 1) := by decide +kernel
theorem dX7_foresee_77 : decode cX7_foresee 77 = .ok (.iadd, 1) := by decide +kernel
theorem dX7_foresee_78 : decode cX7_foresee 78 = .ok (.iaload, 1) := by decide +kernel
theorem dX7_foresee_79 : decode cX7_foresee 79 = .ok (.istore_n 3, 1) := by decide +kernel
theorem dX7_foresee_80 : decode cX7_foresee 80 = .ok (.aload_n 0, 1) := by decide +kernel
theorem dX7_foresee_81 : decode cX7_foresee 81 = .ok (.invokevirtual 224, 3) := by decide +kernel
theorem dX7_foresee_84 : decode cX7_foresee 84 = .ok (.iload_n 2, 1) := by decide +kernel
theorem dX7_foresee_85 : decode cX7_foresee 85 = .ok (.iconst 3, 1) := by decide +kernel
theorem dX7_foresee_86 : decode cX7_foresee 86 = .ok (.if_icmp .ne 13, 3) := by decide +kernel
theorem dX7_foresee_89 : decode cX7_foresee 89 = .ok (.iload_n 3, 1) := by decide +kernel
theorem dX7_foresee_90 : decode cX7_foresee 90 = .ok (.iconst (-1), 1) := by decide +kernel
theorem dX7_foresee_91 : decode cX7_foresee 91 = .ok (.if_icmp .ne 8, 3) := by decide +kernel
theorem dX7_foresee_94 : decode cX7_foresee 94 = .ok (.ldc 136, 2) := by decide +kernel
theorem dX7_foresee_96 : decode cX7_foresee 96 = .ok (.goto 4, 3) := by decide +kernel
theorem dX7_foresee_99 : decode cX7_foresee 99 = .ok (.iload_n 3, 1) := by decide +kernel
theorem dX7_foresee_100 : decode cX7_foresee 100 = .ok (.ireturn, 1) := by decide +kernel
theorem dX7_foreseeEvent_0 : decode cX7_foreseeEvent 0 = .ok (.iload_n 1, 1) := by decide +kernel
theorem dX7_foreseeEvent_1 : decode cX7_foreseeEvent 1 = .ok (.i2l, 1) := by decide +kernel
theorem dX7_foreseeEvent_2 : decode cX7_foreseeEvent 2 = .ok (.lconst 0, 1) := by decide +kernel
theorem dX7_foreseeEvent_3 : decode cX7_foreseeEvent 3 = .ok (.ldc2_w 227, 3) := by decide +kernel
theorem dX7_foreseeEvent_6 : decode cX7_foreseeEvent 6 = .ok (.invokestatic 30, 3) := by decide +kernel
theorem dX7_foreseeEvent_9 : decode cX7_foreseeEvent 9 = .ok (.ifCond .ne 6, 3) := by decide +kernel
theorem dX7_foreseeEvent_12 : decode cX7_foreseeEvent 12 = .ok (.ldc 62, 2) := by decide +kernel
theorem dX7_foreseeEvent_14 : decode cX7_foreseeEvent 14 = .ok (.ireturn, 1) := by decide +kernel
theorem dX7_foreseeEvent_15 : decode cX7_foreseeEvent 15 = .ok (.aload_n 0, 1) := by decide +kernel
theorem dX7_foreseeEvent_16 : decode cX7_foreseeEvent 16 = .ok (.invokevirtual 221, 3) := by decide +kernel
theorem dX7_foreseeEvent_19 : decode cX7_foreseeEvent 19 = .ok (.aload_n 0, 1) := by decide +kernel
theorem dX7_foreseeEvent_20 : decode cX7_foreseeEvent 20 = .ok (.iconst 0, 1) := by decide +kernel
theorem dX7_foreseeEvent_21 : decode cX7_foreseeEvent 21 = .ok (.putfield 102, 3) := by decide +kernel
theorem dX7_foreseeEvent_24 : decode cX7_foreseeEvent 24 = .ok (.iconst 0, 1) := by decide +kernel
theorem dX7_foreseeEvent_25 : decode cX7_foreseeEvent 25 = .ok (.istore_n 2, 1) := by decide +kernel
theorem dX7_foreseeEvent_26 : decode cX7_foreseeEvent 26 = .ok (.iload_n 2, 1) := by decide +kernel
theorem dX7_foreseeEvent_27 : decode cX7_foreseeEvent 27 = .ok (.sipush 1440, 3) := by decide +kernel
theorem dX7_foreseeEvent_30 : decode cX7_foreseeEvent 30 = .ok (.if_icmp .ge 24, 3) := by decide +kernel
theorem dX7_foreseeEvent_33 : decode cX7_foreseeEvent 33 = .ok (.aload_n 0, 1) := by decide +kernel
theorem dX7_foreseeEvent_34 : decode cX7_foreseeEvent 34 = .ok (.getfield 102, 3) := by decide +kernel
theorem dX7_foreseeEvent_37 : decode cX7_foreseeEvent 37 = .ok (.iload_n 1, 1) := by decide +kernel
theorem dX7_foreseeEvent_38 : decode cX7_foreseeEvent 38 = .ok (.ishr, 1) := by decide +kernel
theorem dX7_foreseeEvent_39 : decode cX7_foreseeEvent 39 = .ok (.iconst 1, 1) := by decide +kernel
theorem dX7_foreseeEvent_40 : decode cX7_foreseeEvent 40 = .ok (.iand, 1) := by decide +kernel
theorem dX7_foreseeEvent_41 : decode cX7_foreseeEvent 41 = .ok (.ifCond .ne 13, 3) := by decide +kernel
theorem dX7_foreseeEvent_44 : decode cX7_foreseeEvent 44 = .ok (.aload_n 0, 1) := by decide +kernel
theorem dX7_foreseeEvent_45 : decode cX7_foreseeEvent 45 = .ok (.invokevirtual 208, 3) := by decide +kernel
theorem dX7_foreseeEvent_48 : decode cX7_foreseeEvent 48 = .ok (.iinc 2 1, 3) := by decide +kernel
theorem dX7_foreseeEvent_51 : decode cX7_foreseeEvent 51 = .ok (.goto (-25), 3) := by decide +kernel
theorem dX7_foreseeEvent_54 : decode cX7_foreseeEvent 54 = .ok (.aload_n 0, 1) := by decide +kernel
theorem dX7_foreseeEvent_55 : decode cX7_foreseeEvent 55 = .ok (.invokevirtual 224, 3) := by decide +kernel
theorem dX7_foreseeEvent_58 : decode cX7_foreseeEvent 58 = .ok (.aload_n 0, 1) := by decide +kernel
theorem dX7_foreseeEvent_59 : decode cX7_foreseeEvent 59 = .ok (.getfield 102, 3) := by decide +kernel
theorem dX7_foreseeEvent_62 : decode cX7_foreseeEvent 62 = .ok (.iload_n 1, 1) := by decide +kernel
theorem dX7_foreseeEvent_63 : decode cX7_foreseeEvent 63 = .ok (.ishr, 1) := by decide +kernel
theorem dX7_foreseeEvent_64 : decode cX7_foreseeEvent 64 = .ok (.iconst 1, 1) := by decide +kernel
theorem dX7_foreseeEvent_65 : decode cX7_foreseeEvent 65 = .ok (.iand, 1) := by decide +kernel
theorem dX7_foreseeEvent_66 : decode cX7_foreseeEvent 66 = .ok (.ifCond .ne 8, 3) := by decide +kernel
theorem dX7_foreseeEvent_69 : decode cX7_foreseeEvent 69 = .ok (.ldc 136, 2) := by decide +kernel
theorem dX7_foreseeEvent_71 : decode cX7_foreseeEvent 71 = .ok (.goto 4, 3) := by decide +kernel
theorem dX7_foreseeEvent_74 : decode cX7_foreseeEvent 74 = .ok (.iload_n 2, 1) := by decide +kernel
theorem dX7_foreseeEvent_75 : decode cX7_foreseeEvent 75 = .ok (.ireturn, 1) := by decide +kernel
theorem dX7_station_0 : decode cX7_station 0 = .ok (.iload_n 1, 1) := by decide +kernel
theorem dX7_station_1 : decode cX7_station 1 = .ok (.i2l, 1) := by decide +kernel
theorem dX7_station_2 : decode cX7_station 2 = .ok (.lconst 0, 1) := by decide +kernel
theorem dX7_station_3 : decode cX7_station 3 = .ok (.ldc2_w 229, 3) := by decide +kernel
theorem dX7_station_6 : decode cX7_station 6 = .ok (.invokestatic 30, 3) := by decide +kernel
theorem dX7_station_9 : decode cX7_station 9 = .ok (.ifCond .ne 6, 3) := by decide +kernel
theorem dX7_station_12 : decode cX7_station 12 = .ok (.ldc 62, 2) := by decide +kernel
theorem dX7_station_14 : decode cX7_station 14 = .ok (.ireturn, 1) := by decide +kernel
theorem dX7_station_15 : decode cX7_station 15 = .ok (.iload_n 1, 1) := by decide +kernel
theorem dX7_station_16 : decode cX7_station 16 = .ok (.tableswitch 137 0 14 #[76, 83, 90, 97, 102, 124, 137, 137, 137, 137, 137, 137, 137, 137, 129], 76) := by decide +kernel
theorem dX7_station_92 : decode cX7_station 92 = .ok (.aload_n 0, 1) := by decide +kernel
theorem dX7_station_93 : decode cX7_station 93 = .ok (.getfield 7, 3) := by decide +kernel
theorem dX7_station_96 : decode cX7_station 96 = .ok (.iconst 1, 1) := by decide +kernel
theorem dX7_station_97 : decode cX7_station 97 = .ok (.iaload, 1) := by decide +kernel
theorem dX7_station_98 : decode cX7_station 98 = .ok (.ireturn, 1) := by decide +kernel
theorem dX7_station_99 : decode cX7_station 99 = .ok (.aload_n 0, 1) := by decide +kernel
theorem dX7_station_100 : decode cX7_station 100 = .ok (.getfield 7, 3) := by decide +kernel
theorem dX7_station_103 : decode cX7_station 103 = .ok (.iconst 2, 1) := by decide +kernel
theorem dX7_station_104 : decode cX7_station 104 = .ok (.iaload, 1) := by decide +kernel
theorem dX7_station_105 : decode cX7_station 105 = .ok (.ireturn, 1) := by decide +kernel
theorem dX7_station_106 : decode cX7_station 106 = .ok (.aload_n 0, 1) := by decide +kernel
theorem dX7_station_107 : decode cX7_station 107 = .ok (.getfield 7, 3) := by decide +kernel
theorem dX7_station_110 : decode cX7_station 110 = .ok (.iconst 3, 1) := by decide +kernel
theorem dX7_station_111 : decode cX7_station 111 = .ok (.iaload, 1) := by decide +kernel
theorem dX7_station_112 : decode cX7_station 112 = .ok (.ireturn, 1) := by decide +kernel
theorem dX7_station_113 : decode cX7_station 113 = .ok (.aload_n 0, 1) := by decide +kernel
theorem dX7_station_114 : decode cX7_station 114 = .ok (.invokevirtual 162, 3) := by decide +kernel
theorem dX7_station_117 : decode cX7_station 117 = .ok (.ireturn, 1) := by decide +kernel
theorem dX7_station_118 : decode cX7_station 118 = .ok (.aload_n 0, 1) := by decide +kernel
theorem dX7_station_119 : decode cX7_station 119 = .ok (.getfield 7, 3) := by decide +kernel
theorem dX7_station_122 : decode cX7_station 122 = .ok (.iconst 4, 1) := by decide +kernel
theorem dX7_station_123 : decode cX7_station 123 = .ok (.iaload, 1) := by decide +kernel
theorem dX7_station_124 : decode cX7_station 124 = .ok (.iconst (-1), 1) := by decide +kernel
theorem dX7_station_125 : decode cX7_station 125 = .ok (.if_icmp .ne 8, 3) := by decide +kernel
theorem dX7_station_128 : decode cX7_station 128 = .ok (.ldc 136, 2) := by decide +kernel
theorem dX7_station_130 : decode cX7_station 130 = .ok (.goto 9, 3) := by decide +kernel
theorem dX7_station_133 : decode cX7_station 133 = .ok (.aload_n 0, 1) := by decide +kernel
theorem dX7_station_134 : decode cX7_station 134 = .ok (.getfield 7, 3) := by decide +kernel
theorem dX7_station_137 : decode cX7_station 137 = .ok (.iconst 4, 1) := by decide +kernel
theorem dX7_station_138 : decode cX7_station 138 = .ok (.iaload, 1) := by decide +kernel
theorem dX7_station_139 : decode cX7_station 139 = .ok (.ireturn, 1) := by decide +kernel
theorem dX7_station_140 : decode cX7_station 140 = .ok (.aload_n 0, 1) := by decide +kernel
theorem dX7_station_141 : decode cX7_station 141 = .ok (.invokevirtual 92, 3) := by decide +kernel
theorem dX7_station_144 : decode cX7_station 144 = .ok (.ireturn, 1) := by decide +kernel
theorem dX7_station_145 : decode cX7_station 145 = .ok (.aload_n 0, 1) := by decide +kernel
theorem dX7_station_146 : decode cX7_station 146 = .ok (.getfield 7, 3) := by decide +kernel
theorem dX7_station_149 : decode cX7_station 149 = .ok (.bipush 13, 2) := by decide +kernel
theorem dX7_station_151 : decode cX7_station 151 = .ok (.iaload, 1) := by decide +kernel
theorem dX7_station_152 : decode cX7_station 152 = .ok (.ireturn, 1) := by decide +kernel
theorem dX7_station_153 : decode cX7_station 153 = .ok (.aload_n 0, 1) := by decide +kernel
theorem dX7_station_154 : decode cX7_station 154 = .ok (.getfield 7, 3) := by decide +kernel
theorem dX7_station_157 : decode cX7_station 157 = .ok (.iconst 5, 1) := by decide +kernel
theorem dX7_station_158 : decode cX7_station 158 = .ok (.iload_n 1, 1) := by decide +kernel
theorem dX7_station_159 : decode cX7_station 159 = .ok (.iadd, 1) := by decide +kernel
theorem dX7_station_160 : decode cX7_station 160 = .ok (.bipush 6, 2) := by decide +kernel
theorem dX7_station_162 : decode cX7_station 162 = .ok (.isub, 1) := by decide +kernel
theorem dX7_station_163 : decode cX7_station 163 = .ok (.iaload, 1) := by decide +kernel
theorem dX7_station_164 : decode cX7_station 164 = .ok (.ireturn, 1) := by decide +kernel
theorem dX7_nightAt_0 : decode cX7_nightAt 0 = .ok (.iload_n 1, 1) := by decide +kernel
theorem dX7_nightAt_1 : decode cX7_nightAt 1 = .ok (.ifCond .ge 8, 3) := by decide +kernel
theorem dX7_nightAt_4 : decode cX7_nightAt 4 = .ok (.ldc 62, 2) := by decide +kernel
theorem dX7_nightAt_6 : decode cX7_nightAt 6 = .ok (.goto 28, 3) := by decide +kernel
theorem dX7_nightAt_9 : decode cX7_nightAt 9 = .ok (.iload_n 1, 1) := by decide +kernel
theorem dX7_nightAt_10 : decode cX7_nightAt 10 = .ok (.aload_n 0, 1) := by decide +kernel
theorem dX7_nightAt_11 : decode cX7_nightAt 11 = .ok (.getfield 7, 3) := by decide +kernel
theorem dX7_nightAt_14 : decode cX7_nightAt 14 = .ok (.bipush 18, 2) := by decide +kernel
theorem dX7_nightAt_16 : decode cX7_nightAt 16 = .ok (.iaload, 1) := by decide +kernel
theorem dX7_nightAt_17 : decode cX7_nightAt 17 = .ok (.if_icmp .ge 15, 3) := by decide +kernel
theorem dX7_nightAt_20 : decode cX7_nightAt 20 = .ok (.aload_n 0, 1) := by decide +kernel
theorem dX7_nightAt_21 : decode cX7_nightAt 21 = .ok (.getfield 7, 3) := by decide +kernel
theorem dX7_nightAt_24 : decode cX7_nightAt 24 = .ok (.bipush 127, 2) := by decide +kernel
theorem dX7_nightAt_26 : decode cX7_nightAt 26 = .ok (.iload_n 1, 1) := by decide +kernel
theorem dX7_nightAt_27 : decode cX7_nightAt 27 = .ok (.iadd, 1) := by decide +kernel
theorem dX7_nightAt_28 : decode cX7_nightAt 28 = .ok (.iaload, 1) := by decide +kernel
theorem dX7_nightAt_29 : decode cX7_nightAt 29 = .ok (.goto 5, 3) := by decide +kernel
theorem dX7_nightAt_32 : decode cX7_nightAt 32 = .ok (.ldc 136, 2) := by decide +kernel
theorem dX7_nightAt_34 : decode cX7_nightAt 34 = .ok (.ireturn, 1) := by decide +kernel
theorem dX7_eventAt_0 : decode cX7_eventAt 0 = .ok (.iload_n 1, 1) := by decide +kernel
theorem dX7_eventAt_1 : decode cX7_eventAt 1 = .ok (.ifCond .lt 15, 3) := by decide +kernel
theorem dX7_eventAt_4 : decode cX7_eventAt 4 = .ok (.iload_n 2, 1) := by decide +kernel
theorem dX7_eventAt_5 : decode cX7_eventAt 5 = .ok (.i2l, 1) := by decide +kernel
theorem dX7_eventAt_6 : decode cX7_eventAt 6 = .ok (.lconst 0, 1) := by decide +kernel
theorem dX7_eventAt_7 : decode cX7_eventAt 7 = .ok (.ldc2_w 69, 3) := by decide +kernel
theorem dX7_eventAt_10 : decode cX7_eventAt 10 = .ok (.invokestatic 30, 3) := by decide +kernel
theorem dX7_eventAt_13 : decode cX7_eventAt 13 = .ok (.ifCond .ne 6, 3) := by decide +kernel
theorem dX7_eventAt_16 : decode cX7_eventAt 16 = .ok (.ldc 62, 2) := by decide +kernel
theorem dX7_eventAt_18 : decode cX7_eventAt 18 = .ok (.ireturn, 1) := by decide +kernel
theorem dX7_eventAt_19 : decode cX7_eventAt 19 = .ok (.iload_n 1, 1) := by decide +kernel
theorem dX7_eventAt_20 : decode cX7_eventAt 20 = .ok (.aload_n 0, 1) := by decide +kernel
theorem dX7_eventAt_21 : decode cX7_eventAt 21 = .ok (.getfield 7, 3) := by decide +kernel
theorem dX7_eventAt_24 : decode cX7_eventAt 24 = .ok (.bipush 19, 2) := by decide +kernel
theorem dX7_eventAt_26 : decode cX7_eventAt 26 = .ok (.iaload, 1) := by decide +kernel
theorem dX7_eventAt_27 : decode cX7_eventAt 27 = .ok (.if_icmp .lt 6, 3) := by decide +kernel
theorem dX7_eventAt_30 : decode cX7_eventAt 30 = .ok (.ldc 136, 2) := by decide +kernel
theorem dX7_eventAt_32 : decode cX7_eventAt 32 = .ok (.ireturn, 1) := by decide +kernel
theorem dX7_eventAt_33 : decode cX7_eventAt 33 = .ok (.aload_n 0, 1) := by decide +kernel
theorem dX7_eventAt_34 : decode cX7_eventAt 34 = .ok (.getfield 7, 3) := by decide +kernel
theorem dX7_eventAt_37 : decode cX7_eventAt 37 = .ok (.sipush 134, 3) := by decide +kernel
theorem dX7_eventAt_40 : decode cX7_eventAt 40 = .ok (.iconst 3, 1) := by decide +kernel
theorem dX7_eventAt_41 : decode cX7_eventAt 41 = .ok (.iload_n 1, 1) := by decide +kernel
theorem dX7_eventAt_42 : decode cX7_eventAt 42 = .ok (.imul, 1) := by decide +kernel
theorem dX7_eventAt_43 : decode cX7_eventAt 43 = .ok (.iadd, 1) := by decide +kernel
theorem dX7_eventAt_44 : decode cX7_eventAt 44 = .ok (.iload_n 2, 1) := by decide +kernel
theorem dX7_eventAt_45 : decode cX7_eventAt 45 = .ok (.iadd, 1) := by decide +kernel
theorem dX7_eventAt_46 : decode cX7_eventAt 46 = .ok (.iaload, 1) := by decide +kernel
theorem dX7_eventAt_47 : decode cX7_eventAt 47 = .ok (.istore_n 3, 1) := by decide +kernel
theorem dX7_eventAt_48 : decode cX7_eventAt 48 = .ok (.iload_n 2, 1) := by decide +kernel
theorem dX7_eventAt_49 : decode cX7_eventAt 49 = .ok (.iconst 2, 1) := by decide +kernel
theorem dX7_eventAt_50 : decode cX7_eventAt 50 = .ok (.if_icmp .ne 13, 3) := by decide +kernel
theorem dX7_eventAt_53 : decode cX7_eventAt 53 = .ok (.iload_n 3, 1) := by decide +kernel
theorem dX7_eventAt_54 : decode cX7_eventAt 54 = .ok (.iconst (-1), 1) := by decide +kernel
theorem dX7_eventAt_55 : decode cX7_eventAt 55 = .ok (.if_icmp .ne 8, 3) := by decide +kernel
theorem dX7_eventAt_58 : decode cX7_eventAt 58 = .ok (.ldc 136, 2) := by decide +kernel
theorem dX7_eventAt_60 : decode cX7_eventAt 60 = .ok (.goto 4, 3) := by decide +kernel
theorem dX7_eventAt_63 : decode cX7_eventAt 63 = .ok (.iload_n 3, 1) := by decide +kernel
theorem dX7_eventAt_64 : decode cX7_eventAt 64 = .ok (.ireturn, 1) := by decide +kernel
theorem dX7_readyPumps_0 : decode cX7_readyPumps 0 = .ok (.iconst 0, 1) := by decide +kernel
theorem dX7_readyPumps_1 : decode cX7_readyPumps 1 = .ok (.istore_n 1, 1) := by decide +kernel
theorem dX7_readyPumps_2 : decode cX7_readyPumps 2 = .ok (.iconst 0, 1) := by decide +kernel
theorem dX7_readyPumps_3 : decode cX7_readyPumps 3 = .ok (.istore_n 2, 1) := by decide +kernel
theorem dX7_readyPumps_4 : decode cX7_readyPumps 4 = .ok (.iload_n 2, 1) := by decide +kernel
theorem dX7_readyPumps_5 : decode cX7_readyPumps 5 = .ok (.aload_n 0, 1) := by decide +kernel
theorem dX7_readyPumps_6 : decode cX7_readyPumps 6 = .ok (.getfield 7, 3) := by decide +kernel
theorem dX7_readyPumps_9 : decode cX7_readyPumps 9 = .ok (.bipush 14, 2) := by decide +kernel
theorem dX7_readyPumps_11 : decode cX7_readyPumps 11 = .ok (.iaload, 1) := by decide +kernel
theorem dX7_readyPumps_12 : decode cX7_readyPumps 12 = .ok (.if_icmp .ge 25, 3) := by decide +kernel
theorem dX7_readyPumps_15 : decode cX7_readyPumps 15 = .ok (.iload_n 1, 1) := by decide +kernel
theorem dX7_readyPumps_16 : decode cX7_readyPumps 16 = .ok (.aload_n 0, 1) := by decide +kernel
theorem dX7_readyPumps_17 : decode cX7_readyPumps 17 = .ok (.iload_n 2, 1) := by decide +kernel
theorem dX7_readyPumps_18 : decode cX7_readyPumps 18 = .ok (.invokevirtual 96, 3) := by decide +kernel
theorem dX7_readyPumps_21 : decode cX7_readyPumps 21 = .ok (.ifCond .eq 7, 3) := by decide +kernel
theorem dX7_readyPumps_24 : decode cX7_readyPumps 24 = .ok (.iconst 1, 1) := by decide +kernel
theorem dX7_readyPumps_25 : decode cX7_readyPumps 25 = .ok (.goto 4, 3) := by decide +kernel
theorem dX7_readyPumps_28 : decode cX7_readyPumps 28 = .ok (.iconst 0, 1) := by decide +kernel
theorem dX7_readyPumps_29 : decode cX7_readyPumps 29 = .ok (.iadd, 1) := by decide +kernel
theorem dX7_readyPumps_30 : decode cX7_readyPumps 30 = .ok (.istore_n 1, 1) := by decide +kernel
theorem dX7_readyPumps_31 : decode cX7_readyPumps 31 = .ok (.iinc 2 1, 3) := by decide +kernel
theorem dX7_readyPumps_34 : decode cX7_readyPumps 34 = .ok (.goto (-30), 3) := by decide +kernel
theorem dX7_readyPumps_37 : decode cX7_readyPumps 37 = .ok (.iload_n 1, 1) := by decide +kernel
theorem dX7_readyPumps_38 : decode cX7_readyPumps 38 = .ok (.ireturn, 1) := by decide +kernel
theorem dX7_count_0 : decode cX7_count 0 = .ok (.iload_n 1, 1) := by decide +kernel
theorem dX7_count_1 : decode cX7_count 1 = .ok (.tableswitch 113 0 10 #[59, 59, 59, 69, 74, 79, 79, 91, 98, 103, 108], 59) := by decide +kernel
theorem dX7_count_60 : decode cX7_count 60 = .ok (.aload_n 0, 1) := by decide +kernel
theorem dX7_count_61 : decode cX7_count 61 = .ok (.getfield 7, 3) := by decide +kernel
theorem dX7_count_64 : decode cX7_count 64 = .ok (.bipush 14, 2) := by decide +kernel
theorem dX7_count_66 : decode cX7_count 66 = .ok (.iload_n 1, 1) := by decide +kernel
theorem dX7_count_67 : decode cX7_count 67 = .ok (.iadd, 1) := by decide +kernel
theorem dX7_count_68 : decode cX7_count 68 = .ok (.iaload, 1) := by decide +kernel
theorem dX7_count_69 : decode cX7_count 69 = .ok (.ireturn, 1) := by decide +kernel
theorem dX7_count_70 : decode cX7_count 70 = .ok (.aload_n 0, 1) := by decide +kernel
theorem dX7_count_71 : decode cX7_count 71 = .ok (.invokevirtual 143, 3) := by decide +kernel
theorem dX7_count_74 : decode cX7_count 74 = .ok (.ireturn, 1) := by decide +kernel
theorem dX7_count_75 : decode cX7_count 75 = .ok (.aload_n 0, 1) := by decide +kernel
theorem dX7_count_76 : decode cX7_count 76 = .ok (.invokevirtual 231, 3) := by decide +kernel
theorem dX7_count_79 : decode cX7_count 79 = .ok (.ireturn, 1) := by decide +kernel
theorem dX7_count_80 : decode cX7_count 80 = .ok (.aload_n 0, 1) := by decide +kernel
theorem dX7_count_81 : decode cX7_count 81 = .ok (.getfield 7, 3) := by decide +kernel
theorem dX7_count_84 : decode cX7_count 84 = .ok (.bipush 18, 2) := by decide +kernel
theorem dX7_count_86 : decode cX7_count 86 = .ok (.iload_n 1, 1) := by decide +kernel
theorem dX7_count_87 : decode cX7_count 87 = .ok (.iadd, 1) := by decide +kernel
theorem dX7_count_88 : decode cX7_count 88 = .ok (.iconst 5, 1) := by decide +kernel
theorem dX7_count_89 : decode cX7_count 89 = .ok (.isub, 1) := by decide +kernel
theorem dX7_count_90 : decode cX7_count 90 = .ok (.iaload, 1) := by decide +kernel
theorem dX7_count_91 : decode cX7_count 91 = .ok (.ireturn, 1) := by decide +kernel
theorem dX7_count_92 : decode cX7_count 92 = .ok (.aload_n 0, 1) := by decide +kernel
theorem dX7_count_93 : decode cX7_count 93 = .ok (.getfield 7, 3) := by decide +kernel
theorem dX7_count_96 : decode cX7_count 96 = .ok (.iconst 0, 1) := by decide +kernel
theorem dX7_count_97 : decode cX7_count 97 = .ok (.iaload, 1) := by decide +kernel
theorem dX7_count_98 : decode cX7_count 98 = .ok (.ireturn, 1) := by decide +kernel
theorem dX7_count_99 : decode cX7_count 99 = .ok (.aload_n 0, 1) := by decide +kernel
theorem dX7_count_100 : decode cX7_count 100 = .ok (.invokevirtual 156, 3) := by decide +kernel
theorem dX7_count_103 : decode cX7_count 103 = .ok (.ireturn, 1) := by decide +kernel
theorem dX7_count_104 : decode cX7_count 104 = .ok (.aload_n 0, 1) := by decide +kernel
theorem dX7_count_105 : decode cX7_count 105 = .ok (.getfield 54, 3) := by decide +kernel
theorem dX7_count_108 : decode cX7_count 108 = .ok (.ireturn, 1) := by decide +kernel
theorem dX7_count_109 : decode cX7_count 109 = .ok (.aload_n 0, 1) := by decide +kernel
theorem dX7_count_110 : decode cX7_count 110 = .ok (.getfield 234, 3) := by decide +kernel
theorem dX7_count_113 : decode cX7_count 113 = .ok (.ireturn, 1) := by decide +kernel
theorem dX7_count_114 : decode cX7_count 114 = .ok (.iload_n 1, 1) := by decide +kernel
theorem dX7_count_115 : decode cX7_count 115 = .ok (.i2l, 1) := by decide +kernel
theorem dX7_count_116 : decode cX7_count 116 = .ok (.ldc2_w 237, 3) := by decide +kernel
theorem dX7_count_119 : decode cX7_count 119 = .ok (.ldc2_w 239, 3) := by decide +kernel
theorem dX7_count_122 : decode cX7_count 122 = .ok (.invokestatic 30, 3) := by decide +kernel
theorem dX7_count_125 : decode cX7_count 125 = .ok (.ifCond .eq 14, 3) := by decide +kernel
theorem dX7_count_128 : decode cX7_count 128 = .ok (.aload_n 0, 1) := by decide +kernel
theorem dX7_count_129 : decode cX7_count 129 = .ok (.iload_n 1, 1) := by decide +kernel
theorem dX7_count_130 : decode cX7_count 130 = .ok (.bipush 20, 2) := by decide +kernel
theorem dX7_count_132 : decode cX7_count 132 = .ok (.isub, 1) := by decide +kernel
theorem dX7_count_133 : decode cX7_count 133 = .ok (.invokevirtual 66, 3) := by decide +kernel
theorem dX7_count_136 : decode cX7_count 136 = .ok (.goto 5, 3) := by decide +kernel
theorem dX7_count_139 : decode cX7_count 139 = .ok (.ldc 62, 2) := by decide +kernel
theorem dX7_count_141 : decode cX7_count 141 = .ok (.ireturn, 1) := by decide +kernel
theorem dX7_undo_0 : decode cX7_undo 0 = .ok (.aload_n 0, 1) := by decide +kernel
theorem dX7_undo_1 : decode cX7_undo 1 = .ok (.getfield 54, 3) := by decide +kernel
theorem dX7_undo_4 : decode cX7_undo 4 = .ok (.ifCond .ne 6, 3) := by decide +kernel
theorem dX7_undo_7 : decode cX7_undo 7 = .ok (.ldc 123, 2) := by decide +kernel
theorem dX7_undo_9 : decode cX7_undo 9 = .ok (.ireturn, 1) := by decide +kernel
theorem dX7_undo_10 : decode cX7_undo 10 = .ok (.aload_n 0, 1) := by decide +kernel
theorem dX7_undo_11 : decode cX7_undo 11 = .ok (.dup, 1) := by decide +kernel
theorem dX7_undo_12 : decode cX7_undo 12 = .ok (.getfield 54, 3) := by decide +kernel
theorem dX7_undo_15 : decode cX7_undo 15 = .ok (.iconst 1, 1) := by decide +kernel
theorem dX7_undo_16 : decode cX7_undo 16 = .ok (.isub, 1) := by decide +kernel
theorem dX7_undo_17 : decode cX7_undo 17 = .ok (.putfield 54, 3) := by decide +kernel
theorem dX7_undo_20 : decode cX7_undo 20 = .ok (.iconst 0, 1) := by decide +kernel
theorem dX7_undo_21 : decode cX7_undo 21 = .ok (.istore_n 1, 1) := by decide +kernel
theorem dX7_undo_22 : decode cX7_undo 22 = .ok (.iload_n 1, 1) := by decide +kernel
theorem dX7_undo_23 : decode cX7_undo 23 = .ok (.sipush 170, 3) := by decide +kernel
theorem dX7_undo_26 : decode cX7_undo 26 = .ok (.if_icmp .ge 30, 3) := by decide +kernel
theorem dX7_undo_29 : decode cX7_undo 29 = .ok (.aload_n 0, 1) := by decide +kernel
theorem dX7_undo_30 : decode cX7_undo 30 = .ok (.getfield 7, 3) := by decide +kernel
theorem dX7_undo_33 : decode cX7_undo 33 = .ok (.iload_n 1, 1) := by decide +kernel
theorem dX7_undo_34 : decode cX7_undo 34 = .ok (.aload_n 0, 1) := by decide +kernel
theorem dX7_undo_35 : decode cX7_undo 35 = .ok (.getfield 13, 3) := by decide +kernel
theorem dX7_undo_38 : decode cX7_undo 38 = .ok (.sipush 170, 3) := by decide +kernel
theorem dX7_undo_41 : decode cX7_undo 41 = .ok (.aload_n 0, 1) := by decide +kernel
theorem dX7_undo_42 : decode cX7_undo 42 = .ok (.getfield 54, 3) := by decide +kernel
theorem dX7_undo_45 : decode cX7_undo 45 = .ok (.imul, 1) := by decide +kernel
theorem dX7_undo_46 : decode cX7_undo 46 = .ok (.iload_n 1, 1) := by decide +kernel
theorem dX7_undo_47 : decode cX7_undo 47 = .ok (.iadd, 1) := by decide +kernel
theorem dX7_undo_48 : decode cX7_undo 48 = .ok (.iaload, 1) := by decide +kernel
theorem dX7_undo_49 : decode cX7_undo 49 = .ok (.iastore, 1) := by decide +kernel
theorem dX7_undo_50 : decode cX7_undo 50 = .ok (.iinc 1 1, 3) := by decide +kernel
theorem dX7_undo_53 : decode cX7_undo 53 = .ok (.goto (-31), 3) := by decide +kernel
theorem dX7_undo_56 : decode cX7_undo 56 = .ok (.aload_n 0, 1) := by decide +kernel
theorem dX7_undo_57 : decode cX7_undo 57 = .ok (.getfield 54, 3) := by decide +kernel
theorem dX7_undo_60 : decode cX7_undo 60 = .ok (.ireturn, 1) := by decide +kernel
theorem dX7_type_0 : decode cX7_type 0 = .ok (.iload_n 1, 1) := by decide +kernel
theorem dX7_type_1 : decode cX7_type 1 = .ok (.i2l, 1) := by decide +kernel
theorem dX7_type_2 : decode cX7_type 2 = .ok (.ldc2_w 241, 3) := by decide +kernel
theorem dX7_type_5 : decode cX7_type 5 = .ok (.ldc2_w 243, 3) := by decide +kernel
theorem dX7_type_8 : decode cX7_type 8 = .ok (.invokestatic 30, 3) := by decide +kernel
theorem dX7_type_11 : decode cX7_type 11 = .ok (.ifCond .ne 6, 3) := by decide +kernel
theorem dX7_type_14 : decode cX7_type 14 = .ok (.ldc 62, 2) := by decide +kernel
theorem dX7_type_16 : decode cX7_type 16 = .ok (.ireturn, 1) := by decide +kernel
theorem dX7_type_17 : decode cX7_type 17 = .ok (.aload_n 0, 1) := by decide +kernel
theorem dX7_type_18 : decode cX7_type 18 = .ok (.getfield 234, 3) := by decide +kernel
theorem dX7_type_21 : decode cX7_type 21 = .ok (.bipush 60, 2) := by decide +kernel
theorem dX7_type_23 : decode cX7_type 23 = .ok (.if_icmp .ne 6, 3) := by decide +kernel
theorem dX7_type_26 : decode cX7_type 26 = .ok (.ldc 73, 2) := by decide +kernel
theorem dX7_type_28 : decode cX7_type 28 = .ok (.ireturn, 1) := by decide +kernel
theorem dX7_type_29 : decode cX7_type 29 = .ok (.aload_n 0, 1) := by decide +kernel
theorem dX7_type_30 : decode cX7_type 30 = .ok (.getfield 19, 3) := by decide +kernel
theorem dX7_type_33 : decode cX7_type 33 = .ok (.aload_n 0, 1) := by decide +kernel
theorem dX7_type_34 : decode cX7_type 34 = .ok (.getfield 234, 3) := by decide +kernel
theorem dX7_type_37 : decode cX7_type 37 = .ok (.iload_n 1, 1) := by decide +kernel
theorem dX7_type_38 : decode cX7_type 38 = .ok (.iastore, 1) := by decide +kernel
theorem dX7_type_39 : decode cX7_type 39 = .ok (.aload_n 0, 1) := by decide +kernel
theorem dX7_type_40 : decode cX7_type 40 = .ok (.dup, 1) := by decide +kernel
theorem dX7_type_41 : decode cX7_type 41 = .ok (.getfield 234, 3) := by decide +kernel
theorem dX7_type_44 : decode cX7_type 44 = .ok (.iconst 1, 1) := by decide +kernel
theorem dX7_type_45 : decode cX7_type 45 = .ok (.iadd, 1) := by decide +kernel
theorem dX7_type_46 : decode cX7_type 46 = .ok (.putfield 234, 3) := by decide +kernel
theorem dX7_type_49 : decode cX7_type 49 = .ok (.aload_n 0, 1) := by decide +kernel
theorem dX7_type_50 : decode cX7_type 50 = .ok (.getfield 234, 3) := by decide +kernel
theorem dX7_type_53 : decode cX7_type 53 = .ok (.ireturn, 1) := by decide +kernel
theorem dX7_clearText_0 : decode cX7_clearText 0 = .ok (.aload_n 0, 1) := by decide +kernel
theorem dX7_clearText_1 : decode cX7_clearText 1 = .ok (.getfield 234, 3) := by decide +kernel
theorem dX7_clearText_4 : decode cX7_clearText 4 = .ok (.istore_n 1, 1) := by decide +kernel
theorem dX7_clearText_5 : decode cX7_clearText 5 = .ok (.aload_n 0, 1) := by decide +kernel
theorem dX7_clearText_6 : decode cX7_clearText 6 = .ok (.iconst 0, 1) := by decide +kernel
theorem dX7_clearText_7 : decode cX7_clearText 7 = .ok (.putfield 234, 3) := by decide +kernel
theorem dX7_clearText_10 : decode cX7_clearText 10 = .ok (.iload_n 1, 1) := by decide +kernel
theorem dX7_clearText_11 : decode cX7_clearText 11 = .ok (.ireturn, 1) := by decide +kernel
theorem dX7_here_0 : decode cX7_here 0 = .ok (.aload_n 0, 1) := by decide +kernel
theorem dX7_here_1 : decode cX7_here 1 = .ok (.getfield 245, 3) := by decide +kernel
theorem dX7_here_4 : decode cX7_here 4 = .ok (.aload_n 0, 1) := by decide +kernel
theorem dX7_here_5 : decode cX7_here 5 = .ok (.getfield 234, 3) := by decide +kernel
theorem dX7_here_8 : decode cX7_here 8 = .ok (.if_icmp .ge 15, 3) := by decide +kernel
theorem dX7_here_11 : decode cX7_here 11 = .ok (.aload_n 0, 1) := by decide +kernel
theorem dX7_here_12 : decode cX7_here 12 = .ok (.getfield 19, 3) := by decide +kernel
theorem dX7_here_15 : decode cX7_here 15 = .ok (.aload_n 0, 1) := by decide +kernel
theorem dX7_here_16 : decode cX7_here 16 = .ok (.getfield 245, 3) := by decide +kernel
theorem dX7_here_19 : decode cX7_here 19 = .ok (.iaload, 1) := by decide +kernel
theorem dX7_here_20 : decode cX7_here 20 = .ok (.goto 4, 3) := by decide +kernel
theorem dX7_here_23 : decode cX7_here 23 = .ok (.iconst (-1), 1) := by decide +kernel
theorem dX7_here_24 : decode cX7_here 24 = .ok (.ireturn, 1) := by decide +kernel
theorem dX7_readsOrder_0 : decode cX7_readsOrder 0 = .ok (.aload_n 0, 1) := by decide +kernel
theorem dX7_readsOrder_1 : decode cX7_readsOrder 1 = .ok (.aload_n 0, 1) := by decide +kernel
theorem dX7_readsOrder_2 : decode cX7_readsOrder 2 = .ok (.invokevirtual 248, 3) := by decide +kernel
theorem dX7_readsOrder_5 : decode cX7_readsOrder 5 = .ok (.putfield 251, 3) := by decide +kernel
theorem dX7_readsOrder_8 : decode cX7_readsOrder 8 = .ok (.aload_n 0, 1) := by decide +kernel
theorem dX7_readsOrder_9 : decode cX7_readsOrder 9 = .ok (.dup, 1) := by decide +kernel
theorem dX7_readsOrder_10 : decode cX7_readsOrder 10 = .ok (.getfield 245, 3) := by decide +kernel
theorem dX7_readsOrder_13 : decode cX7_readsOrder 13 = .ok (.iconst 1, 1) := by decide +kernel
theorem dX7_readsOrder_14 : decode cX7_readsOrder 14 = .ok (.iadd, 1) := by decide +kernel
theorem dX7_readsOrder_15 : decode cX7_readsOrder 15 = .ok (.putfield 245, 3) := by decide +kernel
theorem dX7_readsOrder_18 : decode cX7_readsOrder 18 = .ok (.aload_n 0, 1) := by decide +kernel
theorem dX7_readsOrder_19 : decode cX7_readsOrder 19 = .ok (.getfield 251, 3) := by decide +kernel
theorem dX7_readsOrder_22 : decode cX7_readsOrder 22 = .ok (.bipush 111, 2) := by decide +kernel
theorem dX7_readsOrder_24 : decode cX7_readsOrder 24 = .ok (.if_icmp .eq 41, 3) := by decide +kernel
theorem dX7_readsOrder_27 : decode cX7_readsOrder 27 = .ok (.aload_n 0, 1) := by decide +kernel
theorem dX7_readsOrder_28 : decode cX7_readsOrder 28 = .ok (.getfield 251, 3) := by decide +kernel
theorem dX7_readsOrder_31 : decode cX7_readsOrder 31 = .ok (.bipush 99, 2) := by decide +kernel
theorem dX7_readsOrder_33 : decode cX7_readsOrder 33 = .ok (.if_icmp .eq 32, 3) := by decide +kernel
theorem dX7_readsOrder_36 : decode cX7_readsOrder 36 = .ok (.aload_n 0, 1) := by decide +kernel
theorem dX7_readsOrder_37 : decode cX7_readsOrder 37 = .ok (.getfield 251, 3) := by decide +kernel
theorem dX7_readsOrder_40 : decode cX7_readsOrder 40 = .ok (.bipush 115, 2) := by decide +kernel
theorem dX7_readsOrder_42 : decode cX7_readsOrder 42 = .ok (.if_icmp .eq 23, 3) := by decide +kernel
theorem dX7_readsOrder_45 : decode cX7_readsOrder 45 = .ok (.aload_n 0, 1) := by decide +kernel
theorem dX7_readsOrder_46 : decode cX7_readsOrder 46 = .ok (.getfield 251, 3) := by decide +kernel
theorem dX7_readsOrder_49 : decode cX7_readsOrder 49 = .ok (.bipush 112, 2) := by decide +kernel
theorem dX7_readsOrder_51 : decode cX7_readsOrder 51 = .ok (.if_icmp .eq 14, 3) := by decide +kernel
theorem dX7_readsOrder_54 : decode cX7_readsOrder 54 = .ok (.aload_n 0, 1) := by decide +kernel
theorem dX7_readsOrder_55 : decode cX7_readsOrder 55 = .ok (.getfield 251, 3) := by decide +kernel
theorem dX7_readsOrder_58 : decode cX7_readsOrder 58 = .ok (.bipush 114, 2) := by decide +kernel
theorem dX7_readsOrder_60 : decode cX7_readsOrder 60 = .ok (.if_icmp .eq 5, 3) := by decide +kernel
theorem dX7_readsOrder_63 : decode cX7_readsOrder 63 = .ok (.iconst 0, 1) := by decide +kernel
theorem dX7_readsOrder_64 : decode cX7_readsOrder 64 = .ok (.ireturn, 1) := by decide +kernel
theorem dX7_readsOrder_65 : decode cX7_readsOrder 65 = .ok (.aload_n 0, 1) := by decide +kernel
theorem dX7_readsOrder_66 : decode cX7_readsOrder 66 = .ok (.getfield 245, 3) := by decide +kernel
theorem dX7_readsOrder_69 : decode cX7_readsOrder 69 = .ok (.istore_n 1, 1) := by decide +kernel
theorem dX7_readsOrder_70 : decode cX7_readsOrder 70 = .ok (.aload_n 0, 1) := by decide +kernel
theorem dX7_readsOrder_71 : decode cX7_readsOrder 71 = .ok (.iconst 0, 1) := by decide +kernel
theorem dX7_readsOrder_72 : decode cX7_readsOrder 72 = .ok (.putfield 254, 3) := by decide +kernel
theorem dX7_readsOrder_75 : decode cX7_readsOrder 75 = .ok (.aload_n 0, 1) := by decide +kernel
theorem dX7_readsOrder_76 : decode cX7_readsOrder 76 = .ok (.getfield 251, 3) := by decide +kernel
theorem dX7_readsOrder_79 : decode cX7_readsOrder 79 = .ok (.bipush 114, 2) := by decide +kernel
theorem dX7_readsOrder_81 : decode cX7_readsOrder 81 = .ok (.if_icmp .eq 62, 3) := by decide +kernel
theorem dX7_readsOrder_84 : decode cX7_readsOrder 84 = .ok (.aload_n 0, 1) := by decide +kernel
theorem dX7_readsOrder_85 : decode cX7_readsOrder 85 = .ok (.invokevirtual 248, 3) := by decide +kernel
theorem dX7_readsOrder_88 : decode cX7_readsOrder 88 = .ok (.i2l, 1) := by decide +kernel
theorem dX7_readsOrder_89 : decode cX7_readsOrder 89 = .ok (.ldc2_w 257, 3) := by decide +kernel
theorem dX7_readsOrder_92 : decode cX7_readsOrder 92 = .ok (.ldc2_w 259, 3) := by decide +kernel
theorem dX7_readsOrder_95 : decode cX7_readsOrder 95 = .ok (.invokestatic 30, 3) := by decide +kernel
theorem dX7_readsOrder_98 : decode cX7_readsOrder 98 = .ok (.ifCond .eq 45, 3) := by decide +kernel
theorem dX7_readsOrder_101 : decode cX7_readsOrder 101 = .ok (.aload_n 0, 1) := by decide +kernel
theorem dX7_readsOrder_102 : decode cX7_readsOrder 102 = .ok (.getfield 245, 3) := by decide +kernel
theorem dX7_readsOrder_105 : decode cX7_readsOrder 105 = .ok (.iload_n 1, 1) := by decide +kernel
theorem dX7_readsOrder_106 : decode cX7_readsOrder 106 = .ok (.iconst 3, 1) := by decide +kernel
theorem dX7_readsOrder_107 : decode cX7_readsOrder 107 = .ok (.iadd, 1) := by decide +kernel
theorem dX7_readsOrder_108 : decode cX7_readsOrder 108 = .ok (.if_icmp .ge 35, 3) := by decide +kernel
theorem dX7_readsOrder_111 : decode cX7_readsOrder 111 = .ok (.aload_n 0, 1) := by decide +kernel
theorem dX7_readsOrder_112 : decode cX7_readsOrder 112 = .ok (.bipush 10, 2) := by decide +kernel
theorem dX7_readsOrder_114 : decode cX7_readsOrder 114 = .ok (.aload_n 0, 1) := by decide +kernel
theorem dX7_readsOrder_115 : decode cX7_readsOrder 115 = .ok (.getfield 254, 3) := by decide +kernel
theorem dX7_readsOrder_118 : decode cX7_readsOrder 118 = .ok (.imul, 1) := by decide +kernel
theorem dX7_readsOrder_119 : decode cX7_readsOrder 119 = .ok (.aload_n 0, 1) := by decide +kernel
theorem dX7_readsOrder_120 : decode cX7_readsOrder 120 = .ok (.invokevirtual 248, 3) := by decide +kernel
theorem dX7_readsOrder_123 : decode cX7_readsOrder 123 = .ok (.iadd, 1) := by decide +kernel
theorem dX7_readsOrder_124 : decode cX7_readsOrder 124 = .ok (.bipush 48, 2) := by decide +kernel
theorem dX7_readsOrder_126 : decode cX7_readsOrder 126 = .ok (.isub, 1) := by decide +kernel
theorem dX7_readsOrder_127 : decode cX7_readsOrder 127 = .ok (.putfield 254, 3) := by decide +kernel
theorem dX7_readsOrder_130 : decode cX7_readsOrder 130 = .ok (.aload_n 0, 1) := by decide +kernel
theorem dX7_readsOrder_131 : decode cX7_readsOrder 131 = .ok (.dup, 1) := by decide +kernel
theorem dX7_readsOrder_132 : decode cX7_readsOrder 132 = .ok (.getfield 245, 3) := by decide +kernel
theorem dX7_readsOrder_135 : decode cX7_readsOrder 135 = .ok (.iconst 1, 1) := by decide +kernel
theorem dX7_readsOrder_136 : decode cX7_readsOrder 136 = .ok (.iadd, 1) := by decide +kernel
theorem dX7_readsOrder_137 : decode cX7_readsOrder 137 = .ok (.putfield 245, 3) := by decide +kernel
theorem dX7_readsOrder_140 : decode cX7_readsOrder 140 = .ok (.goto (-65), 3) := by decide +kernel
theorem dX7_readsOrder_143 : decode cX7_readsOrder 143 = .ok (.aload_n 0, 1) := by decide +kernel
theorem dX7_readsOrder_144 : decode cX7_readsOrder 144 = .ok (.getfield 251, 3) := by decide +kernel
theorem dX7_readsOrder_147 : decode cX7_readsOrder 147 = .ok (.bipush 114, 2) := by decide +kernel
theorem dX7_readsOrder_149 : decode cX7_readsOrder 149 = .ok (.if_icmp .eq 11, 3) := by decide +kernel
theorem dX7_readsOrder_152 : decode cX7_readsOrder 152 = .ok (.aload_n 0, 1) := by decide +kernel
theorem dX7_readsOrder_153 : decode cX7_readsOrder 153 = .ok (.getfield 245, 3) := by decide +kernel
theorem dX7_readsOrder_156 : decode cX7_readsOrder 156 = .ok (.iload_n 1, 1) := by decide +kernel
theorem dX7_readsOrder_157 : decode cX7_readsOrder 157 = .ok (.if_icmp .le 16, 3) := by decide +kernel
theorem dX7_readsOrder_160 : decode cX7_readsOrder 160 = .ok (.aload_n 0, 1) := by decide +kernel
theorem dX7_readsOrder_161 : decode cX7_readsOrder 161 = .ok (.invokevirtual 248, 3) := by decide +kernel
theorem dX7_readsOrder_164 : decode cX7_readsOrder 164 = .ok (.bipush 59, 2) := by decide +kernel
theorem dX7_readsOrder_166 : decode cX7_readsOrder 166 = .ok (.if_icmp .ne 7, 3) := by decide +kernel
theorem dX7_readsOrder_169 : decode cX7_readsOrder 169 = .ok (.iconst 1, 1) := by decide +kernel
theorem dX7_readsOrder_170 : decode cX7_readsOrder 170 = .ok (.goto 4, 3) := by decide +kernel
theorem dX7_readsOrder_173 : decode cX7_readsOrder 173 = .ok (.iconst 0, 1) := by decide +kernel
theorem dX7_readsOrder_174 : decode cX7_readsOrder 174 = .ok (.istore_n 2, 1) := by decide +kernel
theorem dX7_readsOrder_175 : decode cX7_readsOrder 175 = .ok (.aload_n 0, 1) := by decide +kernel
theorem dX7_readsOrder_176 : decode cX7_readsOrder 176 = .ok (.dup, 1) := by decide +kernel
theorem dX7_readsOrder_177 : decode cX7_readsOrder 177 = .ok (.getfield 245, 3) := by decide +kernel
theorem dX7_readsOrder_180 : decode cX7_readsOrder 180 = .ok (.iconst 1, 1) := by decide +kernel
theorem dX7_readsOrder_181 : decode cX7_readsOrder 181 = .ok (.iadd, 1) := by decide +kernel
theorem dX7_readsOrder_182 : decode cX7_readsOrder 182 = .ok (.putfield 245, 3) := by decide +kernel
theorem dX7_readsOrder_185 : decode cX7_readsOrder 185 = .ok (.iload_n 2, 1) := by decide +kernel
theorem dX7_readsOrder_186 : decode cX7_readsOrder 186 = .ok (.ireturn, 1) := by decide +kernel
theorem dX7_reasonOfOrder_0 : decode cX7_reasonOfOrder 0 = .ok (.aload_n 0, 1) := by decide +kernel
theorem dX7_reasonOfOrder_1 : decode cX7_reasonOfOrder 1 = .ok (.getfield 251, 3) := by decide +kernel
theorem dX7_reasonOfOrder_4 : decode cX7_reasonOfOrder 4 = .ok (.lookupswitch 140 #[(99, 44), (111, 44), (112, 123), (115, 90)], 44) := by decide +kernel
theorem dX7_reasonOfOrder_48 : decode cX7_reasonOfOrder 48 = .ok (.aload_n 0, 1) := by decide +kernel
theorem dX7_reasonOfOrder_49 : decode cX7_reasonOfOrder 49 = .ok (.aload_n 0, 1) := by decide +kernel
theorem dX7_reasonOfOrder_50 : decode cX7_reasonOfOrder 50 = .ok (.getfield 254, 3) := by decide +kernel
theorem dX7_reasonOfOrder_53 : decode cX7_reasonOfOrder 53 = .ok (.invokevirtual 140, 3) := by decide +kernel
theorem dX7_reasonOfOrder_56 : decode cX7_reasonOfOrder 56 = .ok (.ifCond .ne 7, 3) := by decide +kernel
theorem dX7_reasonOfOrder_59 : decode cX7_reasonOfOrder 59 = .ok (.iconst 2, 1) := by decide +kernel
theorem dX7_reasonOfOrder_60 : decode cX7_reasonOfOrder 60 = .ok (.goto 33, 3) := by decide +kernel
theorem dX7_reasonOfOrder_63 : decode cX7_reasonOfOrder 63 = .ok (.aload_n 0, 1) := by decide +kernel
theorem dX7_reasonOfOrder_64 : decode cX7_reasonOfOrder 64 = .ok (.aload_n 0, 1) := by decide +kernel
theorem dX7_reasonOfOrder_65 : decode cX7_reasonOfOrder 65 = .ok (.getfield 254, 3) := by decide +kernel
theorem dX7_reasonOfOrder_68 : decode cX7_reasonOfOrder 68 = .ok (.invokevirtual 137, 3) := by decide +kernel
theorem dX7_reasonOfOrder_71 : decode cX7_reasonOfOrder 71 = .ok (.aload_n 0, 1) := by decide +kernel
theorem dX7_reasonOfOrder_72 : decode cX7_reasonOfOrder 72 = .ok (.getfield 251, 3) := by decide +kernel
theorem dX7_reasonOfOrder_75 : decode cX7_reasonOfOrder 75 = .ok (.bipush 111, 2) := by decide +kernel
theorem dX7_reasonOfOrder_77 : decode cX7_reasonOfOrder 77 = .ok (.if_icmp .ne 7, 3) := by decide +kernel
theorem dX7_reasonOfOrder_80 : decode cX7_reasonOfOrder 80 = .ok (.iconst 1, 1) := by decide +kernel
theorem dX7_reasonOfOrder_81 : decode cX7_reasonOfOrder 81 = .ok (.goto 4, 3) := by decide +kernel
theorem dX7_reasonOfOrder_84 : decode cX7_reasonOfOrder 84 = .ok (.iconst 0, 1) := by decide +kernel
theorem dX7_reasonOfOrder_85 : decode cX7_reasonOfOrder 85 = .ok (.if_icmp .ne 7, 3) := by decide +kernel
theorem dX7_reasonOfOrder_88 : decode cX7_reasonOfOrder 88 = .ok (.iconst 3, 1) := by decide +kernel
theorem dX7_reasonOfOrder_89 : decode cX7_reasonOfOrder 89 = .ok (.goto 4, 3) := by decide +kernel
theorem dX7_reasonOfOrder_92 : decode cX7_reasonOfOrder 92 = .ok (.iconst 0, 1) := by decide +kernel
theorem dX7_reasonOfOrder_93 : decode cX7_reasonOfOrder 93 = .ok (.ireturn, 1) := by decide +kernel
theorem dX7_reasonOfOrder_94 : decode cX7_reasonOfOrder 94 = .ok (.aload_n 0, 1) := by decide +kernel
theorem dX7_reasonOfOrder_95 : decode cX7_reasonOfOrder 95 = .ok (.aload_n 0, 1) := by decide +kernel
theorem dX7_reasonOfOrder_96 : decode cX7_reasonOfOrder 96 = .ok (.getfield 254, 3) := by decide +kernel
theorem dX7_reasonOfOrder_99 : decode cX7_reasonOfOrder 99 = .ok (.invokevirtual 120, 3) := by decide +kernel
theorem dX7_reasonOfOrder_102 : decode cX7_reasonOfOrder 102 = .ok (.ifCond .ne 7, 3) := by decide +kernel
theorem dX7_reasonOfOrder_105 : decode cX7_reasonOfOrder 105 = .ok (.iconst 2, 1) := by decide +kernel
theorem dX7_reasonOfOrder_106 : decode cX7_reasonOfOrder 106 = .ok (.goto 20, 3) := by decide +kernel
theorem dX7_reasonOfOrder_109 : decode cX7_reasonOfOrder 109 = .ok (.aload_n 0, 1) := by decide +kernel
theorem dX7_reasonOfOrder_110 : decode cX7_reasonOfOrder 110 = .ok (.aload_n 0, 1) := by decide +kernel
theorem dX7_reasonOfOrder_111 : decode cX7_reasonOfOrder 111 = .ok (.getfield 254, 3) := by decide +kernel
theorem dX7_reasonOfOrder_114 : decode cX7_reasonOfOrder 114 = .ok (.iconst 3, 1) := by decide +kernel
theorem dX7_reasonOfOrder_115 : decode cX7_reasonOfOrder 115 = .ok (.invokevirtual 78, 3) := by decide +kernel
theorem dX7_reasonOfOrder_118 : decode cX7_reasonOfOrder 118 = .ok (.ifCond .ne 7, 3) := by decide +kernel
theorem dX7_reasonOfOrder_121 : decode cX7_reasonOfOrder 121 = .ok (.iconst 3, 1) := by decide +kernel
theorem dX7_reasonOfOrder_122 : decode cX7_reasonOfOrder 122 = .ok (.goto 4, 3) := by decide +kernel
theorem dX7_reasonOfOrder_125 : decode cX7_reasonOfOrder 125 = .ok (.iconst 0, 1) := by decide +kernel
theorem dX7_reasonOfOrder_126 : decode cX7_reasonOfOrder 126 = .ok (.ireturn, 1) := by decide +kernel
theorem dX7_reasonOfOrder_127 : decode cX7_reasonOfOrder 127 = .ok (.aload_n 0, 1) := by decide +kernel
theorem dX7_reasonOfOrder_128 : decode cX7_reasonOfOrder 128 = .ok (.aload_n 0, 1) := by decide +kernel
theorem dX7_reasonOfOrder_129 : decode cX7_reasonOfOrder 129 = .ok (.getfield 254, 3) := by decide +kernel
theorem dX7_reasonOfOrder_132 : decode cX7_reasonOfOrder 132 = .ok (.invokevirtual 213, 3) := by decide +kernel
theorem dX7_reasonOfOrder_135 : decode cX7_reasonOfOrder 135 = .ok (.ifCond .eq 7, 3) := by decide +kernel
theorem dX7_reasonOfOrder_138 : decode cX7_reasonOfOrder 138 = .ok (.iconst 3, 1) := by decide +kernel
theorem dX7_reasonOfOrder_139 : decode cX7_reasonOfOrder 139 = .ok (.goto 4, 3) := by decide +kernel
theorem dX7_reasonOfOrder_142 : decode cX7_reasonOfOrder 142 = .ok (.iconst 0, 1) := by decide +kernel
theorem dX7_reasonOfOrder_143 : decode cX7_reasonOfOrder 143 = .ok (.ireturn, 1) := by decide +kernel
theorem dX7_reasonOfOrder_144 : decode cX7_reasonOfOrder 144 = .ok (.aload_n 0, 1) := by decide +kernel
theorem dX7_reasonOfOrder_145 : decode cX7_reasonOfOrder 145 = .ok (.getfield 7, 3) := by decide +kernel
theorem dX7_reasonOfOrder_148 : decode cX7_reasonOfOrder 148 = .ok (.bipush 6, 2) := by decide +kernel
theorem dX7_reasonOfOrder_150 : decode cX7_reasonOfOrder 150 = .ok (.iaload, 1) := by decide +kernel
theorem dX7_reasonOfOrder_151 : decode cX7_reasonOfOrder 151 = .ok (.ifCond .ne 7, 3) := by decide +kernel
theorem dX7_reasonOfOrder_154 : decode cX7_reasonOfOrder 154 = .ok (.iconst 3, 1) := by decide +kernel
theorem dX7_reasonOfOrder_155 : decode cX7_reasonOfOrder 155 = .ok (.goto 4, 3) := by decide +kernel
theorem dX7_reasonOfOrder_158 : decode cX7_reasonOfOrder 158 = .ok (.iconst 0, 1) := by decide +kernel
theorem dX7_reasonOfOrder_159 : decode cX7_reasonOfOrder 159 = .ok (.ireturn, 1) := by decide +kernel
theorem dX7_does_0 : decode cX7_does 0 = .ok (.aload_n 0, 1) := by decide +kernel
theorem dX7_does_1 : decode cX7_does 1 = .ok (.getfield 251, 3) := by decide +kernel
theorem dX7_does_4 : decode cX7_does 4 = .ok (.bipush 111, 2) := by decide +kernel
theorem dX7_does_6 : decode cX7_does 6 = .ok (.if_icmp .eq 12, 3) := by decide +kernel
theorem dX7_does_9 : decode cX7_does 9 = .ok (.aload_n 0, 1) := by decide +kernel
theorem dX7_does_10 : decode cX7_does 10 = .ok (.getfield 251, 3) := by decide +kernel
theorem dX7_does_13 : decode cX7_does 13 = .ok (.bipush 99, 2) := by decide +kernel
theorem dX7_does_15 : decode cX7_does 15 = .ok (.if_icmp .ne 36, 3) := by decide +kernel
theorem dX7_does_18 : decode cX7_does 18 = .ok (.aload_n 0, 1) := by decide +kernel
theorem dX7_does_19 : decode cX7_does 19 = .ok (.getfield 7, 3) := by decide +kernel
theorem dX7_does_22 : decode cX7_does 22 = .ok (.bipush 87, 2) := by decide +kernel
theorem dX7_does_24 : decode cX7_does 24 = .ok (.iconst 2, 1) := by decide +kernel
theorem dX7_does_25 : decode cX7_does 25 = .ok (.aload_n 0, 1) := by decide +kernel
theorem dX7_does_26 : decode cX7_does 26 = .ok (.getfield 254, 3) := by decide +kernel
theorem dX7_does_29 : decode cX7_does 29 = .ok (.imul, 1) := by decide +kernel
theorem dX7_does_30 : decode cX7_does 30 = .ok (.iadd, 1) := by decide +kernel
theorem dX7_does_31 : decode cX7_does 31 = .ok (.iconst 1, 1) := by decide +kernel
theorem dX7_does_32 : decode cX7_does 32 = .ok (.iadd, 1) := by decide +kernel
theorem dX7_does_33 : decode cX7_does 33 = .ok (.aload_n 0, 1) := by decide +kernel
theorem dX7_does_34 : decode cX7_does 34 = .ok (.getfield 251, 3) := by decide +kernel
theorem dX7_does_37 : decode cX7_does 37 = .ok (.bipush 111, 2) := by decide +kernel
theorem dX7_does_39 : decode cX7_does 39 = .ok (.if_icmp .ne 7, 3) := by decide +kernel
theorem dX7_does_42 : decode cX7_does 42 = .ok (.iconst 1, 1) := by decide +kernel
theorem dX7_does_43 : decode cX7_does 43 = .ok (.goto 4, 3) := by decide +kernel
theorem dX7_does_46 : decode cX7_does 46 = .ok (.iconst 0, 1) := by decide +kernel
theorem dX7_does_47 : decode cX7_does 47 = .ok (.iastore, 1) := by decide +kernel
theorem dX7_does_48 : decode cX7_does 48 = .ok (.goto 50, 3) := by decide +kernel
theorem dX7_does_51 : decode cX7_does 51 = .ok (.aload_n 0, 1) := by decide +kernel
theorem dX7_does_52 : decode cX7_does 52 = .ok (.getfield 251, 3) := by decide +kernel
theorem dX7_does_55 : decode cX7_does 55 = .ok (.bipush 115, 2) := by decide +kernel
theorem dX7_does_57 : decode cX7_does 57 = .ok (.if_icmp .ne 16, 3) := by decide +kernel
theorem dX7_does_60 : decode cX7_does 60 = .ok (.aload_n 0, 1) := by decide +kernel
theorem dX7_does_61 : decode cX7_does 61 = .ok (.aload_n 0, 1) := by decide +kernel
theorem dX7_does_62 : decode cX7_does 62 = .ok (.getfield 254, 3) := by decide +kernel
theorem dX7_does_65 : decode cX7_does 65 = .ok (.iconst 0, 1) := by decide +kernel
theorem dX7_does_66 : decode cX7_does 66 = .ok (.invokevirtual 124, 3) := by decide +kernel
theorem dX7_does_69 : decode cX7_does 69 = .ok (.istore_n 1, 1) := by decide +kernel
theorem dX7_does_70 : decode cX7_does 70 = .ok (.goto 28, 3) := by decide +kernel
theorem dX7_does_73 : decode cX7_does 73 = .ok (.aload_n 0, 1) := by decide +kernel
theorem dX7_does_74 : decode cX7_does 74 = .ok (.getfield 251, 3) := by decide +kernel
theorem dX7_does_77 : decode cX7_does 77 = .ok (.bipush 112, 2) := by decide +kernel
theorem dX7_does_79 : decode cX7_does 79 = .ok (.if_icmp .ne 14, 3) := by decide +kernel
theorem dX7_does_82 : decode cX7_does 82 = .ok (.aload_n 0, 1) := by decide +kernel
theorem dX7_does_83 : decode cX7_does 83 = .ok (.aload_n 0, 1) := by decide +kernel
theorem dX7_does_84 : decode cX7_does 84 = .ok (.getfield 254, 3) := by decide +kernel
theorem dX7_does_87 : decode cX7_does 87 = .ok (.invokevirtual 216, 3) := by decide +kernel
theorem dX7_does_90 : decode cX7_does 90 = .ok (.goto 8, 3) := by decide +kernel
theorem dX7_does_93 : decode cX7_does 93 = .ok (.aload_n 0, 1) := by decide +kernel
theorem dX7_does_94 : decode cX7_does 94 = .ok (.invokevirtual 153, 3) := by decide +kernel
theorem dX7_does_97 : decode cX7_does 97 = .ok (.istore_n 1, 1) := by decide +kernel
theorem dX7_does_98 : decode cX7_does 98 = .ok (.return_, 1) := by decide +kernel
theorem dX7_doOrders_0 : decode cX7_doOrders 0 = .ok (.aload_n 0, 1) := by decide +kernel
theorem dX7_doOrders_1 : decode cX7_doOrders 1 = .ok (.iconst 0, 1) := by decide +kernel
theorem dX7_doOrders_2 : decode cX7_doOrders 2 = .ok (.putfield 261, 3) := by decide +kernel
theorem dX7_doOrders_5 : decode cX7_doOrders 5 = .ok (.aload_n 0, 1) := by decide +kernel
theorem dX7_doOrders_6 : decode cX7_doOrders 6 = .ok (.iconst 0, 1) := by decide +kernel
theorem dX7_doOrders_7 : decode cX7_doOrders 7 = .ok (.putfield 264, 3) := by decide +kernel
theorem dX7_doOrders_10 : decode cX7_doOrders 10 = .ok (.aload_n 0, 1) := by decide +kernel
theorem dX7_doOrders_11 : decode cX7_doOrders 11 = .ok (.iconst 0, 1) := by decide +kernel
theorem dX7_doOrders_12 : decode cX7_doOrders 12 = .ok (.putfield 245, 3) := by decide +kernel
theorem dX7_doOrders_15 : decode cX7_doOrders 15 = .ok (.aload_n 0, 1) := by decide +kernel
theorem dX7_doOrders_16 : decode cX7_doOrders 16 = .ok (.getfield 245, 3) := by decide +kernel
theorem dX7_doOrders_19 : decode cX7_doOrders 19 = .ok (.aload_n 0, 1) := by decide +kernel
theorem dX7_doOrders_20 : decode cX7_doOrders 20 = .ok (.getfield 234, 3) := by decide +kernel
theorem dX7_doOrders_23 : decode cX7_doOrders 23 = .ok (.if_icmp .ge 61, 3) := by decide +kernel
theorem dX7_doOrders_26 : decode cX7_doOrders 26 = .ok (.aload_n 0, 1) := by decide +kernel
theorem dX7_doOrders_27 : decode cX7_doOrders 27 = .ok (.getfield 261, 3) := by decide +kernel
theorem dX7_doOrders_30 : decode cX7_doOrders 30 = .ok (.ifCond .ne 54, 3) := by decide +kernel
theorem dX7_doOrders_33 : decode cX7_doOrders 33 = .ok (.aload_n 0, 1) := by decide +kernel
theorem dX7_doOrders_34 : decode cX7_doOrders 34 = .ok (.aload_n 0, 1) := by decide +kernel
theorem dX7_doOrders_35 : decode cX7_doOrders 35 = .ok (.getfield 245, 3) := by decide +kernel
theorem dX7_doOrders_38 : decode cX7_doOrders 38 = .ok (.putfield 267, 3) := by decide +kernel
theorem dX7_doOrders_41 : decode cX7_doOrders 41 = .ok (.aload_n 0, 1) := by decide +kernel
theorem dX7_doOrders_42 : decode cX7_doOrders 42 = .ok (.aload_n 0, 1) := by decide +kernel
theorem dX7_doOrders_43 : decode cX7_doOrders 43 = .ok (.invokevirtual 270, 3) := by decide +kernel
theorem dX7_doOrders_46 : decode cX7_doOrders 46 = .ok (.ifCond .eq 10, 3) := by decide +kernel
theorem dX7_doOrders_49 : decode cX7_doOrders 49 = .ok (.aload_n 0, 1) := by decide +kernel
theorem dX7_doOrders_50 : decode cX7_doOrders 50 = .ok (.invokevirtual 274, 3) := by decide +kernel
theorem dX7_doOrders_53 : decode cX7_doOrders 53 = .ok (.goto 4, 3) := by decide +kernel
theorem dX7_doOrders_56 : decode cX7_doOrders 56 = .ok (.iconst 1, 1) := by decide +kernel
theorem dX7_doOrders_57 : decode cX7_doOrders 57 = .ok (.putfield 261, 3) := by decide +kernel
theorem dX7_doOrders_60 : decode cX7_doOrders 60 = .ok (.aload_n 0, 1) := by decide +kernel
theorem dX7_doOrders_61 : decode cX7_doOrders 61 = .ok (.getfield 261, 3) := by decide +kernel
theorem dX7_doOrders_64 : decode cX7_doOrders 64 = .ok (.ifCond .ne (-49), 3) := by decide +kernel
theorem dX7_doOrders_67 : decode cX7_doOrders 67 = .ok (.aload_n 0, 1) := by decide +kernel
theorem dX7_doOrders_68 : decode cX7_doOrders 68 = .ok (.invokevirtual 277, 3) := by decide +kernel
theorem dX7_doOrders_71 : decode cX7_doOrders 71 = .ok (.aload_n 0, 1) := by decide +kernel
theorem dX7_doOrders_72 : decode cX7_doOrders 72 = .ok (.dup, 1) := by decide +kernel
theorem dX7_doOrders_73 : decode cX7_doOrders 73 = .ok (.getfield 264, 3) := by decide +kernel
theorem dX7_doOrders_76 : decode cX7_doOrders 76 = .ok (.iconst 1, 1) := by decide +kernel
theorem dX7_doOrders_77 : decode cX7_doOrders 77 = .ok (.iadd, 1) := by decide +kernel
theorem dX7_doOrders_78 : decode cX7_doOrders 78 = .ok (.putfield 264, 3) := by decide +kernel
theorem dX7_doOrders_81 : decode cX7_doOrders 81 = .ok (.goto (-66), 3) := by decide +kernel
theorem dX7_doOrders_84 : decode cX7_doOrders 84 = .ok (.return_, 1) := by decide +kernel
theorem dX7_tryOrders_0 : decode cX7_tryOrders 0 = .ok (.aload_n 0, 1) := by decide +kernel
theorem dX7_tryOrders_1 : decode cX7_tryOrders 1 = .ok (.invokevirtual 221, 3) := by decide +kernel
theorem dX7_tryOrders_4 : decode cX7_tryOrders 4 = .ok (.aload_n 0, 1) := by decide +kernel
theorem dX7_tryOrders_5 : decode cX7_tryOrders 5 = .ok (.invokevirtual 280, 3) := by decide +kernel
theorem dX7_tryOrders_8 : decode cX7_tryOrders 8 = .ok (.aload_n 0, 1) := by decide +kernel
theorem dX7_tryOrders_9 : decode cX7_tryOrders 9 = .ok (.invokevirtual 224, 3) := by decide +kernel
theorem dX7_tryOrders_12 : decode cX7_tryOrders 12 = .ok (.return_, 1) := by decide +kernel
theorem dX7_fault_0 : decode cX7_fault 0 = .ok (.iload_n 1, 1) := by decide +kernel
theorem dX7_fault_1 : decode cX7_fault 1 = .ok (.i2l, 1) := by decide +kernel
theorem dX7_fault_2 : decode cX7_fault 2 = .ok (.lconst 0, 1) := by decide +kernel
theorem dX7_fault_3 : decode cX7_fault 3 = .ok (.lconst 1, 1) := by decide +kernel
theorem dX7_fault_4 : decode cX7_fault 4 = .ok (.invokestatic 30, 3) := by decide +kernel
theorem dX7_fault_7 : decode cX7_fault 7 = .ok (.ifCond .ne 6, 3) := by decide +kernel
theorem dX7_fault_10 : decode cX7_fault 10 = .ok (.ldc 62, 2) := by decide +kernel
theorem dX7_fault_12 : decode cX7_fault 12 = .ok (.ireturn, 1) := by decide +kernel
theorem dX7_fault_13 : decode cX7_fault 13 = .ok (.aload_n 0, 1) := by decide +kernel
theorem dX7_fault_14 : decode cX7_fault 14 = .ok (.invokevirtual 283, 3) := by decide +kernel
theorem dX7_fault_17 : decode cX7_fault 17 = .ok (.aload_n 0, 1) := by decide +kernel
theorem dX7_fault_18 : decode cX7_fault 18 = .ok (.getfield 261, 3) := by decide +kernel
theorem dX7_fault_21 : decode cX7_fault 21 = .ok (.ifCond .ne 8, 3) := by decide +kernel
theorem dX7_fault_24 : decode cX7_fault 24 = .ok (.ldc 136, 2) := by decide +kernel
theorem dX7_fault_26 : decode cX7_fault 26 = .ok (.goto 18, 3) := by decide +kernel
theorem dX7_fault_29 : decode cX7_fault 29 = .ok (.iload_n 1, 1) := by decide +kernel
theorem dX7_fault_30 : decode cX7_fault 30 = .ok (.ifCond .ne 10, 3) := by decide +kernel
theorem dX7_fault_33 : decode cX7_fault 33 = .ok (.aload_n 0, 1) := by decide +kernel
theorem dX7_fault_34 : decode cX7_fault 34 = .ok (.getfield 267, 3) := by decide +kernel
theorem dX7_fault_37 : decode cX7_fault 37 = .ok (.goto 7, 3) := by decide +kernel
theorem dX7_fault_40 : decode cX7_fault 40 = .ok (.aload_n 0, 1) := by decide +kernel
theorem dX7_fault_41 : decode cX7_fault 41 = .ok (.getfield 261, 3) := by decide +kernel
theorem dX7_fault_44 : decode cX7_fault 44 = .ok (.ireturn, 1) := by decide +kernel
theorem dX7_play_0 : decode cX7_play 0 = .ok (.aload_n 0, 1) := by decide +kernel
theorem dX7_play_1 : decode cX7_play 1 = .ok (.invokevirtual 283, 3) := by decide +kernel
theorem dX7_play_4 : decode cX7_play 4 = .ok (.aload_n 0, 1) := by decide +kernel
theorem dX7_play_5 : decode cX7_play 5 = .ok (.getfield 261, 3) := by decide +kernel
theorem dX7_play_8 : decode cX7_play 8 = .ok (.ifCond .eq 6, 3) := by decide +kernel
theorem dX7_play_11 : decode cX7_play 11 = .ok (.ldc 123, 2) := by decide +kernel
theorem dX7_play_13 : decode cX7_play 13 = .ok (.ireturn, 1) := by decide +kernel
theorem dX7_play_14 : decode cX7_play 14 = .ok (.aload_n 0, 1) := by decide +kernel
theorem dX7_play_15 : decode cX7_play 15 = .ok (.invokevirtual 63, 3) := by decide +kernel
theorem dX7_play_18 : decode cX7_play 18 = .ok (.aload_n 0, 1) := by decide +kernel
theorem dX7_play_19 : decode cX7_play 19 = .ok (.invokevirtual 280, 3) := by decide +kernel
theorem dX7_play_22 : decode cX7_play 22 = .ok (.aload_n 0, 1) := by decide +kernel
theorem dX7_play_23 : decode cX7_play 23 = .ok (.getfield 264, 3) := by decide +kernel
theorem dX7_play_26 : decode cX7_play 26 = .ok (.ireturn, 1) := by decide +kernel
