theorem dL_refused_0 : decode cL_refused 0 = .ok (.aload_n 0, 1) := by decide +kernel
theorem dL_refused_1 : decode cL_refused 1 = .ok (.invokestatic 136, 3) := by decide +kernel
theorem dL_refused_4 : decode cL_refused 4 = .ok (.lstore_n 1, 1) := by decide +kernel
theorem dL_refused_5 : decode cL_refused 5 = .ok (.aload_n 0, 1) := by decide +kernel
theorem dL_refused_6 : decode cL_refused 6 = .ok (.iconst 5, 1) := by decide +kernel
theorem dL_refused_7 : decode cL_refused 7 = .ok (.invokevirtual 38, 3) := by decide +kernel
theorem dL_refused_10 : decode cL_refused 10 = .ok (.iconst (-1), 1) := by decide +kernel
theorem dL_refused_11 : decode cL_refused 11 = .ok (.if_icmp .ne 198, 3) := by decide +kernel
theorem dL_refused_14 : decode cL_refused 14 = .ok (.aload_n 0, 1) := by decide +kernel
theorem dL_refused_15 : decode cL_refused 15 = .ok (.iconst (-1), 1) := by decide +kernel
theorem dL_refused_16 : decode cL_refused 16 = .ok (.invokevirtual 38, 3) := by decide +kernel
theorem dL_refused_19 : decode cL_refused 19 = .ok (.iconst (-1), 1) := by decide +kernel
theorem dL_refused_20 : decode cL_refused 20 = .ok (.if_icmp .ne 189, 3) := by decide +kernel
theorem dL_refused_23 : decode cL_refused 23 = .ok (.aload_n 0, 1) := by decide +kernel
theorem dL_refused_24 : decode cL_refused 24 = .ok (.iconst 5, 1) := by decide +kernel
theorem dL_refused_25 : decode cL_refused 25 = .ok (.iconst 4, 1) := by decide +kernel
theorem dL_refused_26 : decode cL_refused 26 = .ok (.invokevirtual 44, 3) := by decide +kernel
theorem dL_refused_29 : decode cL_refused 29 = .ok (.iconst (-1), 1) := by decide +kernel
theorem dL_refused_30 : decode cL_refused 30 = .ok (.if_icmp .ne 179, 3) := by decide +kernel
theorem dL_refused_33 : decode cL_refused 33 = .ok (.aload_n 0, 1) := by decide +kernel
theorem dL_refused_34 : decode cL_refused 34 = .ok (.iconst 0, 1) := by decide +kernel
theorem dL_refused_35 : decode cL_refused 35 = .ok (.iconst 4, 1) := by decide +kernel
theorem dL_refused_36 : decode cL_refused 36 = .ok (.invokevirtual 44, 3) := by decide +kernel
theorem dL_refused_39 : decode cL_refused 39 = .ok (.iconst (-1), 1) := by decide +kernel
theorem dL_refused_40 : decode cL_refused 40 = .ok (.if_icmp .ne 169, 3) := by decide +kernel
theorem dL_refused_43 : decode cL_refused 43 = .ok (.aload_n 0, 1) := by decide +kernel
theorem dL_refused_44 : decode cL_refused 44 = .ok (.iconst 0, 1) := by decide +kernel
theorem dL_refused_45 : decode cL_refused 45 = .ok (.iconst (-1), 1) := by decide +kernel
theorem dL_refused_46 : decode cL_refused 46 = .ok (.invokevirtual 44, 3) := by decide +kernel
theorem dL_refused_49 : decode cL_refused 49 = .ok (.iconst (-1), 1) := by decide +kernel
theorem dL_refused_50 : decode cL_refused 50 = .ok (.if_icmp .ne 159, 3) := by decide +kernel
theorem dL_refused_53 : decode cL_refused 53 = .ok (.aload_n 0, 1) := by decide +kernel
theorem dL_refused_54 : decode cL_refused 54 = .ok (.iconst 5, 1) := by decide +kernel
theorem dL_refused_55 : decode cL_refused 55 = .ok (.invokevirtual 47, 3) := by decide +kernel
theorem dL_refused_58 : decode cL_refused 58 = .ok (.iconst (-1), 1) := by decide +kernel
theorem dL_refused_59 : decode cL_refused 59 = .ok (.if_icmp .ne 150, 3) := by decide +kernel
theorem dL_refused_62 : decode cL_refused 62 = .ok (.aload_n 0, 1) := by decide +kernel
theorem dL_refused_63 : decode cL_refused 63 = .ok (.iconst (-1), 1) := by decide +kernel
theorem dL_refused_64 : decode cL_refused 64 = .ok (.invokevirtual 47, 3) := by decide +kernel
theorem dL_refused_67 : decode cL_refused 67 = .ok (.iconst (-1), 1) := by decide +kernel
theorem dL_refused_68 : decode cL_refused 68 = .ok (.if_icmp .ne 141, 3) := by decide +kernel
theorem dL_refused_71 : decode cL_refused 71 = .ok (.aload_n 0, 1) := by decide +kernel
theorem dL_refused_72 : decode cL_refused 72 = .ok (.iconst 5, 1) := by decide +kernel
theorem dL_refused_73 : decode cL_refused 73 = .ok (.iconst 0, 1) := by decide +kernel
theorem dL_refused_74 : decode cL_refused 74 = .ok (.bipush 9, 2) := by decide +kernel
theorem dL_refused_76 : decode cL_refused 76 = .ok (.invokevirtual 50, 3) := by decide +kernel
theorem dL_refused_79 : decode cL_refused 79 = .ok (.iconst (-1), 1) := by decide +kernel
theorem dL_refused_80 : decode cL_refused 80 = .ok (.if_icmp .ne 129, 3) := by decide +kernel
theorem dL_refused_83 : decode cL_refused 83 = .ok (.aload_n 0, 1) := by decide +kernel
theorem dL_refused_84 : decode cL_refused 84 = .ok (.iconst 0, 1) := by decide +kernel
theorem dL_refused_85 : decode cL_refused 85 = .ok (.iconst (-1), 1) := by decide +kernel
theorem dL_refused_86 : decode cL_refused 86 = .ok (.iconst 0, 1) := by decide +kernel
theorem dL_refused_87 : decode cL_refused 87 = .ok (.invokevirtual 50, 3) := by decide +kernel
theorem dL_refused_90 : decode cL_refused 90 = .ok (.iconst (-1), 1) := by decide +kernel
theorem dL_refused_91 : decode cL_refused 91 = .ok (.if_icmp .ne 118, 3) := by decide +kernel
theorem dL_refused_94 : decode cL_refused 94 = .ok (.aload_n 0, 1) := by decide +kernel
theorem dL_refused_95 : decode cL_refused 95 = .ok (.iconst 0, 1) := by decide +kernel
theorem dL_refused_96 : decode cL_refused 96 = .ok (.iconst 0, 1) := by decide +kernel
theorem dL_refused_97 : decode cL_refused 97 = .ok (.iconst 2, 1) := by decide +kernel
theorem dL_refused_98 : decode cL_refused 98 = .ok (.invokevirtual 50, 3) := by decide +kernel
theorem dL_refused_101 : decode cL_refused 101 = .ok (.bipush (-2), 2) := by decide +kernel
theorem dL_refused_103 : decode cL_refused 103 = .ok (.if_icmp .ne 106, 3) := by decide +kernel
theorem dL_refused_106 : decode cL_refused 106 = .ok (.aload_n 0, 1) := by decide +kernel
theorem dL_refused_107 : decode cL_refused 107 = .ok (.iconst 0, 1) := by decide +kernel
theorem dL_refused_108 : decode cL_refused 108 = .ok (.iconst 1, 1) := by decide +kernel
theorem dL_refused_109 : decode cL_refused 109 = .ok (.iconst (-1), 1) := by decide +kernel
theorem dL_refused_110 : decode cL_refused 110 = .ok (.invokevirtual 50, 3) := by decide +kernel
theorem dL_refused_113 : decode cL_refused 113 = .ok (.bipush (-2), 2) := by decide +kernel
theorem dL_refused_115 : decode cL_refused 115 = .ok (.if_icmp .ne 94, 3) := by decide +kernel
theorem dL_refused_118 : decode cL_refused 118 = .ok (.aload_n 0, 1) := by decide +kernel
theorem dL_refused_119 : decode cL_refused 119 = .ok (.iconst 3, 1) := by decide +kernel
theorem dL_refused_120 : decode cL_refused 120 = .ok (.iconst 3, 1) := by decide +kernel
theorem dL_refused_121 : decode cL_refused 121 = .ok (.iconst 0, 1) := by decide +kernel
theorem dL_refused_122 : decode cL_refused 122 = .ok (.invokevirtual 50, 3) := by decide +kernel
theorem dL_refused_125 : decode cL_refused 125 = .ok (.bipush (-3), 2) := by decide +kernel
theorem dL_refused_127 : decode cL_refused 127 = .ok (.if_icmp .ne 82, 3) := by decide +kernel
theorem dL_refused_130 : decode cL_refused 130 = .ok (.aload_n 0, 1) := by decide +kernel
theorem dL_refused_131 : decode cL_refused 131 = .ok (.iconst 4, 1) := by decide +kernel
theorem dL_refused_132 : decode cL_refused 132 = .ok (.iconst 3, 1) := by decide +kernel
theorem dL_refused_133 : decode cL_refused 133 = .ok (.bipush (-4), 2) := by decide +kernel
theorem dL_refused_135 : decode cL_refused 135 = .ok (.invokestatic 140, 3) := by decide +kernel
theorem dL_refused_138 : decode cL_refused 138 = .ok (.ifCond .eq 71, 3) := by decide +kernel
theorem dL_refused_141 : decode cL_refused 141 = .ok (.aload_n 0, 1) := by decide +kernel
theorem dL_refused_142 : decode cL_refused 142 = .ok (.iconst 5, 1) := by decide +kernel
theorem dL_refused_143 : decode cL_refused 143 = .ok (.bipush 9, 2) := by decide +kernel
theorem dL_refused_145 : decode cL_refused 145 = .ok (.invokevirtual 54, 3) := by decide +kernel
theorem dL_refused_148 : decode cL_refused 148 = .ok (.iconst (-1), 1) := by decide +kernel
theorem dL_refused_149 : decode cL_refused 149 = .ok (.if_icmp .ne 60, 3) := by decide +kernel
theorem dL_refused_152 : decode cL_refused 152 = .ok (.aload_n 0, 1) := by decide +kernel
theorem dL_refused_153 : decode cL_refused 153 = .ok (.iconst (-1), 1) := by decide +kernel
theorem dL_refused_154 : decode cL_refused 154 = .ok (.iconst 0, 1) := by decide +kernel
theorem dL_refused_155 : decode cL_refused 155 = .ok (.invokevirtual 54, 3) := by decide +kernel
theorem dL_refused_158 : decode cL_refused 158 = .ok (.iconst (-1), 1) := by decide +kernel
theorem dL_refused_159 : decode cL_refused 159 = .ok (.if_icmp .ne 50, 3) := by decide +kernel
theorem dL_refused_162 : decode cL_refused 162 = .ok (.aload_n 0, 1) := by decide +kernel
theorem dL_refused_163 : decode cL_refused 163 = .ok (.iconst 0, 1) := by decide +kernel
theorem dL_refused_164 : decode cL_refused 164 = .ok (.iconst 2, 1) := by decide +kernel
theorem dL_refused_165 : decode cL_refused 165 = .ok (.invokevirtual 54, 3) := by decide +kernel
theorem dL_refused_168 : decode cL_refused 168 = .ok (.bipush (-2), 2) := by decide +kernel
theorem dL_refused_170 : decode cL_refused 170 = .ok (.if_icmp .ne 39, 3) := by decide +kernel
theorem dL_refused_173 : decode cL_refused 173 = .ok (.aload_n 0, 1) := by decide +kernel
theorem dL_refused_174 : decode cL_refused 174 = .ok (.iconst 0, 1) := by decide +kernel
theorem dL_refused_175 : decode cL_refused 175 = .ok (.iconst (-1), 1) := by decide +kernel
theorem dL_refused_176 : decode cL_refused 176 = .ok (.invokevirtual 54, 3) := by decide +kernel
theorem dL_refused_179 : decode cL_refused 179 = .ok (.bipush (-2), 2) := by decide +kernel
theorem dL_refused_181 : decode cL_refused 181 = .ok (.if_icmp .ne 28, 3) := by decide +kernel
theorem dL_refused_184 : decode cL_refused 184 = .ok (.aload_n 0, 1) := by decide +kernel
theorem dL_refused_185 : decode cL_refused 185 = .ok (.iconst 0, 1) := by decide +kernel
theorem dL_refused_186 : decode cL_refused 186 = .ok (.invokevirtual 57, 3) := by decide +kernel
theorem dL_refused_189 : decode cL_refused 189 = .ok (.bipush (-2), 2) := by decide +kernel
