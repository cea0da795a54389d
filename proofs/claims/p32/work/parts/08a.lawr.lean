theorem dL_at_0 : decode cL_at 0 = .ok (.iload_n 1, 1) := by decide +kernel
theorem dL_at_1 : decode cL_at 1 = .ok (.aload_n 0, 1) := by decide +kernel
theorem dL_at_2 : decode cL_at 2 = .ok (.arraylength, 1) := by decide +kernel
theorem dL_at_3 : decode cL_at 3 = .ok (.if_icmp .ge 9, 3) := by decide +kernel
theorem dL_at_6 : decode cL_at 6 = .ok (.aload_n 0, 1) := by decide +kernel
theorem dL_at_7 : decode cL_at 7 = .ok (.iload_n 1, 1) := by decide +kernel
theorem dL_at_8 : decode cL_at 8 = .ok (.iaload, 1) := by decide +kernel
theorem dL_at_9 : decode cL_at 9 = .ok (.goto 4, 3) := by decide +kernel
theorem dL_at_12 : decode cL_at 12 = .ok (.iconst 0, 1) := by decide +kernel
theorem dL_at_13 : decode cL_at 13 = .ok (.ireturn, 1) := by decide +kernel
theorem dL_some_0 : decode cL_some 0 = .ok (.iload_n 0, 1) := by decide +kernel
theorem dL_some_1 : decode cL_some 1 = .ok (.iload_n 1, 1) := by decide +kernel
theorem dL_some_2 : decode cL_some 2 = .ok (.irem, 1) := by decide +kernel
theorem dL_some_3 : decode cL_some 3 = .ok (.istore_n 2, 1) := by decide +kernel
theorem dL_some_4 : decode cL_some 4 = .ok (.iload_n 2, 1) := by decide +kernel
theorem dL_some_5 : decode cL_some 5 = .ok (.ifCond .ge 9, 3) := by decide +kernel
theorem dL_some_8 : decode cL_some 8 = .ok (.iload_n 2, 1) := by decide +kernel
theorem dL_some_9 : decode cL_some 9 = .ok (.iload_n 1, 1) := by decide +kernel
theorem dL_some_10 : decode cL_some 10 = .ok (.iadd, 1) := by decide +kernel
theorem dL_some_11 : decode cL_some 11 = .ok (.goto 4, 3) := by decide +kernel
theorem dL_some_14 : decode cL_some 14 = .ok (.iload_n 2, 1) := by decide +kernel
theorem dL_some_15 : decode cL_some 15 = .ok (.ireturn, 1) := by decide +kernel
theorem dL_reads_0 : decode cL_reads 0 = .ok (.iconst 0, 1) := by decide +kernel
theorem dL_reads_1 : decode cL_reads 1 = .ok (.istore_n 2, 1) := by decide +kernel
theorem dL_reads_2 : decode cL_reads 2 = .ok (.iload_n 2, 1) := by decide +kernel
theorem dL_reads_3 : decode cL_reads 3 = .ok (.aload_n 1, 1) := by decide +kernel
theorem dL_reads_4 : decode cL_reads 4 = .ok (.invokevirtual 7, 3) := by decide +kernel
theorem dL_reads_7 : decode cL_reads 7 = .ok (.if_icmp .ge 28, 3) := by decide +kernel
theorem dL_reads_10 : decode cL_reads 10 = .ok (.aload_n 0, 1) := by decide +kernel
theorem dL_reads_11 : decode cL_reads 11 = .ok (.aload_n 1, 1) := by decide +kernel
theorem dL_reads_12 : decode cL_reads 12 = .ok (.iload_n 2, 1) := by decide +kernel
theorem dL_reads_13 : decode cL_reads 13 = .ok (.invokevirtual 13, 3) := by decide +kernel
theorem dL_reads_16 : decode cL_reads 16 = .ok (.invokevirtual 17, 3) := by decide +kernel
theorem dL_reads_19 : decode cL_reads 19 = .ok (.iload_n 2, 1) := by decide +kernel
theorem dL_reads_20 : decode cL_reads 20 = .ok (.iconst 1, 1) := by decide +kernel
theorem dL_reads_21 : decode cL_reads 21 = .ok (.iadd, 1) := by decide +kernel
theorem dL_reads_22 : decode cL_reads 22 = .ok (.if_icmp .eq 7, 3) := by decide +kernel
theorem dL_reads_25 : decode cL_reads 25 = .ok (.sipush (-9999), 3) := by decide +kernel
theorem dL_reads_28 : decode cL_reads 28 = .ok (.ireturn, 1) := by decide +kernel
theorem dL_reads_29 : decode cL_reads 29 = .ok (.iinc 2 1, 3) := by decide +kernel
theorem dL_reads_32 : decode cL_reads 32 = .ok (.goto (-30), 3) := by decide +kernel
theorem dL_reads_35 : decode cL_reads 35 = .ok (.aload_n 0, 1) := by decide +kernel
theorem dL_reads_36 : decode cL_reads 36 = .ok (.invokevirtual 23, 3) := by decide +kernel
theorem dL_reads_39 : decode cL_reads 39 = .ok (.ireturn, 1) := by decide +kernel
theorem dL_is_0 : decode cL_is 0 = .ok (.aload_n 0, 1) := by decide +kernel
theorem dL_is_1 : decode cL_is 1 = .ok (.iconst 0, 1) := by decide +kernel
theorem dL_is_2 : decode cL_is 2 = .ok (.invokevirtual 26, 3) := by decide +kernel
theorem dL_is_5 : decode cL_is 5 = .ok (.iload_n 1, 1) := by decide +kernel
theorem dL_is_6 : decode cL_is 6 = .ok (.if_icmp .ne 25, 3) := by decide +kernel
theorem dL_is_9 : decode cL_is 9 = .ok (.aload_n 0, 1) := by decide +kernel
theorem dL_is_10 : decode cL_is 10 = .ok (.iconst 1, 1) := by decide +kernel
theorem dL_is_11 : decode cL_is 11 = .ok (.invokevirtual 26, 3) := by decide +kernel
theorem dL_is_14 : decode cL_is 14 = .ok (.iload_n 2, 1) := by decide +kernel
theorem dL_is_15 : decode cL_is 15 = .ok (.if_icmp .ne 16, 3) := by decide +kernel
theorem dL_is_18 : decode cL_is 18 = .ok (.aload_n 0, 1) := by decide +kernel
theorem dL_is_19 : decode cL_is 19 = .ok (.iconst 2, 1) := by decide +kernel
theorem dL_is_20 : decode cL_is 20 = .ok (.invokevirtual 26, 3) := by decide +kernel
theorem dL_is_23 : decode cL_is 23 = .ok (.iload_n 3, 1) := by decide +kernel
theorem dL_is_24 : decode cL_is 24 = .ok (.if_icmp .ne 7, 3) := by decide +kernel
theorem dL_is_27 : decode cL_is 27 = .ok (.iconst 1, 1) := by decide +kernel
theorem dL_is_28 : decode cL_is 28 = .ok (.goto 4, 3) := by decide +kernel
theorem dL_is_31 : decode cL_is 31 = .ok (.iconst 0, 1) := by decide +kernel
theorem dL_is_32 : decode cL_is 32 = .ok (.ireturn, 1) := by decide +kernel
theorem dL_happens_0 : decode cL_happens 0 = .ok (.iload_n 1, 1) := by decide +kernel
theorem dL_happens_1 : decode cL_happens 1 = .ok (.iconst 5, 1) := by decide +kernel
theorem dL_happens_2 : decode cL_happens 2 = .ok (.ishr, 1) := by decide +kernel
theorem dL_happens_3 : decode cL_happens 3 = .ok (.iconst 5, 1) := by decide +kernel
theorem dL_happens_4 : decode cL_happens 4 = .ok (.invokestatic 32, 3) := by decide +kernel
theorem dL_happens_7 : decode cL_happens 7 = .ok (.istore_n 2, 1) := by decide +kernel
theorem dL_happens_8 : decode cL_happens 8 = .ok (.iload_n 1, 1) := by decide +kernel
theorem dL_happens_9 : decode cL_happens 9 = .ok (.bipush 20, 2) := by decide +kernel
theorem dL_happens_11 : decode cL_happens 11 = .ok (.invokestatic 32, 3) := by decide +kernel
theorem dL_happens_14 : decode cL_happens 14 = .ok (.tableswitch 186 0 16 #[82, 82, 82, 88, 88, 88, 88, 88, 88, 116, 116, 116, 146, 146, 146, 166, 166], 82) := by decide +kernel
theorem dL_happens_96 : decode cL_happens 96 = .ok (.aload_n 0, 1) := by decide +kernel
theorem dL_happens_97 : decode cL_happens 97 = .ok (.iload_n 2, 1) := by decide +kernel
theorem dL_happens_98 : decode cL_happens 98 = .ok (.invokevirtual 38, 3) := by decide +kernel
theorem dL_happens_101 : decode cL_happens 101 = .ok (.ireturn, 1) := by decide +kernel
theorem dL_happens_102 : decode cL_happens 102 = .ok (.aload_n 0, 1) := by decide +kernel
theorem dL_happens_103 : decode cL_happens 103 = .ok (.aload_n 0, 1) := by decide +kernel
theorem dL_happens_104 : decode cL_happens 104 = .ok (.invokevirtual 41, 3) := by decide +kernel
theorem dL_happens_107 : decode cL_happens 107 = .ok (.ifCond .ge 7, 3) := by decide +kernel
theorem dL_happens_110 : decode cL_happens 110 = .ok (.iload_n 2, 1) := by decide +kernel
theorem dL_happens_111 : decode cL_happens 111 = .ok (.goto 7, 3) := by decide +kernel
theorem dL_happens_114 : decode cL_happens 114 = .ok (.aload_n 0, 1) := by decide +kernel
theorem dL_happens_115 : decode cL_happens 115 = .ok (.invokevirtual 41, 3) := by decide +kernel
theorem dL_happens_118 : decode cL_happens 118 = .ok (.iload_n 1, 1) := by decide +kernel
theorem dL_happens_119 : decode cL_happens 119 = .ok (.bipush 8, 2) := by decide +kernel
theorem dL_happens_121 : decode cL_happens 121 = .ok (.ishr, 1) := by decide +kernel
theorem dL_happens_122 : decode cL_happens 122 = .ok (.iconst 4, 1) := by decide +kernel
theorem dL_happens_123 : decode cL_happens 123 = .ok (.invokestatic 32, 3) := by decide +kernel
theorem dL_happens_126 : decode cL_happens 126 = .ok (.invokevirtual 44, 3) := by decide +kernel
theorem dL_happens_129 : decode cL_happens 129 = .ok (.ireturn, 1) := by decide +kernel
theorem dL_happens_130 : decode cL_happens 130 = .ok (.aload_n 0, 1) := by decide +kernel
theorem dL_happens_131 : decode cL_happens 131 = .ok (.aload_n 0, 1) := by decide +kernel
theorem dL_happens_132 : decode cL_happens 132 = .ok (.invokevirtual 41, 3) := by decide +kernel
theorem dL_happens_135 : decode cL_happens 135 = .ok (.ifCond .lt 13, 3) := by decide +kernel
theorem dL_happens_138 : decode cL_happens 138 = .ok (.iload_n 1, 1) := by decide +kernel
theorem dL_happens_139 : decode cL_happens 139 = .ok (.bipush 9, 2) := by decide +kernel
theorem dL_happens_141 : decode cL_happens 141 = .ok (.ishr, 1) := by decide +kernel
theorem dL_happens_142 : decode cL_happens 142 = .ok (.bipush 7, 2) := by decide +kernel
theorem dL_happens_144 : decode cL_happens 144 = .ok (.iand, 1) := by decide +kernel
theorem dL_happens_145 : decode cL_happens 145 = .ok (.ifCond .ne 7, 3) := by decide +kernel
theorem dL_happens_148 : decode cL_happens 148 = .ok (.iload_n 2, 1) := by decide +kernel
theorem dL_happens_149 : decode cL_happens 149 = .ok (.goto 7, 3) := by decide +kernel
theorem dL_happens_152 : decode cL_happens 152 = .ok (.aload_n 0, 1) := by decide +kernel
theorem dL_happens_153 : decode cL_happens 153 = .ok (.invokevirtual 41, 3) := by decide +kernel
theorem dL_happens_156 : decode cL_happens 156 = .ok (.invokevirtual 47, 3) := by decide +kernel
theorem dL_happens_159 : decode cL_happens 159 = .ok (.ireturn, 1) := by decide +kernel
theorem dL_happens_160 : decode cL_happens 160 = .ok (.aload_n 0, 1) := by decide +kernel
theorem dL_happens_161 : decode cL_happens 161 = .ok (.iload_n 2, 1) := by decide +kernel
theorem dL_happens_162 : decode cL_happens 162 = .ok (.iload_n 1, 1) := by decide +kernel
theorem dL_happens_163 : decode cL_happens 163 = .ok (.bipush 8, 2) := by decide +kernel
theorem dL_happens_165 : decode cL_happens 165 = .ok (.ishr, 1) := by decide +kernel
theorem dL_happens_166 : decode cL_happens 166 = .ok (.iconst 5, 1) := by decide +kernel
theorem dL_happens_167 : decode cL_happens 167 = .ok (.invokestatic 32, 3) := by decide +kernel
theorem dL_happens_170 : decode cL_happens 170 = .ok (.iload_n 1, 1) := by decide +kernel
theorem dL_happens_171 : decode cL_happens 171 = .ok (.bipush 11, 2) := by decide +kernel
theorem dL_happens_173 : decode cL_happens 173 = .ok (.ishr, 1) := by decide +kernel
theorem dL_happens_174 : decode cL_happens 174 = .ok (.iconst 1, 1) := by decide +kernel
theorem dL_happens_175 : decode cL_happens 175 = .ok (.iand, 1) := by decide +kernel
theorem dL_happens_176 : decode cL_happens 176 = .ok (.invokevirtual 50, 3) := by decide +kernel
theorem dL_happens_179 : decode cL_happens 179 = .ok (.ireturn, 1) := by decide +kernel
theorem dL_happens_180 : decode cL_happens 180 = .ok (.aload_n 0, 1) := by decide +kernel
theorem dL_happens_181 : decode cL_happens 181 = .ok (.iload_n 2, 1) := by decide +kernel
theorem dL_happens_182 : decode cL_happens 182 = .ok (.iload_n 1, 1) := by decide +kernel
theorem dL_happens_183 : decode cL_happens 183 = .ok (.bipush 8, 2) := by decide +kernel
theorem dL_happens_185 : decode cL_happens 185 = .ok (.ishr, 1) := by decide +kernel
theorem dL_happens_186 : decode cL_happens 186 = .ok (.iconst 3, 1) := by decide +kernel
theorem dL_happens_187 : decode cL_happens 187 = .ok (.iand, 1) := by decide +kernel
theorem dL_happens_188 : decode cL_happens 188 = .ok (.ifCond .ne 7, 3) := by decide +kernel
theorem dL_happens_191 : decode cL_happens 191 = .ok (.iconst 0, 1) := by decide +kernel
theorem dL_happens_192 : decode cL_happens 192 = .ok (.goto 4, 3) := by decide +kernel
theorem dL_happens_195 : decode cL_happens 195 = .ok (.iconst 1, 1) := by decide +kernel
theorem dL_happens_196 : decode cL_happens 196 = .ok (.invokevirtual 54, 3) := by decide +kernel
theorem dL_happens_199 : decode cL_happens 199 = .ok (.ireturn, 1) := by decide +kernel
theorem dL_happens_200 : decode cL_happens 200 = .ok (.aload_n 0, 1) := by decide +kernel
theorem dL_happens_201 : decode cL_happens 201 = .ok (.iconst 1, 1) := by decide +kernel
theorem dL_happens_202 : decode cL_happens 202 = .ok (.iload_n 1, 1) := by decide +kernel
theorem dL_happens_203 : decode cL_happens 203 = .ok (.bipush 8, 2) := by decide +kernel
theorem dL_happens_205 : decode cL_happens 205 = .ok (.ishr, 1) := by decide +kernel
theorem dL_happens_206 : decode cL_happens 206 = .ok (.bipush 8, 2) := by decide +kernel
theorem dL_happens_208 : decode cL_happens 208 = .ok (.invokestatic 32, 3) := by decide +kernel
theorem dL_happens_211 : decode cL_happens 211 = .ok (.iadd, 1) := by decide +kernel
theorem dL_happens_212 : decode cL_happens 212 = .ok (.invokevirtual 57, 3) := by decide +kernel
theorem dL_happens_215 : decode cL_happens 215 = .ok (.ireturn, 1) := by decide +kernel
theorem dL_makes_0 : decode cL_makes 0 = .ok (.iconst 0, 1) := by decide +kernel
theorem dL_makes_1 : decode cL_makes 1 = .ok (.istore_n 2, 1) := by decide +kernel
theorem dL_makes_2 : decode cL_makes 2 = .ok (.iload_n 2, 1) := by decide +kernel
theorem dL_makes_3 : decode cL_makes 3 = .ok (.bipush 26, 2) := by decide +kernel
theorem dL_makes_5 : decode cL_makes 5 = .ok (.if_icmp .ge 49, 3) := by decide +kernel
theorem dL_makes_8 : decode cL_makes 8 = .ok (.aload_n 1, 1) := by decide +kernel
theorem dL_makes_9 : decode cL_makes 9 = .ok (.iload_n 2, 1) := by decide +kernel
theorem dL_makes_10 : decode cL_makes 10 = .ok (.invokestatic 60, 3) := by decide +kernel
theorem dL_makes_13 : decode cL_makes 13 = .ok (.iload_n 2, 1) := by decide +kernel
theorem dL_makes_14 : decode cL_makes 14 = .ok (.sipush 7919, 3) := by decide +kernel
theorem dL_makes_17 : decode cL_makes 17 = .ok (.imul, 1) := by decide +kernel
theorem dL_makes_18 : decode cL_makes 18 = .ok (.ixor, 1) := by decide +kernel
theorem dL_makes_19 : decode cL_makes 19 = .ok (.istore_n 3, 1) := by decide +kernel
theorem dL_makes_20 : decode cL_makes 20 = .ok (.iload_n 3, 1) := by decide +kernel
theorem dL_makes_21 : decode cL_makes 21 = .ok (.iload_n 3, 1) := by decide +kernel
theorem dL_makes_22 : decode cL_makes 22 = .ok (.bipush 7, 2) := by decide +kernel
theorem dL_makes_24 : decode cL_makes 24 = .ok (.iushr, 1) := by decide +kernel
theorem dL_makes_25 : decode cL_makes 25 = .ok (.ixor, 1) := by decide +kernel
theorem dL_makes_26 : decode cL_makes 26 = .ok (.istore_n 3, 1) := by decide +kernel
theorem dL_makes_27 : decode cL_makes 27 = .ok (.aload_n 0, 1) := by decide +kernel
theorem dL_makes_28 : decode cL_makes 28 = .ok (.iload_n 3, 1) := by decide +kernel
theorem dL_makes_29 : decode cL_makes 29 = .ok (.invokestatic 64, 3) := by decide +kernel
theorem dL_makes_32 : decode cL_makes 32 = .ok (.istore 4, 2) := by decide +kernel
theorem dL_makes_34 : decode cL_makes 34 = .ok (.iload 4, 2) := by decide +kernel
theorem dL_makes_36 : decode cL_makes 36 = .ok (.ifCond .ge 12, 3) := by decide +kernel
theorem dL_makes_39 : decode cL_makes 39 = .ok (.iload 4, 2) := by decide +kernel
theorem dL_makes_41 : decode cL_makes 41 = .ok (.bipush (-3), 2) := by decide +kernel
theorem dL_makes_43 : decode cL_makes 43 = .ok (.if_icmp .eq 5, 3) := by decide +kernel
theorem dL_makes_46 : decode cL_makes 46 = .ok (.iconst 0, 1) := by decide +kernel
theorem dL_makes_47 : decode cL_makes 47 = .ok (.ireturn, 1) := by decide +kernel
theorem dL_makes_48 : decode cL_makes 48 = .ok (.iinc 2 1, 3) := by decide +kernel
theorem dL_makes_51 : decode cL_makes 51 = .ok (.goto (-49), 3) := by decide +kernel
theorem dL_makes_54 : decode cL_makes 54 = .ok (.iconst 1, 1) := by decide +kernel
theorem dL_makes_55 : decode cL_makes 55 = .ok (.ireturn, 1) := by decide +kernel
