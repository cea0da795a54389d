theorem dL_changes_0 : decode cL_changes 0 = .ok (.iload_n 1, 1) := by decide +kernel
theorem dL_changes_1 : decode cL_changes 1 = .ok (.bipush 12, 2) := by decide +kernel
theorem dL_changes_3 : decode cL_changes 3 = .ok (.invokestatic 32, 3) := by decide +kernel
theorem dL_changes_6 : decode cL_changes 6 = .ok (.tableswitch 224 0 5 #[38, 59, 97, 126, 147, 147], 38) := by decide +kernel
theorem dL_changes_44 : decode cL_changes 44 = .ok (.aload_n 0, 1) := by decide +kernel
theorem dL_changes_45 : decode cL_changes 45 = .ok (.iload_n 1, 1) := by decide +kernel
theorem dL_changes_46 : decode cL_changes 46 = .ok (.iconst 4, 1) := by decide +kernel
theorem dL_changes_47 : decode cL_changes 47 = .ok (.ishr, 1) := by decide +kernel
theorem dL_changes_48 : decode cL_changes 48 = .ok (.bipush 6, 2) := by decide +kernel
theorem dL_changes_50 : decode cL_changes 50 = .ok (.invokestatic 32, 3) := by decide +kernel
theorem dL_changes_53 : decode cL_changes 53 = .ok (.invokevirtual 38, 3) := by decide +kernel
theorem dL_changes_56 : decode cL_changes 56 = .ok (.ifCond .lt 7, 3) := by decide +kernel
theorem dL_changes_59 : decode cL_changes 59 = .ok (.iconst 1, 1) := by decide +kernel
theorem dL_changes_60 : decode cL_changes 60 = .ok (.goto 4, 3) := by decide +kernel
theorem dL_changes_63 : decode cL_changes 63 = .ok (.iconst 0, 1) := by decide +kernel
theorem dL_changes_64 : decode cL_changes 64 = .ok (.ireturn, 1) := by decide +kernel
theorem dL_changes_65 : decode cL_changes 65 = .ok (.aload_n 0, 1) := by decide +kernel
theorem dL_changes_66 : decode cL_changes 66 = .ok (.iload_n 1, 1) := by decide +kernel
theorem dL_changes_67 : decode cL_changes 67 = .ok (.iconst 4, 1) := by decide +kernel
theorem dL_changes_68 : decode cL_changes 68 = .ok (.ishr, 1) := by decide +kernel
theorem dL_changes_69 : decode cL_changes 69 = .ok (.bipush 6, 2) := by decide +kernel
theorem dL_changes_71 : decode cL_changes 71 = .ok (.invokestatic 32, 3) := by decide +kernel
theorem dL_changes_74 : decode cL_changes 74 = .ok (.iload_n 1, 1) := by decide +kernel
theorem dL_changes_75 : decode cL_changes 75 = .ok (.bipush 7, 2) := by decide +kernel
theorem dL_changes_77 : decode cL_changes 77 = .ok (.ishr, 1) := by decide +kernel
theorem dL_changes_78 : decode cL_changes 78 = .ok (.bipush 6, 2) := by decide +kernel
theorem dL_changes_80 : decode cL_changes 80 = .ok (.invokestatic 32, 3) := by decide +kernel
theorem dL_changes_83 : decode cL_changes 83 = .ok (.iload_n 1, 1) := by decide +kernel
theorem dL_changes_84 : decode cL_changes 84 = .ok (.bipush 9, 2) := by decide +kernel
theorem dL_changes_86 : decode cL_changes 86 = .ok (.ishr, 1) := by decide +kernel
theorem dL_changes_87 : decode cL_changes 87 = .ok (.iconst 3, 1) := by decide +kernel
theorem dL_changes_88 : decode cL_changes 88 = .ok (.invokestatic 32, 3) := by decide +kernel
theorem dL_changes_91 : decode cL_changes 91 = .ok (.invokevirtual 50, 3) := by decide +kernel
theorem dL_changes_94 : decode cL_changes 94 = .ok (.ifCond .lt 7, 3) := by decide +kernel
theorem dL_changes_97 : decode cL_changes 97 = .ok (.iconst 1, 1) := by decide +kernel
theorem dL_changes_98 : decode cL_changes 98 = .ok (.goto 4, 3) := by decide +kernel
theorem dL_changes_101 : decode cL_changes 101 = .ok (.iconst 0, 1) := by decide +kernel
theorem dL_changes_102 : decode cL_changes 102 = .ok (.ireturn, 1) := by decide +kernel
theorem dL_changes_103 : decode cL_changes 103 = .ok (.aload_n 0, 1) := by decide +kernel
theorem dL_changes_104 : decode cL_changes 104 = .ok (.iload_n 1, 1) := by decide +kernel
theorem dL_changes_105 : decode cL_changes 105 = .ok (.iconst 4, 1) := by decide +kernel
theorem dL_changes_106 : decode cL_changes 106 = .ok (.ishr, 1) := by decide +kernel
theorem dL_changes_107 : decode cL_changes 107 = .ok (.bipush 6, 2) := by decide +kernel
theorem dL_changes_109 : decode cL_changes 109 = .ok (.invokestatic 32, 3) := by decide +kernel
theorem dL_changes_112 : decode cL_changes 112 = .ok (.iload_n 1, 1) := by decide +kernel
theorem dL_changes_113 : decode cL_changes 113 = .ok (.bipush 7, 2) := by decide +kernel
theorem dL_changes_115 : decode cL_changes 115 = .ok (.ishr, 1) := by decide +kernel
theorem dL_changes_116 : decode cL_changes 116 = .ok (.iconst 3, 1) := by decide +kernel
theorem dL_changes_117 : decode cL_changes 117 = .ok (.invokestatic 32, 3) := by decide +kernel
theorem dL_changes_120 : decode cL_changes 120 = .ok (.invokevirtual 54, 3) := by decide +kernel
theorem dL_changes_123 : decode cL_changes 123 = .ok (.ifCond .lt 7, 3) := by decide +kernel
theorem dL_changes_126 : decode cL_changes 126 = .ok (.iconst 1, 1) := by decide +kernel
theorem dL_changes_127 : decode cL_changes 127 = .ok (.goto 4, 3) := by decide +kernel
theorem dL_changes_130 : decode cL_changes 130 = .ok (.iconst 0, 1) := by decide +kernel
theorem dL_changes_131 : decode cL_changes 131 = .ok (.ireturn, 1) := by decide +kernel
theorem dL_changes_132 : decode cL_changes 132 = .ok (.aload_n 0, 1) := by decide +kernel
theorem dL_changes_133 : decode cL_changes 133 = .ok (.iload_n 1, 1) := by decide +kernel
theorem dL_changes_134 : decode cL_changes 134 = .ok (.iconst 4, 1) := by decide +kernel
theorem dL_changes_135 : decode cL_changes 135 = .ok (.ishr, 1) := by decide +kernel
theorem dL_changes_136 : decode cL_changes 136 = .ok (.bipush 33, 2) := by decide +kernel
theorem dL_changes_138 : decode cL_changes 138 = .ok (.invokestatic 32, 3) := by decide +kernel
theorem dL_changes_141 : decode cL_changes 141 = .ok (.invokevirtual 57, 3) := by decide +kernel
theorem dL_changes_144 : decode cL_changes 144 = .ok (.ifCond .lt 7, 3) := by decide +kernel
theorem dL_changes_147 : decode cL_changes 147 = .ok (.iconst 1, 1) := by decide +kernel
theorem dL_changes_148 : decode cL_changes 148 = .ok (.goto 4, 3) := by decide +kernel
theorem dL_changes_151 : decode cL_changes 151 = .ok (.iconst 0, 1) := by decide +kernel
theorem dL_changes_152 : decode cL_changes 152 = .ok (.ireturn, 1) := by decide +kernel
theorem dL_changes_153 : decode cL_changes 153 = .ok (.aload_n 0, 1) := by decide +kernel
theorem dL_changes_154 : decode cL_changes 154 = .ok (.iload_n 1, 1) := by decide +kernel
theorem dL_changes_155 : decode cL_changes 155 = .ok (.bipush 6, 2) := by decide +kernel
theorem dL_changes_157 : decode cL_changes 157 = .ok (.ishr, 1) := by decide +kernel
theorem dL_changes_158 : decode cL_changes 158 = .ok (.iconst 1, 1) := by decide +kernel
theorem dL_changes_159 : decode cL_changes 159 = .ok (.iand, 1) := by decide +kernel
theorem dL_changes_160 : decode cL_changes 160 = .ok (.ifCond .ne 32, 3) := by decide +kernel
theorem dL_changes_163 : decode cL_changes 163 = .ok (.new 115, 3) := by decide +kernel
theorem dL_changes_166 : decode cL_changes 166 = .ok (.dup, 1) := by decide +kernel
theorem dL_changes_167 : decode cL_changes 167 = .ok (.invokespecial 117, 3) := by decide +kernel
theorem dL_changes_170 : decode cL_changes 170 = .ok (.ldc 118, 2) := by decide +kernel
theorem dL_changes_172 : decode cL_changes 172 = .ok (.invokevirtual 120, 3) := by decide +kernel
theorem dL_changes_175 : decode cL_changes 175 = .ok (.iload_n 1, 1) := by decide +kernel
theorem dL_changes_176 : decode cL_changes 176 = .ok (.iconst 4, 1) := by decide +kernel
theorem dL_changes_177 : decode cL_changes 177 = .ok (.ishr, 1) := by decide +kernel
theorem dL_changes_178 : decode cL_changes 178 = .ok (.bipush 6, 2) := by decide +kernel
theorem dL_changes_180 : decode cL_changes 180 = .ok (.invokestatic 32, 3) := by decide +kernel
theorem dL_changes_183 : decode cL_changes 183 = .ok (.invokevirtual 123, 3) := by decide +kernel
theorem dL_changes_186 : decode cL_changes 186 = .ok (.invokevirtual 126, 3) := by decide +kernel
theorem dL_changes_189 : decode cL_changes 189 = .ok (.goto 29, 3) := by decide +kernel
theorem dL_changes_192 : decode cL_changes 192 = .ok (.new 115, 3) := by decide +kernel
theorem dL_changes_195 : decode cL_changes 195 = .ok (.dup, 1) := by decide +kernel
theorem dL_changes_196 : decode cL_changes 196 = .ok (.invokespecial 117, 3) := by decide +kernel
theorem dL_changes_199 : decode cL_changes 199 = .ok (.ldc 130, 2) := by decide +kernel
theorem dL_changes_201 : decode cL_changes 201 = .ok (.invokevirtual 120, 3) := by decide +kernel
theorem dL_changes_204 : decode cL_changes 204 = .ok (.iload_n 1, 1) := by decide +kernel
theorem dL_changes_205 : decode cL_changes 205 = .ok (.iconst 4, 1) := by decide +kernel
theorem dL_changes_206 : decode cL_changes 206 = .ok (.ishr, 1) := by decide +kernel
theorem dL_changes_207 : decode cL_changes 207 = .ok (.bipush 32, 2) := by decide +kernel
theorem dL_changes_209 : decode cL_changes 209 = .ok (.invokestatic 32, 3) := by decide +kernel
theorem dL_changes_212 : decode cL_changes 212 = .ok (.invokevirtual 123, 3) := by decide +kernel
theorem dL_changes_215 : decode cL_changes 215 = .ok (.invokevirtual 126, 3) := by decide +kernel
theorem dL_changes_218 : decode cL_changes 218 = .ok (.invokestatic 132, 3) := by decide +kernel
theorem dL_changes_221 : decode cL_changes 221 = .ok (.ifCond .lt 7, 3) := by decide +kernel
theorem dL_changes_224 : decode cL_changes 224 = .ok (.iconst 1, 1) := by decide +kernel
theorem dL_changes_225 : decode cL_changes 225 = .ok (.goto 4, 3) := by decide +kernel
theorem dL_changes_228 : decode cL_changes 228 = .ok (.iconst 0, 1) := by decide +kernel
theorem dL_changes_229 : decode cL_changes 229 = .ok (.ireturn, 1) := by decide +kernel
theorem dL_changes_230 : decode cL_changes 230 = .ok (.aload_n 0, 1) := by decide +kernel
theorem dL_changes_231 : decode cL_changes 231 = .ok (.iload_n 1, 1) := by decide +kernel
theorem dL_changes_232 : decode cL_changes 232 = .ok (.iconst 4, 1) := by decide +kernel
theorem dL_changes_233 : decode cL_changes 233 = .ok (.ishr, 1) := by decide +kernel
theorem dL_changes_234 : decode cL_changes 234 = .ok (.invokestatic 64, 3) := by decide +kernel
theorem dL_changes_237 : decode cL_changes 237 = .ok (.ifCond .lt 7, 3) := by decide +kernel
theorem dL_changes_240 : decode cL_changes 240 = .ok (.iconst 1, 1) := by decide +kernel
theorem dL_changes_241 : decode cL_changes 241 = .ok (.goto 4, 3) := by decide +kernel
theorem dL_changes_244 : decode cL_changes 244 = .ok (.iconst 0, 1) := by decide +kernel
theorem dL_changes_245 : decode cL_changes 245 = .ok (.ireturn, 1) := by decide +kernel
