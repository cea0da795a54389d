theorem dL_asks_0 : decode cL_asks 0 = .ok (.ldc2_w 68, 3) := by decide +kernel
theorem dL_asks_3 : decode cL_asks 3 = .ok (.aload_n 0, 1) := by decide +kernel
theorem dL_asks_4 : decode cL_asks 4 = .ok (.invokevirtual 70, 3) := by decide +kernel
theorem dL_asks_7 : decode cL_asks 7 = .ok (.i2l, 1) := by decide +kernel
theorem dL_asks_8 : decode cL_asks 8 = .ok (.lmul, 1) := by decide +kernel
theorem dL_asks_9 : decode cL_asks 9 = .ok (.aload_n 0, 1) := by decide +kernel
theorem dL_asks_10 : decode cL_asks 10 = .ok (.invokevirtual 73, 3) := by decide +kernel
theorem dL_asks_13 : decode cL_asks 13 = .ok (.i2l, 1) := by decide +kernel
theorem dL_asks_14 : decode cL_asks 14 = .ok (.ladd, 1) := by decide +kernel
theorem dL_asks_15 : decode cL_asks 15 = .ok (.lstore_n 1, 1) := by decide +kernel
theorem dL_asks_16 : decode cL_asks 16 = .ok (.iconst 0, 1) := by decide +kernel
theorem dL_asks_17 : decode cL_asks 17 = .ok (.istore_n 3, 1) := by decide +kernel
theorem dL_asks_18 : decode cL_asks 18 = .ok (.iload_n 3, 1) := by decide +kernel
theorem dL_asks_19 : decode cL_asks 19 = .ok (.bipush 11, 2) := by decide +kernel
theorem dL_asks_21 : decode cL_asks 21 = .ok (.if_icmp .ge 22, 3) := by decide +kernel
theorem dL_asks_24 : decode cL_asks 24 = .ok (.ldc2_w 68, 3) := by decide +kernel
theorem dL_asks_27 : decode cL_asks 27 = .ok (.lload_n 1, 1) := by decide +kernel
theorem dL_asks_28 : decode cL_asks 28 = .ok (.lmul, 1) := by decide +kernel
theorem dL_asks_29 : decode cL_asks 29 = .ok (.aload_n 0, 1) := by decide +kernel
theorem dL_asks_30 : decode cL_asks 30 = .ok (.iload_n 3, 1) := by decide +kernel
theorem dL_asks_31 : decode cL_asks 31 = .ok (.invokevirtual 76, 3) := by decide +kernel
theorem dL_asks_34 : decode cL_asks 34 = .ok (.i2l, 1) := by decide +kernel
theorem dL_asks_35 : decode cL_asks 35 = .ok (.ladd, 1) := by decide +kernel
theorem dL_asks_36 : decode cL_asks 36 = .ok (.lstore_n 1, 1) := by decide +kernel
theorem dL_asks_37 : decode cL_asks 37 = .ok (.iinc 3 1, 3) := by decide +kernel
theorem dL_asks_40 : decode cL_asks 40 = .ok (.goto (-22), 3) := by decide +kernel
theorem dL_asks_43 : decode cL_asks 43 = .ok (.iconst 0, 1) := by decide +kernel
theorem dL_asks_44 : decode cL_asks 44 = .ok (.istore_n 3, 1) := by decide +kernel
theorem dL_asks_45 : decode cL_asks 45 = .ok (.iload_n 3, 1) := by decide +kernel
theorem dL_asks_46 : decode cL_asks 46 = .ok (.iconst 5, 1) := by decide +kernel
theorem dL_asks_47 : decode cL_asks 47 = .ok (.if_icmp .ge 266, 3) := by decide +kernel
theorem dL_asks_50 : decode cL_asks 50 = .ok (.iconst 0, 1) := by decide +kernel
theorem dL_asks_51 : decode cL_asks 51 = .ok (.istore 4, 2) := by decide +kernel
theorem dL_asks_53 : decode cL_asks 53 = .ok (.iload 4, 2) := by decide +kernel
theorem dL_asks_55 : decode cL_asks 55 = .ok (.bipush 9, 2) := by decide +kernel
theorem dL_asks_57 : decode cL_asks 57 = .ok (.if_icmp .ge 24, 3) := by decide +kernel
theorem dL_asks_60 : decode cL_asks 60 = .ok (.ldc2_w 68, 3) := by decide +kernel
theorem dL_asks_63 : decode cL_asks 63 = .ok (.lload_n 1, 1) := by decide +kernel
theorem dL_asks_64 : decode cL_asks 64 = .ok (.lmul, 1) := by decide +kernel
theorem dL_asks_65 : decode cL_asks 65 = .ok (.aload_n 0, 1) := by decide +kernel
theorem dL_asks_66 : decode cL_asks 66 = .ok (.iload_n 3, 1) := by decide +kernel
theorem dL_asks_67 : decode cL_asks 67 = .ok (.iload 4, 2) := by decide +kernel
theorem dL_asks_69 : decode cL_asks 69 = .ok (.invokevirtual 79, 3) := by decide +kernel
theorem dL_asks_72 : decode cL_asks 72 = .ok (.i2l, 1) := by decide +kernel
theorem dL_asks_73 : decode cL_asks 73 = .ok (.ladd, 1) := by decide +kernel
theorem dL_asks_74 : decode cL_asks 74 = .ok (.lstore_n 1, 1) := by decide +kernel
theorem dL_asks_75 : decode cL_asks 75 = .ok (.iinc 4 1, 3) := by decide +kernel
theorem dL_asks_78 : decode cL_asks 78 = .ok (.goto (-25), 3) := by decide +kernel
theorem dL_asks_81 : decode cL_asks 81 = .ok (.iconst 0, 1) := by decide +kernel
theorem dL_asks_82 : decode cL_asks 82 = .ok (.istore 4, 2) := by decide +kernel
theorem dL_asks_84 : decode cL_asks 84 = .ok (.iload 4, 2) := by decide +kernel
theorem dL_asks_86 : decode cL_asks 86 = .ok (.bipush 13, 2) := by decide +kernel
theorem dL_asks_88 : decode cL_asks 88 = .ok (.if_icmp .ge 52, 3) := by decide +kernel
theorem dL_asks_91 : decode cL_asks 91 = .ok (.ldc2_w 68, 3) := by decide +kernel
theorem dL_asks_94 : decode cL_asks 94 = .ok (.ldc2_w 68, 3) := by decide +kernel
theorem dL_asks_97 : decode cL_asks 97 = .ok (.ldc2_w 68, 3) := by decide +kernel
theorem dL_asks_100 : decode cL_asks 100 = .ok (.lload_n 1, 1) := by decide +kernel
theorem dL_asks_101 : decode cL_asks 101 = .ok (.lmul, 1) := by decide +kernel
theorem dL_asks_102 : decode cL_asks 102 = .ok (.aload_n 0, 1) := by decide +kernel
theorem dL_asks_103 : decode cL_asks 103 = .ok (.iload_n 3, 1) := by decide +kernel
theorem dL_asks_104 : decode cL_asks 104 = .ok (.iload 4, 2) := by decide +kernel
theorem dL_asks_106 : decode cL_asks 106 = .ok (.iconst 0, 1) := by decide +kernel
theorem dL_asks_107 : decode cL_asks 107 = .ok (.invokevirtual 82, 3) := by decide +kernel
theorem dL_asks_110 : decode cL_asks 110 = .ok (.i2l, 1) := by decide +kernel
theorem dL_asks_111 : decode cL_asks 111 = .ok (.ladd, 1) := by decide +kernel
theorem dL_asks_112 : decode cL_asks 112 = .ok (.lmul, 1) := by decide +kernel
theorem dL_asks_113 : decode cL_asks 113 = .ok (.aload_n 0, 1) := by decide +kernel
theorem dL_asks_114 : decode cL_asks 114 = .ok (.iload_n 3, 1) := by decide +kernel
theorem dL_asks_115 : decode cL_asks 115 = .ok (.iload 4, 2) := by decide +kernel
theorem dL_asks_117 : decode cL_asks 117 = .ok (.iconst 1, 1) := by decide +kernel
theorem dL_asks_118 : decode cL_asks 118 = .ok (.invokevirtual 82, 3) := by decide +kernel
theorem dL_asks_121 : decode cL_asks 121 = .ok (.i2l, 1) := by decide +kernel
theorem dL_asks_122 : decode cL_asks 122 = .ok (.ladd, 1) := by decide +kernel
theorem dL_asks_123 : decode cL_asks 123 = .ok (.lmul, 1) := by decide +kernel
theorem dL_asks_124 : decode cL_asks 124 = .ok (.aload_n 0, 1) := by decide +kernel
theorem dL_asks_125 : decode cL_asks 125 = .ok (.iload_n 3, 1) := by decide +kernel
theorem dL_asks_126 : decode cL_asks 126 = .ok (.iload 4, 2) := by decide +kernel
theorem dL_asks_128 : decode cL_asks 128 = .ok (.invokevirtual 85, 3) := by decide +kernel
theorem dL_asks_131 : decode cL_asks 131 = .ok (.i2l, 1) := by decide +kernel
theorem dL_asks_132 : decode cL_asks 132 = .ok (.ladd, 1) := by decide +kernel
theorem dL_asks_133 : decode cL_asks 133 = .ok (.lstore_n 1, 1) := by decide +kernel
theorem dL_asks_134 : decode cL_asks 134 = .ok (.iinc 4 1, 3) := by decide +kernel
theorem dL_asks_137 : decode cL_asks 137 = .ok (.goto (-53), 3) := by decide +kernel
theorem dL_asks_140 : decode cL_asks 140 = .ok (.iconst 0, 1) := by decide +kernel
theorem dL_asks_141 : decode cL_asks 141 = .ok (.istore 4, 2) := by decide +kernel
theorem dL_asks_143 : decode cL_asks 143 = .ok (.iload 4, 2) := by decide +kernel
theorem dL_asks_145 : decode cL_asks 145 = .ok (.iconst 5, 1) := by decide +kernel
theorem dL_asks_146 : decode cL_asks 146 = .ok (.if_icmp .ge 50, 3) := by decide +kernel
theorem dL_asks_149 : decode cL_asks 149 = .ok (.ldc2_w 68, 3) := by decide +kernel
theorem dL_asks_152 : decode cL_asks 152 = .ok (.ldc2_w 68, 3) := by decide +kernel
theorem dL_asks_155 : decode cL_asks 155 = .ok (.ldc2_w 68, 3) := by decide +kernel
theorem dL_asks_158 : decode cL_asks 158 = .ok (.lload_n 1, 1) := by decide +kernel
theorem dL_asks_159 : decode cL_asks 159 = .ok (.lmul, 1) := by decide +kernel
theorem dL_asks_160 : decode cL_asks 160 = .ok (.aload_n 0, 1) := by decide +kernel
theorem dL_asks_161 : decode cL_asks 161 = .ok (.iload_n 3, 1) := by decide +kernel
theorem dL_asks_162 : decode cL_asks 162 = .ok (.iload 4, 2) := by decide +kernel
theorem dL_asks_164 : decode cL_asks 164 = .ok (.invokevirtual 88, 3) := by decide +kernel
theorem dL_asks_167 : decode cL_asks 167 = .ok (.i2l, 1) := by decide +kernel
theorem dL_asks_168 : decode cL_asks 168 = .ok (.ladd, 1) := by decide +kernel
theorem dL_asks_169 : decode cL_asks 169 = .ok (.lmul, 1) := by decide +kernel
theorem dL_asks_170 : decode cL_asks 170 = .ok (.aload_n 0, 1) := by decide +kernel
theorem dL_asks_171 : decode cL_asks 171 = .ok (.iload_n 3, 1) := by decide +kernel
theorem dL_asks_172 : decode cL_asks 172 = .ok (.iload 4, 2) := by decide +kernel
theorem dL_asks_174 : decode cL_asks 174 = .ok (.invokevirtual 91, 3) := by decide +kernel
theorem dL_asks_177 : decode cL_asks 177 = .ok (.i2l, 1) := by decide +kernel
theorem dL_asks_178 : decode cL_asks 178 = .ok (.ladd, 1) := by decide +kernel
theorem dL_asks_179 : decode cL_asks 179 = .ok (.lmul, 1) := by decide +kernel
theorem dL_asks_180 : decode cL_asks 180 = .ok (.aload_n 0, 1) := by decide +kernel
theorem dL_asks_181 : decode cL_asks 181 = .ok (.iload_n 3, 1) := by decide +kernel
theorem dL_asks_182 : decode cL_asks 182 = .ok (.iload 4, 2) := by decide +kernel
theorem dL_asks_184 : decode cL_asks 184 = .ok (.invokevirtual 94, 3) := by decide +kernel
theorem dL_asks_187 : decode cL_asks 187 = .ok (.i2l, 1) := by decide +kernel
theorem dL_asks_188 : decode cL_asks 188 = .ok (.ladd, 1) := by decide +kernel
theorem dL_asks_189 : decode cL_asks 189 = .ok (.lstore_n 1, 1) := by decide +kernel
theorem dL_asks_190 : decode cL_asks 190 = .ok (.iinc 4 1, 3) := by decide +kernel
theorem dL_asks_193 : decode cL_asks 193 = .ok (.goto (-50), 3) := by decide +kernel
theorem dL_asks_196 : decode cL_asks 196 = .ok (.aload_n 0, 1) := by decide +kernel
theorem dL_asks_197 : decode cL_asks 197 = .ok (.iload_n 3, 1) := by decide +kernel
theorem dL_asks_198 : decode cL_asks 198 = .ok (.invokevirtual 97, 3) := by decide +kernel
theorem dL_asks_201 : decode cL_asks 201 = .ok (.istore 4, 2) := by decide +kernel
theorem dL_asks_203 : decode cL_asks 203 = .ok (.iconst 0, 1) := by decide +kernel
theorem dL_asks_204 : decode cL_asks 204 = .ok (.istore 5, 2) := by decide +kernel
theorem dL_asks_206 : decode cL_asks 206 = .ok (.iload 5, 2) := by decide +kernel
theorem dL_asks_208 : decode cL_asks 208 = .ok (.iload 4, 2) := by decide +kernel
theorem dL_asks_210 : decode cL_asks 210 = .ok (.if_icmp .ge 23, 3) := by decide +kernel
theorem dL_asks_213 : decode cL_asks 213 = .ok (.ldc2_w 68, 3) := by decide +kernel
theorem dL_asks_216 : decode cL_asks 216 = .ok (.lload_n 1, 1) := by decide +kernel
theorem dL_asks_217 : decode cL_asks 217 = .ok (.lmul, 1) := by decide +kernel
theorem dL_asks_218 : decode cL_asks 218 = .ok (.aload_n 0, 1) := by decide +kernel
theorem dL_asks_219 : decode cL_asks 219 = .ok (.iload 5, 2) := by decide +kernel
theorem dL_asks_221 : decode cL_asks 221 = .ok (.invokevirtual 29, 3) := by decide +kernel
theorem dL_asks_224 : decode cL_asks 224 = .ok (.i2l, 1) := by decide +kernel
theorem dL_asks_225 : decode cL_asks 225 = .ok (.ladd, 1) := by decide +kernel
theorem dL_asks_226 : decode cL_asks 226 = .ok (.lstore_n 1, 1) := by decide +kernel
theorem dL_asks_227 : decode cL_asks 227 = .ok (.iinc 5 1, 3) := by decide +kernel
theorem dL_asks_230 : decode cL_asks 230 = .ok (.goto (-24), 3) := by decide +kernel
theorem dL_asks_233 : decode cL_asks 233 = .ok (.aload_n 0, 1) := by decide +kernel
theorem dL_asks_234 : decode cL_asks 234 = .ok (.iload_n 3, 1) := by decide +kernel
theorem dL_asks_235 : decode cL_asks 235 = .ok (.invokevirtual 100, 3) := by decide +kernel
theorem dL_asks_238 : decode cL_asks 238 = .ok (.istore 4, 2) := by decide +kernel
theorem dL_asks_240 : decode cL_asks 240 = .ok (.iconst 0, 1) := by decide +kernel
theorem dL_asks_241 : decode cL_asks 241 = .ok (.istore 5, 2) := by decide +kernel
theorem dL_asks_243 : decode cL_asks 243 = .ok (.iload 5, 2) := by decide +kernel
theorem dL_asks_245 : decode cL_asks 245 = .ok (.iload 4, 2) := by decide +kernel
theorem dL_asks_247 : decode cL_asks 247 = .ok (.if_icmp .ge 23, 3) := by decide +kernel
theorem dL_asks_250 : decode cL_asks 250 = .ok (.ldc2_w 68, 3) := by decide +kernel
theorem dL_asks_253 : decode cL_asks 253 = .ok (.lload_n 1, 1) := by decide +kernel
theorem dL_asks_254 : decode cL_asks 254 = .ok (.lmul, 1) := by decide +kernel
theorem dL_asks_255 : decode cL_asks 255 = .ok (.aload_n 0, 1) := by decide +kernel
theorem dL_asks_256 : decode cL_asks 256 = .ok (.iload 5, 2) := by decide +kernel
theorem dL_asks_258 : decode cL_asks 258 = .ok (.invokevirtual 29, 3) := by decide +kernel
theorem dL_asks_261 : decode cL_asks 261 = .ok (.i2l, 1) := by decide +kernel
theorem dL_asks_262 : decode cL_asks 262 = .ok (.ladd, 1) := by decide +kernel
theorem dL_asks_263 : decode cL_asks 263 = .ok (.lstore_n 1, 1) := by decide +kernel
theorem dL_asks_264 : decode cL_asks 264 = .ok (.iinc 5 1, 3) := by decide +kernel
theorem dL_asks_267 : decode cL_asks 267 = .ok (.goto (-24), 3) := by decide +kernel
theorem dL_asks_270 : decode cL_asks 270 = .ok (.ldc2_w 68, 3) := by decide +kernel
theorem dL_asks_273 : decode cL_asks 273 = .ok (.ldc2_w 68, 3) := by decide +kernel
theorem dL_asks_276 : decode cL_asks 276 = .ok (.ldc2_w 68, 3) := by decide +kernel
theorem dL_asks_279 : decode cL_asks 279 = .ok (.lload_n 1, 1) := by decide +kernel
theorem dL_asks_280 : decode cL_asks 280 = .ok (.lmul, 1) := by decide +kernel
theorem dL_asks_281 : decode cL_asks 281 = .ok (.aload_n 0, 1) := by decide +kernel
theorem dL_asks_282 : decode cL_asks 282 = .ok (.iload_n 3, 1) := by decide +kernel
theorem dL_asks_283 : decode cL_asks 283 = .ok (.invokevirtual 103, 3) := by decide +kernel
theorem dL_asks_286 : decode cL_asks 286 = .ok (.i2l, 1) := by decide +kernel
theorem dL_asks_287 : decode cL_asks 287 = .ok (.ladd, 1) := by decide +kernel
theorem dL_asks_288 : decode cL_asks 288 = .ok (.lmul, 1) := by decide +kernel
theorem dL_asks_289 : decode cL_asks 289 = .ok (.aload_n 0, 1) := by decide +kernel
theorem dL_asks_290 : decode cL_asks 290 = .ok (.iload_n 3, 1) := by decide +kernel
theorem dL_asks_291 : decode cL_asks 291 = .ok (.invokevirtual 106, 3) := by decide +kernel
theorem dL_asks_294 : decode cL_asks 294 = .ok (.i2l, 1) := by decide +kernel
theorem dL_asks_295 : decode cL_asks 295 = .ok (.ladd, 1) := by decide +kernel
theorem dL_asks_296 : decode cL_asks 296 = .ok (.lmul, 1) := by decide +kernel
theorem dL_asks_297 : decode cL_asks 297 = .ok (.aload_n 0, 1) := by decide +kernel
theorem dL_asks_298 : decode cL_asks 298 = .ok (.iload_n 3, 1) := by decide +kernel
theorem dL_asks_299 : decode cL_asks 299 = .ok (.iconst 4, 1) := by decide +kernel
theorem dL_asks_300 : decode cL_asks 300 = .ok (.irem, 1) := by decide +kernel
theorem dL_asks_301 : decode cL_asks 301 = .ok (.invokevirtual 109, 3) := by decide +kernel
theorem dL_asks_304 : decode cL_asks 304 = .ok (.i2l, 1) := by decide +kernel
theorem dL_asks_305 : decode cL_asks 305 = .ok (.ladd, 1) := by decide +kernel
theorem dL_asks_306 : decode cL_asks 306 = .ok (.lstore_n 1, 1) := by decide +kernel
theorem dL_asks_307 : decode cL_asks 307 = .ok (.iinc 3 1, 3) := by decide +kernel
theorem dL_asks_310 : decode cL_asks 310 = .ok (.goto (-265), 3) := by decide +kernel
theorem dL_asks_313 : decode cL_asks 313 = .ok (.ldc2_w 68, 3) := by decide +kernel
theorem dL_asks_316 : decode cL_asks 316 = .ok (.ldc2_w 68, 3) := by decide +kernel
theorem dL_asks_319 : decode cL_asks 319 = .ok (.lload_n 1, 1) := by decide +kernel
theorem dL_asks_320 : decode cL_asks 320 = .ok (.lmul, 1) := by decide +kernel
theorem dL_asks_321 : decode cL_asks 321 = .ok (.aload_n 0, 1) := by decide +kernel
theorem dL_asks_322 : decode cL_asks 322 = .ok (.invokevirtual 41, 3) := by decide +kernel
theorem dL_asks_325 : decode cL_asks 325 = .ok (.i2l, 1) := by decide +kernel
theorem dL_asks_326 : decode cL_asks 326 = .ok (.ladd, 1) := by decide +kernel
theorem dL_asks_327 : decode cL_asks 327 = .ok (.lmul, 1) := by decide +kernel
theorem dL_asks_328 : decode cL_asks 328 = .ok (.aload_n 0, 1) := by decide +kernel
theorem dL_asks_329 : decode cL_asks 329 = .ok (.invokevirtual 112, 3) := by decide +kernel
theorem dL_asks_332 : decode cL_asks 332 = .ok (.i2l, 1) := by decide +kernel
theorem dL_asks_333 : decode cL_asks 333 = .ok (.ladd, 1) := by decide +kernel
theorem dL_asks_334 : decode cL_asks 334 = .ok (.lreturn, 1) := by decide +kernel
