theorem dL_refused_191 : decode cL_refused 191 = .ok (.if_icmp .ne 18, 3) := by decide +kernel
theorem dL_refused_194 : decode cL_refused 194 = .ok (.aload_n 0, 1) := by decide +kernel
theorem dL_refused_195 : decode cL_refused 195 = .ok (.bipush 31, 2) := by decide +kernel
theorem dL_refused_197 : decode cL_refused 197 = .ok (.invokevirtual 57, 3) := by decide +kernel
theorem dL_refused_200 : decode cL_refused 200 = .ok (.bipush (-2), 2) := by decide +kernel
theorem dL_refused_202 : decode cL_refused 202 = .ok (.if_icmp .ne 7, 3) := by decide +kernel
theorem dL_refused_205 : decode cL_refused 205 = .ok (.iconst 1, 1) := by decide +kernel
theorem dL_refused_206 : decode cL_refused 206 = .ok (.goto 4, 3) := by decide +kernel
theorem dL_refused_209 : decode cL_refused 209 = .ok (.iconst 0, 1) := by decide +kernel
theorem dL_refused_210 : decode cL_refused 210 = .ok (.istore_n 3, 1) := by decide +kernel
theorem dL_refused_211 : decode cL_refused 211 = .ok (.iconst 0, 1) := by decide +kernel
theorem dL_refused_212 : decode cL_refused 212 = .ok (.istore 4, 2) := by decide +kernel
theorem dL_refused_214 : decode cL_refused 214 = .ok (.iload 4, 2) := by decide +kernel
theorem dL_refused_216 : decode cL_refused 216 = .ok (.iconst 5, 1) := by decide +kernel
theorem dL_refused_217 : decode cL_refused 217 = .ok (.if_icmp .ge 258, 3) := by decide +kernel
theorem dL_refused_220 : decode cL_refused 220 = .ok (.iload_n 3, 1) := by decide +kernel
theorem dL_refused_221 : decode cL_refused 221 = .ok (.ifCond .eq 254, 3) := by decide +kernel
theorem dL_refused_224 : decode cL_refused 224 = .ok (.aload_n 0, 1) := by decide +kernel
theorem dL_refused_225 : decode cL_refused 225 = .ok (.iload 4, 2) := by decide +kernel
theorem dL_refused_227 : decode cL_refused 227 = .ok (.iconst 3, 1) := by decide +kernel
theorem dL_refused_228 : decode cL_refused 228 = .ok (.invokevirtual 79, 3) := by decide +kernel
theorem dL_refused_231 : decode cL_refused 231 = .ok (.istore 5, 2) := by decide +kernel
theorem dL_refused_233 : decode cL_refused 233 = .ok (.aload_n 0, 1) := by decide +kernel
theorem dL_refused_234 : decode cL_refused 234 = .ok (.iload 4, 2) := by decide +kernel
theorem dL_refused_236 : decode cL_refused 236 = .ok (.iconst 2, 1) := by decide +kernel
theorem dL_refused_237 : decode cL_refused 237 = .ok (.invokevirtual 79, 3) := by decide +kernel
theorem dL_refused_240 : decode cL_refused 240 = .ok (.istore 6, 2) := by decide +kernel
theorem dL_refused_242 : decode cL_refused 242 = .ok (.aload_n 0, 1) := by decide +kernel
theorem dL_refused_243 : decode cL_refused 243 = .ok (.iload 4, 2) := by decide +kernel
theorem dL_refused_245 : decode cL_refused 245 = .ok (.iconst 0, 1) := by decide +kernel
theorem dL_refused_246 : decode cL_refused 246 = .ok (.invokevirtual 79, 3) := by decide +kernel
theorem dL_refused_249 : decode cL_refused 249 = .ok (.istore 7, 2) := by decide +kernel
theorem dL_refused_251 : decode cL_refused 251 = .ok (.aload_n 0, 1) := by decide +kernel
theorem dL_refused_252 : decode cL_refused 252 = .ok (.iload 4, 2) := by decide +kernel
theorem dL_refused_254 : decode cL_refused 254 = .ok (.iload 5, 2) := by decide +kernel
theorem dL_refused_256 : decode cL_refused 256 = .ok (.invokevirtual 54, 3) := by decide +kernel
theorem dL_refused_259 : decode cL_refused 259 = .ok (.bipush (-3), 2) := by decide +kernel
theorem dL_refused_261 : decode cL_refused 261 = .ok (.if_icmp .ne 19, 3) := by decide +kernel
theorem dL_refused_264 : decode cL_refused 264 = .ok (.aload_n 0, 1) := by decide +kernel
theorem dL_refused_265 : decode cL_refused 265 = .ok (.iconst 5, 1) := by decide +kernel
theorem dL_refused_266 : decode cL_refused 266 = .ok (.iload 5, 2) := by decide +kernel
theorem dL_refused_268 : decode cL_refused 268 = .ok (.bipush (-4), 2) := by decide +kernel
theorem dL_refused_270 : decode cL_refused 270 = .ok (.invokestatic 140, 3) := by decide +kernel
theorem dL_refused_273 : decode cL_refused 273 = .ok (.ifCond .eq 7, 3) := by decide +kernel
theorem dL_refused_276 : decode cL_refused 276 = .ok (.iconst 1, 1) := by decide +kernel
theorem dL_refused_277 : decode cL_refused 277 = .ok (.goto 4, 3) := by decide +kernel
theorem dL_refused_280 : decode cL_refused 280 = .ok (.iconst 0, 1) := by decide +kernel
theorem dL_refused_281 : decode cL_refused 281 = .ok (.istore_n 3, 1) := by decide +kernel
theorem dL_refused_282 : decode cL_refused 282 = .ok (.iload 5, 2) := by decide +kernel
theorem dL_refused_284 : decode cL_refused 284 = .ok (.ifCond .ne 86, 3) := by decide +kernel
theorem dL_refused_287 : decode cL_refused 287 = .ok (.iload_n 3, 1) := by decide +kernel
theorem dL_refused_288 : decode cL_refused 288 = .ok (.ifCond .eq 77, 3) := by decide +kernel
theorem dL_refused_291 : decode cL_refused 291 = .ok (.aload_n 0, 1) := by decide +kernel
theorem dL_refused_292 : decode cL_refused 292 = .ok (.iload 4, 2) := by decide +kernel
theorem dL_refused_294 : decode cL_refused 294 = .ok (.invokevirtual 38, 3) := by decide +kernel
theorem dL_refused_297 : decode cL_refused 297 = .ok (.bipush (-3), 2) := by decide +kernel
theorem dL_refused_299 : decode cL_refused 299 = .ok (.if_icmp .ne 66, 3) := by decide +kernel
theorem dL_refused_302 : decode cL_refused 302 = .ok (.aload_n 0, 1) := by decide +kernel
theorem dL_refused_303 : decode cL_refused 303 = .ok (.iconst 1, 1) := by decide +kernel
theorem dL_refused_304 : decode cL_refused 304 = .ok (.iload 4, 2) := by decide +kernel
theorem dL_refused_306 : decode cL_refused 306 = .ok (.bipush (-4), 2) := by decide +kernel
theorem dL_refused_308 : decode cL_refused 308 = .ok (.invokestatic 140, 3) := by decide +kernel
theorem dL_refused_311 : decode cL_refused 311 = .ok (.ifCond .eq 54, 3) := by decide +kernel
theorem dL_refused_314 : decode cL_refused 314 = .ok (.aload_n 0, 1) := by decide +kernel
theorem dL_refused_315 : decode cL_refused 315 = .ok (.iload 4, 2) := by decide +kernel
theorem dL_refused_317 : decode cL_refused 317 = .ok (.iconst 0, 1) := by decide +kernel
theorem dL_refused_318 : decode cL_refused 318 = .ok (.invokevirtual 44, 3) := by decide +kernel
theorem dL_refused_321 : decode cL_refused 321 = .ok (.bipush (-3), 2) := by decide +kernel
theorem dL_refused_323 : decode cL_refused 323 = .ok (.if_icmp .ne 42, 3) := by decide +kernel
theorem dL_refused_326 : decode cL_refused 326 = .ok (.aload_n 0, 1) := by decide +kernel
theorem dL_refused_327 : decode cL_refused 327 = .ok (.iconst 1, 1) := by decide +kernel
theorem dL_refused_328 : decode cL_refused 328 = .ok (.iload 4, 2) := by decide +kernel
theorem dL_refused_330 : decode cL_refused 330 = .ok (.bipush (-4), 2) := by decide +kernel
theorem dL_refused_332 : decode cL_refused 332 = .ok (.invokestatic 140, 3) := by decide +kernel
theorem dL_refused_335 : decode cL_refused 335 = .ok (.ifCond .eq 30, 3) := by decide +kernel
theorem dL_refused_338 : decode cL_refused 338 = .ok (.aload_n 0, 1) := by decide +kernel
theorem dL_refused_339 : decode cL_refused 339 = .ok (.iload 4, 2) := by decide +kernel
theorem dL_refused_341 : decode cL_refused 341 = .ok (.invokevirtual 47, 3) := by decide +kernel
theorem dL_refused_344 : decode cL_refused 344 = .ok (.bipush (-3), 2) := by decide +kernel
theorem dL_refused_346 : decode cL_refused 346 = .ok (.if_icmp .ne 19, 3) := by decide +kernel
theorem dL_refused_349 : decode cL_refused 349 = .ok (.aload_n 0, 1) := by decide +kernel
theorem dL_refused_350 : decode cL_refused 350 = .ok (.iconst 1, 1) := by decide +kernel
theorem dL_refused_351 : decode cL_refused 351 = .ok (.iload 4, 2) := by decide +kernel
theorem dL_refused_353 : decode cL_refused 353 = .ok (.bipush (-4), 2) := by decide +kernel
theorem dL_refused_355 : decode cL_refused 355 = .ok (.invokestatic 140, 3) := by decide +kernel
theorem dL_refused_358 : decode cL_refused 358 = .ok (.ifCond .eq 7, 3) := by decide +kernel
theorem dL_refused_361 : decode cL_refused 361 = .ok (.iconst 1, 1) := by decide +kernel
theorem dL_refused_362 : decode cL_refused 362 = .ok (.goto 4, 3) := by decide +kernel
theorem dL_refused_365 : decode cL_refused 365 = .ok (.iconst 0, 1) := by decide +kernel
theorem dL_refused_366 : decode cL_refused 366 = .ok (.istore_n 3, 1) := by decide +kernel
theorem dL_refused_367 : decode cL_refused 367 = .ok (.goto 102, 3) := by decide +kernel
theorem dL_refused_370 : decode cL_refused 370 = .ok (.iload 6, 2) := by decide +kernel
theorem dL_refused_372 : decode cL_refused 372 = .ok (.iconst 1, 1) := by decide +kernel
theorem dL_refused_373 : decode cL_refused 373 = .ok (.if_icmp .ne 39, 3) := by decide +kernel
theorem dL_refused_376 : decode cL_refused 376 = .ok (.iload_n 3, 1) := by decide +kernel
theorem dL_refused_377 : decode cL_refused 377 = .ok (.ifCond .eq 30, 3) := by decide +kernel
theorem dL_refused_380 : decode cL_refused 380 = .ok (.aload_n 0, 1) := by decide +kernel
theorem dL_refused_381 : decode cL_refused 381 = .ok (.iload 4, 2) := by decide +kernel
theorem dL_refused_383 : decode cL_refused 383 = .ok (.invokevirtual 38, 3) := by decide +kernel
theorem dL_refused_386 : decode cL_refused 386 = .ok (.bipush (-3), 2) := by decide +kernel
theorem dL_refused_388 : decode cL_refused 388 = .ok (.if_icmp .ne 19, 3) := by decide +kernel
theorem dL_refused_391 : decode cL_refused 391 = .ok (.aload_n 0, 1) := by decide +kernel
theorem dL_refused_392 : decode cL_refused 392 = .ok (.iconst 2, 1) := by decide +kernel
theorem dL_refused_393 : decode cL_refused 393 = .ok (.iload 7, 2) := by decide +kernel
theorem dL_refused_395 : decode cL_refused 395 = .ok (.bipush (-4), 2) := by decide +kernel
theorem dL_refused_397 : decode cL_refused 397 = .ok (.invokestatic 140, 3) := by decide +kernel
theorem dL_refused_400 : decode cL_refused 400 = .ok (.ifCond .eq 7, 3) := by decide +kernel
theorem dL_refused_403 : decode cL_refused 403 = .ok (.iconst 1, 1) := by decide +kernel
theorem dL_refused_404 : decode cL_refused 404 = .ok (.goto 4, 3) := by decide +kernel
theorem dL_refused_407 : decode cL_refused 407 = .ok (.iconst 0, 1) := by decide +kernel
