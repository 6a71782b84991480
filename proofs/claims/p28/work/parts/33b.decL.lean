theorem dL_refuses_0 : decode cL_refuses 0 = .ok (.ldc 97, 2) := by decide +kernel
theorem dL_refuses_2 : decode cL_refuses 2 = .ok (.istore_n 3, 1) := by decide +kernel
theorem dL_refuses_3 : decode cL_refuses 3 = .ok (.aload_n 0, 1) := by decide +kernel
theorem dL_refuses_4 : decode cL_refuses 4 = .ok (.invokevirtual 98, 3) := by decide +kernel
theorem dL_refuses_7 : decode cL_refuses 7 = .ok (.istore 4, 2) := by decide +kernel
theorem dL_refuses_9 : decode cL_refuses 9 = .ok (.iconst 0, 1) := by decide +kernel
theorem dL_refuses_10 : decode cL_refuses 10 = .ok (.istore 5, 2) := by decide +kernel
theorem dL_refuses_12 : decode cL_refuses 12 = .ok (.iload 5, 2) := by decide +kernel
theorem dL_refuses_14 : decode cL_refuses 14 = .ok (.iconst 4, 1) := by decide +kernel
theorem dL_refuses_15 : decode cL_refuses 15 = .ok (.if_icmp .ge 936, 3) := by decide +kernel
theorem dL_refuses_18 : decode cL_refuses 18 = .ok (.iload 5, 2) := by decide +kernel
theorem dL_refuses_20 : decode cL_refuses 20 = .ok (.ifCond .ne 7, 3) := by decide +kernel
theorem dL_refuses_23 : decode cL_refuses 23 = .ok (.iconst (-1), 1) := by decide +kernel
theorem dL_refuses_24 : decode cL_refuses 24 = .ok (.goto 17, 3) := by decide +kernel
theorem dL_refuses_27 : decode cL_refuses 27 = .ok (.iload 5, 2) := by decide +kernel
theorem dL_refuses_29 : decode cL_refuses 29 = .ok (.iconst 2, 1) := by decide +kernel
theorem dL_refuses_30 : decode cL_refuses 30 = .ok (.if_icmp .ne 7, 3) := by decide +kernel
theorem dL_refuses_33 : decode cL_refuses 33 = .ok (.iload_n 3, 1) := by decide +kernel
theorem dL_refuses_34 : decode cL_refuses 34 = .ok (.goto 7, 3) := by decide +kernel
theorem dL_refuses_37 : decode cL_refuses 37 = .ok (.iload_n 3, 1) := by decide +kernel
theorem dL_refuses_38 : decode cL_refuses 38 = .ok (.ineg, 1) := by decide +kernel
theorem dL_refuses_39 : decode cL_refuses 39 = .ok (.iconst 1, 1) := by decide +kernel
theorem dL_refuses_40 : decode cL_refuses 40 = .ok (.isub, 1) := by decide +kernel
theorem dL_refuses_41 : decode cL_refuses 41 = .ok (.istore 6, 2) := by decide +kernel
theorem dL_refuses_43 : decode cL_refuses 43 = .ok (.iload 5, 2) := by decide +kernel
theorem dL_refuses_45 : decode cL_refuses 45 = .ok (.ifCond .ne 8, 3) := by decide +kernel
theorem dL_refuses_48 : decode cL_refuses 48 = .ok (.bipush (-2), 2) := by decide +kernel
theorem dL_refuses_50 : decode cL_refuses 50 = .ok (.goto 17, 3) := by decide +kernel
theorem dL_refuses_53 : decode cL_refuses 53 = .ok (.iload 5, 2) := by decide +kernel
theorem dL_refuses_55 : decode cL_refuses 55 = .ok (.iconst 2, 1) := by decide +kernel
theorem dL_refuses_56 : decode cL_refuses 56 = .ok (.if_icmp .ne 7, 3) := by decide +kernel
theorem dL_refuses_59 : decode cL_refuses 59 = .ok (.iload_n 3, 1) := by decide +kernel
theorem dL_refuses_60 : decode cL_refuses 60 = .ok (.goto 7, 3) := by decide +kernel
theorem dL_refuses_63 : decode cL_refuses 63 = .ok (.iload_n 3, 1) := by decide +kernel
theorem dL_refuses_64 : decode cL_refuses 64 = .ok (.ineg, 1) := by decide +kernel
theorem dL_refuses_65 : decode cL_refuses 65 = .ok (.iconst 1, 1) := by decide +kernel
theorem dL_refuses_66 : decode cL_refuses 66 = .ok (.isub, 1) := by decide +kernel
theorem dL_refuses_67 : decode cL_refuses 67 = .ok (.istore 7, 2) := by decide +kernel
theorem dL_refuses_69 : decode cL_refuses 69 = .ok (.iload 5, 2) := by decide +kernel
theorem dL_refuses_71 : decode cL_refuses 71 = .ok (.iconst 1, 1) := by decide +kernel
theorem dL_refuses_72 : decode cL_refuses 72 = .ok (.if_icmp .ne 7, 3) := by decide +kernel
theorem dL_refuses_75 : decode cL_refuses 75 = .ok (.iload_n 1, 1) := by decide +kernel
theorem dL_refuses_76 : decode cL_refuses 76 = .ok (.goto 5, 3) := by decide +kernel
theorem dL_refuses_79 : decode cL_refuses 79 = .ok (.iload 6, 2) := by decide +kernel
theorem dL_refuses_81 : decode cL_refuses 81 = .ok (.istore 8, 2) := by decide +kernel
theorem dL_refuses_83 : decode cL_refuses 83 = .ok (.iload 5, 2) := by decide +kernel
theorem dL_refuses_85 : decode cL_refuses 85 = .ok (.iconst 1, 1) := by decide +kernel
theorem dL_refuses_86 : decode cL_refuses 86 = .ok (.if_icmp .ne 7, 3) := by decide +kernel
theorem dL_refuses_89 : decode cL_refuses 89 = .ok (.iload_n 2, 1) := by decide +kernel
theorem dL_refuses_90 : decode cL_refuses 90 = .ok (.goto 5, 3) := by decide +kernel
theorem dL_refuses_93 : decode cL_refuses 93 = .ok (.iload 6, 2) := by decide +kernel
theorem dL_refuses_95 : decode cL_refuses 95 = .ok (.istore 9, 2) := by decide +kernel
theorem dL_refuses_97 : decode cL_refuses 97 = .ok (.iload 5, 2) := by decide +kernel
theorem dL_refuses_99 : decode cL_refuses 99 = .ok (.iconst 1, 1) := by decide +kernel
theorem dL_refuses_100 : decode cL_refuses 100 = .ok (.if_icmp .ne 8, 3) := by decide +kernel
theorem dL_refuses_103 : decode cL_refuses 103 = .ok (.bipush 8, 2) := by decide +kernel
theorem dL_refuses_105 : decode cL_refuses 105 = .ok (.goto 5, 3) := by decide +kernel
theorem dL_refuses_108 : decode cL_refuses 108 = .ok (.iload 6, 2) := by decide +kernel
theorem dL_refuses_110 : decode cL_refuses 110 = .ok (.istore 10, 2) := by decide +kernel
theorem dL_refuses_112 : decode cL_refuses 112 = .ok (.iload 5, 2) := by decide +kernel
theorem dL_refuses_114 : decode cL_refuses 114 = .ok (.iconst 1, 1) := by decide +kernel
theorem dL_refuses_115 : decode cL_refuses 115 = .ok (.if_icmp .ne 8, 3) := by decide +kernel
theorem dL_refuses_118 : decode cL_refuses 118 = .ok (.bipush 10, 2) := by decide +kernel
theorem dL_refuses_120 : decode cL_refuses 120 = .ok (.goto 5, 3) := by decide +kernel
theorem dL_refuses_123 : decode cL_refuses 123 = .ok (.iload 6, 2) := by decide +kernel
theorem dL_refuses_125 : decode cL_refuses 125 = .ok (.istore 11, 2) := by decide +kernel
theorem dL_refuses_127 : decode cL_refuses 127 = .ok (.aload_n 0, 1) := by decide +kernel
theorem dL_refuses_128 : decode cL_refuses 128 = .ok (.iconst 0, 1) := by decide +kernel
theorem dL_refuses_129 : decode cL_refuses 129 = .ok (.bipush 99, 2) := by decide +kernel
theorem dL_refuses_131 : decode cL_refuses 131 = .ok (.iconst 0, 1) := by decide +kernel
theorem dL_refuses_132 : decode cL_refuses 132 = .ok (.iconst 0, 1) := by decide +kernel
theorem dL_refuses_133 : decode cL_refuses 133 = .ok (.iload 5, 2) := by decide +kernel
theorem dL_refuses_135 : decode cL_refuses 135 = .ok (.iconst 1, 1) := by decide +kernel
theorem dL_refuses_136 : decode cL_refuses 136 = .ok (.if_icmp .ne 8, 3) := by decide +kernel
theorem dL_refuses_139 : decode cL_refuses 139 = .ok (.bipush 8, 2) := by decide +kernel
theorem dL_refuses_141 : decode cL_refuses 141 = .ok (.goto 5, 3) := by decide +kernel
theorem dL_refuses_144 : decode cL_refuses 144 = .ok (.iload 7, 2) := by decide +kernel
theorem dL_refuses_146 : decode cL_refuses 146 = .ok (.invokestatic 102, 3) := by decide +kernel
theorem dL_refuses_149 : decode cL_refuses 149 = .ok (.ldc 90, 2) := by decide +kernel
theorem dL_refuses_151 : decode cL_refuses 151 = .ok (.if_icmp .ne 302, 3) := by decide +kernel
theorem dL_refuses_154 : decode cL_refuses 154 = .ok (.aload_n 0, 1) := by decide +kernel
theorem dL_refuses_155 : decode cL_refuses 155 = .ok (.iconst 0, 1) := by decide +kernel
theorem dL_refuses_156 : decode cL_refuses 156 = .ok (.iload 11, 2) := by decide +kernel
theorem dL_refuses_158 : decode cL_refuses 158 = .ok (.iconst 0, 1) := by decide +kernel
theorem dL_refuses_159 : decode cL_refuses 159 = .ok (.iconst 0, 1) := by decide +kernel
theorem dL_refuses_160 : decode cL_refuses 160 = .ok (.iconst 0, 1) := by decide +kernel
theorem dL_refuses_161 : decode cL_refuses 161 = .ok (.invokestatic 102, 3) := by decide +kernel
theorem dL_refuses_164 : decode cL_refuses 164 = .ok (.ldc 93, 2) := by decide +kernel
theorem dL_refuses_166 : decode cL_refuses 166 = .ok (.if_icmp .ne 287, 3) := by decide +kernel
theorem dL_refuses_169 : decode cL_refuses 169 = .ok (.aload_n 0, 1) := by decide +kernel
theorem dL_refuses_170 : decode cL_refuses 170 = .ok (.iconst 0, 1) := by decide +kernel
theorem dL_refuses_171 : decode cL_refuses 171 = .ok (.iconst 0, 1) := by decide +kernel
theorem dL_refuses_172 : decode cL_refuses 172 = .ok (.iload 5, 2) := by decide +kernel
theorem dL_refuses_174 : decode cL_refuses 174 = .ok (.iconst 1, 1) := by decide +kernel
theorem dL_refuses_175 : decode cL_refuses 175 = .ok (.if_icmp .ne 8, 3) := by decide +kernel
theorem dL_refuses_178 : decode cL_refuses 178 = .ok (.bipush 10, 2) := by decide +kernel
theorem dL_refuses_180 : decode cL_refuses 180 = .ok (.goto 5, 3) := by decide +kernel
theorem dL_refuses_183 : decode cL_refuses 183 = .ok (.iload 7, 2) := by decide +kernel
theorem dL_refuses_185 : decode cL_refuses 185 = .ok (.iconst 0, 1) := by decide +kernel
theorem dL_refuses_186 : decode cL_refuses 186 = .ok (.iconst (-1), 1) := by decide +kernel
theorem dL_refuses_187 : decode cL_refuses 187 = .ok (.invokestatic 102, 3) := by decide +kernel
theorem dL_refuses_190 : decode cL_refuses 190 = .ok (.ldc 93, 2) := by decide +kernel
theorem dL_refuses_192 : decode cL_refuses 192 = .ok (.if_icmp .ne 261, 3) := by decide +kernel
theorem dL_refuses_195 : decode cL_refuses 195 = .ok (.aload_n 0, 1) := by decide +kernel
theorem dL_refuses_196 : decode cL_refuses 196 = .ok (.iconst 0, 1) := by decide +kernel
theorem dL_refuses_197 : decode cL_refuses 197 = .ok (.iconst 0, 1) := by decide +kernel
theorem dL_refuses_198 : decode cL_refuses 198 = .ok (.iconst 0, 1) := by decide +kernel
theorem dL_refuses_199 : decode cL_refuses 199 = .ok (.iload 5, 2) := by decide +kernel
theorem dL_refuses_201 : decode cL_refuses 201 = .ok (.iconst 1, 1) := by decide +kernel
theorem dL_refuses_202 : decode cL_refuses 202 = .ok (.if_icmp .ne 8, 3) := by decide +kernel
theorem dL_refuses_205 : decode cL_refuses 205 = .ok (.bipush 6, 2) := by decide +kernel
theorem dL_refuses_207 : decode cL_refuses 207 = .ok (.goto 5, 3) := by decide +kernel
theorem dL_refuses_210 : decode cL_refuses 210 = .ok (.iload 6, 2) := by decide +kernel
theorem dL_refuses_212 : decode cL_refuses 212 = .ok (.bipush 7, 2) := by decide +kernel
theorem dL_refuses_214 : decode cL_refuses 214 = .ok (.invokestatic 102, 3) := by decide +kernel
theorem dL_refuses_217 : decode cL_refuses 217 = .ok (.ldc 93, 2) := by decide +kernel
theorem dL_refuses_219 : decode cL_refuses 219 = .ok (.if_icmp .ne 234, 3) := by decide +kernel
theorem dL_refuses_222 : decode cL_refuses 222 = .ok (.aload_n 0, 1) := by decide +kernel
theorem dL_refuses_223 : decode cL_refuses 223 = .ok (.iconst 1, 1) := by decide +kernel
theorem dL_refuses_224 : decode cL_refuses 224 = .ok (.iload 10, 2) := by decide +kernel
theorem dL_refuses_226 : decode cL_refuses 226 = .ok (.bipush 99, 2) := by decide +kernel
theorem dL_refuses_228 : decode cL_refuses 228 = .ok (.iconst 0, 1) := by decide +kernel
theorem dL_refuses_229 : decode cL_refuses 229 = .ok (.iconst 0, 1) := by decide +kernel
theorem dL_refuses_230 : decode cL_refuses 230 = .ok (.invokestatic 102, 3) := by decide +kernel
theorem dL_refuses_233 : decode cL_refuses 233 = .ok (.ldc 90, 2) := by decide +kernel
theorem dL_refuses_235 : decode cL_refuses 235 = .ok (.if_icmp .ne 218, 3) := by decide +kernel
theorem dL_refuses_238 : decode cL_refuses 238 = .ok (.aload_n 0, 1) := by decide +kernel
theorem dL_refuses_239 : decode cL_refuses 239 = .ok (.iconst 1, 1) := by decide +kernel
theorem dL_refuses_240 : decode cL_refuses 240 = .ok (.iconst 0, 1) := by decide +kernel
theorem dL_refuses_241 : decode cL_refuses 241 = .ok (.iload 11, 2) := by decide +kernel
theorem dL_refuses_243 : decode cL_refuses 243 = .ok (.iconst 0, 1) := by decide +kernel
theorem dL_refuses_244 : decode cL_refuses 244 = .ok (.iconst 0, 1) := by decide +kernel
theorem dL_refuses_245 : decode cL_refuses 245 = .ok (.invokestatic 102, 3) := by decide +kernel
theorem dL_refuses_248 : decode cL_refuses 248 = .ok (.ldc 93, 2) := by decide +kernel
theorem dL_refuses_250 : decode cL_refuses 250 = .ok (.if_icmp .ne 203, 3) := by decide +kernel
theorem dL_refuses_253 : decode cL_refuses 253 = .ok (.aload_n 0, 1) := by decide +kernel
theorem dL_refuses_254 : decode cL_refuses 254 = .ok (.iconst 2, 1) := by decide +kernel
theorem dL_refuses_255 : decode cL_refuses 255 = .ok (.iload 10, 2) := by decide +kernel
theorem dL_refuses_257 : decode cL_refuses 257 = .ok (.iload 10, 2) := by decide +kernel
theorem dL_refuses_259 : decode cL_refuses 259 = .ok (.iconst 1, 1) := by decide +kernel
theorem dL_refuses_260 : decode cL_refuses 260 = .ok (.iconst 0, 1) := by decide +kernel
theorem dL_refuses_261 : decode cL_refuses 261 = .ok (.invokestatic 102, 3) := by decide +kernel
theorem dL_refuses_264 : decode cL_refuses 264 = .ok (.ldc 90, 2) := by decide +kernel
theorem dL_refuses_266 : decode cL_refuses 266 = .ok (.if_icmp .ne 187, 3) := by decide +kernel
theorem dL_refuses_269 : decode cL_refuses 269 = .ok (.aload_n 0, 1) := by decide +kernel
theorem dL_refuses_270 : decode cL_refuses 270 = .ok (.iconst 2, 1) := by decide +kernel
theorem dL_refuses_271 : decode cL_refuses 271 = .ok (.iconst 0, 1) := by decide +kernel
theorem dL_refuses_272 : decode cL_refuses 272 = .ok (.iload 10, 2) := by decide +kernel
theorem dL_refuses_274 : decode cL_refuses 274 = .ok (.iconst 1, 1) := by decide +kernel
theorem dL_refuses_275 : decode cL_refuses 275 = .ok (.iconst 0, 1) := by decide +kernel
theorem dL_refuses_276 : decode cL_refuses 276 = .ok (.invokestatic 102, 3) := by decide +kernel
theorem dL_refuses_279 : decode cL_refuses 279 = .ok (.ldc 90, 2) := by decide +kernel
theorem dL_refuses_281 : decode cL_refuses 281 = .ok (.if_icmp .ne 172, 3) := by decide +kernel
theorem dL_refuses_284 : decode cL_refuses 284 = .ok (.aload_n 0, 1) := by decide +kernel
theorem dL_refuses_285 : decode cL_refuses 285 = .ok (.iconst 2, 1) := by decide +kernel
theorem dL_refuses_286 : decode cL_refuses 286 = .ok (.iconst 3, 1) := by decide +kernel
theorem dL_refuses_287 : decode cL_refuses 287 = .ok (.iconst 3, 1) := by decide +kernel
theorem dL_refuses_288 : decode cL_refuses 288 = .ok (.iconst 1, 1) := by decide +kernel
theorem dL_refuses_289 : decode cL_refuses 289 = .ok (.iconst 0, 1) := by decide +kernel
theorem dL_refuses_290 : decode cL_refuses 290 = .ok (.invokestatic 102, 3) := by decide +kernel
theorem dL_refuses_293 : decode cL_refuses 293 = .ok (.ldc 93, 2) := by decide +kernel
theorem dL_refuses_295 : decode cL_refuses 295 = .ok (.if_icmp .ne 158, 3) := by decide +kernel
theorem dL_refuses_298 : decode cL_refuses 298 = .ok (.aload_n 0, 1) := by decide +kernel
theorem dL_refuses_299 : decode cL_refuses 299 = .ok (.iconst 4, 1) := by decide +kernel
theorem dL_refuses_300 : decode cL_refuses 300 = .ok (.iload 8, 2) := by decide +kernel
theorem dL_refuses_302 : decode cL_refuses 302 = .ok (.iconst 5, 1) := by decide +kernel
theorem dL_refuses_303 : decode cL_refuses 303 = .ok (.iconst 4, 1) := by decide +kernel
theorem dL_refuses_304 : decode cL_refuses 304 = .ok (.iconst 0, 1) := by decide +kernel
theorem dL_refuses_305 : decode cL_refuses 305 = .ok (.invokestatic 102, 3) := by decide +kernel
theorem dL_refuses_308 : decode cL_refuses 308 = .ok (.ldc 90, 2) := by decide +kernel
theorem dL_refuses_310 : decode cL_refuses 310 = .ok (.if_icmp .ne 143, 3) := by decide +kernel
theorem dL_refuses_313 : decode cL_refuses 313 = .ok (.aload_n 0, 1) := by decide +kernel
theorem dL_refuses_314 : decode cL_refuses 314 = .ok (.iconst 5, 1) := by decide +kernel
theorem dL_refuses_315 : decode cL_refuses 315 = .ok (.iload 8, 2) := by decide +kernel
theorem dL_refuses_317 : decode cL_refuses 317 = .ok (.iconst 5, 1) := by decide +kernel
theorem dL_refuses_318 : decode cL_refuses 318 = .ok (.iconst 4, 1) := by decide +kernel
theorem dL_refuses_319 : decode cL_refuses 319 = .ok (.iconst 0, 1) := by decide +kernel
theorem dL_refuses_320 : decode cL_refuses 320 = .ok (.invokestatic 102, 3) := by decide +kernel
theorem dL_refuses_323 : decode cL_refuses 323 = .ok (.ldc 90, 2) := by decide +kernel
theorem dL_refuses_325 : decode cL_refuses 325 = .ok (.if_icmp .ne 128, 3) := by decide +kernel
theorem dL_refuses_328 : decode cL_refuses 328 = .ok (.aload_n 0, 1) := by decide +kernel
theorem dL_refuses_329 : decode cL_refuses 329 = .ok (.bipush 17, 2) := by decide +kernel
theorem dL_refuses_331 : decode cL_refuses 331 = .ok (.iload 9, 2) := by decide +kernel
theorem dL_refuses_333 : decode cL_refuses 333 = .ok (.iconst 0, 1) := by decide +kernel
theorem dL_refuses_334 : decode cL_refuses 334 = .ok (.iconst 0, 1) := by decide +kernel
theorem dL_refuses_335 : decode cL_refuses 335 = .ok (.iconst 0, 1) := by decide +kernel
theorem dL_refuses_336 : decode cL_refuses 336 = .ok (.invokestatic 102, 3) := by decide +kernel
theorem dL_refuses_339 : decode cL_refuses 339 = .ok (.ldc 90, 2) := by decide +kernel
theorem dL_refuses_341 : decode cL_refuses 341 = .ok (.if_icmp .ne 112, 3) := by decide +kernel
theorem dL_refuses_344 : decode cL_refuses 344 = .ok (.aload_n 0, 1) := by decide +kernel
theorem dL_refuses_345 : decode cL_refuses 345 = .ok (.bipush 20, 2) := by decide +kernel
theorem dL_refuses_347 : decode cL_refuses 347 = .ok (.iload 9, 2) := by decide +kernel
theorem dL_refuses_349 : decode cL_refuses 349 = .ok (.iconst 0, 1) := by decide +kernel
theorem dL_refuses_350 : decode cL_refuses 350 = .ok (.iconst 0, 1) := by decide +kernel
theorem dL_refuses_351 : decode cL_refuses 351 = .ok (.iconst 0, 1) := by decide +kernel
theorem dL_refuses_352 : decode cL_refuses 352 = .ok (.invokestatic 102, 3) := by decide +kernel
theorem dL_refuses_355 : decode cL_refuses 355 = .ok (.ldc 90, 2) := by decide +kernel
theorem dL_refuses_357 : decode cL_refuses 357 = .ok (.if_icmp .ne 96, 3) := by decide +kernel
theorem dL_refuses_360 : decode cL_refuses 360 = .ok (.aload_n 0, 1) := by decide +kernel
theorem dL_refuses_361 : decode cL_refuses 361 = .ok (.bipush 20, 2) := by decide +kernel
theorem dL_refuses_363 : decode cL_refuses 363 = .ok (.iconst 0, 1) := by decide +kernel
theorem dL_refuses_364 : decode cL_refuses 364 = .ok (.iload 9, 2) := by decide +kernel
theorem dL_refuses_366 : decode cL_refuses 366 = .ok (.iconst 0, 1) := by decide +kernel
theorem dL_refuses_367 : decode cL_refuses 367 = .ok (.iconst 0, 1) := by decide +kernel
theorem dL_refuses_368 : decode cL_refuses 368 = .ok (.invokestatic 102, 3) := by decide +kernel
theorem dL_refuses_371 : decode cL_refuses 371 = .ok (.ldc 90, 2) := by decide +kernel
theorem dL_refuses_373 : decode cL_refuses 373 = .ok (.if_icmp .ne 80, 3) := by decide +kernel
theorem dL_refuses_376 : decode cL_refuses 376 = .ok (.aload_n 0, 1) := by decide +kernel
theorem dL_refuses_377 : decode cL_refuses 377 = .ok (.bipush 21, 2) := by decide +kernel
theorem dL_refuses_379 : decode cL_refuses 379 = .ok (.iload 5, 2) := by decide +kernel
theorem dL_refuses_381 : decode cL_refuses 381 = .ok (.iconst 1, 1) := by decide +kernel
theorem dL_refuses_382 : decode cL_refuses 382 = .ok (.if_icmp .ne 9, 3) := by decide +kernel
theorem dL_refuses_385 : decode cL_refuses 385 = .ok (.iconst 1, 1) := by decide +kernel
theorem dL_refuses_386 : decode cL_refuses 386 = .ok (.iload_n 1, 1) := by decide +kernel
theorem dL_refuses_387 : decode cL_refuses 387 = .ok (.ishl, 1) := by decide +kernel
theorem dL_refuses_388 : decode cL_refuses 388 = .ok (.goto 5, 3) := by decide +kernel
theorem dL_refuses_391 : decode cL_refuses 391 = .ok (.iload 6, 2) := by decide +kernel
theorem dL_refuses_393 : decode cL_refuses 393 = .ok (.iconst 0, 1) := by decide +kernel
theorem dL_refuses_394 : decode cL_refuses 394 = .ok (.iconst 0, 1) := by decide +kernel
theorem dL_refuses_395 : decode cL_refuses 395 = .ok (.iconst 0, 1) := by decide +kernel
theorem dL_refuses_396 : decode cL_refuses 396 = .ok (.invokestatic 102, 3) := by decide +kernel
theorem dL_refuses_399 : decode cL_refuses 399 = .ok (.ldc 93, 2) := by decide +kernel
theorem dL_refuses_401 : decode cL_refuses 401 = .ok (.if_icmp .ne 52, 3) := by decide +kernel
theorem dL_refuses_404 : decode cL_refuses 404 = .ok (.aload_n 0, 1) := by decide +kernel
theorem dL_refuses_405 : decode cL_refuses 405 = .ok (.bipush 22, 2) := by decide +kernel
theorem dL_refuses_407 : decode cL_refuses 407 = .ok (.iload 5, 2) := by decide +kernel
theorem dL_refuses_409 : decode cL_refuses 409 = .ok (.iconst 1, 1) := by decide +kernel
theorem dL_refuses_410 : decode cL_refuses 410 = .ok (.if_icmp .ne 9, 3) := by decide +kernel
theorem dL_refuses_413 : decode cL_refuses 413 = .ok (.iconst 1, 1) := by decide +kernel
theorem dL_refuses_414 : decode cL_refuses 414 = .ok (.iload_n 1, 1) := by decide +kernel
theorem dL_refuses_415 : decode cL_refuses 415 = .ok (.ishl, 1) := by decide +kernel
theorem dL_refuses_416 : decode cL_refuses 416 = .ok (.goto 5, 3) := by decide +kernel
theorem dL_refuses_419 : decode cL_refuses 419 = .ok (.iload 6, 2) := by decide +kernel
theorem dL_refuses_421 : decode cL_refuses 421 = .ok (.iconst 0, 1) := by decide +kernel
theorem dL_refuses_422 : decode cL_refuses 422 = .ok (.iconst 0, 1) := by decide +kernel
theorem dL_refuses_423 : decode cL_refuses 423 = .ok (.iconst 0, 1) := by decide +kernel
theorem dL_refuses_424 : decode cL_refuses 424 = .ok (.invokestatic 102, 3) := by decide +kernel
theorem dL_refuses_427 : decode cL_refuses 427 = .ok (.ldc 93, 2) := by decide +kernel
theorem dL_refuses_429 : decode cL_refuses 429 = .ok (.if_icmp .ne 24, 3) := by decide +kernel
theorem dL_refuses_432 : decode cL_refuses 432 = .ok (.aload_n 0, 1) := by decide +kernel
theorem dL_refuses_433 : decode cL_refuses 433 = .ok (.bipush 23, 2) := by decide +kernel
theorem dL_refuses_435 : decode cL_refuses 435 = .ok (.iload 8, 2) := by decide +kernel
theorem dL_refuses_437 : decode cL_refuses 437 = .ok (.bipush 99, 2) := by decide +kernel
theorem dL_refuses_439 : decode cL_refuses 439 = .ok (.iconst 0, 1) := by decide +kernel
theorem dL_refuses_440 : decode cL_refuses 440 = .ok (.iconst 0, 1) := by decide +kernel
theorem dL_refuses_441 : decode cL_refuses 441 = .ok (.invokestatic 102, 3) := by decide +kernel
theorem dL_refuses_444 : decode cL_refuses 444 = .ok (.ldc 90, 2) := by decide +kernel
theorem dL_refuses_446 : decode cL_refuses 446 = .ok (.if_icmp .ne 7, 3) := by decide +kernel
theorem dL_refuses_449 : decode cL_refuses 449 = .ok (.iconst 1, 1) := by decide +kernel
theorem dL_refuses_450 : decode cL_refuses 450 = .ok (.goto 4, 3) := by decide +kernel
theorem dL_refuses_453 : decode cL_refuses 453 = .ok (.iconst 0, 1) := by decide +kernel
theorem dL_refuses_454 : decode cL_refuses 454 = .ok (.istore 12, 2) := by decide +kernel
theorem dL_refuses_456 : decode cL_refuses 456 = .ok (.iconst 3, 1) := by decide +kernel
theorem dL_refuses_457 : decode cL_refuses 457 = .ok (.istore 13, 2) := by decide +kernel
theorem dL_refuses_459 : decode cL_refuses 459 = .ok (.iload 13, 2) := by decide +kernel
theorem dL_refuses_461 : decode cL_refuses 461 = .ok (.bipush 20, 2) := by decide +kernel
theorem dL_refuses_463 : decode cL_refuses 463 = .ok (.if_icmp .ge 224, 3) := by decide +kernel
theorem dL_refuses_466 : decode cL_refuses 466 = .ok (.iload 12, 2) := by decide +kernel
theorem dL_refuses_468 : decode cL_refuses 468 = .ok (.ifCond .eq 219, 3) := by decide +kernel
theorem dL_refuses_471 : decode cL_refuses 471 = .ok (.iload 13, 2) := by decide +kernel
theorem dL_refuses_473 : decode cL_refuses 473 = .ok (.iconst 4, 1) := by decide +kernel
theorem dL_refuses_474 : decode cL_refuses 474 = .ok (.if_icmp .lt 23, 3) := by decide +kernel
theorem dL_refuses_477 : decode cL_refuses 477 = .ok (.iload 13, 2) := by decide +kernel
theorem dL_refuses_479 : decode cL_refuses 479 = .ok (.iconst 5, 1) := by decide +kernel
theorem dL_refuses_480 : decode cL_refuses 480 = .ok (.if_icmp .le 10, 3) := by decide +kernel
theorem dL_refuses_483 : decode cL_refuses 483 = .ok (.iload 13, 2) := by decide +kernel
theorem dL_refuses_485 : decode cL_refuses 485 = .ok (.bipush 15, 2) := by decide +kernel
theorem dL_refuses_487 : decode cL_refuses 487 = .ok (.if_icmp .lt 10, 3) := by decide +kernel
theorem dL_refuses_490 : decode cL_refuses 490 = .ok (.iload 13, 2) := by decide +kernel
theorem dL_refuses_492 : decode cL_refuses 492 = .ok (.bipush 19, 2) := by decide +kernel
theorem dL_refuses_494 : decode cL_refuses 494 = .ok (.if_icmp .ne 7, 3) := by decide +kernel
theorem dL_refuses_497 : decode cL_refuses 497 = .ok (.iconst 1, 1) := by decide +kernel
theorem dL_refuses_498 : decode cL_refuses 498 = .ok (.goto 4, 3) := by decide +kernel
theorem dL_refuses_501 : decode cL_refuses 501 = .ok (.iconst 0, 1) := by decide +kernel
theorem dL_refuses_502 : decode cL_refuses 502 = .ok (.istore 14, 2) := by decide +kernel
theorem dL_refuses_504 : decode cL_refuses 504 = .ok (.iload 13, 2) := by decide +kernel
theorem dL_refuses_506 : decode cL_refuses 506 = .ok (.iconst 3, 1) := by decide +kernel
theorem dL_refuses_507 : decode cL_refuses 507 = .ok (.if_icmp .eq 24, 3) := by decide +kernel
theorem dL_refuses_510 : decode cL_refuses 510 = .ok (.iload 13, 2) := by decide +kernel
theorem dL_refuses_512 : decode cL_refuses 512 = .ok (.bipush 7, 2) := by decide +kernel
theorem dL_refuses_514 : decode cL_refuses 514 = .ok (.if_icmp .le 10, 3) := by decide +kernel
theorem dL_refuses_517 : decode cL_refuses 517 = .ok (.iload 13, 2) := by decide +kernel
theorem dL_refuses_519 : decode cL_refuses 519 = .ok (.bipush 13, 2) := by decide +kernel
theorem dL_refuses_521 : decode cL_refuses 521 = .ok (.if_icmp .lt 10, 3) := by decide +kernel
theorem dL_refuses_524 : decode cL_refuses 524 = .ok (.iload 13, 2) := by decide +kernel
theorem dL_refuses_526 : decode cL_refuses 526 = .ok (.bipush 19, 2) := by decide +kernel
theorem dL_refuses_528 : decode cL_refuses 528 = .ok (.if_icmp .ne 7, 3) := by decide +kernel
theorem dL_refuses_531 : decode cL_refuses 531 = .ok (.iconst 1, 1) := by decide +kernel
theorem dL_refuses_532 : decode cL_refuses 532 = .ok (.goto 4, 3) := by decide +kernel
theorem dL_refuses_535 : decode cL_refuses 535 = .ok (.iconst 0, 1) := by decide +kernel
theorem dL_refuses_536 : decode cL_refuses 536 = .ok (.istore 15, 2) := by decide +kernel
theorem dL_refuses_538 : decode cL_refuses 538 = .ok (.iload 14, 2) := by decide +kernel
theorem dL_refuses_540 : decode cL_refuses 540 = .ok (.ifCond .eq 27, 3) := by decide +kernel
theorem dL_refuses_543 : decode cL_refuses 543 = .ok (.aload_n 0, 1) := by decide +kernel
theorem dL_refuses_544 : decode cL_refuses 544 = .ok (.iload 13, 2) := by decide +kernel
theorem dL_refuses_546 : decode cL_refuses 546 = .ok (.iload 8, 2) := by decide +kernel
theorem dL_refuses_548 : decode cL_refuses 548 = .ok (.iconst 0, 1) := by decide +kernel
theorem dL_refuses_549 : decode cL_refuses 549 = .ok (.bipush 99, 2) := by decide +kernel
theorem dL_refuses_551 : decode cL_refuses 551 = .ok (.iconst 0, 1) := by decide +kernel
theorem dL_refuses_552 : decode cL_refuses 552 = .ok (.invokestatic 102, 3) := by decide +kernel
theorem dL_refuses_555 : decode cL_refuses 555 = .ok (.ldc 90, 2) := by decide +kernel
theorem dL_refuses_557 : decode cL_refuses 557 = .ok (.if_icmp .ne 7, 3) := by decide +kernel
theorem dL_refuses_560 : decode cL_refuses 560 = .ok (.iconst 1, 1) := by decide +kernel
theorem dL_refuses_561 : decode cL_refuses 561 = .ok (.goto 4, 3) := by decide +kernel
theorem dL_refuses_564 : decode cL_refuses 564 = .ok (.iconst 0, 1) := by decide +kernel
theorem dL_refuses_565 : decode cL_refuses 565 = .ok (.istore 12, 2) := by decide +kernel
theorem dL_refuses_567 : decode cL_refuses 567 = .ok (.iload 15, 2) := by decide +kernel
theorem dL_refuses_569 : decode cL_refuses 569 = .ok (.ifCond .eq 68, 3) := by decide +kernel
theorem dL_refuses_572 : decode cL_refuses 572 = .ok (.iload 12, 2) := by decide +kernel
theorem dL_refuses_574 : decode cL_refuses 574 = .ok (.ifCond .eq 60, 3) := by decide +kernel
theorem dL_refuses_577 : decode cL_refuses 577 = .ok (.aload_n 0, 1) := by decide +kernel
theorem dL_refuses_578 : decode cL_refuses 578 = .ok (.iload 13, 2) := by decide +kernel
theorem dL_refuses_580 : decode cL_refuses 580 = .ok (.iconst 0, 1) := by decide +kernel
theorem dL_refuses_581 : decode cL_refuses 581 = .ok (.iload 8, 2) := by decide +kernel
theorem dL_refuses_583 : decode cL_refuses 583 = .ok (.bipush 99, 2) := by decide +kernel
theorem dL_refuses_585 : decode cL_refuses 585 = .ok (.iconst 0, 1) := by decide +kernel
theorem dL_refuses_586 : decode cL_refuses 586 = .ok (.invokestatic 102, 3) := by decide +kernel
theorem dL_refuses_589 : decode cL_refuses 589 = .ok (.ldc 90, 2) := by decide +kernel
theorem dL_refuses_591 : decode cL_refuses 591 = .ok (.if_icmp .ne 43, 3) := by decide +kernel
theorem dL_refuses_594 : decode cL_refuses 594 = .ok (.aload_n 0, 1) := by decide +kernel
theorem dL_refuses_595 : decode cL_refuses 595 = .ok (.iload 13, 2) := by decide +kernel
theorem dL_refuses_597 : decode cL_refuses 597 = .ok (.iload 8, 2) := by decide +kernel
theorem dL_refuses_599 : decode cL_refuses 599 = .ok (.iload 8, 2) := by decide +kernel
theorem dL_refuses_601 : decode cL_refuses 601 = .ok (.iconst 0, 1) := by decide +kernel
theorem dL_refuses_602 : decode cL_refuses 602 = .ok (.iconst 0, 1) := by decide +kernel
theorem dL_refuses_603 : decode cL_refuses 603 = .ok (.invokestatic 102, 3) := by decide +kernel
theorem dL_refuses_606 : decode cL_refuses 606 = .ok (.ldc 90, 2) := by decide +kernel
theorem dL_refuses_608 : decode cL_refuses 608 = .ok (.if_icmp .ne 26, 3) := by decide +kernel
theorem dL_refuses_611 : decode cL_refuses 611 = .ok (.iload_n 1, 1) := by decide +kernel
theorem dL_refuses_612 : decode cL_refuses 612 = .ok (.ifCond .eq 18, 3) := by decide +kernel
theorem dL_refuses_615 : decode cL_refuses 615 = .ok (.aload_n 0, 1) := by decide +kernel
theorem dL_refuses_616 : decode cL_refuses 616 = .ok (.iload 13, 2) := by decide +kernel
theorem dL_refuses_618 : decode cL_refuses 618 = .ok (.iconst 0, 1) := by decide +kernel
theorem dL_refuses_619 : decode cL_refuses 619 = .ok (.iconst 0, 1) := by decide +kernel
theorem dL_refuses_620 : decode cL_refuses 620 = .ok (.iconst 0, 1) := by decide +kernel
theorem dL_refuses_621 : decode cL_refuses 621 = .ok (.iconst 0, 1) := by decide +kernel
theorem dL_refuses_622 : decode cL_refuses 622 = .ok (.invokestatic 102, 3) := by decide +kernel
theorem dL_refuses_625 : decode cL_refuses 625 = .ok (.ldc 93, 2) := by decide +kernel
theorem dL_refuses_627 : decode cL_refuses 627 = .ok (.if_icmp .ne 7, 3) := by decide +kernel
theorem dL_refuses_630 : decode cL_refuses 630 = .ok (.iconst 1, 1) := by decide +kernel
theorem dL_refuses_631 : decode cL_refuses 631 = .ok (.goto 4, 3) := by decide +kernel
theorem dL_refuses_634 : decode cL_refuses 634 = .ok (.iconst 0, 1) := by decide +kernel
theorem dL_refuses_635 : decode cL_refuses 635 = .ok (.istore 12, 2) := by decide +kernel
theorem dL_refuses_637 : decode cL_refuses 637 = .ok (.iload 13, 2) := by decide +kernel
theorem dL_refuses_639 : decode cL_refuses 639 = .ok (.bipush 15, 2) := by decide +kernel
theorem dL_refuses_641 : decode cL_refuses 641 = .ok (.if_icmp .eq 17, 3) := by decide +kernel
theorem dL_refuses_644 : decode cL_refuses 644 = .ok (.iload 13, 2) := by decide +kernel
theorem dL_refuses_646 : decode cL_refuses 646 = .ok (.bipush 16, 2) := by decide +kernel
theorem dL_refuses_648 : decode cL_refuses 648 = .ok (.if_icmp .eq 10, 3) := by decide +kernel
theorem dL_refuses_651 : decode cL_refuses 651 = .ok (.iload 13, 2) := by decide +kernel
theorem dL_refuses_653 : decode cL_refuses 653 = .ok (.bipush 18, 2) := by decide +kernel
theorem dL_refuses_655 : decode cL_refuses 655 = .ok (.if_icmp .ne 26, 3) := by decide +kernel
theorem dL_refuses_658 : decode cL_refuses 658 = .ok (.aload_n 0, 1) := by decide +kernel
theorem dL_refuses_659 : decode cL_refuses 659 = .ok (.iload 13, 2) := by decide +kernel
theorem dL_refuses_661 : decode cL_refuses 661 = .ok (.iload 9, 2) := by decide +kernel
theorem dL_refuses_663 : decode cL_refuses 663 = .ok (.iconst 0, 1) := by decide +kernel
theorem dL_refuses_664 : decode cL_refuses 664 = .ok (.iconst 0, 1) := by decide +kernel
theorem dL_refuses_665 : decode cL_refuses 665 = .ok (.iconst 0, 1) := by decide +kernel
theorem dL_refuses_666 : decode cL_refuses 666 = .ok (.invokestatic 102, 3) := by decide +kernel
theorem dL_refuses_669 : decode cL_refuses 669 = .ok (.ldc 90, 2) := by decide +kernel
theorem dL_refuses_671 : decode cL_refuses 671 = .ok (.if_icmp .ne 7, 3) := by decide +kernel
theorem dL_refuses_674 : decode cL_refuses 674 = .ok (.iconst 1, 1) := by decide +kernel
theorem dL_refuses_675 : decode cL_refuses 675 = .ok (.goto 4, 3) := by decide +kernel
theorem dL_refuses_678 : decode cL_refuses 678 = .ok (.iconst 0, 1) := by decide +kernel
theorem dL_refuses_679 : decode cL_refuses 679 = .ok (.istore 12, 2) := by decide +kernel
theorem dL_refuses_681 : decode cL_refuses 681 = .ok (.iinc 13 1, 3) := by decide +kernel
theorem dL_refuses_684 : decode cL_refuses 684 = .ok (.goto (-225), 3) := by decide +kernel
theorem dL_refuses_687 : decode cL_refuses 687 = .ok (.iload 12, 2) := by decide +kernel
theorem dL_refuses_689 : decode cL_refuses 689 = .ok (.ifCond .eq 48, 3) := by decide +kernel
theorem dL_refuses_692 : decode cL_refuses 692 = .ok (.iload_n 1, 1) := by decide +kernel
theorem dL_refuses_693 : decode cL_refuses 693 = .ok (.iconst 2, 1) := by decide +kernel
theorem dL_refuses_694 : decode cL_refuses 694 = .ok (.if_icmp .lt 39, 3) := by decide +kernel
theorem dL_refuses_697 : decode cL_refuses 697 = .ok (.aload_n 0, 1) := by decide +kernel
theorem dL_refuses_698 : decode cL_refuses 698 = .ok (.iconst 3, 1) := by decide +kernel
theorem dL_refuses_699 : decode cL_refuses 699 = .ok (.iconst 0, 1) := by decide +kernel
theorem dL_refuses_700 : decode cL_refuses 700 = .ok (.iconst 1, 1) := by decide +kernel
theorem dL_refuses_701 : decode cL_refuses 701 = .ok (.iload 5, 2) := by decide +kernel
theorem dL_refuses_703 : decode cL_refuses 703 = .ok (.ifCond .ne 8, 3) := by decide +kernel
theorem dL_refuses_706 : decode cL_refuses 706 = .ok (.bipush (-51), 2) := by decide +kernel
theorem dL_refuses_708 : decode cL_refuses 708 = .ok (.goto 16, 3) := by decide +kernel
theorem dL_refuses_711 : decode cL_refuses 711 = .ok (.iload 5, 2) := by decide +kernel
theorem dL_refuses_713 : decode cL_refuses 713 = .ok (.iconst 1, 1) := by decide +kernel
theorem dL_refuses_714 : decode cL_refuses 714 = .ok (.if_icmp .ne 8, 3) := by decide +kernel
theorem dL_refuses_717 : decode cL_refuses 717 = .ok (.bipush 51, 2) := by decide +kernel
theorem dL_refuses_719 : decode cL_refuses 719 = .ok (.goto 5, 3) := by decide +kernel
theorem dL_refuses_722 : decode cL_refuses 722 = .ok (.iload 6, 2) := by decide +kernel
theorem dL_refuses_724 : decode cL_refuses 724 = .ok (.iconst 0, 1) := by decide +kernel
theorem dL_refuses_725 : decode cL_refuses 725 = .ok (.invokestatic 102, 3) := by decide +kernel
theorem dL_refuses_728 : decode cL_refuses 728 = .ok (.ldc 93, 2) := by decide +kernel
theorem dL_refuses_730 : decode cL_refuses 730 = .ok (.if_icmp .ne 7, 3) := by decide +kernel
theorem dL_refuses_733 : decode cL_refuses 733 = .ok (.iconst 1, 1) := by decide +kernel
theorem dL_refuses_734 : decode cL_refuses 734 = .ok (.goto 4, 3) := by decide +kernel
theorem dL_refuses_737 : decode cL_refuses 737 = .ok (.iconst 0, 1) := by decide +kernel
theorem dL_refuses_738 : decode cL_refuses 738 = .ok (.istore 12, 2) := by decide +kernel
theorem dL_refuses_740 : decode cL_refuses 740 = .ok (.iload 12, 2) := by decide +kernel
theorem dL_refuses_742 : decode cL_refuses 742 = .ok (.ifCond .eq 193, 3) := by decide +kernel
theorem dL_refuses_745 : decode cL_refuses 745 = .ok (.iload_n 1, 1) := by decide +kernel
theorem dL_refuses_746 : decode cL_refuses 746 = .ok (.ifCond .eq 185, 3) := by decide +kernel
theorem dL_refuses_749 : decode cL_refuses 749 = .ok (.aload_n 0, 1) := by decide +kernel
theorem dL_refuses_750 : decode cL_refuses 750 = .ok (.iconst 4, 1) := by decide +kernel
theorem dL_refuses_751 : decode cL_refuses 751 = .ok (.iconst 0, 1) := by decide +kernel
theorem dL_refuses_752 : decode cL_refuses 752 = .ok (.iload 5, 2) := by decide +kernel
theorem dL_refuses_754 : decode cL_refuses 754 = .ok (.iconst 1, 1) := by decide +kernel
theorem dL_refuses_755 : decode cL_refuses 755 = .ok (.if_icmp .ne 9, 3) := by decide +kernel
theorem dL_refuses_758 : decode cL_refuses 758 = .ok (.sipush 1000, 3) := by decide +kernel
theorem dL_refuses_761 : decode cL_refuses 761 = .ok (.goto 5, 3) := by decide +kernel
theorem dL_refuses_764 : decode cL_refuses 764 = .ok (.iload 6, 2) := by decide +kernel
theorem dL_refuses_766 : decode cL_refuses 766 = .ok (.sipush 999, 3) := by decide +kernel
theorem dL_refuses_769 : decode cL_refuses 769 = .ok (.iconst 0, 1) := by decide +kernel
theorem dL_refuses_770 : decode cL_refuses 770 = .ok (.invokestatic 102, 3) := by decide +kernel
theorem dL_refuses_773 : decode cL_refuses 773 = .ok (.ldc 93, 2) := by decide +kernel
theorem dL_refuses_775 : decode cL_refuses 775 = .ok (.if_icmp .ne 160, 3) := by decide +kernel
theorem dL_refuses_778 : decode cL_refuses 778 = .ok (.aload_n 0, 1) := by decide +kernel
theorem dL_refuses_779 : decode cL_refuses 779 = .ok (.iconst 4, 1) := by decide +kernel
theorem dL_refuses_780 : decode cL_refuses 780 = .ok (.iconst 0, 1) := by decide +kernel
theorem dL_refuses_781 : decode cL_refuses 781 = .ok (.iconst 5, 1) := by decide +kernel
theorem dL_refuses_782 : decode cL_refuses 782 = .ok (.iload 5, 2) := by decide +kernel
theorem dL_refuses_784 : decode cL_refuses 784 = .ok (.ifCond .ne 7, 3) := by decide +kernel
theorem dL_refuses_787 : decode cL_refuses 787 = .ok (.iconst 4, 1) := by decide +kernel
theorem dL_refuses_788 : decode cL_refuses 788 = .ok (.goto 17, 3) := by decide +kernel
theorem dL_refuses_791 : decode cL_refuses 791 = .ok (.iload 5, 2) := by decide +kernel
theorem dL_refuses_793 : decode cL_refuses 793 = .ok (.iconst 1, 1) := by decide +kernel
theorem dL_refuses_794 : decode cL_refuses 794 = .ok (.if_icmp .ne 9, 3) := by decide +kernel
theorem dL_refuses_797 : decode cL_refuses 797 = .ok (.sipush 1000, 3) := by decide +kernel
theorem dL_refuses_800 : decode cL_refuses 800 = .ok (.goto 5, 3) := by decide +kernel
theorem dL_refuses_803 : decode cL_refuses 803 = .ok (.iload 6, 2) := by decide +kernel
theorem dL_refuses_805 : decode cL_refuses 805 = .ok (.iconst 0, 1) := by decide +kernel
theorem dL_refuses_806 : decode cL_refuses 806 = .ok (.invokestatic 102, 3) := by decide +kernel
theorem dL_refuses_809 : decode cL_refuses 809 = .ok (.ldc 93, 2) := by decide +kernel
theorem dL_refuses_811 : decode cL_refuses 811 = .ok (.if_icmp .ne 124, 3) := by decide +kernel
theorem dL_refuses_814 : decode cL_refuses 814 = .ok (.aload_n 0, 1) := by decide +kernel
theorem dL_refuses_815 : decode cL_refuses 815 = .ok (.iconst 5, 1) := by decide +kernel
theorem dL_refuses_816 : decode cL_refuses 816 = .ok (.iconst 0, 1) := by decide +kernel
theorem dL_refuses_817 : decode cL_refuses 817 = .ok (.iload 5, 2) := by decide +kernel
theorem dL_refuses_819 : decode cL_refuses 819 = .ok (.iconst 1, 1) := by decide +kernel
theorem dL_refuses_820 : decode cL_refuses 820 = .ok (.if_icmp .ne 9, 3) := by decide +kernel
theorem dL_refuses_823 : decode cL_refuses 823 = .ok (.sipush 1000, 3) := by decide +kernel
theorem dL_refuses_826 : decode cL_refuses 826 = .ok (.goto 5, 3) := by decide +kernel
theorem dL_refuses_829 : decode cL_refuses 829 = .ok (.iload 6, 2) := by decide +kernel
theorem dL_refuses_831 : decode cL_refuses 831 = .ok (.sipush 999, 3) := by decide +kernel
theorem dL_refuses_834 : decode cL_refuses 834 = .ok (.iconst 0, 1) := by decide +kernel
theorem dL_refuses_835 : decode cL_refuses 835 = .ok (.invokestatic 102, 3) := by decide +kernel
theorem dL_refuses_838 : decode cL_refuses 838 = .ok (.ldc 93, 2) := by decide +kernel
theorem dL_refuses_840 : decode cL_refuses 840 = .ok (.if_icmp .ne 95, 3) := by decide +kernel
theorem dL_refuses_843 : decode cL_refuses 843 = .ok (.aload_n 0, 1) := by decide +kernel
theorem dL_refuses_844 : decode cL_refuses 844 = .ok (.iconst 5, 1) := by decide +kernel
theorem dL_refuses_845 : decode cL_refuses 845 = .ok (.iconst 0, 1) := by decide +kernel
theorem dL_refuses_846 : decode cL_refuses 846 = .ok (.iconst 5, 1) := by decide +kernel
theorem dL_refuses_847 : decode cL_refuses 847 = .ok (.iload 5, 2) := by decide +kernel
theorem dL_refuses_849 : decode cL_refuses 849 = .ok (.ifCond .ne 7, 3) := by decide +kernel
theorem dL_refuses_852 : decode cL_refuses 852 = .ok (.iconst 4, 1) := by decide +kernel
theorem dL_refuses_853 : decode cL_refuses 853 = .ok (.goto 17, 3) := by decide +kernel
theorem dL_refuses_856 : decode cL_refuses 856 = .ok (.iload 5, 2) := by decide +kernel
theorem dL_refuses_858 : decode cL_refuses 858 = .ok (.iconst 1, 1) := by decide +kernel
theorem dL_refuses_859 : decode cL_refuses 859 = .ok (.if_icmp .ne 9, 3) := by decide +kernel
theorem dL_refuses_862 : decode cL_refuses 862 = .ok (.sipush 1000, 3) := by decide +kernel
theorem dL_refuses_865 : decode cL_refuses 865 = .ok (.goto 5, 3) := by decide +kernel
theorem dL_refuses_868 : decode cL_refuses 868 = .ok (.iload 6, 2) := by decide +kernel
theorem dL_refuses_870 : decode cL_refuses 870 = .ok (.iconst 0, 1) := by decide +kernel
theorem dL_refuses_871 : decode cL_refuses 871 = .ok (.invokestatic 102, 3) := by decide +kernel
theorem dL_refuses_874 : decode cL_refuses 874 = .ok (.ldc 93, 2) := by decide +kernel
theorem dL_refuses_876 : decode cL_refuses 876 = .ok (.if_icmp .ne 59, 3) := by decide +kernel
theorem dL_refuses_879 : decode cL_refuses 879 = .ok (.aload_n 0, 1) := by decide +kernel
theorem dL_refuses_880 : decode cL_refuses 880 = .ok (.bipush 17, 2) := by decide +kernel
theorem dL_refuses_882 : decode cL_refuses 882 = .ok (.iconst 0, 1) := by decide +kernel
theorem dL_refuses_883 : decode cL_refuses 883 = .ok (.iload 6, 2) := by decide +kernel
theorem dL_refuses_885 : decode cL_refuses 885 = .ok (.iconst 0, 1) := by decide +kernel
theorem dL_refuses_886 : decode cL_refuses 886 = .ok (.iconst 0, 1) := by decide +kernel
theorem dL_refuses_887 : decode cL_refuses 887 = .ok (.invokestatic 102, 3) := by decide +kernel
theorem dL_refuses_890 : decode cL_refuses 890 = .ok (.iload 6, 2) := by decide +kernel
theorem dL_refuses_892 : decode cL_refuses 892 = .ok (.ifCond .le 7, 3) := by decide +kernel
theorem dL_refuses_895 : decode cL_refuses 895 = .ok (.iconst (-1), 1) := by decide +kernel
theorem dL_refuses_896 : decode cL_refuses 896 = .ok (.goto 5, 3) := by decide +kernel
theorem dL_refuses_899 : decode cL_refuses 899 = .ok (.ldc 90, 2) := by decide +kernel
theorem dL_refuses_901 : decode cL_refuses 901 = .ok (.if_icmp .ne 34, 3) := by decide +kernel
theorem dL_refuses_904 : decode cL_refuses 904 = .ok (.aload_n 0, 1) := by decide +kernel
theorem dL_refuses_905 : decode cL_refuses 905 = .ok (.bipush 23, 2) := by decide +kernel
theorem dL_refuses_907 : decode cL_refuses 907 = .ok (.iconst 0, 1) := by decide +kernel
theorem dL_refuses_908 : decode cL_refuses 908 = .ok (.iload 5, 2) := by decide +kernel
theorem dL_refuses_910 : decode cL_refuses 910 = .ok (.iconst 1, 1) := by decide +kernel
theorem dL_refuses_911 : decode cL_refuses 911 = .ok (.if_icmp .ne 8, 3) := by decide +kernel
theorem dL_refuses_914 : decode cL_refuses 914 = .ok (.bipush 16, 2) := by decide +kernel
theorem dL_refuses_916 : decode cL_refuses 916 = .ok (.goto 5, 3) := by decide +kernel
theorem dL_refuses_919 : decode cL_refuses 919 = .ok (.iload 7, 2) := by decide +kernel
theorem dL_refuses_921 : decode cL_refuses 921 = .ok (.iconst 0, 1) := by decide +kernel
theorem dL_refuses_922 : decode cL_refuses 922 = .ok (.iconst 0, 1) := by decide +kernel
theorem dL_refuses_923 : decode cL_refuses 923 = .ok (.invokestatic 102, 3) := by decide +kernel
theorem dL_refuses_926 : decode cL_refuses 926 = .ok (.ldc 93, 2) := by decide +kernel
theorem dL_refuses_928 : decode cL_refuses 928 = .ok (.if_icmp .ne 7, 3) := by decide +kernel
theorem dL_refuses_931 : decode cL_refuses 931 = .ok (.iconst 1, 1) := by decide +kernel
theorem dL_refuses_932 : decode cL_refuses 932 = .ok (.goto 4, 3) := by decide +kernel
theorem dL_refuses_935 : decode cL_refuses 935 = .ok (.iconst 0, 1) := by decide +kernel
theorem dL_refuses_936 : decode cL_refuses 936 = .ok (.istore 12, 2) := by decide +kernel
theorem dL_refuses_938 : decode cL_refuses 938 = .ok (.iload 12, 2) := by decide +kernel
theorem dL_refuses_940 : decode cL_refuses 940 = .ok (.ifCond .ne 5, 3) := by decide +kernel
theorem dL_refuses_943 : decode cL_refuses 943 = .ok (.iconst 0, 1) := by decide +kernel
theorem dL_refuses_944 : decode cL_refuses 944 = .ok (.ireturn, 1) := by decide +kernel
theorem dL_refuses_945 : decode cL_refuses 945 = .ok (.iinc 5 1, 3) := by decide +kernel
theorem dL_refuses_948 : decode cL_refuses 948 = .ok (.goto (-936), 3) := by decide +kernel
theorem dL_refuses_951 : decode cL_refuses 951 = .ok (.aload_n 0, 1) := by decide +kernel
theorem dL_refuses_952 : decode cL_refuses 952 = .ok (.invokevirtual 98, 3) := by decide +kernel
theorem dL_refuses_955 : decode cL_refuses 955 = .ok (.iload 4, 2) := by decide +kernel
theorem dL_refuses_957 : decode cL_refuses 957 = .ok (.if_icmp .ne 45, 3) := by decide +kernel
theorem dL_refuses_960 : decode cL_refuses 960 = .ok (.iload_n 1, 1) := by decide +kernel
theorem dL_refuses_961 : decode cL_refuses 961 = .ok (.bipush 7, 2) := by decide +kernel
theorem dL_refuses_963 : decode cL_refuses 963 = .ok (.if_icmp .lt 35, 3) := by decide +kernel
theorem dL_refuses_966 : decode cL_refuses 966 = .ok (.aload_n 0, 1) := by decide +kernel
theorem dL_refuses_967 : decode cL_refuses 967 = .ok (.bipush 21, 2) := by decide +kernel
theorem dL_refuses_969 : decode cL_refuses 969 = .ok (.bipush 127, 2) := by decide +kernel
theorem dL_refuses_971 : decode cL_refuses 971 = .ok (.iconst 0, 1) := by decide +kernel
theorem dL_refuses_972 : decode cL_refuses 972 = .ok (.iconst 0, 1) := by decide +kernel
theorem dL_refuses_973 : decode cL_refuses 973 = .ok (.iconst 0, 1) := by decide +kernel
theorem dL_refuses_974 : decode cL_refuses 974 = .ok (.invokestatic 102, 3) := by decide +kernel
theorem dL_refuses_977 : decode cL_refuses 977 = .ok (.ldc 93, 2) := by decide +kernel
theorem dL_refuses_979 : decode cL_refuses 979 = .ok (.if_icmp .ne 23, 3) := by decide +kernel
theorem dL_refuses_982 : decode cL_refuses 982 = .ok (.aload_n 0, 1) := by decide +kernel
theorem dL_refuses_983 : decode cL_refuses 983 = .ok (.bipush 22, 2) := by decide +kernel
theorem dL_refuses_985 : decode cL_refuses 985 = .ok (.bipush 127, 2) := by decide +kernel
theorem dL_refuses_987 : decode cL_refuses 987 = .ok (.iconst 0, 1) := by decide +kernel
theorem dL_refuses_988 : decode cL_refuses 988 = .ok (.iconst 0, 1) := by decide +kernel
theorem dL_refuses_989 : decode cL_refuses 989 = .ok (.iconst 0, 1) := by decide +kernel
theorem dL_refuses_990 : decode cL_refuses 990 = .ok (.invokestatic 102, 3) := by decide +kernel
theorem dL_refuses_993 : decode cL_refuses 993 = .ok (.ldc 93, 2) := by decide +kernel
theorem dL_refuses_995 : decode cL_refuses 995 = .ok (.if_icmp .ne 7, 3) := by decide +kernel
theorem dL_refuses_998 : decode cL_refuses 998 = .ok (.iconst 1, 1) := by decide +kernel
theorem dL_refuses_999 : decode cL_refuses 999 = .ok (.goto 4, 3) := by decide +kernel
theorem dL_refuses_1002 : decode cL_refuses 1002 = .ok (.iconst 0, 1) := by decide +kernel
theorem dL_refuses_1003 : decode cL_refuses 1003 = .ok (.ireturn, 1) := by decide +kernel
