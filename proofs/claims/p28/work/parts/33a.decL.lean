theorem dL_act_0 : decode cL_act 0 = .ok (.iload_n 1, 1) := by decide +kernel
theorem dL_act_1 : decode cL_act 1 = .ok (.ifCond .ne 16, 3) := by decide +kernel
theorem dL_act_4 : decode cL_act 4 = .ok (.aload_n 0, 1) := by decide +kernel
theorem dL_act_5 : decode cL_act 5 = .ok (.iload_n 2, 1) := by decide +kernel
theorem dL_act_6 : decode cL_act 6 = .ok (.iload_n 3, 1) := by decide +kernel
theorem dL_act_7 : decode cL_act 7 = .ok (.iload 4, 2) := by decide +kernel
theorem dL_act_9 : decode cL_act 9 = .ok (.iload 5, 2) := by decide +kernel
theorem dL_act_11 : decode cL_act 11 = .ok (.invokevirtual 7, 3) := by decide +kernel
theorem dL_act_14 : decode cL_act 14 = .ok (.goto 405, 3) := by decide +kernel
theorem dL_act_17 : decode cL_act 17 = .ok (.iload_n 1, 1) := by decide +kernel
theorem dL_act_18 : decode cL_act 18 = .ok (.iconst 1, 1) := by decide +kernel
theorem dL_act_19 : decode cL_act 19 = .ok (.if_icmp .ne 12, 3) := by decide +kernel
theorem dL_act_22 : decode cL_act 22 = .ok (.aload_n 0, 1) := by decide +kernel
theorem dL_act_23 : decode cL_act 23 = .ok (.iload_n 2, 1) := by decide +kernel
theorem dL_act_24 : decode cL_act 24 = .ok (.iload_n 3, 1) := by decide +kernel
theorem dL_act_25 : decode cL_act 25 = .ok (.invokevirtual 13, 3) := by decide +kernel
theorem dL_act_28 : decode cL_act 28 = .ok (.goto 391, 3) := by decide +kernel
theorem dL_act_31 : decode cL_act 31 = .ok (.iload_n 1, 1) := by decide +kernel
theorem dL_act_32 : decode cL_act 32 = .ok (.iconst 2, 1) := by decide +kernel
theorem dL_act_33 : decode cL_act 33 = .ok (.if_icmp .ne 31, 3) := by decide +kernel
theorem dL_act_36 : decode cL_act 36 = .ok (.aload_n 0, 1) := by decide +kernel
theorem dL_act_37 : decode cL_act 37 = .ok (.iload_n 2, 1) := by decide +kernel
theorem dL_act_38 : decode cL_act 38 = .ok (.iload_n 3, 1) := by decide +kernel
theorem dL_act_39 : decode cL_act 39 = .ok (.iload 4, 2) := by decide +kernel
theorem dL_act_41 : decode cL_act 41 = .ok (.iconst 1, 1) := by decide +kernel
theorem dL_act_42 : decode cL_act 42 = .ok (.if_icmp .ne 7, 3) := by decide +kernel
theorem dL_act_45 : decode cL_act 45 = .ok (.iconst 1, 1) := by decide +kernel
theorem dL_act_46 : decode cL_act 46 = .ok (.goto 4, 3) := by decide +kernel
theorem dL_act_49 : decode cL_act 49 = .ok (.iconst 0, 1) := by decide +kernel
theorem dL_act_50 : decode cL_act 50 = .ok (.invokevirtual 17, 3) := by decide +kernel
theorem dL_act_53 : decode cL_act 53 = .ok (.ifCond .eq 7, 3) := by decide +kernel
theorem dL_act_56 : decode cL_act 56 = .ok (.iconst 1, 1) := by decide +kernel
theorem dL_act_57 : decode cL_act 57 = .ok (.goto 362, 3) := by decide +kernel
theorem dL_act_60 : decode cL_act 60 = .ok (.iconst 0, 1) := by decide +kernel
theorem dL_act_61 : decode cL_act 61 = .ok (.goto 358, 3) := by decide +kernel
theorem dL_act_64 : decode cL_act 64 = .ok (.iload_n 1, 1) := by decide +kernel
theorem dL_act_65 : decode cL_act 65 = .ok (.iconst 3, 1) := by decide +kernel
theorem dL_act_66 : decode cL_act 66 = .ok (.if_icmp .ne 14, 3) := by decide +kernel
theorem dL_act_69 : decode cL_act 69 = .ok (.aload_n 0, 1) := by decide +kernel
theorem dL_act_70 : decode cL_act 70 = .ok (.iload_n 2, 1) := by decide +kernel
theorem dL_act_71 : decode cL_act 71 = .ok (.iload_n 3, 1) := by decide +kernel
theorem dL_act_72 : decode cL_act 72 = .ok (.iload 4, 2) := by decide +kernel
theorem dL_act_74 : decode cL_act 74 = .ok (.invokevirtual 21, 3) := by decide +kernel
theorem dL_act_77 : decode cL_act 77 = .ok (.goto 342, 3) := by decide +kernel
theorem dL_act_80 : decode cL_act 80 = .ok (.iload_n 1, 1) := by decide +kernel
theorem dL_act_81 : decode cL_act 81 = .ok (.iconst 4, 1) := by decide +kernel
theorem dL_act_82 : decode cL_act 82 = .ok (.if_icmp .ne 14, 3) := by decide +kernel
theorem dL_act_85 : decode cL_act 85 = .ok (.aload_n 0, 1) := by decide +kernel
theorem dL_act_86 : decode cL_act 86 = .ok (.iload_n 2, 1) := by decide +kernel
theorem dL_act_87 : decode cL_act 87 = .ok (.iload_n 3, 1) := by decide +kernel
theorem dL_act_88 : decode cL_act 88 = .ok (.iload 4, 2) := by decide +kernel
theorem dL_act_90 : decode cL_act 90 = .ok (.invokevirtual 25, 3) := by decide +kernel
theorem dL_act_93 : decode cL_act 93 = .ok (.goto 326, 3) := by decide +kernel
theorem dL_act_96 : decode cL_act 96 = .ok (.iload_n 1, 1) := by decide +kernel
theorem dL_act_97 : decode cL_act 97 = .ok (.iconst 5, 1) := by decide +kernel
theorem dL_act_98 : decode cL_act 98 = .ok (.if_icmp .ne 14, 3) := by decide +kernel
theorem dL_act_101 : decode cL_act 101 = .ok (.aload_n 0, 1) := by decide +kernel
theorem dL_act_102 : decode cL_act 102 = .ok (.iload_n 2, 1) := by decide +kernel
theorem dL_act_103 : decode cL_act 103 = .ok (.iload_n 3, 1) := by decide +kernel
theorem dL_act_104 : decode cL_act 104 = .ok (.iload 4, 2) := by decide +kernel
theorem dL_act_106 : decode cL_act 106 = .ok (.invokevirtual 28, 3) := by decide +kernel
theorem dL_act_109 : decode cL_act 109 = .ok (.goto 310, 3) := by decide +kernel
theorem dL_act_112 : decode cL_act 112 = .ok (.iload_n 1, 1) := by decide +kernel
theorem dL_act_113 : decode cL_act 113 = .ok (.bipush 6, 2) := by decide +kernel
theorem dL_act_115 : decode cL_act 115 = .ok (.if_icmp .ne 21, 3) := by decide +kernel
theorem dL_act_118 : decode cL_act 118 = .ok (.aload_n 0, 1) := by decide +kernel
theorem dL_act_119 : decode cL_act 119 = .ok (.iload_n 2, 1) := by decide +kernel
theorem dL_act_120 : decode cL_act 120 = .ok (.iload_n 3, 1) := by decide +kernel
theorem dL_act_121 : decode cL_act 121 = .ok (.iconst 1, 1) := by decide +kernel
theorem dL_act_122 : decode cL_act 122 = .ok (.if_icmp .ne 7, 3) := by decide +kernel
theorem dL_act_125 : decode cL_act 125 = .ok (.iconst 1, 1) := by decide +kernel
theorem dL_act_126 : decode cL_act 126 = .ok (.goto 4, 3) := by decide +kernel
theorem dL_act_129 : decode cL_act 129 = .ok (.iconst 0, 1) := by decide +kernel
theorem dL_act_130 : decode cL_act 130 = .ok (.invokevirtual 31, 3) := by decide +kernel
theorem dL_act_133 : decode cL_act 133 = .ok (.goto 286, 3) := by decide +kernel
theorem dL_act_136 : decode cL_act 136 = .ok (.iload_n 1, 1) := by decide +kernel
theorem dL_act_137 : decode cL_act 137 = .ok (.bipush 7, 2) := by decide +kernel
theorem dL_act_139 : decode cL_act 139 = .ok (.if_icmp .ne 21, 3) := by decide +kernel
theorem dL_act_142 : decode cL_act 142 = .ok (.aload_n 0, 1) := by decide +kernel
theorem dL_act_143 : decode cL_act 143 = .ok (.iload_n 2, 1) := by decide +kernel
theorem dL_act_144 : decode cL_act 144 = .ok (.iload_n 3, 1) := by decide +kernel
theorem dL_act_145 : decode cL_act 145 = .ok (.iconst 1, 1) := by decide +kernel
theorem dL_act_146 : decode cL_act 146 = .ok (.if_icmp .ne 7, 3) := by decide +kernel
theorem dL_act_149 : decode cL_act 149 = .ok (.iconst 1, 1) := by decide +kernel
theorem dL_act_150 : decode cL_act 150 = .ok (.goto 4, 3) := by decide +kernel
theorem dL_act_153 : decode cL_act 153 = .ok (.iconst 0, 1) := by decide +kernel
theorem dL_act_154 : decode cL_act 154 = .ok (.invokevirtual 35, 3) := by decide +kernel
theorem dL_act_157 : decode cL_act 157 = .ok (.goto 262, 3) := by decide +kernel
theorem dL_act_160 : decode cL_act 160 = .ok (.iload_n 1, 1) := by decide +kernel
theorem dL_act_161 : decode cL_act 161 = .ok (.bipush 8, 2) := by decide +kernel
theorem dL_act_163 : decode cL_act 163 = .ok (.if_icmp .ne 20, 3) := by decide +kernel
theorem dL_act_166 : decode cL_act 166 = .ok (.aload_n 0, 1) := by decide +kernel
theorem dL_act_167 : decode cL_act 167 = .ok (.iload_n 2, 1) := by decide +kernel
theorem dL_act_168 : decode cL_act 168 = .ok (.iload_n 3, 1) := by decide +kernel
theorem dL_act_169 : decode cL_act 169 = .ok (.invokevirtual 38, 3) := by decide +kernel
theorem dL_act_172 : decode cL_act 172 = .ok (.ifCond .eq 7, 3) := by decide +kernel
theorem dL_act_175 : decode cL_act 175 = .ok (.iconst 1, 1) := by decide +kernel
theorem dL_act_176 : decode cL_act 176 = .ok (.goto 243, 3) := by decide +kernel
theorem dL_act_179 : decode cL_act 179 = .ok (.iconst 0, 1) := by decide +kernel
theorem dL_act_180 : decode cL_act 180 = .ok (.goto 239, 3) := by decide +kernel
theorem dL_act_183 : decode cL_act 183 = .ok (.iload_n 1, 1) := by decide +kernel
theorem dL_act_184 : decode cL_act 184 = .ok (.bipush 9, 2) := by decide +kernel
theorem dL_act_186 : decode cL_act 186 = .ok (.if_icmp .ne 31, 3) := by decide +kernel
theorem dL_act_189 : decode cL_act 189 = .ok (.aload_n 0, 1) := by decide +kernel
theorem dL_act_190 : decode cL_act 190 = .ok (.iload_n 2, 1) := by decide +kernel
theorem dL_act_191 : decode cL_act 191 = .ok (.iload_n 3, 1) := by decide +kernel
theorem dL_act_192 : decode cL_act 192 = .ok (.iload 4, 2) := by decide +kernel
theorem dL_act_194 : decode cL_act 194 = .ok (.iconst 1, 1) := by decide +kernel
theorem dL_act_195 : decode cL_act 195 = .ok (.if_icmp .ne 7, 3) := by decide +kernel
theorem dL_act_198 : decode cL_act 198 = .ok (.iconst 1, 1) := by decide +kernel
theorem dL_act_199 : decode cL_act 199 = .ok (.goto 4, 3) := by decide +kernel
theorem dL_act_202 : decode cL_act 202 = .ok (.iconst 0, 1) := by decide +kernel
theorem dL_act_203 : decode cL_act 203 = .ok (.invokevirtual 42, 3) := by decide +kernel
theorem dL_act_206 : decode cL_act 206 = .ok (.ifCond .eq 7, 3) := by decide +kernel
theorem dL_act_209 : decode cL_act 209 = .ok (.iconst 1, 1) := by decide +kernel
theorem dL_act_210 : decode cL_act 210 = .ok (.goto 209, 3) := by decide +kernel
theorem dL_act_213 : decode cL_act 213 = .ok (.iconst 0, 1) := by decide +kernel
theorem dL_act_214 : decode cL_act 214 = .ok (.goto 205, 3) := by decide +kernel
theorem dL_act_217 : decode cL_act 217 = .ok (.iload_n 1, 1) := by decide +kernel
theorem dL_act_218 : decode cL_act 218 = .ok (.bipush 10, 2) := by decide +kernel
theorem dL_act_220 : decode cL_act 220 = .ok (.if_icmp .ne 12, 3) := by decide +kernel
theorem dL_act_223 : decode cL_act 223 = .ok (.aload_n 0, 1) := by decide +kernel
theorem dL_act_224 : decode cL_act 224 = .ok (.iload_n 2, 1) := by decide +kernel
theorem dL_act_225 : decode cL_act 225 = .ok (.iload_n 3, 1) := by decide +kernel
theorem dL_act_226 : decode cL_act 226 = .ok (.invokevirtual 45, 3) := by decide +kernel
theorem dL_act_229 : decode cL_act 229 = .ok (.goto 190, 3) := by decide +kernel
theorem dL_act_232 : decode cL_act 232 = .ok (.iload_n 1, 1) := by decide +kernel
theorem dL_act_233 : decode cL_act 233 = .ok (.bipush 11, 2) := by decide +kernel
theorem dL_act_235 : decode cL_act 235 = .ok (.if_icmp .ne 12, 3) := by decide +kernel
theorem dL_act_238 : decode cL_act 238 = .ok (.aload_n 0, 1) := by decide +kernel
theorem dL_act_239 : decode cL_act 239 = .ok (.iload_n 2, 1) := by decide +kernel
theorem dL_act_240 : decode cL_act 240 = .ok (.iload_n 3, 1) := by decide +kernel
theorem dL_act_241 : decode cL_act 241 = .ok (.invokevirtual 48, 3) := by decide +kernel
theorem dL_act_244 : decode cL_act 244 = .ok (.goto 175, 3) := by decide +kernel
theorem dL_act_247 : decode cL_act 247 = .ok (.iload_n 1, 1) := by decide +kernel
theorem dL_act_248 : decode cL_act 248 = .ok (.bipush 12, 2) := by decide +kernel
theorem dL_act_250 : decode cL_act 250 = .ok (.if_icmp .ne 12, 3) := by decide +kernel
theorem dL_act_253 : decode cL_act 253 = .ok (.aload_n 0, 1) := by decide +kernel
theorem dL_act_254 : decode cL_act 254 = .ok (.iload_n 2, 1) := by decide +kernel
theorem dL_act_255 : decode cL_act 255 = .ok (.iload_n 3, 1) := by decide +kernel
theorem dL_act_256 : decode cL_act 256 = .ok (.invokevirtual 51, 3) := by decide +kernel
theorem dL_act_259 : decode cL_act 259 = .ok (.goto 160, 3) := by decide +kernel
theorem dL_act_262 : decode cL_act 262 = .ok (.iload_n 1, 1) := by decide +kernel
theorem dL_act_263 : decode cL_act 263 = .ok (.bipush 13, 2) := by decide +kernel
theorem dL_act_265 : decode cL_act 265 = .ok (.if_icmp .ne 11, 3) := by decide +kernel
theorem dL_act_268 : decode cL_act 268 = .ok (.aload_n 0, 1) := by decide +kernel
theorem dL_act_269 : decode cL_act 269 = .ok (.iload_n 2, 1) := by decide +kernel
theorem dL_act_270 : decode cL_act 270 = .ok (.invokevirtual 54, 3) := by decide +kernel
theorem dL_act_273 : decode cL_act 273 = .ok (.goto 146, 3) := by decide +kernel
theorem dL_act_276 : decode cL_act 276 = .ok (.iload_n 1, 1) := by decide +kernel
theorem dL_act_277 : decode cL_act 277 = .ok (.bipush 14, 2) := by decide +kernel
theorem dL_act_279 : decode cL_act 279 = .ok (.if_icmp .ne 11, 3) := by decide +kernel
theorem dL_act_282 : decode cL_act 282 = .ok (.aload_n 0, 1) := by decide +kernel
theorem dL_act_283 : decode cL_act 283 = .ok (.iload_n 2, 1) := by decide +kernel
theorem dL_act_284 : decode cL_act 284 = .ok (.invokevirtual 58, 3) := by decide +kernel
theorem dL_act_287 : decode cL_act 287 = .ok (.goto 132, 3) := by decide +kernel
theorem dL_act_290 : decode cL_act 290 = .ok (.iload_n 1, 1) := by decide +kernel
theorem dL_act_291 : decode cL_act 291 = .ok (.bipush 15, 2) := by decide +kernel
theorem dL_act_293 : decode cL_act 293 = .ok (.if_icmp .ne 11, 3) := by decide +kernel
theorem dL_act_296 : decode cL_act 296 = .ok (.aload_n 0, 1) := by decide +kernel
theorem dL_act_297 : decode cL_act 297 = .ok (.iload_n 2, 1) := by decide +kernel
theorem dL_act_298 : decode cL_act 298 = .ok (.invokevirtual 61, 3) := by decide +kernel
theorem dL_act_301 : decode cL_act 301 = .ok (.goto 118, 3) := by decide +kernel
theorem dL_act_304 : decode cL_act 304 = .ok (.iload_n 1, 1) := by decide +kernel
theorem dL_act_305 : decode cL_act 305 = .ok (.bipush 16, 2) := by decide +kernel
theorem dL_act_307 : decode cL_act 307 = .ok (.if_icmp .ne 11, 3) := by decide +kernel
theorem dL_act_310 : decode cL_act 310 = .ok (.aload_n 0, 1) := by decide +kernel
theorem dL_act_311 : decode cL_act 311 = .ok (.iload_n 2, 1) := by decide +kernel
theorem dL_act_312 : decode cL_act 312 = .ok (.invokevirtual 64, 3) := by decide +kernel
theorem dL_act_315 : decode cL_act 315 = .ok (.goto 104, 3) := by decide +kernel
theorem dL_act_318 : decode cL_act 318 = .ok (.iload_n 1, 1) := by decide +kernel
theorem dL_act_319 : decode cL_act 319 = .ok (.bipush 17, 2) := by decide +kernel
theorem dL_act_321 : decode cL_act 321 = .ok (.if_icmp .ne 12, 3) := by decide +kernel
theorem dL_act_324 : decode cL_act 324 = .ok (.aload_n 0, 1) := by decide +kernel
theorem dL_act_325 : decode cL_act 325 = .ok (.iload_n 2, 1) := by decide +kernel
theorem dL_act_326 : decode cL_act 326 = .ok (.iload_n 3, 1) := by decide +kernel
theorem dL_act_327 : decode cL_act 327 = .ok (.invokevirtual 67, 3) := by decide +kernel
theorem dL_act_330 : decode cL_act 330 = .ok (.goto 89, 3) := by decide +kernel
theorem dL_act_333 : decode cL_act 333 = .ok (.iload_n 1, 1) := by decide +kernel
theorem dL_act_334 : decode cL_act 334 = .ok (.bipush 18, 2) := by decide +kernel
theorem dL_act_336 : decode cL_act 336 = .ok (.if_icmp .ne 11, 3) := by decide +kernel
theorem dL_act_339 : decode cL_act 339 = .ok (.aload_n 0, 1) := by decide +kernel
theorem dL_act_340 : decode cL_act 340 = .ok (.iload_n 2, 1) := by decide +kernel
theorem dL_act_341 : decode cL_act 341 = .ok (.invokevirtual 70, 3) := by decide +kernel
theorem dL_act_344 : decode cL_act 344 = .ok (.goto 75, 3) := by decide +kernel
theorem dL_act_347 : decode cL_act 347 = .ok (.iload_n 1, 1) := by decide +kernel
theorem dL_act_348 : decode cL_act 348 = .ok (.bipush 19, 2) := by decide +kernel
theorem dL_act_350 : decode cL_act 350 = .ok (.if_icmp .ne 20, 3) := by decide +kernel
theorem dL_act_353 : decode cL_act 353 = .ok (.aload_n 0, 1) := by decide +kernel
theorem dL_act_354 : decode cL_act 354 = .ok (.iload_n 2, 1) := by decide +kernel
theorem dL_act_355 : decode cL_act 355 = .ok (.iload_n 3, 1) := by decide +kernel
theorem dL_act_356 : decode cL_act 356 = .ok (.invokevirtual 73, 3) := by decide +kernel
theorem dL_act_359 : decode cL_act 359 = .ok (.ifCond .eq 7, 3) := by decide +kernel
theorem dL_act_362 : decode cL_act 362 = .ok (.iconst 1, 1) := by decide +kernel
theorem dL_act_363 : decode cL_act 363 = .ok (.goto 56, 3) := by decide +kernel
theorem dL_act_366 : decode cL_act 366 = .ok (.iconst 0, 1) := by decide +kernel
theorem dL_act_367 : decode cL_act 367 = .ok (.goto 52, 3) := by decide +kernel
theorem dL_act_370 : decode cL_act 370 = .ok (.iload_n 1, 1) := by decide +kernel
theorem dL_act_371 : decode cL_act 371 = .ok (.bipush 20, 2) := by decide +kernel
theorem dL_act_373 : decode cL_act 373 = .ok (.if_icmp .ne 12, 3) := by decide +kernel
theorem dL_act_376 : decode cL_act 376 = .ok (.aload_n 0, 1) := by decide +kernel
theorem dL_act_377 : decode cL_act 377 = .ok (.iload_n 2, 1) := by decide +kernel
theorem dL_act_378 : decode cL_act 378 = .ok (.iload_n 3, 1) := by decide +kernel
theorem dL_act_379 : decode cL_act 379 = .ok (.invokevirtual 76, 3) := by decide +kernel
theorem dL_act_382 : decode cL_act 382 = .ok (.goto 37, 3) := by decide +kernel
theorem dL_act_385 : decode cL_act 385 = .ok (.iload_n 1, 1) := by decide +kernel
theorem dL_act_386 : decode cL_act 386 = .ok (.bipush 21, 2) := by decide +kernel
theorem dL_act_388 : decode cL_act 388 = .ok (.if_icmp .ne 11, 3) := by decide +kernel
theorem dL_act_391 : decode cL_act 391 = .ok (.aload_n 0, 1) := by decide +kernel
theorem dL_act_392 : decode cL_act 392 = .ok (.iload_n 2, 1) := by decide +kernel
theorem dL_act_393 : decode cL_act 393 = .ok (.invokevirtual 79, 3) := by decide +kernel
theorem dL_act_396 : decode cL_act 396 = .ok (.goto 23, 3) := by decide +kernel
theorem dL_act_399 : decode cL_act 399 = .ok (.iload_n 1, 1) := by decide +kernel
theorem dL_act_400 : decode cL_act 400 = .ok (.bipush 22, 2) := by decide +kernel
theorem dL_act_402 : decode cL_act 402 = .ok (.if_icmp .ne 11, 3) := by decide +kernel
theorem dL_act_405 : decode cL_act 405 = .ok (.aload_n 0, 1) := by decide +kernel
theorem dL_act_406 : decode cL_act 406 = .ok (.iload_n 2, 1) := by decide +kernel
theorem dL_act_407 : decode cL_act 407 = .ok (.invokevirtual 82, 3) := by decide +kernel
theorem dL_act_410 : decode cL_act 410 = .ok (.goto 9, 3) := by decide +kernel
theorem dL_act_413 : decode cL_act 413 = .ok (.aload_n 0, 1) := by decide +kernel
theorem dL_act_414 : decode cL_act 414 = .ok (.iload_n 2, 1) := by decide +kernel
theorem dL_act_415 : decode cL_act 415 = .ok (.iload_n 3, 1) := by decide +kernel
theorem dL_act_416 : decode cL_act 416 = .ok (.invokevirtual 85, 3) := by decide +kernel
theorem dL_act_419 : decode cL_act 419 = .ok (.ireturn, 1) := by decide +kernel
theorem dL_act_420 : decode cL_act 420 = .ok (.astore 6, 2) := by decide +kernel
theorem dL_act_422 : decode cL_act 422 = .ok (.ldc 90, 2) := by decide +kernel
theorem dL_act_424 : decode cL_act 424 = .ok (.ireturn, 1) := by decide +kernel
theorem dL_act_425 : decode cL_act 425 = .ok (.astore 6, 2) := by decide +kernel
theorem dL_act_427 : decode cL_act 427 = .ok (.ldc 93, 2) := by decide +kernel
theorem dL_act_429 : decode cL_act 429 = .ok (.ireturn, 1) := by decide +kernel
theorem dL_act_430 : decode cL_act 430 = .ok (.astore 6, 2) := by decide +kernel
theorem dL_act_432 : decode cL_act 432 = .ok (.ldc 96, 2) := by decide +kernel
theorem dL_act_434 : decode cL_act 434 = .ok (.ireturn, 1) := by decide +kernel
theorem dL_years_0 : decode cL_years 0 = .ok (.aload_n 0, 1) := by decide +kernel
theorem dL_years_1 : decode cL_years 1 = .ok (.iload_n 1, 1) := by decide +kernel
theorem dL_years_2 : decode cL_years 2 = .ok (.iconst 0, 1) := by decide +kernel
theorem dL_years_3 : decode cL_years 3 = .ok (.invokevirtual 31, 3) := by decide +kernel
theorem dL_years_6 : decode cL_years 6 = .ok (.iload_n 2, 1) := by decide +kernel
theorem dL_years_7 : decode cL_years 7 = .ok (.if_icmp .ne 37, 3) := by decide +kernel
theorem dL_years_10 : decode cL_years 10 = .ok (.aload_n 0, 1) := by decide +kernel
theorem dL_years_11 : decode cL_years 11 = .ok (.iload_n 1, 1) := by decide +kernel
theorem dL_years_12 : decode cL_years 12 = .ok (.iconst 1, 1) := by decide +kernel
theorem dL_years_13 : decode cL_years 13 = .ok (.invokevirtual 31, 3) := by decide +kernel
theorem dL_years_16 : decode cL_years 16 = .ok (.iload_n 3, 1) := by decide +kernel
theorem dL_years_17 : decode cL_years 17 = .ok (.if_icmp .ne 27, 3) := by decide +kernel
theorem dL_years_20 : decode cL_years 20 = .ok (.aload_n 0, 1) := by decide +kernel
theorem dL_years_21 : decode cL_years 21 = .ok (.iload_n 1, 1) := by decide +kernel
theorem dL_years_22 : decode cL_years 22 = .ok (.iconst 0, 1) := by decide +kernel
theorem dL_years_23 : decode cL_years 23 = .ok (.invokevirtual 35, 3) := by decide +kernel
theorem dL_years_26 : decode cL_years 26 = .ok (.iload_n 2, 1) := by decide +kernel
theorem dL_years_27 : decode cL_years 27 = .ok (.if_icmp .ne 17, 3) := by decide +kernel
theorem dL_years_30 : decode cL_years 30 = .ok (.aload_n 0, 1) := by decide +kernel
theorem dL_years_31 : decode cL_years 31 = .ok (.iload_n 1, 1) := by decide +kernel
theorem dL_years_32 : decode cL_years 32 = .ok (.iconst 1, 1) := by decide +kernel
theorem dL_years_33 : decode cL_years 33 = .ok (.invokevirtual 35, 3) := by decide +kernel
theorem dL_years_36 : decode cL_years 36 = .ok (.iload_n 3, 1) := by decide +kernel
theorem dL_years_37 : decode cL_years 37 = .ok (.if_icmp .ne 7, 3) := by decide +kernel
theorem dL_years_40 : decode cL_years 40 = .ok (.iconst 1, 1) := by decide +kernel
theorem dL_years_41 : decode cL_years 41 = .ok (.goto 4, 3) := by decide +kernel
theorem dL_years_44 : decode cL_years 44 = .ok (.iconst 0, 1) := by decide +kernel
theorem dL_years_45 : decode cL_years 45 = .ok (.ireturn, 1) := by decide +kernel
theorem dL_weight_0 : decode cL_weight 0 = .ok (.aload_n 0, 1) := by decide +kernel
theorem dL_weight_1 : decode cL_weight 1 = .ok (.iload_n 1, 1) := by decide +kernel
theorem dL_weight_2 : decode cL_weight 2 = .ok (.iload_n 2, 1) := by decide +kernel
theorem dL_weight_3 : decode cL_weight 3 = .ok (.invokevirtual 45, 3) := by decide +kernel
theorem dL_weight_6 : decode cL_weight 6 = .ok (.iload_n 3, 1) := by decide +kernel
theorem dL_weight_7 : decode cL_weight 7 = .ok (.if_icmp .ne 39, 3) := by decide +kernel
theorem dL_weight_10 : decode cL_weight 10 = .ok (.aload_n 0, 1) := by decide +kernel
theorem dL_weight_11 : decode cL_weight 11 = .ok (.iload_n 2, 1) := by decide +kernel
theorem dL_weight_12 : decode cL_weight 12 = .ok (.iload_n 1, 1) := by decide +kernel
theorem dL_weight_13 : decode cL_weight 13 = .ok (.invokevirtual 45, 3) := by decide +kernel
theorem dL_weight_16 : decode cL_weight 16 = .ok (.iload_n 3, 1) := by decide +kernel
theorem dL_weight_17 : decode cL_weight 17 = .ok (.if_icmp .ne 29, 3) := by decide +kernel
theorem dL_weight_20 : decode cL_weight 20 = .ok (.aload_n 0, 1) := by decide +kernel
theorem dL_weight_21 : decode cL_weight 21 = .ok (.iload_n 1, 1) := by decide +kernel
theorem dL_weight_22 : decode cL_weight 22 = .ok (.iload_n 2, 1) := by decide +kernel
theorem dL_weight_23 : decode cL_weight 23 = .ok (.invokevirtual 48, 3) := by decide +kernel
theorem dL_weight_26 : decode cL_weight 26 = .ok (.iload 4, 2) := by decide +kernel
theorem dL_weight_28 : decode cL_weight 28 = .ok (.if_icmp .ne 18, 3) := by decide +kernel
theorem dL_weight_31 : decode cL_weight 31 = .ok (.aload_n 0, 1) := by decide +kernel
theorem dL_weight_32 : decode cL_weight 32 = .ok (.iload_n 2, 1) := by decide +kernel
theorem dL_weight_33 : decode cL_weight 33 = .ok (.iload_n 1, 1) := by decide +kernel
theorem dL_weight_34 : decode cL_weight 34 = .ok (.invokevirtual 48, 3) := by decide +kernel
theorem dL_weight_37 : decode cL_weight 37 = .ok (.iload 4, 2) := by decide +kernel
theorem dL_weight_39 : decode cL_weight 39 = .ok (.if_icmp .ne 7, 3) := by decide +kernel
theorem dL_weight_42 : decode cL_weight 42 = .ok (.iconst 1, 1) := by decide +kernel
theorem dL_weight_43 : decode cL_weight 43 = .ok (.goto 4, 3) := by decide +kernel
theorem dL_weight_46 : decode cL_weight 46 = .ok (.iconst 0, 1) := by decide +kernel
theorem dL_weight_47 : decode cL_weight 47 = .ok (.ireturn, 1) := by decide +kernel
theorem dL_best_0 : decode cL_best 0 = .ok (.aload_n 0, 1) := by decide +kernel
theorem dL_best_1 : decode cL_best 1 = .ok (.iload_n 1, 1) := by decide +kernel
theorem dL_best_2 : decode cL_best 2 = .ok (.invokevirtual 79, 3) := by decide +kernel
theorem dL_best_5 : decode cL_best 5 = .ok (.iload_n 2, 1) := by decide +kernel
theorem dL_best_6 : decode cL_best 6 = .ok (.if_icmp .ne 16, 3) := by decide +kernel
theorem dL_best_9 : decode cL_best 9 = .ok (.aload_n 0, 1) := by decide +kernel
theorem dL_best_10 : decode cL_best 10 = .ok (.iload_n 1, 1) := by decide +kernel
theorem dL_best_11 : decode cL_best 11 = .ok (.invokevirtual 82, 3) := by decide +kernel
theorem dL_best_14 : decode cL_best 14 = .ok (.iload_n 2, 1) := by decide +kernel
theorem dL_best_15 : decode cL_best 15 = .ok (.if_icmp .ne 7, 3) := by decide +kernel
theorem dL_best_18 : decode cL_best 18 = .ok (.iconst 1, 1) := by decide +kernel
theorem dL_best_19 : decode cL_best 19 = .ok (.goto 4, 3) := by decide +kernel
theorem dL_best_22 : decode cL_best 22 = .ok (.iconst 0, 1) := by decide +kernel
theorem dL_best_23 : decode cL_best 23 = .ok (.ireturn, 1) := by decide +kernel
theorem dL_careers_0 : decode cL_careers 0 = .ok (.aload_n 0, 1) := by decide +kernel
theorem dL_careers_1 : decode cL_careers 1 = .ok (.iconst 0, 1) := by decide +kernel
theorem dL_careers_2 : decode cL_careers 2 = .ok (.iconst 0, 1) := by decide +kernel
theorem dL_careers_3 : decode cL_careers 3 = .ok (.invokevirtual 67, 3) := by decide +kernel
theorem dL_careers_6 : decode cL_careers 6 = .ok (.ifCond .ne 215, 3) := by decide +kernel
theorem dL_careers_9 : decode cL_careers 9 = .ok (.aload_n 0, 1) := by decide +kernel
theorem dL_careers_10 : decode cL_careers 10 = .ok (.iconst 1, 1) := by decide +kernel
theorem dL_careers_11 : decode cL_careers 11 = .ok (.iconst 1, 1) := by decide +kernel
theorem dL_careers_12 : decode cL_careers 12 = .ok (.invokevirtual 67, 3) := by decide +kernel
theorem dL_careers_15 : decode cL_careers 15 = .ok (.iconst 2, 1) := by decide +kernel
theorem dL_careers_16 : decode cL_careers 16 = .ok (.if_icmp .ne 205, 3) := by decide +kernel
theorem dL_careers_19 : decode cL_careers 19 = .ok (.aload_n 0, 1) := by decide +kernel
theorem dL_careers_20 : decode cL_careers 20 = .ok (.iconst 0, 1) := by decide +kernel
theorem dL_careers_21 : decode cL_careers 21 = .ok (.iconst 2, 1) := by decide +kernel
theorem dL_careers_22 : decode cL_careers 22 = .ok (.invokevirtual 67, 3) := by decide +kernel
theorem dL_careers_25 : decode cL_careers 25 = .ok (.iconst (-1), 1) := by decide +kernel
theorem dL_careers_26 : decode cL_careers 26 = .ok (.if_icmp .ne 195, 3) := by decide +kernel
theorem dL_careers_29 : decode cL_careers 29 = .ok (.aload_n 0, 1) := by decide +kernel
theorem dL_careers_30 : decode cL_careers 30 = .ok (.iconst 3, 1) := by decide +kernel
theorem dL_careers_31 : decode cL_careers 31 = .ok (.iconst 0, 1) := by decide +kernel
theorem dL_careers_32 : decode cL_careers 32 = .ok (.invokevirtual 67, 3) := by decide +kernel
theorem dL_careers_35 : decode cL_careers 35 = .ok (.iconst 4, 1) := by decide +kernel
theorem dL_careers_36 : decode cL_careers 36 = .ok (.if_icmp .ne 185, 3) := by decide +kernel
theorem dL_careers_39 : decode cL_careers 39 = .ok (.aload_n 0, 1) := by decide +kernel
theorem dL_careers_40 : decode cL_careers 40 = .ok (.iconst 4, 1) := by decide +kernel
theorem dL_careers_41 : decode cL_careers 41 = .ok (.iconst 1, 1) := by decide +kernel
theorem dL_careers_42 : decode cL_careers 42 = .ok (.invokevirtual 67, 3) := by decide +kernel
theorem dL_careers_45 : decode cL_careers 45 = .ok (.iconst (-1), 1) := by decide +kernel
theorem dL_careers_46 : decode cL_careers 46 = .ok (.if_icmp .ne 175, 3) := by decide +kernel
theorem dL_careers_49 : decode cL_careers 49 = .ok (.aload_n 0, 1) := by decide +kernel
theorem dL_careers_50 : decode cL_careers 50 = .ok (.iconst 5, 1) := by decide +kernel
theorem dL_careers_51 : decode cL_careers 51 = .ok (.iconst 0, 1) := by decide +kernel
theorem dL_careers_52 : decode cL_careers 52 = .ok (.invokevirtual 67, 3) := by decide +kernel
theorem dL_careers_55 : decode cL_careers 55 = .ok (.iconst 1, 1) := by decide +kernel
theorem dL_careers_56 : decode cL_careers 56 = .ok (.if_icmp .ne 165, 3) := by decide +kernel
theorem dL_careers_59 : decode cL_careers 59 = .ok (.aload_n 0, 1) := by decide +kernel
theorem dL_careers_60 : decode cL_careers 60 = .ok (.iconst 0, 1) := by decide +kernel
theorem dL_careers_61 : decode cL_careers 61 = .ok (.invokevirtual 70, 3) := by decide +kernel
theorem dL_careers_64 : decode cL_careers 64 = .ok (.ifCond .ne 157, 3) := by decide +kernel
theorem dL_careers_67 : decode cL_careers 67 = .ok (.aload_n 0, 1) := by decide +kernel
theorem dL_careers_68 : decode cL_careers 68 = .ok (.iconst 3, 1) := by decide +kernel
theorem dL_careers_69 : decode cL_careers 69 = .ok (.iconst 2, 1) := by decide +kernel
theorem dL_careers_70 : decode cL_careers 70 = .ok (.iconst 1, 1) := by decide +kernel
theorem dL_careers_71 : decode cL_careers 71 = .ok (.bipush 7, 2) := by decide +kernel
theorem dL_careers_73 : decode cL_careers 73 = .ok (.invokevirtual 7, 3) := by decide +kernel
theorem dL_careers_76 : decode cL_careers 76 = .ok (.iconst 5, 1) := by decide +kernel
theorem dL_careers_77 : decode cL_careers 77 = .ok (.if_icmp .ne 144, 3) := by decide +kernel
theorem dL_careers_80 : decode cL_careers 80 = .ok (.aload_n 0, 1) := by decide +kernel
theorem dL_careers_81 : decode cL_careers 81 = .ok (.iconst 5, 1) := by decide +kernel
theorem dL_careers_82 : decode cL_careers 82 = .ok (.invokevirtual 58, 3) := by decide +kernel
theorem dL_careers_85 : decode cL_careers 85 = .ok (.bipush 6, 2) := by decide +kernel
theorem dL_careers_87 : decode cL_careers 87 = .ok (.if_icmp .ne 134, 3) := by decide +kernel
theorem dL_careers_90 : decode cL_careers 90 = .ok (.aload_n 0, 1) := by decide +kernel
theorem dL_careers_91 : decode cL_careers 91 = .ok (.iconst 5, 1) := by decide +kernel
theorem dL_careers_92 : decode cL_careers 92 = .ok (.sipush 495, 3) := by decide +kernel
theorem dL_careers_95 : decode cL_careers 95 = .ok (.sipush 495, 3) := by decide +kernel
theorem dL_careers_98 : decode cL_careers 98 = .ok (.invokevirtual 25, 3) := by decide +kernel
theorem dL_careers_101 : decode cL_careers 101 = .ok (.iconst 1, 1) := by decide +kernel
theorem dL_careers_102 : decode cL_careers 102 = .ok (.if_icmp .ne 119, 3) := by decide +kernel
theorem dL_careers_105 : decode cL_careers 105 = .ok (.aload_n 0, 1) := by decide +kernel
theorem dL_careers_106 : decode cL_careers 106 = .ok (.iconst 5, 1) := by decide +kernel
theorem dL_careers_107 : decode cL_careers 107 = .ok (.iconst 2, 1) := by decide +kernel
theorem dL_careers_108 : decode cL_careers 108 = .ok (.invokevirtual 51, 3) := by decide +kernel
theorem dL_careers_111 : decode cL_careers 111 = .ok (.ifCond .ne 110, 3) := by decide +kernel
theorem dL_careers_114 : decode cL_careers 114 = .ok (.aload_n 0, 1) := by decide +kernel
theorem dL_careers_115 : decode cL_careers 115 = .ok (.iconst 0, 1) := by decide +kernel
theorem dL_careers_116 : decode cL_careers 116 = .ok (.iconst 1, 1) := by decide +kernel
theorem dL_careers_117 : decode cL_careers 117 = .ok (.invokevirtual 67, 3) := by decide +kernel
theorem dL_careers_120 : decode cL_careers 120 = .ok (.iconst 5, 1) := by decide +kernel
theorem dL_careers_121 : decode cL_careers 121 = .ok (.if_icmp .ne 100, 3) := by decide +kernel
theorem dL_careers_124 : decode cL_careers 124 = .ok (.aload_n 0, 1) := by decide +kernel
theorem dL_careers_125 : decode cL_careers 125 = .ok (.iconst 0, 1) := by decide +kernel
theorem dL_careers_126 : decode cL_careers 126 = .ok (.iconst 2, 1) := by decide +kernel
theorem dL_careers_127 : decode cL_careers 127 = .ok (.invokevirtual 67, 3) := by decide +kernel
theorem dL_careers_130 : decode cL_careers 130 = .ok (.iconst 2, 1) := by decide +kernel
theorem dL_careers_131 : decode cL_careers 131 = .ok (.if_icmp .ne 90, 3) := by decide +kernel
theorem dL_careers_134 : decode cL_careers 134 = .ok (.aload_n 0, 1) := by decide +kernel
theorem dL_careers_135 : decode cL_careers 135 = .ok (.bipush 6, 2) := by decide +kernel
theorem dL_careers_137 : decode cL_careers 137 = .ok (.invokevirtual 70, 3) := by decide +kernel
theorem dL_careers_140 : decode cL_careers 140 = .ok (.iconst 1, 1) := by decide +kernel
theorem dL_careers_141 : decode cL_careers 141 = .ok (.if_icmp .ne 80, 3) := by decide +kernel
theorem dL_careers_144 : decode cL_careers 144 = .ok (.aload_n 0, 1) := by decide +kernel
theorem dL_careers_145 : decode cL_careers 145 = .ok (.bipush 7, 2) := by decide +kernel
theorem dL_careers_147 : decode cL_careers 147 = .ok (.iconst 0, 1) := by decide +kernel
theorem dL_careers_148 : decode cL_careers 148 = .ok (.invokevirtual 13, 3) := by decide +kernel
theorem dL_careers_151 : decode cL_careers 151 = .ok (.bipush 7, 2) := by decide +kernel
theorem dL_careers_153 : decode cL_careers 153 = .ok (.if_icmp .ne 68, 3) := by decide +kernel
theorem dL_careers_156 : decode cL_careers 156 = .ok (.aload_n 0, 1) := by decide +kernel
theorem dL_careers_157 : decode cL_careers 157 = .ok (.iconst 0, 1) := by decide +kernel
theorem dL_careers_158 : decode cL_careers 158 = .ok (.invokevirtual 70, 3) := by decide +kernel
theorem dL_careers_161 : decode cL_careers 161 = .ok (.ifCond .ne 60, 3) := by decide +kernel
theorem dL_careers_164 : decode cL_careers 164 = .ok (.aload_n 0, 1) := by decide +kernel
theorem dL_careers_165 : decode cL_careers 165 = .ok (.iconst 0, 1) := by decide +kernel
theorem dL_careers_166 : decode cL_careers 166 = .ok (.bipush 9, 2) := by decide +kernel
theorem dL_careers_168 : decode cL_careers 168 = .ok (.invokevirtual 13, 3) := by decide +kernel
theorem dL_careers_171 : decode cL_careers 171 = .ok (.ifCond .ne 50, 3) := by decide +kernel
theorem dL_careers_174 : decode cL_careers 174 = .ok (.aload_n 0, 1) := by decide +kernel
theorem dL_careers_175 : decode cL_careers 175 = .ok (.iconst 0, 1) := by decide +kernel
theorem dL_careers_176 : decode cL_careers 176 = .ok (.invokevirtual 70, 3) := by decide +kernel
theorem dL_careers_179 : decode cL_careers 179 = .ok (.iconst 1, 1) := by decide +kernel
theorem dL_careers_180 : decode cL_careers 180 = .ok (.if_icmp .ne 41, 3) := by decide +kernel
theorem dL_careers_183 : decode cL_careers 183 = .ok (.aload_n 0, 1) := by decide +kernel
theorem dL_careers_184 : decode cL_careers 184 = .ok (.iconst 5, 1) := by decide +kernel
theorem dL_careers_185 : decode cL_careers 185 = .ok (.invokevirtual 54, 3) := by decide +kernel
theorem dL_careers_188 : decode cL_careers 188 = .ok (.bipush 7, 2) := by decide +kernel
theorem dL_careers_190 : decode cL_careers 190 = .ok (.if_icmp .ne 31, 3) := by decide +kernel
theorem dL_careers_193 : decode cL_careers 193 = .ok (.aload_n 0, 1) := by decide +kernel
theorem dL_careers_194 : decode cL_careers 194 = .ok (.iconst 0, 1) := by decide +kernel
theorem dL_careers_195 : decode cL_careers 195 = .ok (.invokevirtual 70, 3) := by decide +kernel
theorem dL_careers_198 : decode cL_careers 198 = .ok (.ifCond .ne 23, 3) := by decide +kernel
theorem dL_careers_201 : decode cL_careers 201 = .ok (.aload_n 0, 1) := by decide +kernel
theorem dL_careers_202 : decode cL_careers 202 = .ok (.bipush 6, 2) := by decide +kernel
theorem dL_careers_204 : decode cL_careers 204 = .ok (.invokevirtual 70, 3) := by decide +kernel
theorem dL_careers_207 : decode cL_careers 207 = .ok (.ifCond .ne 14, 3) := by decide +kernel
theorem dL_careers_210 : decode cL_careers 210 = .ok (.aload_n 0, 1) := by decide +kernel
theorem dL_careers_211 : decode cL_careers 211 = .ok (.bipush 7, 2) := by decide +kernel
theorem dL_careers_213 : decode cL_careers 213 = .ok (.iconst 0, 1) := by decide +kernel
theorem dL_careers_214 : decode cL_careers 214 = .ok (.invokevirtual 67, 3) := by decide +kernel
theorem dL_careers_217 : decode cL_careers 217 = .ok (.iconst 5, 1) := by decide +kernel
theorem dL_careers_218 : decode cL_careers 218 = .ok (.if_icmp .eq 5, 3) := by decide +kernel
theorem dL_careers_221 : decode cL_careers 221 = .ok (.iconst 0, 1) := by decide +kernel
theorem dL_careers_222 : decode cL_careers 222 = .ok (.ireturn, 1) := by decide +kernel
theorem dL_careers_223 : decode cL_careers 223 = .ok (.aload_n 0, 1) := by decide +kernel
theorem dL_careers_224 : decode cL_careers 224 = .ok (.iconst 0, 1) := by decide +kernel
theorem dL_careers_225 : decode cL_careers 225 = .ok (.iconst 3, 1) := by decide +kernel
theorem dL_careers_226 : decode cL_careers 226 = .ok (.invokevirtual 76, 3) := by decide +kernel
theorem dL_careers_229 : decode cL_careers 229 = .ok (.iconst (-1), 1) := by decide +kernel
theorem dL_careers_230 : decode cL_careers 230 = .ok (.if_icmp .ne 176, 3) := by decide +kernel
theorem dL_careers_233 : decode cL_careers 233 = .ok (.aload_n 0, 1) := by decide +kernel
theorem dL_careers_234 : decode cL_careers 234 = .ok (.iconst 0, 1) := by decide +kernel
theorem dL_careers_235 : decode cL_careers 235 = .ok (.iconst 3, 1) := by decide +kernel
theorem dL_careers_236 : decode cL_careers 236 = .ok (.invokevirtual 73, 3) := by decide +kernel
theorem dL_careers_239 : decode cL_careers 239 = .ok (.ifCond .ne 167, 3) := by decide +kernel
theorem dL_careers_242 : decode cL_careers 242 = .ok (.aload_n 0, 1) := by decide +kernel
theorem dL_careers_243 : decode cL_careers 243 = .ok (.iconst 3, 1) := by decide +kernel
theorem dL_careers_244 : decode cL_careers 244 = .ok (.iconst 0, 1) := by decide +kernel
theorem dL_careers_245 : decode cL_careers 245 = .ok (.invokevirtual 73, 3) := by decide +kernel
theorem dL_careers_248 : decode cL_careers 248 = .ok (.ifCond .eq 158, 3) := by decide +kernel
theorem dL_careers_251 : decode cL_careers 251 = .ok (.aload_n 0, 1) := by decide +kernel
theorem dL_careers_252 : decode cL_careers 252 = .ok (.iconst 0, 1) := by decide +kernel
theorem dL_careers_253 : decode cL_careers 253 = .ok (.iconst 3, 1) := by decide +kernel
theorem dL_careers_254 : decode cL_careers 254 = .ok (.invokevirtual 76, 3) := by decide +kernel
theorem dL_careers_257 : decode cL_careers 257 = .ok (.iconst 1, 1) := by decide +kernel
theorem dL_careers_258 : decode cL_careers 258 = .ok (.if_icmp .ne 148, 3) := by decide +kernel
theorem dL_careers_261 : decode cL_careers 261 = .ok (.aload_n 0, 1) := by decide +kernel
theorem dL_careers_262 : decode cL_careers 262 = .ok (.iconst 4, 1) := by decide +kernel
theorem dL_careers_263 : decode cL_careers 263 = .ok (.iconst 2, 1) := by decide +kernel
theorem dL_careers_264 : decode cL_careers 264 = .ok (.invokevirtual 76, 3) := by decide +kernel
theorem dL_careers_267 : decode cL_careers 267 = .ok (.iconst 1, 1) := by decide +kernel
theorem dL_careers_268 : decode cL_careers 268 = .ok (.if_icmp .ne 138, 3) := by decide +kernel
theorem dL_careers_271 : decode cL_careers 271 = .ok (.aload_n 0, 1) := by decide +kernel
theorem dL_careers_272 : decode cL_careers 272 = .ok (.iconst 0, 1) := by decide +kernel
theorem dL_careers_273 : decode cL_careers 273 = .ok (.iconst 5, 1) := by decide +kernel
theorem dL_careers_274 : decode cL_careers 274 = .ok (.invokevirtual 76, 3) := by decide +kernel
theorem dL_careers_277 : decode cL_careers 277 = .ok (.iconst (-1), 1) := by decide +kernel
theorem dL_careers_278 : decode cL_careers 278 = .ok (.if_icmp .ne 128, 3) := by decide +kernel
theorem dL_careers_281 : decode cL_careers 281 = .ok (.aload_n 0, 1) := by decide +kernel
theorem dL_careers_282 : decode cL_careers 282 = .ok (.iconst 1, 1) := by decide +kernel
theorem dL_careers_283 : decode cL_careers 283 = .ok (.iconst 4, 1) := by decide +kernel
theorem dL_careers_284 : decode cL_careers 284 = .ok (.invokevirtual 73, 3) := by decide +kernel
theorem dL_careers_287 : decode cL_careers 287 = .ok (.ifCond .ne 119, 3) := by decide +kernel
theorem dL_careers_290 : decode cL_careers 290 = .ok (.aload_n 0, 1) := by decide +kernel
theorem dL_careers_291 : decode cL_careers 291 = .ok (.iconst 0, 1) := by decide +kernel
theorem dL_careers_292 : decode cL_careers 292 = .ok (.iconst 5, 1) := by decide +kernel
theorem dL_careers_293 : decode cL_careers 293 = .ok (.invokevirtual 76, 3) := by decide +kernel
theorem dL_careers_296 : decode cL_careers 296 = .ok (.iconst 2, 1) := by decide +kernel
theorem dL_careers_297 : decode cL_careers 297 = .ok (.if_icmp .ne 109, 3) := by decide +kernel
theorem dL_careers_300 : decode cL_careers 300 = .ok (.aload_n 0, 1) := by decide +kernel
theorem dL_careers_301 : decode cL_careers 301 = .ok (.iconst 5, 1) := by decide +kernel
theorem dL_careers_302 : decode cL_careers 302 = .ok (.iconst 1, 1) := by decide +kernel
theorem dL_careers_303 : decode cL_careers 303 = .ok (.invokevirtual 76, 3) := by decide +kernel
theorem dL_careers_306 : decode cL_careers 306 = .ok (.iconst 2, 1) := by decide +kernel
theorem dL_careers_307 : decode cL_careers 307 = .ok (.if_icmp .ne 99, 3) := by decide +kernel
theorem dL_careers_310 : decode cL_careers 310 = .ok (.aload_n 0, 1) := by decide +kernel
theorem dL_careers_311 : decode cL_careers 311 = .ok (.iconst 1, 1) := by decide +kernel
theorem dL_careers_312 : decode cL_careers 312 = .ok (.iconst 2, 1) := by decide +kernel
theorem dL_careers_313 : decode cL_careers 313 = .ok (.invokevirtual 76, 3) := by decide +kernel
theorem dL_careers_316 : decode cL_careers 316 = .ok (.ifCond .ne 90, 3) := by decide +kernel
theorem dL_careers_319 : decode cL_careers 319 = .ok (.aload_n 0, 1) := by decide +kernel
theorem dL_careers_320 : decode cL_careers 320 = .ok (.bipush 7, 2) := by decide +kernel
theorem dL_careers_322 : decode cL_careers 322 = .ok (.bipush 7, 2) := by decide +kernel
theorem dL_careers_324 : decode cL_careers 324 = .ok (.invokevirtual 76, 3) := by decide +kernel
theorem dL_careers_327 : decode cL_careers 327 = .ok (.ifCond .ne 79, 3) := by decide +kernel
theorem dL_careers_330 : decode cL_careers 330 = .ok (.aload_n 0, 1) := by decide +kernel
theorem dL_careers_331 : decode cL_careers 331 = .ok (.bipush 7, 2) := by decide +kernel
theorem dL_careers_333 : decode cL_careers 333 = .ok (.iconst 0, 1) := by decide +kernel
theorem dL_careers_334 : decode cL_careers 334 = .ok (.invokevirtual 76, 3) := by decide +kernel
theorem dL_careers_337 : decode cL_careers 337 = .ok (.iconst (-1), 1) := by decide +kernel
theorem dL_careers_338 : decode cL_careers 338 = .ok (.if_icmp .ne 68, 3) := by decide +kernel
theorem dL_careers_341 : decode cL_careers 341 = .ok (.aload_n 0, 1) := by decide +kernel
theorem dL_careers_342 : decode cL_careers 342 = .ok (.iconst 0, 1) := by decide +kernel
theorem dL_careers_343 : decode cL_careers 343 = .ok (.iconst 2, 1) := by decide +kernel
theorem dL_careers_344 : decode cL_careers 344 = .ok (.invokevirtual 73, 3) := by decide +kernel
theorem dL_careers_347 : decode cL_careers 347 = .ok (.ifCond .ne 59, 3) := by decide +kernel
theorem dL_careers_350 : decode cL_careers 350 = .ok (.aload_n 0, 1) := by decide +kernel
theorem dL_careers_351 : decode cL_careers 351 = .ok (.iconst 0, 1) := by decide +kernel
theorem dL_careers_352 : decode cL_careers 352 = .ok (.iconst 0, 1) := by decide +kernel
theorem dL_careers_353 : decode cL_careers 353 = .ok (.invokevirtual 76, 3) := by decide +kernel
theorem dL_careers_356 : decode cL_careers 356 = .ok (.ifCond .ne 50, 3) := by decide +kernel
theorem dL_careers_359 : decode cL_careers 359 = .ok (.aload_n 0, 1) := by decide +kernel
theorem dL_careers_360 : decode cL_careers 360 = .ok (.iconst 5, 1) := by decide +kernel
theorem dL_careers_361 : decode cL_careers 361 = .ok (.iconst 1, 1) := by decide +kernel
theorem dL_careers_362 : decode cL_careers 362 = .ok (.invokevirtual 73, 3) := by decide +kernel
theorem dL_careers_365 : decode cL_careers 365 = .ok (.ifCond .ne 41, 3) := by decide +kernel
theorem dL_careers_368 : decode cL_careers 368 = .ok (.aload_n 0, 1) := by decide +kernel
theorem dL_careers_369 : decode cL_careers 369 = .ok (.bipush 7, 2) := by decide +kernel
theorem dL_careers_371 : decode cL_careers 371 = .ok (.iconst 0, 1) := by decide +kernel
theorem dL_careers_372 : decode cL_careers 372 = .ok (.invokevirtual 76, 3) := by decide +kernel
theorem dL_careers_375 : decode cL_careers 375 = .ok (.iconst 3, 1) := by decide +kernel
theorem dL_careers_376 : decode cL_careers 376 = .ok (.if_icmp .ne 30, 3) := by decide +kernel
theorem dL_careers_379 : decode cL_careers 379 = .ok (.aload_n 0, 1) := by decide +kernel
theorem dL_careers_380 : decode cL_careers 380 = .ok (.bipush 6, 2) := by decide +kernel
theorem dL_careers_382 : decode cL_careers 382 = .ok (.bipush 7, 2) := by decide +kernel
theorem dL_careers_384 : decode cL_careers 384 = .ok (.invokevirtual 76, 3) := by decide +kernel
theorem dL_careers_387 : decode cL_careers 387 = .ok (.iconst 3, 1) := by decide +kernel
theorem dL_careers_388 : decode cL_careers 388 = .ok (.if_icmp .ne 18, 3) := by decide +kernel
theorem dL_careers_391 : decode cL_careers 391 = .ok (.aload_n 0, 1) := by decide +kernel
theorem dL_careers_392 : decode cL_careers 392 = .ok (.bipush 6, 2) := by decide +kernel
theorem dL_careers_394 : decode cL_careers 394 = .ok (.bipush 8, 2) := by decide +kernel
theorem dL_careers_396 : decode cL_careers 396 = .ok (.invokestatic 109, 3) := by decide +kernel
theorem dL_careers_399 : decode cL_careers 399 = .ok (.ifCond .eq 7, 3) := by decide +kernel
theorem dL_careers_402 : decode cL_careers 402 = .ok (.iconst 1, 1) := by decide +kernel
theorem dL_careers_403 : decode cL_careers 403 = .ok (.goto 4, 3) := by decide +kernel
theorem dL_careers_406 : decode cL_careers 406 = .ok (.iconst 0, 1) := by decide +kernel
theorem dL_careers_407 : decode cL_careers 407 = .ok (.ireturn, 1) := by decide +kernel
theorem dL_joins_0 : decode cL_joins 0 = .ok (.aload_n 0, 1) := by decide +kernel
theorem dL_joins_1 : decode cL_joins 1 = .ok (.iconst 1, 1) := by decide +kernel
theorem dL_joins_2 : decode cL_joins 2 = .ok (.iconst 0, 1) := by decide +kernel
theorem dL_joins_3 : decode cL_joins 3 = .ok (.invokestatic 113, 3) := by decide +kernel
theorem dL_joins_6 : decode cL_joins 6 = .ok (.ifCond .eq 169, 3) := by decide +kernel
theorem dL_joins_9 : decode cL_joins 9 = .ok (.aload_n 0, 1) := by decide +kernel
theorem dL_joins_10 : decode cL_joins 10 = .ok (.iconst 3, 1) := by decide +kernel
theorem dL_joins_11 : decode cL_joins 11 = .ok (.iconst 5, 1) := by decide +kernel
theorem dL_joins_12 : decode cL_joins 12 = .ok (.invokestatic 113, 3) := by decide +kernel
theorem dL_joins_15 : decode cL_joins 15 = .ok (.ifCond .eq 160, 3) := by decide +kernel
theorem dL_joins_18 : decode cL_joins 18 = .ok (.aload_n 0, 1) := by decide +kernel
theorem dL_joins_19 : decode cL_joins 19 = .ok (.iconst 5, 1) := by decide +kernel
theorem dL_joins_20 : decode cL_joins 20 = .ok (.iconst 4, 1) := by decide +kernel
theorem dL_joins_21 : decode cL_joins 21 = .ok (.invokestatic 113, 3) := by decide +kernel
theorem dL_joins_24 : decode cL_joins 24 = .ok (.ifCond .eq 151, 3) := by decide +kernel
theorem dL_joins_27 : decode cL_joins 27 = .ok (.aload_n 0, 1) := by decide +kernel
theorem dL_joins_28 : decode cL_joins 28 = .ok (.bipush 6, 2) := by decide +kernel
theorem dL_joins_30 : decode cL_joins 30 = .ok (.iconst 0, 1) := by decide +kernel
theorem dL_joins_31 : decode cL_joins 31 = .ok (.invokestatic 113, 3) := by decide +kernel
theorem dL_joins_34 : decode cL_joins 34 = .ok (.ifCond .eq 141, 3) := by decide +kernel
theorem dL_joins_37 : decode cL_joins 37 = .ok (.aload_n 0, 1) := by decide +kernel
theorem dL_joins_38 : decode cL_joins 38 = .ok (.bipush 7, 2) := by decide +kernel
theorem dL_joins_40 : decode cL_joins 40 = .ok (.bipush 8, 2) := by decide +kernel
theorem dL_joins_42 : decode cL_joins 42 = .ok (.invokestatic 113, 3) := by decide +kernel
theorem dL_joins_45 : decode cL_joins 45 = .ok (.ifCond .eq 130, 3) := by decide +kernel
theorem dL_joins_48 : decode cL_joins 48 = .ok (.aload_n 0, 1) := by decide +kernel
theorem dL_joins_49 : decode cL_joins 49 = .ok (.bipush 9, 2) := by decide +kernel
theorem dL_joins_51 : decode cL_joins 51 = .ok (.iconst 0, 1) := by decide +kernel
theorem dL_joins_52 : decode cL_joins 52 = .ok (.invokestatic 113, 3) := by decide +kernel
theorem dL_joins_55 : decode cL_joins 55 = .ok (.ifCond .eq 120, 3) := by decide +kernel
theorem dL_joins_58 : decode cL_joins 58 = .ok (.aload_n 0, 1) := by decide +kernel
theorem dL_joins_59 : decode cL_joins 59 = .ok (.bipush 24, 2) := by decide +kernel
theorem dL_joins_61 : decode cL_joins 61 = .ok (.iconst 2, 1) := by decide +kernel
theorem dL_joins_62 : decode cL_joins 62 = .ok (.invokestatic 113, 3) := by decide +kernel
theorem dL_joins_65 : decode cL_joins 65 = .ok (.ifCond .eq 110, 3) := by decide +kernel
theorem dL_joins_68 : decode cL_joins 68 = .ok (.aload_n 0, 1) := by decide +kernel
theorem dL_joins_69 : decode cL_joins 69 = .ok (.bipush 10, 2) := by decide +kernel
theorem dL_joins_71 : decode cL_joins 71 = .ok (.iconst 3, 1) := by decide +kernel
theorem dL_joins_72 : decode cL_joins 72 = .ok (.invokestatic 113, 3) := by decide +kernel
theorem dL_joins_75 : decode cL_joins 75 = .ok (.ifCond .eq 100, 3) := by decide +kernel
theorem dL_joins_78 : decode cL_joins 78 = .ok (.aload_n 0, 1) := by decide +kernel
theorem dL_joins_79 : decode cL_joins 79 = .ok (.bipush 26, 2) := by decide +kernel
theorem dL_joins_81 : decode cL_joins 81 = .ok (.iconst 3, 1) := by decide +kernel
theorem dL_joins_82 : decode cL_joins 82 = .ok (.invokestatic 113, 3) := by decide +kernel
theorem dL_joins_85 : decode cL_joins 85 = .ok (.ifCond .eq 90, 3) := by decide +kernel
theorem dL_joins_88 : decode cL_joins 88 = .ok (.aload_n 0, 1) := by decide +kernel
theorem dL_joins_89 : decode cL_joins 89 = .ok (.bipush 31, 2) := by decide +kernel
theorem dL_joins_91 : decode cL_joins 91 = .ok (.bipush 10, 2) := by decide +kernel
theorem dL_joins_93 : decode cL_joins 93 = .ok (.invokestatic 113, 3) := by decide +kernel
theorem dL_joins_96 : decode cL_joins 96 = .ok (.ifCond .eq 79, 3) := by decide +kernel
theorem dL_joins_99 : decode cL_joins 99 = .ok (.aload_n 0, 1) := by decide +kernel
theorem dL_joins_100 : decode cL_joins 100 = .ok (.iconst 0, 1) := by decide +kernel
theorem dL_joins_101 : decode cL_joins 101 = .ok (.iconst 1, 1) := by decide +kernel
theorem dL_joins_102 : decode cL_joins 102 = .ok (.iconst 1, 1) := by decide +kernel
theorem dL_joins_103 : decode cL_joins 103 = .ok (.invokevirtual 42, 3) := by decide +kernel
theorem dL_joins_106 : decode cL_joins 106 = .ok (.ifCond .ne 69, 3) := by decide +kernel
theorem dL_joins_109 : decode cL_joins 109 = .ok (.aload_n 0, 1) := by decide +kernel
theorem dL_joins_110 : decode cL_joins 110 = .ok (.iconst 3, 1) := by decide +kernel
theorem dL_joins_111 : decode cL_joins 111 = .ok (.iconst 0, 1) := by decide +kernel
theorem dL_joins_112 : decode cL_joins 112 = .ok (.invokestatic 113, 3) := by decide +kernel
theorem dL_joins_115 : decode cL_joins 115 = .ok (.ifCond .eq 60, 3) := by decide +kernel
theorem dL_joins_118 : decode cL_joins 118 = .ok (.aload_n 0, 1) := by decide +kernel
theorem dL_joins_119 : decode cL_joins 119 = .ok (.bipush 7, 2) := by decide +kernel
theorem dL_joins_121 : decode cL_joins 121 = .ok (.iconst 4, 1) := by decide +kernel
theorem dL_joins_122 : decode cL_joins 122 = .ok (.invokestatic 113, 3) := by decide +kernel
theorem dL_joins_125 : decode cL_joins 125 = .ok (.ifCond .eq 50, 3) := by decide +kernel
theorem dL_joins_128 : decode cL_joins 128 = .ok (.aload_n 0, 1) := by decide +kernel
theorem dL_joins_129 : decode cL_joins 129 = .ok (.bipush 31, 2) := by decide +kernel
theorem dL_joins_131 : decode cL_joins 131 = .ok (.bipush 7, 2) := by decide +kernel
theorem dL_joins_133 : decode cL_joins 133 = .ok (.invokestatic 113, 3) := by decide +kernel
theorem dL_joins_136 : decode cL_joins 136 = .ok (.ifCond .eq 39, 3) := by decide +kernel
theorem dL_joins_139 : decode cL_joins 139 = .ok (.aload_n 0, 1) := by decide +kernel
theorem dL_joins_140 : decode cL_joins 140 = .ok (.iconst 1, 1) := by decide +kernel
theorem dL_joins_141 : decode cL_joins 141 = .ok (.iconst 0, 1) := by decide +kernel
theorem dL_joins_142 : decode cL_joins 142 = .ok (.iconst 0, 1) := by decide +kernel
theorem dL_joins_143 : decode cL_joins 143 = .ok (.invokevirtual 42, 3) := by decide +kernel
theorem dL_joins_146 : decode cL_joins 146 = .ok (.ifCond .eq 29, 3) := by decide +kernel
theorem dL_joins_149 : decode cL_joins 149 = .ok (.aload_n 0, 1) := by decide +kernel
theorem dL_joins_150 : decode cL_joins 150 = .ok (.bipush 31, 2) := by decide +kernel
theorem dL_joins_152 : decode cL_joins 152 = .ok (.bipush 10, 2) := by decide +kernel
theorem dL_joins_154 : decode cL_joins 154 = .ok (.invokestatic 113, 3) := by decide +kernel
theorem dL_joins_157 : decode cL_joins 157 = .ok (.ifCond .eq 18, 3) := by decide +kernel
theorem dL_joins_160 : decode cL_joins 160 = .ok (.aload_n 0, 1) := by decide +kernel
theorem dL_joins_161 : decode cL_joins 161 = .ok (.bipush 63, 2) := by decide +kernel
theorem dL_joins_163 : decode cL_joins 163 = .ok (.bipush 15, 2) := by decide +kernel
theorem dL_joins_165 : decode cL_joins 165 = .ok (.invokestatic 113, 3) := by decide +kernel
theorem dL_joins_168 : decode cL_joins 168 = .ok (.ifCond .eq 7, 3) := by decide +kernel
theorem dL_joins_171 : decode cL_joins 171 = .ok (.iconst 1, 1) := by decide +kernel
theorem dL_joins_172 : decode cL_joins 172 = .ok (.goto 4, 3) := by decide +kernel
theorem dL_joins_175 : decode cL_joins 175 = .ok (.iconst 0, 1) := by decide +kernel
theorem dL_joins_176 : decode cL_joins 176 = .ok (.ireturn, 1) := by decide +kernel
theorem dL_most_0 : decode cL_most 0 = .ok (.new 8, 3) := by decide +kernel
theorem dL_most_3 : decode cL_most 3 = .ok (.dup, 1) := by decide +kernel
theorem dL_most_4 : decode cL_most 4 = .ok (.invokespecial 108, 3) := by decide +kernel
theorem dL_most_7 : decode cL_most 7 = .ok (.astore_n 0, 1) := by decide +kernel
theorem dL_most_8 : decode cL_most 8 = .ok (.iconst 0, 1) := by decide +kernel
theorem dL_most_9 : decode cL_most 9 = .ok (.istore_n 1, 1) := by decide +kernel
theorem dL_most_10 : decode cL_most 10 = .ok (.iload_n 1, 1) := by decide +kernel
theorem dL_most_11 : decode cL_most 11 = .ok (.bipush 17, 2) := by decide +kernel
theorem dL_most_13 : decode cL_most 13 = .ok (.if_icmp .ge 38, 3) := by decide +kernel
theorem dL_most_16 : decode cL_most 16 = .ok (.aload_n 0, 1) := by decide +kernel
theorem dL_most_17 : decode cL_most 17 = .ok (.iconst 0, 1) := by decide +kernel
theorem dL_most_18 : decode cL_most 18 = .ok (.bipush 9, 2) := by decide +kernel
theorem dL_most_20 : decode cL_most 20 = .ok (.bipush 9, 2) := by decide +kernel
theorem dL_most_22 : decode cL_most 22 = .ok (.iconst 5, 1) := by decide +kernel
theorem dL_most_23 : decode cL_most 23 = .ok (.bipush 7, 2) := by decide +kernel
theorem dL_most_25 : decode cL_most 25 = .ok (.invokestatic 102, 3) := by decide +kernel
theorem dL_most_28 : decode cL_most 28 = .ok (.iload_n 1, 1) := by decide +kernel
theorem dL_most_29 : decode cL_most 29 = .ok (.bipush 16, 2) := by decide +kernel
theorem dL_most_31 : decode cL_most 31 = .ok (.if_icmp .ge 7, 3) := by decide +kernel
theorem dL_most_34 : decode cL_most 34 = .ok (.iload_n 1, 1) := by decide +kernel
theorem dL_most_35 : decode cL_most 35 = .ok (.goto 5, 3) := by decide +kernel
theorem dL_most_38 : decode cL_most 38 = .ok (.ldc 96, 2) := by decide +kernel
theorem dL_most_40 : decode cL_most 40 = .ok (.if_icmp .eq 5, 3) := by decide +kernel
theorem dL_most_43 : decode cL_most 43 = .ok (.iconst 0, 1) := by decide +kernel
theorem dL_most_44 : decode cL_most 44 = .ok (.ireturn, 1) := by decide +kernel
theorem dL_most_45 : decode cL_most 45 = .ok (.iinc 1 1, 3) := by decide +kernel
theorem dL_most_48 : decode cL_most 48 = .ok (.goto (-38), 3) := by decide +kernel
theorem dL_most_51 : decode cL_most 51 = .ok (.iconst 0, 1) := by decide +kernel
theorem dL_most_52 : decode cL_most 52 = .ok (.istore_n 1, 1) := by decide +kernel
theorem dL_most_53 : decode cL_most 53 = .ok (.iload_n 1, 1) := by decide +kernel
theorem dL_most_54 : decode cL_most 54 = .ok (.bipush 41, 2) := by decide +kernel
theorem dL_most_56 : decode cL_most 56 = .ok (.if_icmp .ge 44, 3) := by decide +kernel
theorem dL_most_59 : decode cL_most 59 = .ok (.aload_n 0, 1) := by decide +kernel
theorem dL_most_60 : decode cL_most 60 = .ok (.iconst 3, 1) := by decide +kernel
theorem dL_most_61 : decode cL_most 61 = .ok (.iload_n 1, 1) := by decide +kernel
theorem dL_most_62 : decode cL_most 62 = .ok (.bipush 15, 2) := by decide +kernel
theorem dL_most_64 : decode cL_most 64 = .ok (.irem, 1) := by decide +kernel
theorem dL_most_65 : decode cL_most 65 = .ok (.iload_n 1, 1) := by decide +kernel
theorem dL_most_66 : decode cL_most 66 = .ok (.bipush 15, 2) := by decide +kernel
theorem dL_most_68 : decode cL_most 68 = .ok (.irem, 1) := by decide +kernel
theorem dL_most_69 : decode cL_most 69 = .ok (.iconst 1, 1) := by decide +kernel
theorem dL_most_70 : decode cL_most 70 = .ok (.iadd, 1) := by decide +kernel
theorem dL_most_71 : decode cL_most 71 = .ok (.bipush (-50), 2) := by decide +kernel
theorem dL_most_73 : decode cL_most 73 = .ok (.iconst 0, 1) := by decide +kernel
theorem dL_most_74 : decode cL_most 74 = .ok (.invokestatic 102, 3) := by decide +kernel
theorem dL_most_77 : decode cL_most 77 = .ok (.iload_n 1, 1) := by decide +kernel
theorem dL_most_78 : decode cL_most 78 = .ok (.bipush 40, 2) := by decide +kernel
theorem dL_most_80 : decode cL_most 80 = .ok (.if_icmp .ge 7, 3) := by decide +kernel
theorem dL_most_83 : decode cL_most 83 = .ok (.iconst 0, 1) := by decide +kernel
theorem dL_most_84 : decode cL_most 84 = .ok (.goto 5, 3) := by decide +kernel
theorem dL_most_87 : decode cL_most 87 = .ok (.ldc 96, 2) := by decide +kernel
theorem dL_most_89 : decode cL_most 89 = .ok (.if_icmp .eq 5, 3) := by decide +kernel
theorem dL_most_92 : decode cL_most 92 = .ok (.iconst 0, 1) := by decide +kernel
theorem dL_most_93 : decode cL_most 93 = .ok (.ireturn, 1) := by decide +kernel
theorem dL_most_94 : decode cL_most 94 = .ok (.iinc 1 1, 3) := by decide +kernel
theorem dL_most_97 : decode cL_most 97 = .ok (.goto (-44), 3) := by decide +kernel
theorem dL_most_100 : decode cL_most 100 = .ok (.iconst 0, 1) := by decide +kernel
theorem dL_most_101 : decode cL_most 101 = .ok (.istore_n 1, 1) := by decide +kernel
theorem dL_most_102 : decode cL_most 102 = .ok (.iload_n 1, 1) := by decide +kernel
theorem dL_most_103 : decode cL_most 103 = .ok (.bipush 25, 2) := by decide +kernel
theorem dL_most_105 : decode cL_most 105 = .ok (.if_icmp .ge 48, 3) := by decide +kernel
theorem dL_most_108 : decode cL_most 108 = .ok (.aload_n 0, 1) := by decide +kernel
theorem dL_most_109 : decode cL_most 109 = .ok (.iconst 0, 1) := by decide +kernel
theorem dL_most_110 : decode cL_most 110 = .ok (.iconst 1, 1) := by decide +kernel
theorem dL_most_111 : decode cL_most 111 = .ok (.invokevirtual 51, 3) := by decide +kernel
theorem dL_most_114 : decode cL_most 114 = .ok (.ifCond .ne 31, 3) := by decide +kernel
theorem dL_most_117 : decode cL_most 117 = .ok (.aload_n 0, 1) := by decide +kernel
theorem dL_most_118 : decode cL_most 118 = .ok (.bipush 13, 2) := by decide +kernel
theorem dL_most_120 : decode cL_most 120 = .ok (.iconst 1, 1) := by decide +kernel
theorem dL_most_121 : decode cL_most 121 = .ok (.iconst 0, 1) := by decide +kernel
theorem dL_most_122 : decode cL_most 122 = .ok (.iconst 0, 1) := by decide +kernel
theorem dL_most_123 : decode cL_most 123 = .ok (.iconst 0, 1) := by decide +kernel
theorem dL_most_124 : decode cL_most 124 = .ok (.invokestatic 102, 3) := by decide +kernel
theorem dL_most_127 : decode cL_most 127 = .ok (.iload_n 1, 1) := by decide +kernel
theorem dL_most_128 : decode cL_most 128 = .ok (.bipush 24, 2) := by decide +kernel
theorem dL_most_130 : decode cL_most 130 = .ok (.if_icmp .ge 10, 3) := by decide +kernel
theorem dL_most_133 : decode cL_most 133 = .ok (.bipush 16, 2) := by decide +kernel
theorem dL_most_135 : decode cL_most 135 = .ok (.iload_n 1, 1) := by decide +kernel
theorem dL_most_136 : decode cL_most 136 = .ok (.iadd, 1) := by decide +kernel
theorem dL_most_137 : decode cL_most 137 = .ok (.goto 5, 3) := by decide +kernel
theorem dL_most_140 : decode cL_most 140 = .ok (.ldc 96, 2) := by decide +kernel
theorem dL_most_142 : decode cL_most 142 = .ok (.if_icmp .eq 5, 3) := by decide +kernel
theorem dL_most_145 : decode cL_most 145 = .ok (.iconst 0, 1) := by decide +kernel
theorem dL_most_146 : decode cL_most 146 = .ok (.ireturn, 1) := by decide +kernel
theorem dL_most_147 : decode cL_most 147 = .ok (.iinc 1 1, 3) := by decide +kernel
theorem dL_most_150 : decode cL_most 150 = .ok (.goto (-48), 3) := by decide +kernel
theorem dL_most_153 : decode cL_most 153 = .ok (.aload_n 0, 1) := by decide +kernel
theorem dL_most_154 : decode cL_most 154 = .ok (.iconst 1, 1) := by decide +kernel
theorem dL_most_155 : decode cL_most 155 = .ok (.invokevirtual 58, 3) := by decide +kernel
theorem dL_most_158 : decode cL_most 158 = .ok (.ifCond .ne 32, 3) := by decide +kernel
theorem dL_most_161 : decode cL_most 161 = .ok (.aload_n 0, 1) := by decide +kernel
theorem dL_most_162 : decode cL_most 162 = .ok (.bipush 39, 2) := by decide +kernel
theorem dL_most_164 : decode cL_most 164 = .ok (.invokevirtual 61, 3) := by decide +kernel
theorem dL_most_167 : decode cL_most 167 = .ok (.ifCond .ne 23, 3) := by decide +kernel
theorem dL_most_170 : decode cL_most 170 = .ok (.aload_n 0, 1) := by decide +kernel
theorem dL_most_171 : decode cL_most 171 = .ok (.bipush 16, 2) := by decide +kernel
theorem dL_most_173 : decode cL_most 173 = .ok (.invokevirtual 61, 3) := by decide +kernel
theorem dL_most_176 : decode cL_most 176 = .ok (.ifCond .ne 14, 3) := by decide +kernel
theorem dL_most_179 : decode cL_most 179 = .ok (.aload_n 0, 1) := by decide +kernel
theorem dL_most_180 : decode cL_most 180 = .ok (.bipush 15, 2) := by decide +kernel
theorem dL_most_182 : decode cL_most 182 = .ok (.invokevirtual 61, 3) := by decide +kernel
theorem dL_most_185 : decode cL_most 185 = .ok (.bipush 15, 2) := by decide +kernel
theorem dL_most_187 : decode cL_most 187 = .ok (.if_icmp .eq 5, 3) := by decide +kernel
theorem dL_most_190 : decode cL_most 190 = .ok (.iconst 0, 1) := by decide +kernel
theorem dL_most_191 : decode cL_most 191 = .ok (.ireturn, 1) := by decide +kernel
theorem dL_most_192 : decode cL_most 192 = .ok (.iconst 2, 1) := by decide +kernel
theorem dL_most_193 : decode cL_most 193 = .ok (.istore_n 1, 1) := by decide +kernel
theorem dL_most_194 : decode cL_most 194 = .ok (.iload_n 1, 1) := by decide +kernel
theorem dL_most_195 : decode cL_most 195 = .ok (.bipush 16, 2) := by decide +kernel
theorem dL_most_197 : decode cL_most 197 = .ok (.if_icmp .ge 22, 3) := by decide +kernel
theorem dL_most_200 : decode cL_most 200 = .ok (.aload_n 0, 1) := by decide +kernel
theorem dL_most_201 : decode cL_most 201 = .ok (.iload_n 1, 1) := by decide +kernel
theorem dL_most_202 : decode cL_most 202 = .ok (.iload_n 1, 1) := by decide +kernel
theorem dL_most_203 : decode cL_most 203 = .ok (.iconst 1, 1) := by decide +kernel
theorem dL_most_204 : decode cL_most 204 = .ok (.isub, 1) := by decide +kernel
theorem dL_most_205 : decode cL_most 205 = .ok (.invokevirtual 51, 3) := by decide +kernel
theorem dL_most_208 : decode cL_most 208 = .ok (.ifCond .eq 5, 3) := by decide +kernel
theorem dL_most_211 : decode cL_most 211 = .ok (.iconst 0, 1) := by decide +kernel
theorem dL_most_212 : decode cL_most 212 = .ok (.ireturn, 1) := by decide +kernel
theorem dL_most_213 : decode cL_most 213 = .ok (.iinc 1 1, 3) := by decide +kernel
theorem dL_most_216 : decode cL_most 216 = .ok (.goto (-22), 3) := by decide +kernel
theorem dL_most_219 : decode cL_most 219 = .ok (.aload_n 0, 1) := by decide +kernel
theorem dL_most_220 : decode cL_most 220 = .ok (.bipush 39, 2) := by decide +kernel
theorem dL_most_222 : decode cL_most 222 = .ok (.invokevirtual 64, 3) := by decide +kernel
theorem dL_most_225 : decode cL_most 225 = .ok (.bipush 16, 2) := by decide +kernel
theorem dL_most_227 : decode cL_most 227 = .ok (.if_icmp .ne 98, 3) := by decide +kernel
theorem dL_most_230 : decode cL_most 230 = .ok (.aload_n 0, 1) := by decide +kernel
theorem dL_most_231 : decode cL_most 231 = .ok (.bipush 7, 2) := by decide +kernel
theorem dL_most_233 : decode cL_most 233 = .ok (.invokevirtual 64, 3) := by decide +kernel
theorem dL_most_236 : decode cL_most 236 = .ok (.bipush 16, 2) := by decide +kernel
theorem dL_most_238 : decode cL_most 238 = .ok (.if_icmp .ne 87, 3) := by decide +kernel
theorem dL_most_241 : decode cL_most 241 = .ok (.aload_n 0, 1) := by decide +kernel
theorem dL_most_242 : decode cL_most 242 = .ok (.bipush 20, 2) := by decide +kernel
theorem dL_most_244 : decode cL_most 244 = .ok (.bipush 15, 2) := by decide +kernel
theorem dL_most_246 : decode cL_most 246 = .ok (.invokevirtual 67, 3) := by decide +kernel
theorem dL_most_249 : decode cL_most 249 = .ok (.bipush 15, 2) := by decide +kernel
theorem dL_most_251 : decode cL_most 251 = .ok (.if_icmp .ne 74, 3) := by decide +kernel
theorem dL_most_254 : decode cL_most 254 = .ok (.aload_n 0, 1) := by decide +kernel
theorem dL_most_255 : decode cL_most 255 = .ok (.iconst 0, 1) := by decide +kernel
theorem dL_most_256 : decode cL_most 256 = .ok (.bipush 16, 2) := by decide +kernel
theorem dL_most_258 : decode cL_most 258 = .ok (.invokevirtual 67, 3) := by decide +kernel
theorem dL_most_261 : decode cL_most 261 = .ok (.iconst (-1), 1) := by decide +kernel
theorem dL_most_262 : decode cL_most 262 = .ok (.if_icmp .ne 63, 3) := by decide +kernel
theorem dL_most_265 : decode cL_most 265 = .ok (.aload_n 0, 1) := by decide +kernel
theorem dL_most_266 : decode cL_most 266 = .ok (.invokevirtual 98, 3) := by decide +kernel
theorem dL_most_269 : decode cL_most 269 = .ok (.bipush 120, 2) := by decide +kernel
theorem dL_most_271 : decode cL_most 271 = .ok (.if_icmp .ne 54, 3) := by decide +kernel
theorem dL_most_274 : decode cL_most 274 = .ok (.aload_n 0, 1) := by decide +kernel
theorem dL_most_275 : decode cL_most 275 = .ok (.bipush 63, 2) := by decide +kernel
theorem dL_most_277 : decode cL_most 277 = .ok (.bipush 75, 2) := by decide +kernel
theorem dL_most_279 : decode cL_most 279 = .ok (.invokestatic 113, 3) := by decide +kernel
theorem dL_most_282 : decode cL_most 282 = .ok (.ifCond .eq 43, 3) := by decide +kernel
theorem dL_most_285 : decode cL_most 285 = .ok (.aload_n 0, 1) := by decide +kernel
theorem dL_most_286 : decode cL_most 286 = .ok (.ldc 136, 2) := by decide +kernel
theorem dL_most_288 : decode cL_most 288 = .ok (.bipush 75, 2) := by decide +kernel
theorem dL_most_290 : decode cL_most 290 = .ok (.invokestatic 113, 3) := by decide +kernel
theorem dL_most_293 : decode cL_most 293 = .ok (.ifCond .eq 32, 3) := by decide +kernel
theorem dL_most_296 : decode cL_most 296 = .ok (.aload_n 0, 1) := by decide +kernel
theorem dL_most_297 : decode cL_most 297 = .ok (.bipush 13, 2) := by decide +kernel
theorem dL_most_299 : decode cL_most 299 = .ok (.iconst 3, 1) := by decide +kernel
theorem dL_most_300 : decode cL_most 300 = .ok (.iconst 0, 1) := by decide +kernel
theorem dL_most_301 : decode cL_most 301 = .ok (.iconst 0, 1) := by decide +kernel
theorem dL_most_302 : decode cL_most 302 = .ok (.iconst 0, 1) := by decide +kernel
theorem dL_most_303 : decode cL_most 303 = .ok (.invokestatic 102, 3) := by decide +kernel
theorem dL_most_306 : decode cL_most 306 = .ok (.ldc 96, 2) := by decide +kernel
theorem dL_most_308 : decode cL_most 308 = .ok (.if_icmp .ne 17, 3) := by decide +kernel
theorem dL_most_311 : decode cL_most 311 = .ok (.aload_n 0, 1) := by decide +kernel
theorem dL_most_312 : decode cL_most 312 = .ok (.iconst 0, 1) := by decide +kernel
theorem dL_most_313 : decode cL_most 313 = .ok (.iconst 0, 1) := by decide +kernel
theorem dL_most_314 : decode cL_most 314 = .ok (.iconst 0, 1) := by decide +kernel
theorem dL_most_315 : decode cL_most 315 = .ok (.iconst 0, 1) := by decide +kernel
theorem dL_most_316 : decode cL_most 316 = .ok (.iconst 0, 1) := by decide +kernel
theorem dL_most_317 : decode cL_most 317 = .ok (.invokestatic 102, 3) := by decide +kernel
theorem dL_most_320 : decode cL_most 320 = .ok (.ldc 96, 2) := by decide +kernel
theorem dL_most_322 : decode cL_most 322 = .ok (.if_icmp .eq 5, 3) := by decide +kernel
theorem dL_most_325 : decode cL_most 325 = .ok (.iconst 0, 1) := by decide +kernel
theorem dL_most_326 : decode cL_most 326 = .ok (.ireturn, 1) := by decide +kernel
theorem dL_most_327 : decode cL_most 327 = .ok (.iconst 0, 1) := by decide +kernel
theorem dL_most_328 : decode cL_most 328 = .ok (.istore_n 1, 1) := by decide +kernel
theorem dL_most_329 : decode cL_most 329 = .ok (.iload_n 1, 1) := by decide +kernel
theorem dL_most_330 : decode cL_most 330 = .ok (.bipush 16, 2) := by decide +kernel
theorem dL_most_332 : decode cL_most 332 = .ok (.if_icmp .ge 22, 3) := by decide +kernel
theorem dL_most_335 : decode cL_most 335 = .ok (.aload_n 0, 1) := by decide +kernel
theorem dL_most_336 : decode cL_most 336 = .ok (.iload_n 1, 1) := by decide +kernel
theorem dL_most_337 : decode cL_most 337 = .ok (.bipush 15, 2) := by decide +kernel
theorem dL_most_339 : decode cL_most 339 = .ok (.invokevirtual 85, 3) := by decide +kernel
theorem dL_most_342 : decode cL_most 342 = .ok (.iconst (-1), 1) := by decide +kernel
theorem dL_most_343 : decode cL_most 343 = .ok (.if_icmp .eq 5, 3) := by decide +kernel
theorem dL_most_346 : decode cL_most 346 = .ok (.iconst 0, 1) := by decide +kernel
theorem dL_most_347 : decode cL_most 347 = .ok (.ireturn, 1) := by decide +kernel
theorem dL_most_348 : decode cL_most 348 = .ok (.iinc 1 1, 3) := by decide +kernel
theorem dL_most_351 : decode cL_most 351 = .ok (.goto (-22), 3) := by decide +kernel
theorem dL_most_354 : decode cL_most 354 = .ok (.aload_n 0, 1) := by decide +kernel
theorem dL_most_355 : decode cL_most 355 = .ok (.invokevirtual 98, 3) := by decide +kernel
theorem dL_most_358 : decode cL_most 358 = .ok (.ifCond .ne 76, 3) := by decide +kernel
theorem dL_most_361 : decode cL_most 361 = .ok (.aload_n 0, 1) := by decide +kernel
theorem dL_most_362 : decode cL_most 362 = .ok (.iconst 0, 1) := by decide +kernel
theorem dL_most_363 : decode cL_most 363 = .ok (.bipush 39, 2) := by decide +kernel
theorem dL_most_365 : decode cL_most 365 = .ok (.invokevirtual 76, 3) := by decide +kernel
theorem dL_most_368 : decode cL_most 368 = .ok (.ifCond .ne 66, 3) := by decide +kernel
theorem dL_most_371 : decode cL_most 371 = .ok (.aload_n 0, 1) := by decide +kernel
theorem dL_most_372 : decode cL_most 372 = .ok (.bipush 15, 2) := by decide +kernel
theorem dL_most_374 : decode cL_most 374 = .ok (.iconst 0, 1) := by decide +kernel
theorem dL_most_375 : decode cL_most 375 = .ok (.iconst 0, 1) := by decide +kernel
theorem dL_most_376 : decode cL_most 376 = .ok (.invokevirtual 25, 3) := by decide +kernel
theorem dL_most_379 : decode cL_most 379 = .ok (.bipush 16, 2) := by decide +kernel
theorem dL_most_381 : decode cL_most 381 = .ok (.if_icmp .ne 53, 3) := by decide +kernel
theorem dL_most_384 : decode cL_most 384 = .ok (.aload_n 0, 1) := by decide +kernel
theorem dL_most_385 : decode cL_most 385 = .ok (.bipush 15, 2) := by decide +kernel
theorem dL_most_387 : decode cL_most 387 = .ok (.iconst 0, 1) := by decide +kernel
theorem dL_most_388 : decode cL_most 388 = .ok (.iconst 0, 1) := by decide +kernel
theorem dL_most_389 : decode cL_most 389 = .ok (.invokestatic 118, 3) := by decide +kernel
theorem dL_most_392 : decode cL_most 392 = .ok (.ifCond .eq 42, 3) := by decide +kernel
theorem dL_most_395 : decode cL_most 395 = .ok (.aload_n 0, 1) := by decide +kernel
theorem dL_most_396 : decode cL_most 396 = .ok (.bipush 14, 2) := by decide +kernel
theorem dL_most_398 : decode cL_most 398 = .ok (.iconst 0, 1) := by decide +kernel
theorem dL_most_399 : decode cL_most 399 = .ok (.bipush 50, 2) := by decide +kernel
theorem dL_most_401 : decode cL_most 401 = .ok (.invokestatic 118, 3) := by decide +kernel
theorem dL_most_404 : decode cL_most 404 = .ok (.ifCond .eq 30, 3) := by decide +kernel
theorem dL_most_407 : decode cL_most 407 = .ok (.aload_n 0, 1) := by decide +kernel
theorem dL_most_408 : decode cL_most 408 = .ok (.iconst 0, 1) := by decide +kernel
theorem dL_most_409 : decode cL_most 409 = .ok (.iconst 0, 1) := by decide +kernel
theorem dL_most_410 : decode cL_most 410 = .ok (.sipush 750, 3) := by decide +kernel
theorem dL_most_413 : decode cL_most 413 = .ok (.invokestatic 118, 3) := by decide +kernel
theorem dL_most_416 : decode cL_most 416 = .ok (.ifCond .eq 18, 3) := by decide +kernel
theorem dL_most_419 : decode cL_most 419 = .ok (.aload_n 0, 1) := by decide +kernel
theorem dL_most_420 : decode cL_most 420 = .ok (.bipush 16, 2) := by decide +kernel
theorem dL_most_422 : decode cL_most 422 = .ok (.bipush 40, 2) := by decide +kernel
theorem dL_most_424 : decode cL_most 424 = .ok (.invokestatic 109, 3) := by decide +kernel
theorem dL_most_427 : decode cL_most 427 = .ok (.ifCond .eq 7, 3) := by decide +kernel
theorem dL_most_430 : decode cL_most 430 = .ok (.iconst 1, 1) := by decide +kernel
theorem dL_most_431 : decode cL_most 431 = .ok (.goto 4, 3) := by decide +kernel
theorem dL_most_434 : decode cL_most 434 = .ok (.iconst 0, 1) := by decide +kernel
theorem dL_most_435 : decode cL_most 435 = .ok (.ireturn, 1) := by decide +kernel
theorem dL_rounds_0 : decode cL_rounds 0 = .ok (.new 8, 3) := by decide +kernel
theorem dL_rounds_3 : decode cL_rounds 3 = .ok (.dup, 1) := by decide +kernel
theorem dL_rounds_4 : decode cL_rounds 4 = .ok (.invokespecial 108, 3) := by decide +kernel
theorem dL_rounds_7 : decode cL_rounds 7 = .ok (.astore_n 0, 1) := by decide +kernel
theorem dL_rounds_8 : decode cL_rounds 8 = .ok (.aload_n 0, 1) := by decide +kernel
theorem dL_rounds_9 : decode cL_rounds 9 = .ok (.iconst 0, 1) := by decide +kernel
theorem dL_rounds_10 : decode cL_rounds 10 = .ok (.iconst (-1), 1) := by decide +kernel
theorem dL_rounds_11 : decode cL_rounds 11 = .ok (.iconst 0, 1) := by decide +kernel
theorem dL_rounds_12 : decode cL_rounds 12 = .ok (.iconst (-1), 1) := by decide +kernel
theorem dL_rounds_13 : decode cL_rounds 13 = .ok (.invokevirtual 7, 3) := by decide +kernel
theorem dL_rounds_16 : decode cL_rounds 16 = .ok (.pop, 1) := by decide +kernel
theorem dL_rounds_17 : decode cL_rounds 17 = .ok (.aload_n 0, 1) := by decide +kernel
theorem dL_rounds_18 : decode cL_rounds 18 = .ok (.iconst 0, 1) := by decide +kernel
theorem dL_rounds_19 : decode cL_rounds 19 = .ok (.iconst (-1), 1) := by decide +kernel
theorem dL_rounds_20 : decode cL_rounds 20 = .ok (.iconst 0, 1) := by decide +kernel
theorem dL_rounds_21 : decode cL_rounds 21 = .ok (.iconst (-1), 1) := by decide +kernel
theorem dL_rounds_22 : decode cL_rounds 22 = .ok (.invokevirtual 7, 3) := by decide +kernel
theorem dL_rounds_25 : decode cL_rounds 25 = .ok (.pop, 1) := by decide +kernel
theorem dL_rounds_26 : decode cL_rounds 26 = .ok (.aload_n 0, 1) := by decide +kernel
theorem dL_rounds_27 : decode cL_rounds 27 = .ok (.iconst 0, 1) := by decide +kernel
theorem dL_rounds_28 : decode cL_rounds 28 = .ok (.iconst (-1), 1) := by decide +kernel
theorem dL_rounds_29 : decode cL_rounds 29 = .ok (.iconst 0, 1) := by decide +kernel
theorem dL_rounds_30 : decode cL_rounds 30 = .ok (.iconst (-1), 1) := by decide +kernel
theorem dL_rounds_31 : decode cL_rounds 31 = .ok (.invokevirtual 7, 3) := by decide +kernel
theorem dL_rounds_34 : decode cL_rounds 34 = .ok (.pop, 1) := by decide +kernel
theorem dL_rounds_35 : decode cL_rounds 35 = .ok (.aload_n 0, 1) := by decide +kernel
theorem dL_rounds_36 : decode cL_rounds 36 = .ok (.iconst 0, 1) := by decide +kernel
theorem dL_rounds_37 : decode cL_rounds 37 = .ok (.iconst 1, 1) := by decide +kernel
theorem dL_rounds_38 : decode cL_rounds 38 = .ok (.bipush 30, 2) := by decide +kernel
theorem dL_rounds_40 : decode cL_rounds 40 = .ok (.invokevirtual 21, 3) := by decide +kernel
theorem dL_rounds_43 : decode cL_rounds 43 = .ok (.iconst 2, 1) := by decide +kernel
theorem dL_rounds_44 : decode cL_rounds 44 = .ok (.if_icmp .ne 296, 3) := by decide +kernel
theorem dL_rounds_47 : decode cL_rounds 47 = .ok (.aload_n 0, 1) := by decide +kernel
theorem dL_rounds_48 : decode cL_rounds 48 = .ok (.iconst 0, 1) := by decide +kernel
theorem dL_rounds_49 : decode cL_rounds 49 = .ok (.iconst 0, 1) := by decide +kernel
theorem dL_rounds_50 : decode cL_rounds 50 = .ok (.sipush 969, 3) := by decide +kernel
theorem dL_rounds_53 : decode cL_rounds 53 = .ok (.invokestatic 118, 3) := by decide +kernel
theorem dL_rounds_56 : decode cL_rounds 56 = .ok (.ifCond .eq 284, 3) := by decide +kernel
theorem dL_rounds_59 : decode cL_rounds 59 = .ok (.aload_n 0, 1) := by decide +kernel
theorem dL_rounds_60 : decode cL_rounds 60 = .ok (.iconst 1, 1) := by decide +kernel
theorem dL_rounds_61 : decode cL_rounds 61 = .ok (.bipush 30, 2) := by decide +kernel
theorem dL_rounds_63 : decode cL_rounds 63 = .ok (.sipush 999, 3) := by decide +kernel
theorem dL_rounds_66 : decode cL_rounds 66 = .ok (.invokestatic 118, 3) := by decide +kernel
theorem dL_rounds_69 : decode cL_rounds 69 = .ok (.ifCond .eq 271, 3) := by decide +kernel
theorem dL_rounds_72 : decode cL_rounds 72 = .ok (.aload_n 0, 1) := by decide +kernel
theorem dL_rounds_73 : decode cL_rounds 73 = .ok (.iconst 3, 1) := by decide +kernel
theorem dL_rounds_74 : decode cL_rounds 74 = .ok (.iconst 1, 1) := by decide +kernel
theorem dL_rounds_75 : decode cL_rounds 75 = .ok (.iconst 0, 1) := by decide +kernel
theorem dL_rounds_76 : decode cL_rounds 76 = .ok (.bipush (-29), 2) := by decide +kernel
theorem dL_rounds_78 : decode cL_rounds 78 = .ok (.iconst 0, 1) := by decide +kernel
theorem dL_rounds_79 : decode cL_rounds 79 = .ok (.invokestatic 102, 3) := by decide +kernel
theorem dL_rounds_82 : decode cL_rounds 82 = .ok (.ldc 96, 2) := by decide +kernel
theorem dL_rounds_84 : decode cL_rounds 84 = .ok (.if_icmp .ne 256, 3) := by decide +kernel
theorem dL_rounds_87 : decode cL_rounds 87 = .ok (.aload_n 0, 1) := by decide +kernel
theorem dL_rounds_88 : decode cL_rounds 88 = .ok (.iconst 3, 1) := by decide +kernel
theorem dL_rounds_89 : decode cL_rounds 89 = .ok (.iconst 1, 1) := by decide +kernel
theorem dL_rounds_90 : decode cL_rounds 90 = .ok (.iconst 0, 1) := by decide +kernel
theorem dL_rounds_91 : decode cL_rounds 91 = .ok (.bipush 50, 2) := by decide +kernel
theorem dL_rounds_93 : decode cL_rounds 93 = .ok (.iconst 0, 1) := by decide +kernel
theorem dL_rounds_94 : decode cL_rounds 94 = .ok (.invokestatic 102, 3) := by decide +kernel
theorem dL_rounds_97 : decode cL_rounds 97 = .ok (.ldc 96, 2) := by decide +kernel
theorem dL_rounds_99 : decode cL_rounds 99 = .ok (.if_icmp .ne 241, 3) := by decide +kernel
theorem dL_rounds_102 : decode cL_rounds 102 = .ok (.aload_n 0, 1) := by decide +kernel
theorem dL_rounds_103 : decode cL_rounds 103 = .ok (.iconst 1, 1) := by decide +kernel
theorem dL_rounds_104 : decode cL_rounds 104 = .ok (.iconst 0, 1) := by decide +kernel
theorem dL_rounds_105 : decode cL_rounds 105 = .ok (.bipush (-30), 2) := by decide +kernel
theorem dL_rounds_107 : decode cL_rounds 107 = .ok (.invokevirtual 21, 3) := by decide +kernel
theorem dL_rounds_110 : decode cL_rounds 110 = .ok (.ifCond .ne 230, 3) := by decide +kernel
theorem dL_rounds_113 : decode cL_rounds 113 = .ok (.aload_n 0, 1) := by decide +kernel
theorem dL_rounds_114 : decode cL_rounds 114 = .ok (.iconst 1, 1) := by decide +kernel
theorem dL_rounds_115 : decode cL_rounds 115 = .ok (.iconst 2, 1) := by decide +kernel
theorem dL_rounds_116 : decode cL_rounds 116 = .ok (.bipush 50, 2) := by decide +kernel
theorem dL_rounds_118 : decode cL_rounds 118 = .ok (.invokevirtual 21, 3) := by decide +kernel
theorem dL_rounds_121 : decode cL_rounds 121 = .ok (.iconst 3, 1) := by decide +kernel
theorem dL_rounds_122 : decode cL_rounds 122 = .ok (.if_icmp .ne 218, 3) := by decide +kernel
theorem dL_rounds_125 : decode cL_rounds 125 = .ok (.aload_n 0, 1) := by decide +kernel
theorem dL_rounds_126 : decode cL_rounds 126 = .ok (.iconst 0, 1) := by decide +kernel
theorem dL_rounds_127 : decode cL_rounds 127 = .ok (.iconst 0, 1) := by decide +kernel
theorem dL_rounds_128 : decode cL_rounds 128 = .ok (.sipush 919, 3) := by decide +kernel
theorem dL_rounds_131 : decode cL_rounds 131 = .ok (.invokestatic 118, 3) := by decide +kernel
theorem dL_rounds_134 : decode cL_rounds 134 = .ok (.ifCond .eq 206, 3) := by decide +kernel
theorem dL_rounds_137 : decode cL_rounds 137 = .ok (.aload_n 0, 1) := by decide +kernel
theorem dL_rounds_138 : decode cL_rounds 138 = .ok (.iconst 2, 1) := by decide +kernel
theorem dL_rounds_139 : decode cL_rounds 139 = .ok (.bipush 80, 2) := by decide +kernel
theorem dL_rounds_141 : decode cL_rounds 141 = .ok (.sipush 999, 3) := by decide +kernel
theorem dL_rounds_144 : decode cL_rounds 144 = .ok (.invokestatic 118, 3) := by decide +kernel
theorem dL_rounds_147 : decode cL_rounds 147 = .ok (.ifCond .eq 193, 3) := by decide +kernel
theorem dL_rounds_150 : decode cL_rounds 150 = .ok (.aload_n 0, 1) := by decide +kernel
theorem dL_rounds_151 : decode cL_rounds 151 = .ok (.iconst 3, 1) := by decide +kernel
theorem dL_rounds_152 : decode cL_rounds 152 = .ok (.iconst 2, 1) := by decide +kernel
theorem dL_rounds_153 : decode cL_rounds 153 = .ok (.iconst 0, 1) := by decide +kernel
theorem dL_rounds_154 : decode cL_rounds 154 = .ok (.bipush (-50), 2) := by decide +kernel
theorem dL_rounds_156 : decode cL_rounds 156 = .ok (.iconst 0, 1) := by decide +kernel
theorem dL_rounds_157 : decode cL_rounds 157 = .ok (.invokestatic 102, 3) := by decide +kernel
theorem dL_rounds_160 : decode cL_rounds 160 = .ok (.ldc 96, 2) := by decide +kernel
theorem dL_rounds_162 : decode cL_rounds 162 = .ok (.if_icmp .ne 178, 3) := by decide +kernel
theorem dL_rounds_165 : decode cL_rounds 165 = .ok (.aload_n 0, 1) := by decide +kernel
theorem dL_rounds_166 : decode cL_rounds 166 = .ok (.iconst 2, 1) := by decide +kernel
theorem dL_rounds_167 : decode cL_rounds 167 = .ok (.bipush 100, 2) := by decide +kernel
theorem dL_rounds_169 : decode cL_rounds 169 = .ok (.sipush 300, 3) := by decide +kernel
theorem dL_rounds_172 : decode cL_rounds 172 = .ok (.invokevirtual 25, 3) := by decide +kernel
theorem dL_rounds_175 : decode cL_rounds 175 = .ok (.iconst 3, 1) := by decide +kernel
theorem dL_rounds_176 : decode cL_rounds 176 = .ok (.if_icmp .ne 164, 3) := by decide +kernel
theorem dL_rounds_179 : decode cL_rounds 179 = .ok (.aload_n 0, 1) := by decide +kernel
theorem dL_rounds_180 : decode cL_rounds 180 = .ok (.iconst 0, 1) := by decide +kernel
theorem dL_rounds_181 : decode cL_rounds 181 = .ok (.iconst 0, 1) := by decide +kernel
theorem dL_rounds_182 : decode cL_rounds 182 = .ok (.sipush 220, 3) := by decide +kernel
theorem dL_rounds_185 : decode cL_rounds 185 = .ok (.invokestatic 118, 3) := by decide +kernel
theorem dL_rounds_188 : decode cL_rounds 188 = .ok (.ifCond .eq 152, 3) := by decide +kernel
theorem dL_rounds_191 : decode cL_rounds 191 = .ok (.aload_n 0, 1) := by decide +kernel
theorem dL_rounds_192 : decode cL_rounds 192 = .ok (.iconst 1, 1) := by decide +kernel
theorem dL_rounds_193 : decode cL_rounds 193 = .ok (.bipush 30, 2) := by decide +kernel
theorem dL_rounds_195 : decode cL_rounds 195 = .ok (.sipush 250, 3) := by decide +kernel
theorem dL_rounds_198 : decode cL_rounds 198 = .ok (.invokestatic 118, 3) := by decide +kernel
theorem dL_rounds_201 : decode cL_rounds 201 = .ok (.ifCond .eq 139, 3) := by decide +kernel
theorem dL_rounds_204 : decode cL_rounds 204 = .ok (.aload_n 0, 1) := by decide +kernel
theorem dL_rounds_205 : decode cL_rounds 205 = .ok (.iconst 2, 1) := by decide +kernel
theorem dL_rounds_206 : decode cL_rounds 206 = .ok (.bipush 100, 2) := by decide +kernel
theorem dL_rounds_208 : decode cL_rounds 208 = .ok (.sipush 300, 3) := by decide +kernel
theorem dL_rounds_211 : decode cL_rounds 211 = .ok (.invokestatic 118, 3) := by decide +kernel
theorem dL_rounds_214 : decode cL_rounds 214 = .ok (.ifCond .eq 126, 3) := by decide +kernel
theorem dL_rounds_217 : decode cL_rounds 217 = .ok (.aload_n 0, 1) := by decide +kernel
theorem dL_rounds_218 : decode cL_rounds 218 = .ok (.iconst 0, 1) := by decide +kernel
theorem dL_rounds_219 : decode cL_rounds 219 = .ok (.sipush 220, 3) := by decide +kernel
theorem dL_rounds_222 : decode cL_rounds 222 = .ok (.sipush 999, 3) := by decide +kernel
theorem dL_rounds_225 : decode cL_rounds 225 = .ok (.invokevirtual 28, 3) := by decide +kernel
theorem dL_rounds_228 : decode cL_rounds 228 = .ok (.iconst 3, 1) := by decide +kernel
theorem dL_rounds_229 : decode cL_rounds 229 = .ok (.if_icmp .ne 111, 3) := by decide +kernel
theorem dL_rounds_232 : decode cL_rounds 232 = .ok (.aload_n 0, 1) := by decide +kernel
theorem dL_rounds_233 : decode cL_rounds 233 = .ok (.iconst 1, 1) := by decide +kernel
theorem dL_rounds_234 : decode cL_rounds 234 = .ok (.bipush 60, 2) := by decide +kernel
theorem dL_rounds_236 : decode cL_rounds 236 = .ok (.bipush 60, 2) := by decide +kernel
theorem dL_rounds_238 : decode cL_rounds 238 = .ok (.invokevirtual 25, 3) := by decide +kernel
theorem dL_rounds_241 : decode cL_rounds 241 = .ok (.iconst 3, 1) := by decide +kernel
theorem dL_rounds_242 : decode cL_rounds 242 = .ok (.if_icmp .ne 98, 3) := by decide +kernel
theorem dL_rounds_245 : decode cL_rounds 245 = .ok (.aload_n 0, 1) := by decide +kernel
theorem dL_rounds_246 : decode cL_rounds 246 = .ok (.iconst 0, 1) := by decide +kernel
theorem dL_rounds_247 : decode cL_rounds 247 = .ok (.bipush 30, 2) := by decide +kernel
theorem dL_rounds_249 : decode cL_rounds 249 = .ok (.bipush 30, 2) := by decide +kernel
theorem dL_rounds_251 : decode cL_rounds 251 = .ok (.invokestatic 118, 3) := by decide +kernel
theorem dL_rounds_254 : decode cL_rounds 254 = .ok (.ifCond .eq 86, 3) := by decide +kernel
theorem dL_rounds_257 : decode cL_rounds 257 = .ok (.aload_n 0, 1) := by decide +kernel
theorem dL_rounds_258 : decode cL_rounds 258 = .ok (.iconst 2, 1) := by decide +kernel
theorem dL_rounds_259 : decode cL_rounds 259 = .ok (.bipush 110, 2) := by decide +kernel
theorem dL_rounds_261 : decode cL_rounds 261 = .ok (.sipush 300, 3) := by decide +kernel
theorem dL_rounds_264 : decode cL_rounds 264 = .ok (.invokestatic 118, 3) := by decide +kernel
theorem dL_rounds_267 : decode cL_rounds 267 = .ok (.ifCond .eq 73, 3) := by decide +kernel
theorem dL_rounds_270 : decode cL_rounds 270 = .ok (.aload_n 0, 1) := by decide +kernel
theorem dL_rounds_271 : decode cL_rounds 271 = .ok (.iconst 0, 1) := by decide +kernel
theorem dL_rounds_272 : decode cL_rounds 272 = .ok (.bipush 31, 2) := by decide +kernel
theorem dL_rounds_274 : decode cL_rounds 274 = .ok (.sipush 999, 3) := by decide +kernel
theorem dL_rounds_277 : decode cL_rounds 277 = .ok (.invokevirtual 28, 3) := by decide +kernel
theorem dL_rounds_280 : decode cL_rounds 280 = .ok (.iconst (-1), 1) := by decide +kernel
theorem dL_rounds_281 : decode cL_rounds 281 = .ok (.if_icmp .ne 59, 3) := by decide +kernel
theorem dL_rounds_284 : decode cL_rounds 284 = .ok (.aload_n 0, 1) := by decide +kernel
theorem dL_rounds_285 : decode cL_rounds 285 = .ok (.iconst 2, 1) := by decide +kernel
theorem dL_rounds_286 : decode cL_rounds 286 = .ok (.bipush 110, 2) := by decide +kernel
theorem dL_rounds_288 : decode cL_rounds 288 = .ok (.sipush 300, 3) := by decide +kernel
theorem dL_rounds_291 : decode cL_rounds 291 = .ok (.invokevirtual 28, 3) := by decide +kernel
theorem dL_rounds_294 : decode cL_rounds 294 = .ok (.ifCond .ne 46, 3) := by decide +kernel
theorem dL_rounds_297 : decode cL_rounds 297 = .ok (.aload_n 0, 1) := by decide +kernel
theorem dL_rounds_298 : decode cL_rounds 298 = .ok (.iconst 0, 1) := by decide +kernel
theorem dL_rounds_299 : decode cL_rounds 299 = .ok (.iconst 0, 1) := by decide +kernel
theorem dL_rounds_300 : decode cL_rounds 300 = .ok (.invokevirtual 67, 3) := by decide +kernel
theorem dL_rounds_303 : decode cL_rounds 303 = .ok (.iconst (-1), 1) := by decide +kernel
theorem dL_rounds_304 : decode cL_rounds 304 = .ok (.if_icmp .ne 36, 3) := by decide +kernel
theorem dL_rounds_307 : decode cL_rounds 307 = .ok (.aload_n 0, 1) := by decide +kernel
theorem dL_rounds_308 : decode cL_rounds 308 = .ok (.iconst 0, 1) := by decide +kernel
theorem dL_rounds_309 : decode cL_rounds 309 = .ok (.invokevirtual 70, 3) := by decide +kernel
theorem dL_rounds_312 : decode cL_rounds 312 = .ok (.ifCond .ne 28, 3) := by decide +kernel
theorem dL_rounds_315 : decode cL_rounds 315 = .ok (.aload_n 0, 1) := by decide +kernel
theorem dL_rounds_316 : decode cL_rounds 316 = .ok (.iconst 0, 1) := by decide +kernel
theorem dL_rounds_317 : decode cL_rounds 317 = .ok (.iconst 1, 1) := by decide +kernel
theorem dL_rounds_318 : decode cL_rounds 318 = .ok (.iconst 3, 1) := by decide +kernel
theorem dL_rounds_319 : decode cL_rounds 319 = .ok (.iconst 5, 1) := by decide +kernel
theorem dL_rounds_320 : decode cL_rounds 320 = .ok (.invokestatic 115, 3) := by decide +kernel
theorem dL_rounds_323 : decode cL_rounds 323 = .ok (.ifCond .eq 17, 3) := by decide +kernel
theorem dL_rounds_326 : decode cL_rounds 326 = .ok (.aload_n 0, 1) := by decide +kernel
theorem dL_rounds_327 : decode cL_rounds 327 = .ok (.bipush 7, 2) := by decide +kernel
theorem dL_rounds_329 : decode cL_rounds 329 = .ok (.iconst 0, 1) := by decide +kernel
theorem dL_rounds_330 : decode cL_rounds 330 = .ok (.invokestatic 113, 3) := by decide +kernel
theorem dL_rounds_333 : decode cL_rounds 333 = .ok (.ifCond .eq 7, 3) := by decide +kernel
theorem dL_rounds_336 : decode cL_rounds 336 = .ok (.iconst 1, 1) := by decide +kernel
theorem dL_rounds_337 : decode cL_rounds 337 = .ok (.goto 4, 3) := by decide +kernel
theorem dL_rounds_340 : decode cL_rounds 340 = .ok (.iconst 0, 1) := by decide +kernel
theorem dL_rounds_341 : decode cL_rounds 341 = .ok (.ireturn, 1) := by decide +kernel
