theorem dL_roll_0 : decode cL_roll 0 = .ok (.new 8, 3) := by decide +kernel
theorem dL_roll_3 : decode cL_roll 3 = .ok (.dup, 1) := by decide +kernel
theorem dL_roll_4 : decode cL_roll 4 = .ok (.invokespecial 108, 3) := by decide +kernel
theorem dL_roll_7 : decode cL_roll 7 = .ok (.astore_n 0, 1) := by decide +kernel
theorem dL_roll_8 : decode cL_roll 8 = .ok (.aload_n 0, 1) := by decide +kernel
theorem dL_roll_9 : decode cL_roll 9 = .ok (.iconst 0, 1) := by decide +kernel
theorem dL_roll_10 : decode cL_roll 10 = .ok (.iconst 0, 1) := by decide +kernel
theorem dL_roll_11 : decode cL_roll 11 = .ok (.invokestatic 109, 3) := by decide +kernel
theorem dL_roll_14 : decode cL_roll 14 = .ok (.ifCond .eq 322, 3) := by decide +kernel
theorem dL_roll_17 : decode cL_roll 17 = .ok (.aload_n 0, 1) := by decide +kernel
theorem dL_roll_18 : decode cL_roll 18 = .ok (.invokevirtual 98, 3) := by decide +kernel
theorem dL_roll_21 : decode cL_roll 21 = .ok (.ifCond .ne 315, 3) := by decide +kernel
theorem dL_roll_24 : decode cL_roll 24 = .ok (.aload_n 0, 1) := by decide +kernel
theorem dL_roll_25 : decode cL_roll 25 = .ok (.iconst 0, 1) := by decide +kernel
theorem dL_roll_26 : decode cL_roll 26 = .ok (.iconst 0, 1) := by decide +kernel
theorem dL_roll_27 : decode cL_roll 27 = .ok (.invokestatic 113, 3) := by decide +kernel
theorem dL_roll_30 : decode cL_roll 30 = .ok (.ifCond .eq 306, 3) := by decide +kernel
theorem dL_roll_33 : decode cL_roll 33 = .ok (.aload_n 0, 1) := by decide +kernel
theorem dL_roll_34 : decode cL_roll 34 = .ok (.iconst 3, 1) := by decide +kernel
theorem dL_roll_35 : decode cL_roll 35 = .ok (.iconst 2, 1) := by decide +kernel
theorem dL_roll_36 : decode cL_roll 36 = .ok (.iconst 1, 1) := by decide +kernel
theorem dL_roll_37 : decode cL_roll 37 = .ok (.iconst 0, 1) := by decide +kernel
theorem dL_roll_38 : decode cL_roll 38 = .ok (.invokevirtual 7, 3) := by decide +kernel
theorem dL_roll_41 : decode cL_roll 41 = .ok (.ifCond .ne 295, 3) := by decide +kernel
theorem dL_roll_44 : decode cL_roll 44 = .ok (.aload_n 0, 1) := by decide +kernel
theorem dL_roll_45 : decode cL_roll 45 = .ok (.iconst 1, 1) := by decide +kernel
theorem dL_roll_46 : decode cL_roll 46 = .ok (.iconst 1, 1) := by decide +kernel
theorem dL_roll_47 : decode cL_roll 47 = .ok (.invokestatic 109, 3) := by decide +kernel
theorem dL_roll_50 : decode cL_roll 50 = .ok (.ifCond .eq 286, 3) := by decide +kernel
theorem dL_roll_53 : decode cL_roll 53 = .ok (.aload_n 0, 1) := by decide +kernel
theorem dL_roll_54 : decode cL_roll 54 = .ok (.iconst 3, 1) := by decide +kernel
theorem dL_roll_55 : decode cL_roll 55 = .ok (.iconst (-1), 1) := by decide +kernel
theorem dL_roll_56 : decode cL_roll 56 = .ok (.iconst 1, 1) := by decide +kernel
theorem dL_roll_57 : decode cL_roll 57 = .ok (.iconst 1, 1) := by decide +kernel
theorem dL_roll_58 : decode cL_roll 58 = .ok (.invokevirtual 7, 3) := by decide +kernel
theorem dL_roll_61 : decode cL_roll 61 = .ok (.iconst 1, 1) := by decide +kernel
theorem dL_roll_62 : decode cL_roll 62 = .ok (.if_icmp .ne 274, 3) := by decide +kernel
theorem dL_roll_65 : decode cL_roll 65 = .ok (.aload_n 0, 1) := by decide +kernel
theorem dL_roll_66 : decode cL_roll 66 = .ok (.iconst 3, 1) := by decide +kernel
theorem dL_roll_67 : decode cL_roll 67 = .ok (.iconst 2, 1) := by decide +kernel
theorem dL_roll_68 : decode cL_roll 68 = .ok (.iconst 4, 1) := by decide +kernel
theorem dL_roll_69 : decode cL_roll 69 = .ok (.iconst 0, 1) := by decide +kernel
theorem dL_roll_70 : decode cL_roll 70 = .ok (.invokevirtual 7, 3) := by decide +kernel
theorem dL_roll_73 : decode cL_roll 73 = .ok (.iconst 2, 1) := by decide +kernel
theorem dL_roll_74 : decode cL_roll 74 = .ok (.if_icmp .ne 262, 3) := by decide +kernel
theorem dL_roll_77 : decode cL_roll 77 = .ok (.aload_n 0, 1) := by decide +kernel
theorem dL_roll_78 : decode cL_roll 78 = .ok (.iconst 5, 1) := by decide +kernel
theorem dL_roll_79 : decode cL_roll 79 = .ok (.iconst 4, 1) := by decide +kernel
theorem dL_roll_80 : decode cL_roll 80 = .ok (.iconst 1, 1) := by decide +kernel
theorem dL_roll_81 : decode cL_roll 81 = .ok (.iconst (-1), 1) := by decide +kernel
theorem dL_roll_82 : decode cL_roll 82 = .ok (.invokevirtual 7, 3) := by decide +kernel
theorem dL_roll_85 : decode cL_roll 85 = .ok (.iconst 3, 1) := by decide +kernel
theorem dL_roll_86 : decode cL_roll 86 = .ok (.if_icmp .ne 250, 3) := by decide +kernel
theorem dL_roll_89 : decode cL_roll 89 = .ok (.aload_n 0, 1) := by decide +kernel
theorem dL_roll_90 : decode cL_roll 90 = .ok (.iconst 5, 1) := by decide +kernel
theorem dL_roll_91 : decode cL_roll 91 = .ok (.iconst 4, 1) := by decide +kernel
theorem dL_roll_92 : decode cL_roll 92 = .ok (.iconst 2, 1) := by decide +kernel
theorem dL_roll_93 : decode cL_roll 93 = .ok (.iconst 3, 1) := by decide +kernel
theorem dL_roll_94 : decode cL_roll 94 = .ok (.invokevirtual 7, 3) := by decide +kernel
theorem dL_roll_97 : decode cL_roll 97 = .ok (.iconst 4, 1) := by decide +kernel
theorem dL_roll_98 : decode cL_roll 98 = .ok (.if_icmp .ne 238, 3) := by decide +kernel
theorem dL_roll_101 : decode cL_roll 101 = .ok (.aload_n 0, 1) := by decide +kernel
theorem dL_roll_102 : decode cL_roll 102 = .ok (.iconst 5, 1) := by decide +kernel
theorem dL_roll_103 : decode cL_roll 103 = .ok (.iconst 5, 1) := by decide +kernel
theorem dL_roll_104 : decode cL_roll 104 = .ok (.invokestatic 109, 3) := by decide +kernel
theorem dL_roll_107 : decode cL_roll 107 = .ok (.ifCond .eq 229, 3) := by decide +kernel
theorem dL_roll_110 : decode cL_roll 110 = .ok (.aload_n 0, 1) := by decide +kernel
theorem dL_roll_111 : decode cL_roll 111 = .ok (.iconst 0, 1) := by decide +kernel
theorem dL_roll_112 : decode cL_roll 112 = .ok (.iconst 1, 1) := by decide +kernel
theorem dL_roll_113 : decode cL_roll 113 = .ok (.iconst 3, 1) := by decide +kernel
theorem dL_roll_114 : decode cL_roll 114 = .ok (.iconst 5, 1) := by decide +kernel
theorem dL_roll_115 : decode cL_roll 115 = .ok (.invokestatic 115, 3) := by decide +kernel
theorem dL_roll_118 : decode cL_roll 118 = .ok (.ifCond .eq 218, 3) := by decide +kernel
theorem dL_roll_121 : decode cL_roll 121 = .ok (.aload_n 0, 1) := by decide +kernel
theorem dL_roll_122 : decode cL_roll 122 = .ok (.iconst 0, 1) := by decide +kernel
theorem dL_roll_123 : decode cL_roll 123 = .ok (.iconst 2, 1) := by decide +kernel
theorem dL_roll_124 : decode cL_roll 124 = .ok (.bipush 7, 2) := by decide +kernel
theorem dL_roll_126 : decode cL_roll 126 = .ok (.iconst 0, 1) := by decide +kernel
theorem dL_roll_127 : decode cL_roll 127 = .ok (.invokestatic 115, 3) := by decide +kernel
theorem dL_roll_130 : decode cL_roll 130 = .ok (.ifCond .eq 206, 3) := by decide +kernel
theorem dL_roll_133 : decode cL_roll 133 = .ok (.aload_n 0, 1) := by decide +kernel
theorem dL_roll_134 : decode cL_roll 134 = .ok (.iconst 1, 1) := by decide +kernel
theorem dL_roll_135 : decode cL_roll 135 = .ok (.iconst 2, 1) := by decide +kernel
theorem dL_roll_136 : decode cL_roll 136 = .ok (.iconst 2, 1) := by decide +kernel
theorem dL_roll_137 : decode cL_roll 137 = .ok (.iconst 5, 1) := by decide +kernel
theorem dL_roll_138 : decode cL_roll 138 = .ok (.invokestatic 115, 3) := by decide +kernel
theorem dL_roll_141 : decode cL_roll 141 = .ok (.ifCond .eq 195, 3) := by decide +kernel
theorem dL_roll_144 : decode cL_roll 144 = .ok (.aload_n 0, 1) := by decide +kernel
theorem dL_roll_145 : decode cL_roll 145 = .ok (.iconst 0, 1) := by decide +kernel
theorem dL_roll_146 : decode cL_roll 146 = .ok (.iconst 3, 1) := by decide +kernel
theorem dL_roll_147 : decode cL_roll 147 = .ok (.iconst 1, 1) := by decide +kernel
theorem dL_roll_148 : decode cL_roll 148 = .ok (.iconst 3, 1) := by decide +kernel
theorem dL_roll_149 : decode cL_roll 149 = .ok (.invokestatic 115, 3) := by decide +kernel
theorem dL_roll_152 : decode cL_roll 152 = .ok (.ifCond .eq 184, 3) := by decide +kernel
theorem dL_roll_155 : decode cL_roll 155 = .ok (.aload_n 0, 1) := by decide +kernel
theorem dL_roll_156 : decode cL_roll 156 = .ok (.iconst 3, 1) := by decide +kernel
theorem dL_roll_157 : decode cL_roll 157 = .ok (.iconst 4, 1) := by decide +kernel
theorem dL_roll_158 : decode cL_roll 158 = .ok (.iconst 5, 1) := by decide +kernel
theorem dL_roll_159 : decode cL_roll 159 = .ok (.iconst 0, 1) := by decide +kernel
theorem dL_roll_160 : decode cL_roll 160 = .ok (.invokestatic 115, 3) := by decide +kernel
theorem dL_roll_163 : decode cL_roll 163 = .ok (.ifCond .eq 173, 3) := by decide +kernel
theorem dL_roll_166 : decode cL_roll 166 = .ok (.aload_n 0, 1) := by decide +kernel
theorem dL_roll_167 : decode cL_roll 167 = .ok (.iconst 1, 1) := by decide +kernel
theorem dL_roll_168 : decode cL_roll 168 = .ok (.iconst 3, 1) := by decide +kernel
theorem dL_roll_169 : decode cL_roll 169 = .ok (.iconst 1, 1) := by decide +kernel
theorem dL_roll_170 : decode cL_roll 170 = .ok (.iconst 5, 1) := by decide +kernel
theorem dL_roll_171 : decode cL_roll 171 = .ok (.invokestatic 115, 3) := by decide +kernel
theorem dL_roll_174 : decode cL_roll 174 = .ok (.ifCond .eq 162, 3) := by decide +kernel
theorem dL_roll_177 : decode cL_roll 177 = .ok (.aload_n 0, 1) := by decide +kernel
theorem dL_roll_178 : decode cL_roll 178 = .ok (.iconst 1, 1) := by decide +kernel
theorem dL_roll_179 : decode cL_roll 179 = .ok (.iconst 4, 1) := by decide +kernel
theorem dL_roll_180 : decode cL_roll 180 = .ok (.iconst 0, 1) := by decide +kernel
theorem dL_roll_181 : decode cL_roll 181 = .ok (.iconst 5, 1) := by decide +kernel
theorem dL_roll_182 : decode cL_roll 182 = .ok (.invokestatic 115, 3) := by decide +kernel
theorem dL_roll_185 : decode cL_roll 185 = .ok (.ifCond .eq 151, 3) := by decide +kernel
theorem dL_roll_188 : decode cL_roll 188 = .ok (.aload_n 0, 1) := by decide +kernel
theorem dL_roll_189 : decode cL_roll 189 = .ok (.bipush 12, 2) := by decide +kernel
theorem dL_roll_191 : decode cL_roll 191 = .ok (.iconst 0, 1) := by decide +kernel
theorem dL_roll_192 : decode cL_roll 192 = .ok (.iconst 1, 1) := by decide +kernel
theorem dL_roll_193 : decode cL_roll 193 = .ok (.iconst 0, 1) := by decide +kernel
theorem dL_roll_194 : decode cL_roll 194 = .ok (.iconst 0, 1) := by decide +kernel
theorem dL_roll_195 : decode cL_roll 195 = .ok (.invokestatic 102, 3) := by decide +kernel
theorem dL_roll_198 : decode cL_roll 198 = .ok (.ldc 96, 2) := by decide +kernel
theorem dL_roll_200 : decode cL_roll 200 = .ok (.if_icmp .ne 136, 3) := by decide +kernel
theorem dL_roll_203 : decode cL_roll 203 = .ok (.aload_n 0, 1) := by decide +kernel
theorem dL_roll_204 : decode cL_roll 204 = .ok (.iconst 0, 1) := by decide +kernel
theorem dL_roll_205 : decode cL_roll 205 = .ok (.iconst 1, 1) := by decide +kernel
theorem dL_roll_206 : decode cL_roll 206 = .ok (.invokevirtual 38, 3) := by decide +kernel
theorem dL_roll_209 : decode cL_roll 209 = .ok (.ifCond .ne 127, 3) := by decide +kernel
theorem dL_roll_212 : decode cL_roll 212 = .ok (.aload_n 0, 1) := by decide +kernel
theorem dL_roll_213 : decode cL_roll 213 = .ok (.iconst 1, 1) := by decide +kernel
theorem dL_roll_214 : decode cL_roll 214 = .ok (.iconst 0, 1) := by decide +kernel
theorem dL_roll_215 : decode cL_roll 215 = .ok (.invokevirtual 38, 3) := by decide +kernel
theorem dL_roll_218 : decode cL_roll 218 = .ok (.ifCond .eq 118, 3) := by decide +kernel
theorem dL_roll_221 : decode cL_roll 221 = .ok (.aload_n 0, 1) := by decide +kernel
theorem dL_roll_222 : decode cL_roll 222 = .ok (.iconst 0, 1) := by decide +kernel
theorem dL_roll_223 : decode cL_roll 223 = .ok (.iconst 1, 1) := by decide +kernel
theorem dL_roll_224 : decode cL_roll 224 = .ok (.bipush 8, 2) := by decide +kernel
theorem dL_roll_226 : decode cL_roll 226 = .ok (.iconst 0, 1) := by decide +kernel
theorem dL_roll_227 : decode cL_roll 227 = .ok (.invokestatic 115, 3) := by decide +kernel
theorem dL_roll_230 : decode cL_roll 230 = .ok (.ifCond .eq 106, 3) := by decide +kernel
theorem dL_roll_233 : decode cL_roll 233 = .ok (.aload_n 0, 1) := by decide +kernel
theorem dL_roll_234 : decode cL_roll 234 = .ok (.iconst 3, 1) := by decide +kernel
theorem dL_roll_235 : decode cL_roll 235 = .ok (.iconst 1, 1) := by decide +kernel
theorem dL_roll_236 : decode cL_roll 236 = .ok (.invokevirtual 38, 3) := by decide +kernel
theorem dL_roll_239 : decode cL_roll 239 = .ok (.ifCond .ne 97, 3) := by decide +kernel
theorem dL_roll_242 : decode cL_roll 242 = .ok (.aload_n 0, 1) := by decide +kernel
theorem dL_roll_243 : decode cL_roll 243 = .ok (.iconst 1, 1) := by decide +kernel
theorem dL_roll_244 : decode cL_roll 244 = .ok (.iconst 3, 1) := by decide +kernel
theorem dL_roll_245 : decode cL_roll 245 = .ok (.bipush 6, 2) := by decide +kernel
theorem dL_roll_247 : decode cL_roll 247 = .ok (.iconst 0, 1) := by decide +kernel
theorem dL_roll_248 : decode cL_roll 248 = .ok (.invokestatic 115, 3) := by decide +kernel
theorem dL_roll_251 : decode cL_roll 251 = .ok (.ifCond .eq 85, 3) := by decide +kernel
theorem dL_roll_254 : decode cL_roll 254 = .ok (.aload_n 0, 1) := by decide +kernel
theorem dL_roll_255 : decode cL_roll 255 = .ok (.iconst 0, 1) := by decide +kernel
theorem dL_roll_256 : decode cL_roll 256 = .ok (.iconst 1, 1) := by decide +kernel
theorem dL_roll_257 : decode cL_roll 257 = .ok (.invokevirtual 51, 3) := by decide +kernel
theorem dL_roll_260 : decode cL_roll 260 = .ok (.ifCond .ne 76, 3) := by decide +kernel
theorem dL_roll_263 : decode cL_roll 263 = .ok (.aload_n 0, 1) := by decide +kernel
theorem dL_roll_264 : decode cL_roll 264 = .ok (.iconst 1, 1) := by decide +kernel
theorem dL_roll_265 : decode cL_roll 265 = .ok (.invokevirtual 61, 3) := by decide +kernel
theorem dL_roll_268 : decode cL_roll 268 = .ok (.ifCond .ne 68, 3) := by decide +kernel
theorem dL_roll_271 : decode cL_roll 271 = .ok (.aload_n 0, 1) := by decide +kernel
theorem dL_roll_272 : decode cL_roll 272 = .ok (.iconst 1, 1) := by decide +kernel
theorem dL_roll_273 : decode cL_roll 273 = .ok (.invokevirtual 58, 3) := by decide +kernel
theorem dL_roll_276 : decode cL_roll 276 = .ok (.ifCond .ne 60, 3) := by decide +kernel
theorem dL_roll_279 : decode cL_roll 279 = .ok (.aload_n 0, 1) := by decide +kernel
theorem dL_roll_280 : decode cL_roll 280 = .ok (.iconst 0, 1) := by decide +kernel
theorem dL_roll_281 : decode cL_roll 281 = .ok (.invokevirtual 64, 3) := by decide +kernel
theorem dL_roll_284 : decode cL_roll 284 = .ok (.iconst 2, 1) := by decide +kernel
theorem dL_roll_285 : decode cL_roll 285 = .ok (.if_icmp .ne 51, 3) := by decide +kernel
theorem dL_roll_288 : decode cL_roll 288 = .ok (.aload_n 0, 1) := by decide +kernel
theorem dL_roll_289 : decode cL_roll 289 = .ok (.iconst 1, 1) := by decide +kernel
theorem dL_roll_290 : decode cL_roll 290 = .ok (.invokevirtual 64, 3) := by decide +kernel
theorem dL_roll_293 : decode cL_roll 293 = .ok (.iconst 2, 1) := by decide +kernel
theorem dL_roll_294 : decode cL_roll 294 = .ok (.if_icmp .ne 42, 3) := by decide +kernel
theorem dL_roll_297 : decode cL_roll 297 = .ok (.aload_n 0, 1) := by decide +kernel
theorem dL_roll_298 : decode cL_roll 298 = .ok (.iconst 0, 1) := by decide +kernel
theorem dL_roll_299 : decode cL_roll 299 = .ok (.iconst 1, 1) := by decide +kernel
theorem dL_roll_300 : decode cL_roll 300 = .ok (.bipush 8, 2) := by decide +kernel
theorem dL_roll_302 : decode cL_roll 302 = .ok (.iconst 1, 1) := by decide +kernel
theorem dL_roll_303 : decode cL_roll 303 = .ok (.invokestatic 115, 3) := by decide +kernel
theorem dL_roll_306 : decode cL_roll 306 = .ok (.ifCond .eq 30, 3) := by decide +kernel
theorem dL_roll_309 : decode cL_roll 309 = .ok (.aload_n 0, 1) := by decide +kernel
theorem dL_roll_310 : decode cL_roll 310 = .ok (.iconst 1, 1) := by decide +kernel
theorem dL_roll_311 : decode cL_roll 311 = .ok (.iconst 3, 1) := by decide +kernel
theorem dL_roll_312 : decode cL_roll 312 = .ok (.bipush 6, 2) := by decide +kernel
theorem dL_roll_314 : decode cL_roll 314 = .ok (.iconst 3, 1) := by decide +kernel
theorem dL_roll_315 : decode cL_roll 315 = .ok (.invokestatic 115, 3) := by decide +kernel
theorem dL_roll_318 : decode cL_roll 318 = .ok (.ifCond .eq 18, 3) := by decide +kernel
theorem dL_roll_321 : decode cL_roll 321 = .ok (.aload_n 0, 1) := by decide +kernel
theorem dL_roll_322 : decode cL_roll 322 = .ok (.bipush 12, 2) := by decide +kernel
theorem dL_roll_324 : decode cL_roll 324 = .ok (.iconst 3, 1) := by decide +kernel
theorem dL_roll_325 : decode cL_roll 325 = .ok (.iconst 1, 1) := by decide +kernel
theorem dL_roll_326 : decode cL_roll 326 = .ok (.iconst 0, 1) := by decide +kernel
theorem dL_roll_327 : decode cL_roll 327 = .ok (.iconst 0, 1) := by decide +kernel
theorem dL_roll_328 : decode cL_roll 328 = .ok (.invokestatic 102, 3) := by decide +kernel
theorem dL_roll_331 : decode cL_roll 331 = .ok (.ldc 96, 2) := by decide +kernel
theorem dL_roll_333 : decode cL_roll 333 = .ok (.if_icmp .eq 5, 3) := by decide +kernel
theorem dL_roll_336 : decode cL_roll 336 = .ok (.iconst 0, 1) := by decide +kernel
theorem dL_roll_337 : decode cL_roll 337 = .ok (.ireturn, 1) := by decide +kernel
theorem dL_roll_338 : decode cL_roll 338 = .ok (.aload_n 0, 1) := by decide +kernel
theorem dL_roll_339 : decode cL_roll 339 = .ok (.iconst 1, 1) := by decide +kernel
theorem dL_roll_340 : decode cL_roll 340 = .ok (.iconst 2, 1) := by decide +kernel
theorem dL_roll_341 : decode cL_roll 341 = .ok (.iconst 1, 1) := by decide +kernel
theorem dL_roll_342 : decode cL_roll 342 = .ok (.invokevirtual 42, 3) := by decide +kernel
theorem dL_roll_345 : decode cL_roll 345 = .ok (.ifCond .ne 325, 3) := by decide +kernel
theorem dL_roll_348 : decode cL_roll 348 = .ok (.aload_n 0, 1) := by decide +kernel
theorem dL_roll_349 : decode cL_roll 349 = .ok (.iconst 0, 1) := by decide +kernel
theorem dL_roll_350 : decode cL_roll 350 = .ok (.iconst 2, 1) := by decide +kernel
theorem dL_roll_351 : decode cL_roll 351 = .ok (.bipush 7, 2) := by decide +kernel
theorem dL_roll_353 : decode cL_roll 353 = .ok (.iconst 2, 1) := by decide +kernel
theorem dL_roll_354 : decode cL_roll 354 = .ok (.invokestatic 115, 3) := by decide +kernel
theorem dL_roll_357 : decode cL_roll 357 = .ok (.ifCond .eq 313, 3) := by decide +kernel
theorem dL_roll_360 : decode cL_roll 360 = .ok (.aload_n 0, 1) := by decide +kernel
theorem dL_roll_361 : decode cL_roll 361 = .ok (.iconst 1, 1) := by decide +kernel
theorem dL_roll_362 : decode cL_roll 362 = .ok (.iconst 2, 1) := by decide +kernel
theorem dL_roll_363 : decode cL_roll 363 = .ok (.iconst 2, 1) := by decide +kernel
theorem dL_roll_364 : decode cL_roll 364 = .ok (.iconst 2, 1) := by decide +kernel
theorem dL_roll_365 : decode cL_roll 365 = .ok (.invokestatic 115, 3) := by decide +kernel
theorem dL_roll_368 : decode cL_roll 368 = .ok (.ifCond .eq 302, 3) := by decide +kernel
theorem dL_roll_371 : decode cL_roll 371 = .ok (.aload_n 0, 1) := by decide +kernel
theorem dL_roll_372 : decode cL_roll 372 = .ok (.iconst 2, 1) := by decide +kernel
theorem dL_roll_373 : decode cL_roll 373 = .ok (.iconst 1, 1) := by decide +kernel
theorem dL_roll_374 : decode cL_roll 374 = .ok (.iconst 1, 1) := by decide +kernel
theorem dL_roll_375 : decode cL_roll 375 = .ok (.invokevirtual 42, 3) := by decide +kernel
theorem dL_roll_378 : decode cL_roll 378 = .ok (.ifCond .eq 292, 3) := by decide +kernel
theorem dL_roll_381 : decode cL_roll 381 = .ok (.aload_n 0, 1) := by decide +kernel
theorem dL_roll_382 : decode cL_roll 382 = .ok (.iconst 1, 1) := by decide +kernel
theorem dL_roll_383 : decode cL_roll 383 = .ok (.iconst 2, 1) := by decide +kernel
theorem dL_roll_384 : decode cL_roll 384 = .ok (.iconst 0, 1) := by decide +kernel
theorem dL_roll_385 : decode cL_roll 385 = .ok (.invokevirtual 42, 3) := by decide +kernel
theorem dL_roll_388 : decode cL_roll 388 = .ok (.ifCond .eq 282, 3) := by decide +kernel
theorem dL_roll_391 : decode cL_roll 391 = .ok (.aload_n 0, 1) := by decide +kernel
theorem dL_roll_392 : decode cL_roll 392 = .ok (.iconst 2, 1) := by decide +kernel
theorem dL_roll_393 : decode cL_roll 393 = .ok (.iconst 1, 1) := by decide +kernel
theorem dL_roll_394 : decode cL_roll 394 = .ok (.iconst 0, 1) := by decide +kernel
theorem dL_roll_395 : decode cL_roll 395 = .ok (.invokevirtual 42, 3) := by decide +kernel
theorem dL_roll_398 : decode cL_roll 398 = .ok (.ifCond .ne 272, 3) := by decide +kernel
theorem dL_roll_401 : decode cL_roll 401 = .ok (.aload_n 0, 1) := by decide +kernel
theorem dL_roll_402 : decode cL_roll 402 = .ok (.iconst 0, 1) := by decide +kernel
theorem dL_roll_403 : decode cL_roll 403 = .ok (.iconst 2, 1) := by decide +kernel
theorem dL_roll_404 : decode cL_roll 404 = .ok (.bipush 7, 2) := by decide +kernel
theorem dL_roll_406 : decode cL_roll 406 = .ok (.iconst 0, 1) := by decide +kernel
theorem dL_roll_407 : decode cL_roll 407 = .ok (.invokestatic 115, 3) := by decide +kernel
theorem dL_roll_410 : decode cL_roll 410 = .ok (.ifCond .eq 260, 3) := by decide +kernel
theorem dL_roll_413 : decode cL_roll 413 = .ok (.aload_n 0, 1) := by decide +kernel
theorem dL_roll_414 : decode cL_roll 414 = .ok (.iconst 0, 1) := by decide +kernel
theorem dL_roll_415 : decode cL_roll 415 = .ok (.iconst 1, 1) := by decide +kernel
theorem dL_roll_416 : decode cL_roll 416 = .ok (.iconst 1, 1) := by decide +kernel
theorem dL_roll_417 : decode cL_roll 417 = .ok (.invokevirtual 17, 3) := by decide +kernel
theorem dL_roll_420 : decode cL_roll 420 = .ok (.ifCond .ne 250, 3) := by decide +kernel
theorem dL_roll_423 : decode cL_roll 423 = .ok (.aload_n 0, 1) := by decide +kernel
theorem dL_roll_424 : decode cL_roll 424 = .ok (.iconst 1, 1) := by decide +kernel
theorem dL_roll_425 : decode cL_roll 425 = .ok (.iconst 0, 1) := by decide +kernel
theorem dL_roll_426 : decode cL_roll 426 = .ok (.iconst 1, 1) := by decide +kernel
theorem dL_roll_427 : decode cL_roll 427 = .ok (.invokevirtual 17, 3) := by decide +kernel
theorem dL_roll_430 : decode cL_roll 430 = .ok (.ifCond .eq 240, 3) := by decide +kernel
theorem dL_roll_433 : decode cL_roll 433 = .ok (.aload_n 0, 1) := by decide +kernel
theorem dL_roll_434 : decode cL_roll 434 = .ok (.iconst 0, 1) := by decide +kernel
theorem dL_roll_435 : decode cL_roll 435 = .ok (.iconst 2, 1) := by decide +kernel
theorem dL_roll_436 : decode cL_roll 436 = .ok (.bipush 7, 2) := by decide +kernel
theorem dL_roll_438 : decode cL_roll 438 = .ok (.iconst 0, 1) := by decide +kernel
theorem dL_roll_439 : decode cL_roll 439 = .ok (.invokestatic 115, 3) := by decide +kernel
theorem dL_roll_442 : decode cL_roll 442 = .ok (.ifCond .eq 228, 3) := by decide +kernel
theorem dL_roll_445 : decode cL_roll 445 = .ok (.aload_n 0, 1) := by decide +kernel
theorem dL_roll_446 : decode cL_roll 446 = .ok (.iconst 1, 1) := by decide +kernel
theorem dL_roll_447 : decode cL_roll 447 = .ok (.sipush 500, 3) := by decide +kernel
theorem dL_roll_450 : decode cL_roll 450 = .ok (.sipush 500, 3) := by decide +kernel
theorem dL_roll_453 : decode cL_roll 453 = .ok (.invokevirtual 25, 3) := by decide +kernel
theorem dL_roll_456 : decode cL_roll 456 = .ok (.iconst 1, 1) := by decide +kernel
theorem dL_roll_457 : decode cL_roll 457 = .ok (.if_icmp .ne 213, 3) := by decide +kernel
theorem dL_roll_460 : decode cL_roll 460 = .ok (.aload_n 0, 1) := by decide +kernel
theorem dL_roll_461 : decode cL_roll 461 = .ok (.iconst 0, 1) := by decide +kernel
theorem dL_roll_462 : decode cL_roll 462 = .ok (.iconst 2, 1) := by decide +kernel
theorem dL_roll_463 : decode cL_roll 463 = .ok (.invokevirtual 48, 3) := by decide +kernel
theorem dL_roll_466 : decode cL_roll 466 = .ok (.ifCond .ne 204, 3) := by decide +kernel
theorem dL_roll_469 : decode cL_roll 469 = .ok (.aload_n 0, 1) := by decide +kernel
theorem dL_roll_470 : decode cL_roll 470 = .ok (.iconst 2, 1) := by decide +kernel
theorem dL_roll_471 : decode cL_roll 471 = .ok (.sipush 400, 3) := by decide +kernel
theorem dL_roll_474 : decode cL_roll 474 = .ok (.sipush 500, 3) := by decide +kernel
theorem dL_roll_477 : decode cL_roll 477 = .ok (.invokevirtual 25, 3) := by decide +kernel
theorem dL_roll_480 : decode cL_roll 480 = .ok (.iconst 1, 1) := by decide +kernel
theorem dL_roll_481 : decode cL_roll 481 = .ok (.if_icmp .ne 189, 3) := by decide +kernel
theorem dL_roll_484 : decode cL_roll 484 = .ok (.aload_n 0, 1) := by decide +kernel
theorem dL_roll_485 : decode cL_roll 485 = .ok (.iconst 0, 1) := by decide +kernel
theorem dL_roll_486 : decode cL_roll 486 = .ok (.iconst 2, 1) := by decide +kernel
theorem dL_roll_487 : decode cL_roll 487 = .ok (.invokevirtual 48, 3) := by decide +kernel
theorem dL_roll_490 : decode cL_roll 490 = .ok (.ifCond .ne 180, 3) := by decide +kernel
theorem dL_roll_493 : decode cL_roll 493 = .ok (.aload_n 0, 1) := by decide +kernel
theorem dL_roll_494 : decode cL_roll 494 = .ok (.iconst 2, 1) := by decide +kernel
theorem dL_roll_495 : decode cL_roll 495 = .ok (.sipush 500, 3) := by decide +kernel
theorem dL_roll_498 : decode cL_roll 498 = .ok (.sipush 999, 3) := by decide +kernel
theorem dL_roll_501 : decode cL_roll 501 = .ok (.invokevirtual 25, 3) := by decide +kernel
theorem dL_roll_504 : decode cL_roll 504 = .ok (.iconst 1, 1) := by decide +kernel
theorem dL_roll_505 : decode cL_roll 505 = .ok (.if_icmp .ne 165, 3) := by decide +kernel
theorem dL_roll_508 : decode cL_roll 508 = .ok (.aload_n 0, 1) := by decide +kernel
theorem dL_roll_509 : decode cL_roll 509 = .ok (.iconst 0, 1) := by decide +kernel
theorem dL_roll_510 : decode cL_roll 510 = .ok (.iconst 2, 1) := by decide +kernel
theorem dL_roll_511 : decode cL_roll 511 = .ok (.bipush 7, 2) := by decide +kernel
theorem dL_roll_513 : decode cL_roll 513 = .ok (.iconst 4, 1) := by decide +kernel
theorem dL_roll_514 : decode cL_roll 514 = .ok (.invokestatic 115, 3) := by decide +kernel
theorem dL_roll_517 : decode cL_roll 517 = .ok (.ifCond .eq 153, 3) := by decide +kernel
theorem dL_roll_520 : decode cL_roll 520 = .ok (.aload_n 0, 1) := by decide +kernel
theorem dL_roll_521 : decode cL_roll 521 = .ok (.iconst 1, 1) := by decide +kernel
theorem dL_roll_522 : decode cL_roll 522 = .ok (.iconst 2, 1) := by decide +kernel
theorem dL_roll_523 : decode cL_roll 523 = .ok (.iconst 2, 1) := by decide +kernel
theorem dL_roll_524 : decode cL_roll 524 = .ok (.iconst 4, 1) := by decide +kernel
theorem dL_roll_525 : decode cL_roll 525 = .ok (.invokestatic 115, 3) := by decide +kernel
theorem dL_roll_528 : decode cL_roll 528 = .ok (.ifCond .eq 142, 3) := by decide +kernel
theorem dL_roll_531 : decode cL_roll 531 = .ok (.aload_n 0, 1) := by decide +kernel
theorem dL_roll_532 : decode cL_roll 532 = .ok (.bipush 12, 2) := by decide +kernel
theorem dL_roll_534 : decode cL_roll 534 = .ok (.iconst 2, 1) := by decide +kernel
theorem dL_roll_535 : decode cL_roll 535 = .ok (.iconst 0, 1) := by decide +kernel
theorem dL_roll_536 : decode cL_roll 536 = .ok (.iconst 0, 1) := by decide +kernel
theorem dL_roll_537 : decode cL_roll 537 = .ok (.iconst 0, 1) := by decide +kernel
theorem dL_roll_538 : decode cL_roll 538 = .ok (.invokestatic 102, 3) := by decide +kernel
theorem dL_roll_541 : decode cL_roll 541 = .ok (.ldc 96, 2) := by decide +kernel
theorem dL_roll_543 : decode cL_roll 543 = .ok (.if_icmp .ne 127, 3) := by decide +kernel
theorem dL_roll_546 : decode cL_roll 546 = .ok (.aload_n 0, 1) := by decide +kernel
theorem dL_roll_547 : decode cL_roll 547 = .ok (.iconst 1, 1) := by decide +kernel
theorem dL_roll_548 : decode cL_roll 548 = .ok (.iconst 0, 1) := by decide +kernel
theorem dL_roll_549 : decode cL_roll 549 = .ok (.iconst 0, 1) := by decide +kernel
theorem dL_roll_550 : decode cL_roll 550 = .ok (.invokevirtual 17, 3) := by decide +kernel
theorem dL_roll_553 : decode cL_roll 553 = .ok (.ifCond .eq 117, 3) := by decide +kernel
theorem dL_roll_556 : decode cL_roll 556 = .ok (.aload_n 0, 1) := by decide +kernel
theorem dL_roll_557 : decode cL_roll 557 = .ok (.iconst 2, 1) := by decide +kernel
theorem dL_roll_558 : decode cL_roll 558 = .ok (.iconst 0, 1) := by decide +kernel
theorem dL_roll_559 : decode cL_roll 559 = .ok (.invokevirtual 51, 3) := by decide +kernel
theorem dL_roll_562 : decode cL_roll 562 = .ok (.ifCond .ne 108, 3) := by decide +kernel
theorem dL_roll_565 : decode cL_roll 565 = .ok (.aload_n 0, 1) := by decide +kernel
theorem dL_roll_566 : decode cL_roll 566 = .ok (.iconst 2, 1) := by decide +kernel
theorem dL_roll_567 : decode cL_roll 567 = .ok (.invokevirtual 61, 3) := by decide +kernel
theorem dL_roll_570 : decode cL_roll 570 = .ok (.ifCond .ne 100, 3) := by decide +kernel
theorem dL_roll_573 : decode cL_roll 573 = .ok (.aload_n 0, 1) := by decide +kernel
theorem dL_roll_574 : decode cL_roll 574 = .ok (.iconst 2, 1) := by decide +kernel
theorem dL_roll_575 : decode cL_roll 575 = .ok (.invokevirtual 64, 3) := by decide +kernel
theorem dL_roll_578 : decode cL_roll 578 = .ok (.iconst 3, 1) := by decide +kernel
theorem dL_roll_579 : decode cL_roll 579 = .ok (.if_icmp .ne 91, 3) := by decide +kernel
theorem dL_roll_582 : decode cL_roll 582 = .ok (.aload_n 0, 1) := by decide +kernel
theorem dL_roll_583 : decode cL_roll 583 = .ok (.iconst 4, 1) := by decide +kernel
theorem dL_roll_584 : decode cL_roll 584 = .ok (.iconst 3, 1) := by decide +kernel
theorem dL_roll_585 : decode cL_roll 585 = .ok (.invokevirtual 51, 3) := by decide +kernel
theorem dL_roll_588 : decode cL_roll 588 = .ok (.iconst 3, 1) := by decide +kernel
theorem dL_roll_589 : decode cL_roll 589 = .ok (.if_icmp .ne 81, 3) := by decide +kernel
theorem dL_roll_592 : decode cL_roll 592 = .ok (.aload_n 0, 1) := by decide +kernel
theorem dL_roll_593 : decode cL_roll 593 = .ok (.iconst 4, 1) := by decide +kernel
theorem dL_roll_594 : decode cL_roll 594 = .ok (.invokevirtual 61, 3) := by decide +kernel
theorem dL_roll_597 : decode cL_roll 597 = .ok (.iconst 3, 1) := by decide +kernel
theorem dL_roll_598 : decode cL_roll 598 = .ok (.if_icmp .ne 72, 3) := by decide +kernel
theorem dL_roll_601 : decode cL_roll 601 = .ok (.aload_n 0, 1) := by decide +kernel
theorem dL_roll_602 : decode cL_roll 602 = .ok (.iconst 1, 1) := by decide +kernel
theorem dL_roll_603 : decode cL_roll 603 = .ok (.invokevirtual 54, 3) := by decide +kernel
theorem dL_roll_606 : decode cL_roll 606 = .ok (.iconst 5, 1) := by decide +kernel
theorem dL_roll_607 : decode cL_roll 607 = .ok (.if_icmp .ne 63, 3) := by decide +kernel
theorem dL_roll_610 : decode cL_roll 610 = .ok (.aload_n 0, 1) := by decide +kernel
theorem dL_roll_611 : decode cL_roll 611 = .ok (.iconst 1, 1) := by decide +kernel
theorem dL_roll_612 : decode cL_roll 612 = .ok (.invokevirtual 58, 3) := by decide +kernel
theorem dL_roll_615 : decode cL_roll 615 = .ok (.iconst 5, 1) := by decide +kernel
theorem dL_roll_616 : decode cL_roll 616 = .ok (.if_icmp .ne 54, 3) := by decide +kernel
theorem dL_roll_619 : decode cL_roll 619 = .ok (.aload_n 0, 1) := by decide +kernel
theorem dL_roll_620 : decode cL_roll 620 = .ok (.iconst 1, 1) := by decide +kernel
theorem dL_roll_621 : decode cL_roll 621 = .ok (.invokevirtual 61, 3) := by decide +kernel
theorem dL_roll_624 : decode cL_roll 624 = .ok (.ifCond .ne 46, 3) := by decide +kernel
theorem dL_roll_627 : decode cL_roll 627 = .ok (.aload_n 0, 1) := by decide +kernel
theorem dL_roll_628 : decode cL_roll 628 = .ok (.iconst 0, 1) := by decide +kernel
theorem dL_roll_629 : decode cL_roll 629 = .ok (.invokevirtual 64, 3) := by decide +kernel
theorem dL_roll_632 : decode cL_roll 632 = .ok (.iconst 2, 1) := by decide +kernel
theorem dL_roll_633 : decode cL_roll 633 = .ok (.if_icmp .ne 37, 3) := by decide +kernel
theorem dL_roll_636 : decode cL_roll 636 = .ok (.aload_n 0, 1) := by decide +kernel
theorem dL_roll_637 : decode cL_roll 637 = .ok (.iconst 5, 1) := by decide +kernel
theorem dL_roll_638 : decode cL_roll 638 = .ok (.invokevirtual 64, 3) := by decide +kernel
theorem dL_roll_641 : decode cL_roll 641 = .ok (.iconst 1, 1) := by decide +kernel
theorem dL_roll_642 : decode cL_roll 642 = .ok (.if_icmp .ne 28, 3) := by decide +kernel
theorem dL_roll_645 : decode cL_roll 645 = .ok (.aload_n 0, 1) := by decide +kernel
theorem dL_roll_646 : decode cL_roll 646 = .ok (.bipush 13, 2) := by decide +kernel
theorem dL_roll_648 : decode cL_roll 648 = .ok (.iconst 1, 1) := by decide +kernel
theorem dL_roll_649 : decode cL_roll 649 = .ok (.iconst 0, 1) := by decide +kernel
theorem dL_roll_650 : decode cL_roll 650 = .ok (.iconst 0, 1) := by decide +kernel
theorem dL_roll_651 : decode cL_roll 651 = .ok (.iconst 0, 1) := by decide +kernel
theorem dL_roll_652 : decode cL_roll 652 = .ok (.invokestatic 102, 3) := by decide +kernel
theorem dL_roll_655 : decode cL_roll 655 = .ok (.ldc 96, 2) := by decide +kernel
theorem dL_roll_657 : decode cL_roll 657 = .ok (.if_icmp .ne 13, 3) := by decide +kernel
theorem dL_roll_660 : decode cL_roll 660 = .ok (.aload_n 0, 1) := by decide +kernel
theorem dL_roll_661 : decode cL_roll 661 = .ok (.iconst 5, 1) := by decide +kernel
theorem dL_roll_662 : decode cL_roll 662 = .ok (.bipush 6, 2) := by decide +kernel
theorem dL_roll_664 : decode cL_roll 664 = .ok (.invokestatic 109, 3) := by decide +kernel
theorem dL_roll_667 : decode cL_roll 667 = .ok (.ifCond .ne 5, 3) := by decide +kernel
theorem dL_roll_670 : decode cL_roll 670 = .ok (.iconst 0, 1) := by decide +kernel
theorem dL_roll_671 : decode cL_roll 671 = .ok (.ireturn, 1) := by decide +kernel
theorem dL_roll_672 : decode cL_roll 672 = .ok (.aload_n 0, 1) := by decide +kernel
theorem dL_roll_673 : decode cL_roll 673 = .ok (.invokevirtual 98, 3) := by decide +kernel
theorem dL_roll_676 : decode cL_roll 676 = .ok (.iconst 2, 1) := by decide +kernel
theorem dL_roll_677 : decode cL_roll 677 = .ok (.if_icmp .ne 378, 3) := by decide +kernel
theorem dL_roll_680 : decode cL_roll 680 = .ok (.aload_n 0, 1) := by decide +kernel
theorem dL_roll_681 : decode cL_roll 681 = .ok (.iconst 0, 1) := by decide +kernel
theorem dL_roll_682 : decode cL_roll 682 = .ok (.bipush 7, 2) := by decide +kernel
theorem dL_roll_684 : decode cL_roll 684 = .ok (.invokevirtual 85, 3) := by decide +kernel
theorem dL_roll_687 : decode cL_roll 687 = .ok (.iconst (-1), 1) := by decide +kernel
theorem dL_roll_688 : decode cL_roll 688 = .ok (.if_icmp .ne 367, 3) := by decide +kernel
theorem dL_roll_691 : decode cL_roll 691 = .ok (.aload_n 0, 1) := by decide +kernel
theorem dL_roll_692 : decode cL_roll 692 = .ok (.iconst 2, 1) := by decide +kernel
theorem dL_roll_693 : decode cL_roll 693 = .ok (.bipush 7, 2) := by decide +kernel
theorem dL_roll_695 : decode cL_roll 695 = .ok (.invokevirtual 85, 3) := by decide +kernel
theorem dL_roll_698 : decode cL_roll 698 = .ok (.iconst (-1), 1) := by decide +kernel
theorem dL_roll_699 : decode cL_roll 699 = .ok (.if_icmp .ne 356, 3) := by decide +kernel
theorem dL_roll_702 : decode cL_roll 702 = .ok (.aload_n 0, 1) := by decide +kernel
theorem dL_roll_703 : decode cL_roll 703 = .ok (.invokevirtual 98, 3) := by decide +kernel
theorem dL_roll_706 : decode cL_roll 706 = .ok (.iconst 1, 1) := by decide +kernel
theorem dL_roll_707 : decode cL_roll 707 = .ok (.if_icmp .ne 348, 3) := by decide +kernel
theorem dL_roll_710 : decode cL_roll 710 = .ok (.aload_n 0, 1) := by decide +kernel
theorem dL_roll_711 : decode cL_roll 711 = .ok (.iconst 1, 1) := by decide +kernel
theorem dL_roll_712 : decode cL_roll 712 = .ok (.bipush 7, 2) := by decide +kernel
theorem dL_roll_714 : decode cL_roll 714 = .ok (.invokevirtual 85, 3) := by decide +kernel
theorem dL_roll_717 : decode cL_roll 717 = .ok (.iconst (-1), 1) := by decide +kernel
theorem dL_roll_718 : decode cL_roll 718 = .ok (.if_icmp .ne 337, 3) := by decide +kernel
theorem dL_roll_721 : decode cL_roll 721 = .ok (.aload_n 0, 1) := by decide +kernel
theorem dL_roll_722 : decode cL_roll 722 = .ok (.invokevirtual 98, 3) := by decide +kernel
theorem dL_roll_725 : decode cL_roll 725 = .ok (.iconst 3, 1) := by decide +kernel
theorem dL_roll_726 : decode cL_roll 726 = .ok (.if_icmp .ne 329, 3) := by decide +kernel
theorem dL_roll_729 : decode cL_roll 729 = .ok (.aload_n 0, 1) := by decide +kernel
theorem dL_roll_730 : decode cL_roll 730 = .ok (.iconst 1, 1) := by decide +kernel
theorem dL_roll_731 : decode cL_roll 731 = .ok (.iconst (-1), 1) := by decide +kernel
theorem dL_roll_732 : decode cL_roll 732 = .ok (.invokevirtual 85, 3) := by decide +kernel
theorem dL_roll_735 : decode cL_roll 735 = .ok (.bipush 7, 2) := by decide +kernel
theorem dL_roll_737 : decode cL_roll 737 = .ok (.if_icmp .ne 318, 3) := by decide +kernel
theorem dL_roll_740 : decode cL_roll 740 = .ok (.aload_n 0, 1) := by decide +kernel
theorem dL_roll_741 : decode cL_roll 741 = .ok (.invokevirtual 98, 3) := by decide +kernel
theorem dL_roll_744 : decode cL_roll 744 = .ok (.iconst 1, 1) := by decide +kernel
theorem dL_roll_745 : decode cL_roll 745 = .ok (.if_icmp .ne 310, 3) := by decide +kernel
theorem dL_roll_748 : decode cL_roll 748 = .ok (.aload_n 0, 1) := by decide +kernel
theorem dL_roll_749 : decode cL_roll 749 = .ok (.iconst 0, 1) := by decide +kernel
theorem dL_roll_750 : decode cL_roll 750 = .ok (.iconst 0, 1) := by decide +kernel
theorem dL_roll_751 : decode cL_roll 751 = .ok (.sipush 999, 3) := by decide +kernel
theorem dL_roll_754 : decode cL_roll 754 = .ok (.invokestatic 118, 3) := by decide +kernel
theorem dL_roll_757 : decode cL_roll 757 = .ok (.ifCond .eq 298, 3) := by decide +kernel
theorem dL_roll_760 : decode cL_roll 760 = .ok (.aload_n 0, 1) := by decide +kernel
theorem dL_roll_761 : decode cL_roll 761 = .ok (.iconst 0, 1) := by decide +kernel
theorem dL_roll_762 : decode cL_roll 762 = .ok (.iconst 2, 1) := by decide +kernel
theorem dL_roll_763 : decode cL_roll 763 = .ok (.bipush 10, 2) := by decide +kernel
theorem dL_roll_765 : decode cL_roll 765 = .ok (.invokevirtual 21, 3) := by decide +kernel
theorem dL_roll_768 : decode cL_roll 768 = .ok (.iconst 1, 1) := by decide +kernel
theorem dL_roll_769 : decode cL_roll 769 = .ok (.if_icmp .ne 286, 3) := by decide +kernel
theorem dL_roll_772 : decode cL_roll 772 = .ok (.aload_n 0, 1) := by decide +kernel
theorem dL_roll_773 : decode cL_roll 773 = .ok (.iconst 0, 1) := by decide +kernel
theorem dL_roll_774 : decode cL_roll 774 = .ok (.iconst 0, 1) := by decide +kernel
theorem dL_roll_775 : decode cL_roll 775 = .ok (.sipush 490, 3) := by decide +kernel
theorem dL_roll_778 : decode cL_roll 778 = .ok (.invokestatic 118, 3) := by decide +kernel
theorem dL_roll_781 : decode cL_roll 781 = .ok (.ifCond .eq 274, 3) := by decide +kernel
theorem dL_roll_784 : decode cL_roll 784 = .ok (.aload_n 0, 1) := by decide +kernel
theorem dL_roll_785 : decode cL_roll 785 = .ok (.iconst 2, 1) := by decide +kernel
theorem dL_roll_786 : decode cL_roll 786 = .ok (.iconst 4, 1) := by decide +kernel
theorem dL_roll_787 : decode cL_roll 787 = .ok (.bipush (-50), 2) := by decide +kernel
theorem dL_roll_789 : decode cL_roll 789 = .ok (.invokevirtual 21, 3) := by decide +kernel
theorem dL_roll_792 : decode cL_roll 792 = .ok (.iconst 1, 1) := by decide +kernel
theorem dL_roll_793 : decode cL_roll 793 = .ok (.if_icmp .ne 262, 3) := by decide +kernel
theorem dL_roll_796 : decode cL_roll 796 = .ok (.aload_n 0, 1) := by decide +kernel
theorem dL_roll_797 : decode cL_roll 797 = .ok (.iconst 4, 1) := by decide +kernel
theorem dL_roll_798 : decode cL_roll 798 = .ok (.sipush 450, 3) := by decide +kernel
theorem dL_roll_801 : decode cL_roll 801 = .ok (.sipush 999, 3) := by decide +kernel
theorem dL_roll_804 : decode cL_roll 804 = .ok (.invokestatic 118, 3) := by decide +kernel
theorem dL_roll_807 : decode cL_roll 807 = .ok (.ifCond .eq 248, 3) := by decide +kernel
theorem dL_roll_810 : decode cL_roll 810 = .ok (.aload_n 0, 1) := by decide +kernel
theorem dL_roll_811 : decode cL_roll 811 = .ok (.iconst 3, 1) := by decide +kernel
theorem dL_roll_812 : decode cL_roll 812 = .ok (.iconst 4, 1) := by decide +kernel
theorem dL_roll_813 : decode cL_roll 813 = .ok (.iconst 0, 1) := by decide +kernel
theorem dL_roll_814 : decode cL_roll 814 = .ok (.bipush 41, 2) := by decide +kernel
theorem dL_roll_816 : decode cL_roll 816 = .ok (.iconst 0, 1) := by decide +kernel
theorem dL_roll_817 : decode cL_roll 817 = .ok (.invokestatic 102, 3) := by decide +kernel
theorem dL_roll_820 : decode cL_roll 820 = .ok (.ldc 96, 2) := by decide +kernel
theorem dL_roll_822 : decode cL_roll 822 = .ok (.if_icmp .ne 233, 3) := by decide +kernel
theorem dL_roll_825 : decode cL_roll 825 = .ok (.aload_n 0, 1) := by decide +kernel
theorem dL_roll_826 : decode cL_roll 826 = .ok (.iconst 0, 1) := by decide +kernel
theorem dL_roll_827 : decode cL_roll 827 = .ok (.iconst 0, 1) := by decide +kernel
theorem dL_roll_828 : decode cL_roll 828 = .ok (.sipush 490, 3) := by decide +kernel
theorem dL_roll_831 : decode cL_roll 831 = .ok (.invokestatic 118, 3) := by decide +kernel
theorem dL_roll_834 : decode cL_roll 834 = .ok (.ifCond .eq 221, 3) := by decide +kernel
theorem dL_roll_837 : decode cL_roll 837 = .ok (.aload_n 0, 1) := by decide +kernel
theorem dL_roll_838 : decode cL_roll 838 = .ok (.iconst 4, 1) := by decide +kernel
theorem dL_roll_839 : decode cL_roll 839 = .ok (.iconst 0, 1) := by decide +kernel
theorem dL_roll_840 : decode cL_roll 840 = .ok (.bipush 20, 2) := by decide +kernel
theorem dL_roll_842 : decode cL_roll 842 = .ok (.invokevirtual 21, 3) := by decide +kernel
theorem dL_roll_845 : decode cL_roll 845 = .ok (.iconst 2, 1) := by decide +kernel
theorem dL_roll_846 : decode cL_roll 846 = .ok (.if_icmp .ne 209, 3) := by decide +kernel
theorem dL_roll_849 : decode cL_roll 849 = .ok (.aload_n 0, 1) := by decide +kernel
theorem dL_roll_850 : decode cL_roll 850 = .ok (.iconst 0, 1) := by decide +kernel
theorem dL_roll_851 : decode cL_roll 851 = .ok (.sipush 470, 3) := by decide +kernel
theorem dL_roll_854 : decode cL_roll 854 = .ok (.sipush 490, 3) := by decide +kernel
theorem dL_roll_857 : decode cL_roll 857 = .ok (.invokestatic 118, 3) := by decide +kernel
theorem dL_roll_860 : decode cL_roll 860 = .ok (.ifCond .eq 195, 3) := by decide +kernel
theorem dL_roll_863 : decode cL_roll 863 = .ok (.aload_n 0, 1) := by decide +kernel
theorem dL_roll_864 : decode cL_roll 864 = .ok (.iconst 4, 1) := by decide +kernel
theorem dL_roll_865 : decode cL_roll 865 = .ok (.sipush 450, 3) := by decide +kernel
theorem dL_roll_868 : decode cL_roll 868 = .ok (.sipush 470, 3) := by decide +kernel
theorem dL_roll_871 : decode cL_roll 871 = .ok (.invokestatic 118, 3) := by decide +kernel
theorem dL_roll_874 : decode cL_roll 874 = .ok (.ifCond .eq 181, 3) := by decide +kernel
theorem dL_roll_877 : decode cL_roll 877 = .ok (.aload_n 0, 1) := by decide +kernel
theorem dL_roll_878 : decode cL_roll 878 = .ok (.iconst 4, 1) := by decide +kernel
theorem dL_roll_879 : decode cL_roll 879 = .ok (.sipush 460, 3) := by decide +kernel
theorem dL_roll_882 : decode cL_roll 882 = .ok (.sipush 999, 3) := by decide +kernel
theorem dL_roll_885 : decode cL_roll 885 = .ok (.invokevirtual 28, 3) := by decide +kernel
theorem dL_roll_888 : decode cL_roll 888 = .ok (.iconst 2, 1) := by decide +kernel
theorem dL_roll_889 : decode cL_roll 889 = .ok (.if_icmp .ne 166, 3) := by decide +kernel
theorem dL_roll_892 : decode cL_roll 892 = .ok (.aload_n 0, 1) := by decide +kernel
theorem dL_roll_893 : decode cL_roll 893 = .ok (.iconst 4, 1) := by decide +kernel
theorem dL_roll_894 : decode cL_roll 894 = .ok (.sipush 471, 3) := by decide +kernel
theorem dL_roll_897 : decode cL_roll 897 = .ok (.sipush 999, 3) := by decide +kernel
theorem dL_roll_900 : decode cL_roll 900 = .ok (.invokevirtual 28, 3) := by decide +kernel
theorem dL_roll_903 : decode cL_roll 903 = .ok (.iconst (-1), 1) := by decide +kernel
theorem dL_roll_904 : decode cL_roll 904 = .ok (.if_icmp .ne 151, 3) := by decide +kernel
theorem dL_roll_907 : decode cL_roll 907 = .ok (.aload_n 0, 1) := by decide +kernel
theorem dL_roll_908 : decode cL_roll 908 = .ok (.iconst 4, 1) := by decide +kernel
theorem dL_roll_909 : decode cL_roll 909 = .ok (.sipush 450, 3) := by decide +kernel
theorem dL_roll_912 : decode cL_roll 912 = .ok (.sipush 470, 3) := by decide +kernel
theorem dL_roll_915 : decode cL_roll 915 = .ok (.invokestatic 118, 3) := by decide +kernel
theorem dL_roll_918 : decode cL_roll 918 = .ok (.ifCond .eq 137, 3) := by decide +kernel
theorem dL_roll_921 : decode cL_roll 921 = .ok (.aload_n 0, 1) := by decide +kernel
theorem dL_roll_922 : decode cL_roll 922 = .ok (.iconst 4, 1) := by decide +kernel
theorem dL_roll_923 : decode cL_roll 923 = .ok (.sipush 460, 3) := by decide +kernel
theorem dL_roll_926 : decode cL_roll 926 = .ok (.sipush 465, 3) := by decide +kernel
theorem dL_roll_929 : decode cL_roll 929 = .ok (.invokevirtual 25, 3) := by decide +kernel
theorem dL_roll_932 : decode cL_roll 932 = .ok (.iconst 2, 1) := by decide +kernel
theorem dL_roll_933 : decode cL_roll 933 = .ok (.if_icmp .ne 122, 3) := by decide +kernel
theorem dL_roll_936 : decode cL_roll 936 = .ok (.aload_n 0, 1) := by decide +kernel
theorem dL_roll_937 : decode cL_roll 937 = .ok (.iconst 0, 1) := by decide +kernel
theorem dL_roll_938 : decode cL_roll 938 = .ok (.sipush 480, 3) := by decide +kernel
theorem dL_roll_941 : decode cL_roll 941 = .ok (.sipush 490, 3) := by decide +kernel
theorem dL_roll_944 : decode cL_roll 944 = .ok (.invokestatic 118, 3) := by decide +kernel
theorem dL_roll_947 : decode cL_roll 947 = .ok (.ifCond .eq 108, 3) := by decide +kernel
theorem dL_roll_950 : decode cL_roll 950 = .ok (.aload_n 0, 1) := by decide +kernel
theorem dL_roll_951 : decode cL_roll 951 = .ok (.iconst 4, 1) := by decide +kernel
theorem dL_roll_952 : decode cL_roll 952 = .ok (.sipush 460, 3) := by decide +kernel
theorem dL_roll_955 : decode cL_roll 955 = .ok (.sipush 465, 3) := by decide +kernel
theorem dL_roll_958 : decode cL_roll 958 = .ok (.invokestatic 118, 3) := by decide +kernel
theorem dL_roll_961 : decode cL_roll 961 = .ok (.ifCond .eq 94, 3) := by decide +kernel
theorem dL_roll_964 : decode cL_roll 964 = .ok (.aload_n 0, 1) := by decide +kernel
theorem dL_roll_965 : decode cL_roll 965 = .ok (.iconst 3, 1) := by decide +kernel
theorem dL_roll_966 : decode cL_roll 966 = .ok (.iconst 0, 1) := by decide +kernel
theorem dL_roll_967 : decode cL_roll 967 = .ok (.sipush 999, 3) := by decide +kernel
theorem dL_roll_970 : decode cL_roll 970 = .ok (.invokevirtual 28, 3) := by decide +kernel
theorem dL_roll_973 : decode cL_roll 973 = .ok (.ifCond .ne 82, 3) := by decide +kernel
theorem dL_roll_976 : decode cL_roll 976 = .ok (.aload_n 0, 1) := by decide +kernel
theorem dL_roll_977 : decode cL_roll 977 = .ok (.iconst 4, 1) := by decide +kernel
theorem dL_roll_978 : decode cL_roll 978 = .ok (.iconst 0, 1) := by decide +kernel
theorem dL_roll_979 : decode cL_roll 979 = .ok (.iconst 0, 1) := by decide +kernel
theorem dL_roll_980 : decode cL_roll 980 = .ok (.sipush 479, 3) := by decide +kernel
theorem dL_roll_983 : decode cL_roll 983 = .ok (.iconst 0, 1) := by decide +kernel
theorem dL_roll_984 : decode cL_roll 984 = .ok (.invokestatic 102, 3) := by decide +kernel
theorem dL_roll_987 : decode cL_roll 987 = .ok (.ldc 96, 2) := by decide +kernel
theorem dL_roll_989 : decode cL_roll 989 = .ok (.if_icmp .ne 66, 3) := by decide +kernel
theorem dL_roll_992 : decode cL_roll 992 = .ok (.aload_n 0, 1) := by decide +kernel
theorem dL_roll_993 : decode cL_roll 993 = .ok (.iconst 0, 1) := by decide +kernel
theorem dL_roll_994 : decode cL_roll 994 = .ok (.sipush 485, 3) := by decide +kernel
theorem dL_roll_997 : decode cL_roll 997 = .ok (.sipush 999, 3) := by decide +kernel
theorem dL_roll_1000 : decode cL_roll 1000 = .ok (.invokevirtual 25, 3) := by decide +kernel
theorem dL_roll_1003 : decode cL_roll 1003 = .ok (.iconst 1, 1) := by decide +kernel
theorem dL_roll_1004 : decode cL_roll 1004 = .ok (.if_icmp .ne 51, 3) := by decide +kernel
theorem dL_roll_1007 : decode cL_roll 1007 = .ok (.aload_n 0, 1) := by decide +kernel
theorem dL_roll_1008 : decode cL_roll 1008 = .ok (.iconst 0, 1) := by decide +kernel
theorem dL_roll_1009 : decode cL_roll 1009 = .ok (.sipush 485, 3) := by decide +kernel
theorem dL_roll_1012 : decode cL_roll 1012 = .ok (.sipush 490, 3) := by decide +kernel
theorem dL_roll_1015 : decode cL_roll 1015 = .ok (.invokestatic 118, 3) := by decide +kernel
theorem dL_roll_1018 : decode cL_roll 1018 = .ok (.ifCond .eq 37, 3) := by decide +kernel
theorem dL_roll_1021 : decode cL_roll 1021 = .ok (.aload_n 0, 1) := by decide +kernel
theorem dL_roll_1022 : decode cL_roll 1022 = .ok (.iconst 0, 1) := by decide +kernel
theorem dL_roll_1023 : decode cL_roll 1023 = .ok (.iconst 0, 1) := by decide +kernel
theorem dL_roll_1024 : decode cL_roll 1024 = .ok (.sipush 999, 3) := by decide +kernel
theorem dL_roll_1027 : decode cL_roll 1027 = .ok (.invokevirtual 25, 3) := by decide +kernel
theorem dL_roll_1030 : decode cL_roll 1030 = .ok (.ifCond .ne 25, 3) := by decide +kernel
theorem dL_roll_1033 : decode cL_roll 1033 = .ok (.aload_n 0, 1) := by decide +kernel
theorem dL_roll_1034 : decode cL_roll 1034 = .ok (.iconst 3, 1) := by decide +kernel
theorem dL_roll_1035 : decode cL_roll 1035 = .ok (.iconst 0, 1) := by decide +kernel
theorem dL_roll_1036 : decode cL_roll 1036 = .ok (.sipush 999, 3) := by decide +kernel
theorem dL_roll_1039 : decode cL_roll 1039 = .ok (.invokestatic 118, 3) := by decide +kernel
theorem dL_roll_1042 : decode cL_roll 1042 = .ok (.ifCond .eq 13, 3) := by decide +kernel
theorem dL_roll_1045 : decode cL_roll 1045 = .ok (.aload_n 0, 1) := by decide +kernel
theorem dL_roll_1046 : decode cL_roll 1046 = .ok (.iconst 5, 1) := by decide +kernel
theorem dL_roll_1047 : decode cL_roll 1047 = .ok (.bipush 6, 2) := by decide +kernel
theorem dL_roll_1049 : decode cL_roll 1049 = .ok (.invokestatic 109, 3) := by decide +kernel
theorem dL_roll_1052 : decode cL_roll 1052 = .ok (.ifCond .ne 5, 3) := by decide +kernel
theorem dL_roll_1055 : decode cL_roll 1055 = .ok (.iconst 0, 1) := by decide +kernel
theorem dL_roll_1056 : decode cL_roll 1056 = .ok (.ireturn, 1) := by decide +kernel
theorem dL_roll_1057 : decode cL_roll 1057 = .ok (.aload_n 0, 1) := by decide +kernel
theorem dL_roll_1058 : decode cL_roll 1058 = .ok (.invokestatic 122, 3) := by decide +kernel
theorem dL_roll_1061 : decode cL_roll 1061 = .ok (.ifCond .eq 26, 3) := by decide +kernel
theorem dL_roll_1064 : decode cL_roll 1064 = .ok (.aload_n 0, 1) := by decide +kernel
theorem dL_roll_1065 : decode cL_roll 1065 = .ok (.invokestatic 126, 3) := by decide +kernel
theorem dL_roll_1068 : decode cL_roll 1068 = .ok (.ifCond .eq 19, 3) := by decide +kernel
theorem dL_roll_1071 : decode cL_roll 1071 = .ok (.invokestatic 129, 3) := by decide +kernel
theorem dL_roll_1074 : decode cL_roll 1074 = .ok (.ifCond .eq 13, 3) := by decide +kernel
theorem dL_roll_1077 : decode cL_roll 1077 = .ok (.invokestatic 133, 3) := by decide +kernel
theorem dL_roll_1080 : decode cL_roll 1080 = .ok (.ifCond .eq 7, 3) := by decide +kernel
theorem dL_roll_1083 : decode cL_roll 1083 = .ok (.iconst 1, 1) := by decide +kernel
theorem dL_roll_1084 : decode cL_roll 1084 = .ok (.goto 4, 3) := by decide +kernel
theorem dL_roll_1087 : decode cL_roll 1087 = .ok (.iconst 0, 1) := by decide +kernel
theorem dL_roll_1088 : decode cL_roll 1088 = .ok (.ireturn, 1) := by decide +kernel
