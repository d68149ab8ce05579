theorem ni_dL_law_0 : decode cL_law 0 = .ok (.new 10, 3) := by decide +kernel
theorem ni_dL_law_3 : decode cL_law 3 = .ok (.dup, 1) := by decide +kernel
theorem ni_dL_law_4 : decode cL_law 4 = .ok (.invokespecial 108, 3) := by decide +kernel
theorem ni_dL_law_7 : decode cL_law 7 = .ok (.astore_n 1, 1) := by decide +kernel
theorem ni_dL_law_8 : decode cL_law 8 = .ok (.iconst 2, 1) := by decide +kernel
theorem ni_dL_law_9 : decode cL_law 9 = .ok (.aload_n 0, 1) := by decide +kernel
theorem ni_dL_law_10 : decode cL_law 10 = .ok (.iconst 0, 1) := by decide +kernel
theorem ni_dL_law_11 : decode cL_law 11 = .ok (.invokestatic 15, 3) := by decide +kernel
theorem ni_dL_law_14 : decode cL_law 14 = .ok (.iconst 5, 1) := by decide +kernel
theorem ni_dL_law_15 : decode cL_law 15 = .ok (.invokestatic 21, 3) := by decide +kernel
theorem ni_dL_law_18 : decode cL_law 18 = .ok (.iadd, 1) := by decide +kernel
theorem ni_dL_law_19 : decode cL_law 19 = .ok (.istore_n 2, 1) := by decide +kernel
theorem ni_dL_law_20 : decode cL_law 20 = .ok (.aload_n 1, 1) := by decide +kernel
theorem ni_dL_law_21 : decode cL_law 21 = .ok (.aload_n 0, 1) := by decide +kernel
theorem ni_dL_law_22 : decode cL_law 22 = .ok (.iload_n 2, 1) := by decide +kernel
theorem ni_dL_law_23 : decode cL_law 23 = .ok (.invokestatic 109, 3) := by decide +kernel
theorem ni_dL_law_26 : decode cL_law 26 = .ok (.astore_n 3, 1) := by decide +kernel
theorem ni_dL_law_27 : decode cL_law 27 = .ok (.iconst 1, 1) := by decide +kernel
theorem ni_dL_law_28 : decode cL_law 28 = .ok (.aload_n 0, 1) := by decide +kernel
theorem ni_dL_law_29 : decode cL_law 29 = .ok (.iconst 0, 1) := by decide +kernel
theorem ni_dL_law_30 : decode cL_law 30 = .ok (.invokestatic 15, 3) := by decide +kernel
theorem ni_dL_law_33 : decode cL_law 33 = .ok (.iconst 4, 1) := by decide +kernel
theorem ni_dL_law_34 : decode cL_law 34 = .ok (.ishr, 1) := by decide +kernel
theorem ni_dL_law_35 : decode cL_law 35 = .ok (.iconst 4, 1) := by decide +kernel
theorem ni_dL_law_36 : decode cL_law 36 = .ok (.invokestatic 21, 3) := by decide +kernel
theorem ni_dL_law_39 : decode cL_law 39 = .ok (.iadd, 1) := by decide +kernel
theorem ni_dL_law_40 : decode cL_law 40 = .ok (.istore 4, 2) := by decide +kernel
theorem ni_dL_law_42 : decode cL_law 42 = .ok (.iconst 0, 1) := by decide +kernel
theorem ni_dL_law_43 : decode cL_law 43 = .ok (.istore 5, 2) := by decide +kernel
theorem ni_dL_law_45 : decode cL_law 45 = .ok (.iload 5, 2) := by decide +kernel
theorem ni_dL_law_47 : decode cL_law 47 = .ok (.iload 4, 2) := by decide +kernel
theorem ni_dL_law_49 : decode cL_law 49 = .ok (.if_icmp .ge 165, 3) := by decide +kernel
theorem ni_dL_law_52 : decode cL_law 52 = .ok (.aload_n 0, 1) := by decide +kernel
theorem ni_dL_law_53 : decode cL_law 53 = .ok (.bipush 10, 2) := by decide +kernel
theorem ni_dL_law_55 : decode cL_law 55 = .ok (.iload 5, 2) := by decide +kernel
theorem ni_dL_law_57 : decode cL_law 57 = .ok (.iadd, 1) := by decide +kernel
theorem ni_dL_law_58 : decode cL_law 58 = .ok (.invokestatic 15, 3) := by decide +kernel
theorem ni_dL_law_61 : decode cL_law 61 = .ok (.istore 6, 2) := by decide +kernel
theorem ni_dL_law_63 : decode cL_law 63 = .ok (.aload_n 1, 1) := by decide +kernel
theorem ni_dL_law_64 : decode cL_law 64 = .ok (.iload 6, 2) := by decide +kernel
theorem ni_dL_law_66 : decode cL_law 66 = .ok (.iload_n 2, 1) := by decide +kernel
theorem ni_dL_law_67 : decode cL_law 67 = .ok (.invokestatic 21, 3) := by decide +kernel
theorem ni_dL_law_70 : decode cL_law 70 = .ok (.iload 5, 2) := by decide +kernel
theorem ni_dL_law_72 : decode cL_law 72 = .ok (.bipush 12, 2) := by decide +kernel
theorem ni_dL_law_74 : decode cL_law 74 = .ok (.ishl, 1) := by decide +kernel
theorem ni_dL_law_75 : decode cL_law 75 = .ok (.iconst 4, 1) := by decide +kernel
theorem ni_dL_law_76 : decode cL_law 76 = .ok (.iload 6, 2) := by decide +kernel
theorem ni_dL_law_78 : decode cL_law 78 = .ok (.iconst 3, 1) := by decide +kernel
theorem ni_dL_law_79 : decode cL_law 79 = .ok (.ishr, 1) := by decide +kernel
theorem ni_dL_law_80 : decode cL_law 80 = .ok (.iconst 5, 1) := by decide +kernel
theorem ni_dL_law_81 : decode cL_law 81 = .ok (.invokestatic 21, 3) := by decide +kernel
theorem ni_dL_law_84 : decode cL_law 84 = .ok (.iadd, 1) := by decide +kernel
theorem ni_dL_law_85 : decode cL_law 85 = .ok (.invokevirtual 113, 3) := by decide +kernel
theorem ni_dL_law_88 : decode cL_law 88 = .ok (.pop, 1) := by decide +kernel
theorem ni_dL_law_89 : decode cL_law 89 = .ok (.aload_n 1, 1) := by decide +kernel
theorem ni_dL_law_90 : decode cL_law 90 = .ok (.iload 6, 2) := by decide +kernel
theorem ni_dL_law_92 : decode cL_law 92 = .ok (.iconst 5, 1) := by decide +kernel
theorem ni_dL_law_93 : decode cL_law 93 = .ok (.ishr, 1) := by decide +kernel
theorem ni_dL_law_94 : decode cL_law 94 = .ok (.iload_n 2, 1) := by decide +kernel
theorem ni_dL_law_95 : decode cL_law 95 = .ok (.invokestatic 21, 3) := by decide +kernel
theorem ni_dL_law_98 : decode cL_law 98 = .ok (.iload 5, 2) := by decide +kernel
theorem ni_dL_law_100 : decode cL_law 100 = .ok (.bipush 12, 2) := by decide +kernel
theorem ni_dL_law_102 : decode cL_law 102 = .ok (.ishl, 1) := by decide +kernel
theorem ni_dL_law_103 : decode cL_law 103 = .ok (.iload 6, 2) := by decide +kernel
theorem ni_dL_law_105 : decode cL_law 105 = .ok (.iconst 2, 1) := by decide +kernel
theorem ni_dL_law_106 : decode cL_law 106 = .ok (.ishr, 1) := by decide +kernel
theorem ni_dL_law_107 : decode cL_law 107 = .ok (.sipush 500, 3) := by decide +kernel
theorem ni_dL_law_110 : decode cL_law 110 = .ok (.invokestatic 21, 3) := by decide +kernel
theorem ni_dL_law_113 : decode cL_law 113 = .ok (.iadd, 1) := by decide +kernel
theorem ni_dL_law_114 : decode cL_law 114 = .ok (.bipush 20, 2) := by decide +kernel
theorem ni_dL_law_116 : decode cL_law 116 = .ok (.iload 6, 2) := by decide +kernel
theorem ni_dL_law_118 : decode cL_law 118 = .ok (.iconst 4, 1) := by decide +kernel
theorem ni_dL_law_119 : decode cL_law 119 = .ok (.ishr, 1) := by decide +kernel
theorem ni_dL_law_120 : decode cL_law 120 = .ok (.sipush 200, 3) := by decide +kernel
theorem ni_dL_law_123 : decode cL_law 123 = .ok (.invokestatic 21, 3) := by decide +kernel
theorem ni_dL_law_126 : decode cL_law 126 = .ok (.iadd, 1) := by decide +kernel
theorem ni_dL_law_127 : decode cL_law 127 = .ok (.iload 6, 2) := by decide +kernel
theorem ni_dL_law_129 : decode cL_law 129 = .ok (.iconst 4, 1) := by decide +kernel
theorem ni_dL_law_130 : decode cL_law 130 = .ok (.invokestatic 21, 3) := by decide +kernel
theorem ni_dL_law_133 : decode cL_law 133 = .ok (.invokevirtual 117, 3) := by decide +kernel
theorem ni_dL_law_136 : decode cL_law 136 = .ok (.pop, 1) := by decide +kernel
theorem ni_dL_law_137 : decode cL_law 137 = .ok (.aload_n 1, 1) := by decide +kernel
theorem ni_dL_law_138 : decode cL_law 138 = .ok (.iload 5, 2) := by decide +kernel
theorem ni_dL_law_140 : decode cL_law 140 = .ok (.iload 6, 2) := by decide +kernel
theorem ni_dL_law_142 : decode cL_law 142 = .ok (.iconst 3, 1) := by decide +kernel
theorem ni_dL_law_143 : decode cL_law 143 = .ok (.ishr, 1) := by decide +kernel
theorem ni_dL_law_144 : decode cL_law 144 = .ok (.bipush 20, 2) := by decide +kernel
theorem ni_dL_law_146 : decode cL_law 146 = .ok (.invokestatic 21, 3) := by decide +kernel
theorem ni_dL_law_149 : decode cL_law 149 = .ok (.iconst 1, 1) := by decide +kernel
theorem ni_dL_law_150 : decode cL_law 150 = .ok (.iload 6, 2) := by decide +kernel
theorem ni_dL_law_152 : decode cL_law 152 = .ok (.bipush 6, 2) := by decide +kernel
theorem ni_dL_law_154 : decode cL_law 154 = .ok (.ishr, 1) := by decide +kernel
theorem ni_dL_law_155 : decode cL_law 155 = .ok (.iconst 3, 1) := by decide +kernel
theorem ni_dL_law_156 : decode cL_law 156 = .ok (.invokestatic 21, 3) := by decide +kernel
theorem ni_dL_law_159 : decode cL_law 159 = .ok (.iadd, 1) := by decide +kernel
theorem ni_dL_law_160 : decode cL_law 160 = .ok (.iconst 1, 1) := by decide +kernel
theorem ni_dL_law_161 : decode cL_law 161 = .ok (.iload 6, 2) := by decide +kernel
theorem ni_dL_law_163 : decode cL_law 163 = .ok (.iconst 2, 1) := by decide +kernel
theorem ni_dL_law_164 : decode cL_law 164 = .ok (.ishr, 1) := by decide +kernel
theorem ni_dL_law_165 : decode cL_law 165 = .ok (.bipush 30, 2) := by decide +kernel
theorem ni_dL_law_167 : decode cL_law 167 = .ok (.invokestatic 21, 3) := by decide +kernel
theorem ni_dL_law_170 : decode cL_law 170 = .ok (.iadd, 1) := by decide +kernel
theorem ni_dL_law_171 : decode cL_law 171 = .ok (.invokevirtual 121, 3) := by decide +kernel
theorem ni_dL_law_174 : decode cL_law 174 = .ok (.pop, 1) := by decide +kernel
theorem ni_dL_law_175 : decode cL_law 175 = .ok (.iload 6, 2) := by decide +kernel
theorem ni_dL_law_177 : decode cL_law 177 = .ok (.bipush 7, 2) := by decide +kernel
theorem ni_dL_law_179 : decode cL_law 179 = .ok (.ishr, 1) := by decide +kernel
theorem ni_dL_law_180 : decode cL_law 180 = .ok (.iconst 3, 1) := by decide +kernel
theorem ni_dL_law_181 : decode cL_law 181 = .ok (.invokestatic 21, 3) := by decide +kernel
theorem ni_dL_law_184 : decode cL_law 184 = .ok (.ifCond .ne 24, 3) := by decide +kernel
theorem ni_dL_law_187 : decode cL_law 187 = .ok (.aload_n 1, 1) := by decide +kernel
theorem ni_dL_law_188 : decode cL_law 188 = .ok (.iload 5, 2) := by decide +kernel
theorem ni_dL_law_190 : decode cL_law 190 = .ok (.iconst 1, 1) := by decide +kernel
theorem ni_dL_law_191 : decode cL_law 191 = .ok (.iload 6, 2) := by decide +kernel
theorem ni_dL_law_193 : decode cL_law 193 = .ok (.iconst 4, 1) := by decide +kernel
theorem ni_dL_law_194 : decode cL_law 194 = .ok (.ishr, 1) := by decide +kernel
theorem ni_dL_law_195 : decode cL_law 195 = .ok (.bipush 90, 2) := by decide +kernel
theorem ni_dL_law_197 : decode cL_law 197 = .ok (.invokestatic 21, 3) := by decide +kernel
theorem ni_dL_law_200 : decode cL_law 200 = .ok (.iadd, 1) := by decide +kernel
theorem ni_dL_law_201 : decode cL_law 201 = .ok (.sipush 300, 3) := by decide +kernel
theorem ni_dL_law_204 : decode cL_law 204 = .ok (.invokevirtual 124, 3) := by decide +kernel
theorem ni_dL_law_207 : decode cL_law 207 = .ok (.pop, 1) := by decide +kernel
theorem ni_dL_law_208 : decode cL_law 208 = .ok (.iinc 5 1, 3) := by decide +kernel
theorem ni_dL_law_211 : decode cL_law 211 = .ok (.goto (-166), 3) := by decide +kernel
theorem ni_dL_law_214 : decode cL_law 214 = .ok (.iconst 0, 1) := by decide +kernel
theorem ni_dL_law_215 : decode cL_law 215 = .ok (.istore 5, 2) := by decide +kernel
theorem ni_dL_law_217 : decode cL_law 217 = .ok (.iload 5, 2) := by decide +kernel
theorem ni_dL_law_219 : decode cL_law 219 = .ok (.bipush 12, 2) := by decide +kernel
theorem ni_dL_law_221 : decode cL_law 221 = .ok (.if_icmp .ge 397, 3) := by decide +kernel
theorem ni_dL_law_224 : decode cL_law 224 = .ok (.aload_n 0, 1) := by decide +kernel
theorem ni_dL_law_225 : decode cL_law 225 = .ok (.iconst 2, 1) := by decide +kernel
theorem ni_dL_law_226 : decode cL_law 226 = .ok (.iload 5, 2) := by decide +kernel
theorem ni_dL_law_228 : decode cL_law 228 = .ok (.iadd, 1) := by decide +kernel
theorem ni_dL_law_229 : decode cL_law 229 = .ok (.invokestatic 15, 3) := by decide +kernel
theorem ni_dL_law_232 : decode cL_law 232 = .ok (.iconst 3, 1) := by decide +kernel
theorem ni_dL_law_233 : decode cL_law 233 = .ok (.ishr, 1) := by decide +kernel
theorem ni_dL_law_234 : decode cL_law 234 = .ok (.istore 6, 2) := by decide +kernel
theorem ni_dL_law_236 : decode cL_law 236 = .ok (.iload 6, 2) := by decide +kernel
theorem ni_dL_law_238 : decode cL_law 238 = .ok (.aload_n 3, 1) := by decide +kernel
theorem ni_dL_law_239 : decode cL_law 239 = .ok (.arraylength, 1) := by decide +kernel
theorem ni_dL_law_240 : decode cL_law 240 = .ok (.invokestatic 21, 3) := by decide +kernel
theorem ni_dL_law_243 : decode cL_law 243 = .ok (.istore 7, 2) := by decide +kernel
theorem ni_dL_law_245 : decode cL_law 245 = .ok (.iload 6, 2) := by decide +kernel
theorem ni_dL_law_247 : decode cL_law 247 = .ok (.iconst 3, 1) := by decide +kernel
theorem ni_dL_law_248 : decode cL_law 248 = .ok (.ishr, 1) := by decide +kernel
theorem ni_dL_law_249 : decode cL_law 249 = .ok (.bipush 7, 2) := by decide +kernel
theorem ni_dL_law_251 : decode cL_law 251 = .ok (.invokestatic 21, 3) := by decide +kernel
theorem ni_dL_law_254 : decode cL_law 254 = .ok (.tableswitch 173 0 5 #[38, 49, 49, 60, 81, 144], 38) := by decide +kernel
theorem ni_dL_law_292 : decode cL_law 292 = .ok (.aload_n 1, 1) := by decide +kernel
theorem ni_dL_law_293 : decode cL_law 293 = .ok (.iload 7, 2) := by decide +kernel
theorem ni_dL_law_295 : decode cL_law 295 = .ok (.iconst 0, 1) := by decide +kernel
theorem ni_dL_law_296 : decode cL_law 296 = .ok (.invokevirtual 127, 3) := by decide +kernel
theorem ni_dL_law_299 : decode cL_law 299 = .ok (.pop, 1) := by decide +kernel
theorem ni_dL_law_300 : decode cL_law 300 = .ok (.goto 167, 3) := by decide +kernel
theorem ni_dL_law_303 : decode cL_law 303 = .ok (.aload_n 1, 1) := by decide +kernel
theorem ni_dL_law_304 : decode cL_law 304 = .ok (.iload 7, 2) := by decide +kernel
theorem ni_dL_law_306 : decode cL_law 306 = .ok (.iconst 1, 1) := by decide +kernel
theorem ni_dL_law_307 : decode cL_law 307 = .ok (.invokevirtual 127, 3) := by decide +kernel
theorem ni_dL_law_310 : decode cL_law 310 = .ok (.pop, 1) := by decide +kernel
theorem ni_dL_law_311 : decode cL_law 311 = .ok (.goto 156, 3) := by decide +kernel
theorem ni_dL_law_314 : decode cL_law 314 = .ok (.aload_n 1, 1) := by decide +kernel
theorem ni_dL_law_315 : decode cL_law 315 = .ok (.iload 7, 2) := by decide +kernel
theorem ni_dL_law_317 : decode cL_law 317 = .ok (.iconst 1, 1) := by decide +kernel
theorem ni_dL_law_318 : decode cL_law 318 = .ok (.iload 6, 2) := by decide +kernel
theorem ni_dL_law_320 : decode cL_law 320 = .ok (.iconst 5, 1) := by decide +kernel
theorem ni_dL_law_321 : decode cL_law 321 = .ok (.ishr, 1) := by decide +kernel
theorem ni_dL_law_322 : decode cL_law 322 = .ok (.bipush 9, 2) := by decide +kernel
theorem ni_dL_law_324 : decode cL_law 324 = .ok (.invokestatic 21, 3) := by decide +kernel
theorem ni_dL_law_327 : decode cL_law 327 = .ok (.iadd, 1) := by decide +kernel
theorem ni_dL_law_328 : decode cL_law 328 = .ok (.invokevirtual 131, 3) := by decide +kernel
theorem ni_dL_law_331 : decode cL_law 331 = .ok (.pop, 1) := by decide +kernel
theorem ni_dL_law_332 : decode cL_law 332 = .ok (.goto 135, 3) := by decide +kernel
theorem ni_dL_law_335 : decode cL_law 335 = .ok (.aload_n 1, 1) := by decide +kernel
theorem ni_dL_law_336 : decode cL_law 336 = .ok (.iload 7, 2) := by decide +kernel
theorem ni_dL_law_338 : decode cL_law 338 = .ok (.iload 6, 2) := by decide +kernel
theorem ni_dL_law_340 : decode cL_law 340 = .ok (.iconst 2, 1) := by decide +kernel
theorem ni_dL_law_341 : decode cL_law 341 = .ok (.invokestatic 21, 3) := by decide +kernel
theorem ni_dL_law_344 : decode cL_law 344 = .ok (.ifCond .ne 7, 3) := by decide +kernel
theorem ni_dL_law_347 : decode cL_law 347 = .ok (.iconst 1, 1) := by decide +kernel
theorem ni_dL_law_348 : decode cL_law 348 = .ok (.goto 4, 3) := by decide +kernel
theorem ni_dL_law_351 : decode cL_law 351 = .ok (.iconst 0, 1) := by decide +kernel
theorem ni_dL_law_352 : decode cL_law 352 = .ok (.iload 6, 2) := by decide +kernel
theorem ni_dL_law_354 : decode cL_law 354 = .ok (.iconst 4, 1) := by decide +kernel
theorem ni_dL_law_355 : decode cL_law 355 = .ok (.ishr, 1) := by decide +kernel
theorem ni_dL_law_356 : decode cL_law 356 = .ok (.iconst 3, 1) := by decide +kernel
theorem ni_dL_law_357 : decode cL_law 357 = .ok (.invokestatic 21, 3) := by decide +kernel
theorem ni_dL_law_360 : decode cL_law 360 = .ok (.sipush 200, 3) := by decide +kernel
theorem ni_dL_law_363 : decode cL_law 363 = .ok (.iload 6, 2) := by decide +kernel
theorem ni_dL_law_365 : decode cL_law 365 = .ok (.iconst 5, 1) := by decide +kernel
theorem ni_dL_law_366 : decode cL_law 366 = .ok (.ishr, 1) := by decide +kernel
theorem ni_dL_law_367 : decode cL_law 367 = .ok (.sipush 900, 3) := by decide +kernel
theorem ni_dL_law_370 : decode cL_law 370 = .ok (.invokestatic 21, 3) := by decide +kernel
theorem ni_dL_law_373 : decode cL_law 373 = .ok (.iadd, 1) := by decide +kernel
theorem ni_dL_law_374 : decode cL_law 374 = .ok (.iload 6, 2) := by decide +kernel
theorem ni_dL_law_376 : decode cL_law 376 = .ok (.bipush 6, 2) := by decide +kernel
theorem ni_dL_law_378 : decode cL_law 378 = .ok (.ishr, 1) := by decide +kernel
theorem ni_dL_law_379 : decode cL_law 379 = .ok (.iconst 2, 1) := by decide +kernel
theorem ni_dL_law_380 : decode cL_law 380 = .ok (.invokestatic 21, 3) := by decide +kernel
theorem ni_dL_law_383 : decode cL_law 383 = .ok (.ifCond .ne 7, 3) := by decide +kernel
theorem ni_dL_law_386 : decode cL_law 386 = .ok (.iconst 1, 1) := by decide +kernel
