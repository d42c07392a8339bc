theorem dL_isRight_0 : decode cL_isRight 0 = .ok (.aload_n 0, 1) := by decide +kernel
theorem dL_isRight_1 : decode cL_isRight 1 = .ok (.iconst 0, 1) := by decide +kernel
theorem dL_isRight_2 : decode cL_isRight 2 = .ok (.invokevirtual 12, 3) := by decide +kernel
theorem dL_isRight_5 : decode cL_isRight 5 = .ok (.istore_n 1, 1) := by decide +kernel
theorem dL_isRight_6 : decode cL_isRight 6 = .ok (.iconst 0, 1) := by decide +kernel
theorem dL_isRight_7 : decode cL_isRight 7 = .ok (.istore_n 2, 1) := by decide +kernel
theorem dL_isRight_8 : decode cL_isRight 8 = .ok (.iconst 0, 1) := by decide +kernel
theorem dL_isRight_9 : decode cL_isRight 9 = .ok (.istore_n 3, 1) := by decide +kernel
theorem dL_isRight_10 : decode cL_isRight 10 = .ok (.iconst 0, 1) := by decide +kernel
theorem dL_isRight_11 : decode cL_isRight 11 = .ok (.istore 4, 2) := by decide +kernel
theorem dL_isRight_13 : decode cL_isRight 13 = .ok (.iconst 0, 1) := by decide +kernel
theorem dL_isRight_14 : decode cL_isRight 14 = .ok (.istore 5, 2) := by decide +kernel
theorem dL_isRight_16 : decode cL_isRight 16 = .ok (.iload 5, 2) := by decide +kernel
theorem dL_isRight_18 : decode cL_isRight 18 = .ok (.iload_n 1, 1) := by decide +kernel
theorem dL_isRight_19 : decode cL_isRight 19 = .ok (.if_icmp .ge 310, 3) := by decide +kernel
theorem dL_isRight_22 : decode cL_isRight 22 = .ok (.iconst 0, 1) := by decide +kernel
theorem dL_isRight_23 : decode cL_isRight 23 = .ok (.istore 6, 2) := by decide +kernel
theorem dL_isRight_25 : decode cL_isRight 25 = .ok (.iload 6, 2) := by decide +kernel
theorem dL_isRight_27 : decode cL_isRight 27 = .ok (.iconst 3, 1) := by decide +kernel
theorem dL_isRight_28 : decode cL_isRight 28 = .ok (.if_icmp .ge 138, 3) := by decide +kernel
theorem dL_isRight_31 : decode cL_isRight 31 = .ok (.aload_n 0, 1) := by decide +kernel
theorem dL_isRight_32 : decode cL_isRight 32 = .ok (.iload 5, 2) := by decide +kernel
theorem dL_isRight_34 : decode cL_isRight 34 = .ok (.iconst 3, 1) := by decide +kernel
theorem dL_isRight_35 : decode cL_isRight 35 = .ok (.iload 6, 2) := by decide +kernel
theorem dL_isRight_37 : decode cL_isRight 37 = .ok (.iadd, 1) := by decide +kernel
theorem dL_isRight_38 : decode cL_isRight 38 = .ok (.invokevirtual 18, 3) := by decide +kernel
theorem dL_isRight_41 : decode cL_isRight 41 = .ok (.istore 7, 2) := by decide +kernel
theorem dL_isRight_43 : decode cL_isRight 43 = .ok (.iconst 0, 1) := by decide +kernel
theorem dL_isRight_44 : decode cL_isRight 44 = .ok (.istore 8, 2) := by decide +kernel
theorem dL_isRight_46 : decode cL_isRight 46 = .ok (.aload_n 0, 1) := by decide +kernel
theorem dL_isRight_47 : decode cL_isRight 47 = .ok (.iload 5, 2) := by decide +kernel
theorem dL_isRight_49 : decode cL_isRight 49 = .ok (.iload 8, 2) := by decide +kernel
theorem dL_isRight_51 : decode cL_isRight 51 = .ok (.iconst 0, 1) := by decide +kernel
theorem dL_isRight_52 : decode cL_isRight 52 = .ok (.invokevirtual 22, 3) := by decide +kernel
theorem dL_isRight_55 : decode cL_isRight 55 = .ok (.ifCond .lt 41, 3) := by decide +kernel
theorem dL_isRight_58 : decode cL_isRight 58 = .ok (.iload 7, 2) := by decide +kernel
theorem dL_isRight_60 : decode cL_isRight 60 = .ok (.aload_n 0, 1) := by decide +kernel
theorem dL_isRight_61 : decode cL_isRight 61 = .ok (.iload 5, 2) := by decide +kernel
theorem dL_isRight_63 : decode cL_isRight 63 = .ok (.iload 8, 2) := by decide +kernel
theorem dL_isRight_65 : decode cL_isRight 65 = .ok (.iconst 0, 1) := by decide +kernel
theorem dL_isRight_66 : decode cL_isRight 66 = .ok (.invokevirtual 22, 3) := by decide +kernel
theorem dL_isRight_69 : decode cL_isRight 69 = .ok (.iload 6, 2) := by decide +kernel
theorem dL_isRight_71 : decode cL_isRight 71 = .ok (.if_icmp .ne 15, 3) := by decide +kernel
theorem dL_isRight_74 : decode cL_isRight 74 = .ok (.aload_n 0, 1) := by decide +kernel
theorem dL_isRight_75 : decode cL_isRight 75 = .ok (.iload 5, 2) := by decide +kernel
theorem dL_isRight_77 : decode cL_isRight 77 = .ok (.iload 8, 2) := by decide +kernel
theorem dL_isRight_79 : decode cL_isRight 79 = .ok (.iconst 1, 1) := by decide +kernel
theorem dL_isRight_80 : decode cL_isRight 80 = .ok (.invokevirtual 22, 3) := by decide +kernel
theorem dL_isRight_83 : decode cL_isRight 83 = .ok (.goto 4, 3) := by decide +kernel
theorem dL_isRight_86 : decode cL_isRight 86 = .ok (.iconst 0, 1) := by decide +kernel
theorem dL_isRight_87 : decode cL_isRight 87 = .ok (.iadd, 1) := by decide +kernel
theorem dL_isRight_88 : decode cL_isRight 88 = .ok (.istore 7, 2) := by decide +kernel
theorem dL_isRight_90 : decode cL_isRight 90 = .ok (.iinc 8 1, 3) := by decide +kernel
theorem dL_isRight_93 : decode cL_isRight 93 = .ok (.goto (-47), 3) := by decide +kernel
theorem dL_isRight_96 : decode cL_isRight 96 = .ok (.aload_n 0, 1) := by decide +kernel
theorem dL_isRight_97 : decode cL_isRight 97 = .ok (.iload 5, 2) := by decide +kernel
theorem dL_isRight_99 : decode cL_isRight 99 = .ok (.iload 6, 2) := by decide +kernel
theorem dL_isRight_101 : decode cL_isRight 101 = .ok (.invokevirtual 18, 3) := by decide +kernel
theorem dL_isRight_104 : decode cL_isRight 104 = .ok (.iload 7, 2) := by decide +kernel
theorem dL_isRight_106 : decode cL_isRight 106 = .ok (.if_icmp .ne 52, 3) := by decide +kernel
theorem dL_isRight_109 : decode cL_isRight 109 = .ok (.iload 7, 2) := by decide +kernel
theorem dL_isRight_111 : decode cL_isRight 111 = .ok (.bipush 40, 2) := by decide +kernel
theorem dL_isRight_113 : decode cL_isRight 113 = .ok (.if_icmp .lt 45, 3) := by decide +kernel
theorem dL_isRight_116 : decode cL_isRight 116 = .ok (.iload 7, 2) := by decide +kernel
theorem dL_isRight_118 : decode cL_isRight 118 = .ok (.aload_n 0, 1) := by decide +kernel
theorem dL_isRight_119 : decode cL_isRight 119 = .ok (.iload 5, 2) := by decide +kernel
theorem dL_isRight_121 : decode cL_isRight 121 = .ok (.iconst 3, 1) := by decide +kernel
theorem dL_isRight_122 : decode cL_isRight 122 = .ok (.iload 6, 2) := by decide +kernel
theorem dL_isRight_124 : decode cL_isRight 124 = .ok (.iadd, 1) := by decide +kernel
theorem dL_isRight_125 : decode cL_isRight 125 = .ok (.invokevirtual 18, 3) := by decide +kernel
theorem dL_isRight_128 : decode cL_isRight 128 = .ok (.bipush 20, 2) := by decide +kernel
theorem dL_isRight_130 : decode cL_isRight 130 = .ok (.isub, 1) := by decide +kernel
theorem dL_isRight_131 : decode cL_isRight 131 = .ok (.if_icmp .lt 27, 3) := by decide +kernel
theorem dL_isRight_134 : decode cL_isRight 134 = .ok (.iload 7, 2) := by decide +kernel
theorem dL_isRight_136 : decode cL_isRight 136 = .ok (.aload_n 0, 1) := by decide +kernel
theorem dL_isRight_137 : decode cL_isRight 137 = .ok (.iload 5, 2) := by decide +kernel
theorem dL_isRight_139 : decode cL_isRight 139 = .ok (.iconst 3, 1) := by decide +kernel
theorem dL_isRight_140 : decode cL_isRight 140 = .ok (.iload 6, 2) := by decide +kernel
theorem dL_isRight_142 : decode cL_isRight 142 = .ok (.iadd, 1) := by decide +kernel
theorem dL_isRight_143 : decode cL_isRight 143 = .ok (.invokevirtual 18, 3) := by decide +kernel
theorem dL_isRight_146 : decode cL_isRight 146 = .ok (.aload_n 0, 1) := by decide +kernel
theorem dL_isRight_147 : decode cL_isRight 147 = .ok (.iload 5, 2) := by decide +kernel
theorem dL_isRight_149 : decode cL_isRight 149 = .ok (.bipush 6, 2) := by decide +kernel
theorem dL_isRight_151 : decode cL_isRight 151 = .ok (.invokevirtual 18, 3) := by decide +kernel
theorem dL_isRight_154 : decode cL_isRight 154 = .ok (.iadd, 1) := by decide +kernel
theorem dL_isRight_155 : decode cL_isRight 155 = .ok (.if_icmp .le 5, 3) := by decide +kernel
theorem dL_isRight_158 : decode cL_isRight 158 = .ok (.iconst 0, 1) := by decide +kernel
theorem dL_isRight_159 : decode cL_isRight 159 = .ok (.ireturn, 1) := by decide +kernel
theorem dL_isRight_160 : decode cL_isRight 160 = .ok (.iinc 6 1, 3) := by decide +kernel
theorem dL_isRight_163 : decode cL_isRight 163 = .ok (.goto (-138), 3) := by decide +kernel
theorem dL_isRight_166 : decode cL_isRight 166 = .ok (.aload_n 0, 1) := by decide +kernel
theorem dL_isRight_167 : decode cL_isRight 167 = .ok (.iload 5, 2) := by decide +kernel
theorem dL_isRight_169 : decode cL_isRight 169 = .ok (.bipush 9, 2) := by decide +kernel
theorem dL_isRight_171 : decode cL_isRight 171 = .ok (.invokevirtual 18, 3) := by decide +kernel
theorem dL_isRight_174 : decode cL_isRight 174 = .ok (.ifCond .lt 16, 3) := by decide +kernel
theorem dL_isRight_177 : decode cL_isRight 177 = .ok (.aload_n 0, 1) := by decide +kernel
theorem dL_isRight_178 : decode cL_isRight 178 = .ok (.iload 5, 2) := by decide +kernel
theorem dL_isRight_180 : decode cL_isRight 180 = .ok (.bipush 9, 2) := by decide +kernel
theorem dL_isRight_182 : decode cL_isRight 182 = .ok (.invokevirtual 18, 3) := by decide +kernel
theorem dL_isRight_185 : decode cL_isRight 185 = .ok (.bipush 9, 2) := by decide +kernel
theorem dL_isRight_187 : decode cL_isRight 187 = .ok (.if_icmp .le 5, 3) := by decide +kernel
theorem dL_isRight_190 : decode cL_isRight 190 = .ok (.iconst 0, 1) := by decide +kernel
theorem dL_isRight_191 : decode cL_isRight 191 = .ok (.ireturn, 1) := by decide +kernel
theorem dL_isRight_192 : decode cL_isRight 192 = .ok (.iconst 0, 1) := by decide +kernel
theorem dL_isRight_193 : decode cL_isRight 193 = .ok (.istore 6, 2) := by decide +kernel
theorem dL_isRight_195 : decode cL_isRight 195 = .ok (.iload 6, 2) := by decide +kernel
theorem dL_isRight_197 : decode cL_isRight 197 = .ok (.aload_n 0, 1) := by decide +kernel
theorem dL_isRight_198 : decode cL_isRight 198 = .ok (.iconst 1, 1) := by decide +kernel
theorem dL_isRight_199 : decode cL_isRight 199 = .ok (.invokevirtual 12, 3) := by decide +kernel
theorem dL_isRight_202 : decode cL_isRight 202 = .ok (.if_icmp .ge 76, 3) := by decide +kernel
theorem dL_isRight_205 : decode cL_isRight 205 = .ok (.aload_n 0, 1) := by decide +kernel
theorem dL_isRight_206 : decode cL_isRight 206 = .ok (.iload 5, 2) := by decide +kernel
theorem dL_isRight_208 : decode cL_isRight 208 = .ok (.iload 6, 2) := by decide +kernel
theorem dL_isRight_210 : decode cL_isRight 210 = .ok (.invokevirtual 76, 3) := by decide +kernel
theorem dL_isRight_213 : decode cL_isRight 213 = .ok (.ifCond .ne 7, 3) := by decide +kernel
theorem dL_isRight_216 : decode cL_isRight 216 = .ok (.iconst 1, 1) := by decide +kernel
theorem dL_isRight_217 : decode cL_isRight 217 = .ok (.goto 4, 3) := by decide +kernel
theorem dL_isRight_220 : decode cL_isRight 220 = .ok (.iconst 0, 1) := by decide +kernel
theorem dL_isRight_221 : decode cL_isRight 221 = .ok (.aload_n 0, 1) := by decide +kernel
theorem dL_isRight_222 : decode cL_isRight 222 = .ok (.iload 5, 2) := by decide +kernel
theorem dL_isRight_224 : decode cL_isRight 224 = .ok (.iload 6, 2) := by decide +kernel
theorem dL_isRight_226 : decode cL_isRight 226 = .ok (.invokevirtual 79, 3) := by decide +kernel
theorem dL_isRight_229 : decode cL_isRight 229 = .ok (.ifCond .ne 7, 3) := by decide +kernel
theorem dL_isRight_232 : decode cL_isRight 232 = .ok (.iconst 1, 1) := by decide +kernel
theorem dL_isRight_233 : decode cL_isRight 233 = .ok (.goto 4, 3) := by decide +kernel
theorem dL_isRight_236 : decode cL_isRight 236 = .ok (.iconst 0, 1) := by decide +kernel
theorem dL_isRight_237 : decode cL_isRight 237 = .ok (.if_icmp .ne 33, 3) := by decide +kernel
theorem dL_isRight_240 : decode cL_isRight 240 = .ok (.aload_n 0, 1) := by decide +kernel
theorem dL_isRight_241 : decode cL_isRight 241 = .ok (.iload 5, 2) := by decide +kernel
theorem dL_isRight_243 : decode cL_isRight 243 = .ok (.iload 6, 2) := by decide +kernel
theorem dL_isRight_245 : decode cL_isRight 245 = .ok (.invokevirtual 79, 3) := by decide +kernel
theorem dL_isRight_248 : decode cL_isRight 248 = .ok (.ifCond .le 24, 3) := by decide +kernel
theorem dL_isRight_251 : decode cL_isRight 251 = .ok (.aload_n 0, 1) := by decide +kernel
theorem dL_isRight_252 : decode cL_isRight 252 = .ok (.iload 5, 2) := by decide +kernel
theorem dL_isRight_254 : decode cL_isRight 254 = .ok (.iload 6, 2) := by decide +kernel
theorem dL_isRight_256 : decode cL_isRight 256 = .ok (.invokevirtual 79, 3) := by decide +kernel
theorem dL_isRight_259 : decode cL_isRight 259 = .ok (.aload_n 0, 1) := by decide +kernel
theorem dL_isRight_260 : decode cL_isRight 260 = .ok (.iload 5, 2) := by decide +kernel
theorem dL_isRight_262 : decode cL_isRight 262 = .ok (.iload 6, 2) := by decide +kernel
theorem dL_isRight_264 : decode cL_isRight 264 = .ok (.invokevirtual 76, 3) := by decide +kernel
theorem dL_isRight_267 : decode cL_isRight 267 = .ok (.if_icmp .eq 5, 3) := by decide +kernel
theorem dL_isRight_270 : decode cL_isRight 270 = .ok (.iconst 0, 1) := by decide +kernel
theorem dL_isRight_271 : decode cL_isRight 271 = .ok (.ireturn, 1) := by decide +kernel
theorem dL_isRight_272 : decode cL_isRight 272 = .ok (.iinc 6 1, 3) := by decide +kernel
theorem dL_isRight_275 : decode cL_isRight 275 = .ok (.goto (-80), 3) := by decide +kernel
theorem dL_isRight_278 : decode cL_isRight 278 = .ok (.aload_n 0, 1) := by decide +kernel
theorem dL_isRight_279 : decode cL_isRight 279 = .ok (.iload 5, 2) := by decide +kernel
theorem dL_isRight_281 : decode cL_isRight 281 = .ok (.iconst 1, 1) := by decide +kernel
theorem dL_isRight_282 : decode cL_isRight 282 = .ok (.invokevirtual 82, 3) := by decide +kernel
theorem dL_isRight_285 : decode cL_isRight 285 = .ok (.aload_n 0, 1) := by decide +kernel
theorem dL_isRight_286 : decode cL_isRight 286 = .ok (.iconst 3, 1) := by decide +kernel
theorem dL_isRight_287 : decode cL_isRight 287 = .ok (.invokevirtual 12, 3) := by decide +kernel
theorem dL_isRight_290 : decode cL_isRight 290 = .ok (.if_icmp .ne 7, 3) := by decide +kernel
theorem dL_isRight_293 : decode cL_isRight 293 = .ok (.iconst 1, 1) := by decide +kernel
theorem dL_isRight_294 : decode cL_isRight 294 = .ok (.goto 4, 3) := by decide +kernel
theorem dL_isRight_297 : decode cL_isRight 297 = .ok (.iconst 0, 1) := by decide +kernel
theorem dL_isRight_298 : decode cL_isRight 298 = .ok (.aload_n 0, 1) := by decide +kernel
theorem dL_isRight_299 : decode cL_isRight 299 = .ok (.bipush 8, 2) := by decide +kernel
theorem dL_isRight_301 : decode cL_isRight 301 = .ok (.invokevirtual 12, 3) := by decide +kernel
theorem dL_isRight_304 : decode cL_isRight 304 = .ok (.iload 5, 2) := by decide +kernel
theorem dL_isRight_306 : decode cL_isRight 306 = .ok (.ishr, 1) := by decide +kernel
theorem dL_isRight_307 : decode cL_isRight 307 = .ok (.iconst 1, 1) := by decide +kernel
theorem dL_isRight_308 : decode cL_isRight 308 = .ok (.iand, 1) := by decide +kernel
theorem dL_isRight_309 : decode cL_isRight 309 = .ok (.iconst 1, 1) := by decide +kernel
theorem dL_isRight_310 : decode cL_isRight 310 = .ok (.if_icmp .ne 7, 3) := by decide +kernel
theorem dL_isRight_313 : decode cL_isRight 313 = .ok (.iconst 1, 1) := by decide +kernel
theorem dL_isRight_314 : decode cL_isRight 314 = .ok (.goto 4, 3) := by decide +kernel
theorem dL_isRight_317 : decode cL_isRight 317 = .ok (.iconst 0, 1) := by decide +kernel
theorem dL_isRight_318 : decode cL_isRight 318 = .ok (.if_icmp .ne 5, 3) := by decide +kernel
theorem dL_isRight_321 : decode cL_isRight 321 = .ok (.iconst 0, 1) := by decide +kernel
theorem dL_isRight_322 : decode cL_isRight 322 = .ok (.ireturn, 1) := by decide +kernel
theorem dL_isRight_323 : decode cL_isRight 323 = .ok (.iinc 5 1, 3) := by decide +kernel
theorem dL_isRight_326 : decode cL_isRight 326 = .ok (.goto (-310), 3) := by decide +kernel
theorem dL_isRight_329 : decode cL_isRight 329 = .ok (.iconst 0, 1) := by decide +kernel
theorem dL_isRight_330 : decode cL_isRight 330 = .ok (.istore 5, 2) := by decide +kernel
theorem dL_isRight_332 : decode cL_isRight 332 = .ok (.iload 5, 2) := by decide +kernel
theorem dL_isRight_334 : decode cL_isRight 334 = .ok (.aload_n 0, 1) := by decide +kernel
theorem dL_isRight_335 : decode cL_isRight 335 = .ok (.iconst 2, 1) := by decide +kernel
theorem dL_isRight_336 : decode cL_isRight 336 = .ok (.invokevirtual 12, 3) := by decide +kernel
theorem dL_isRight_339 : decode cL_isRight 339 = .ok (.if_icmp .ge 151, 3) := by decide +kernel
theorem dL_isRight_342 : decode cL_isRight 342 = .ok (.aload_n 0, 1) := by decide +kernel
theorem dL_isRight_343 : decode cL_isRight 343 = .ok (.iload 5, 2) := by decide +kernel
theorem dL_isRight_345 : decode cL_isRight 345 = .ok (.iconst 1, 1) := by decide +kernel
theorem dL_isRight_346 : decode cL_isRight 346 = .ok (.invokevirtual 29, 3) := by decide +kernel
theorem dL_isRight_349 : decode cL_isRight 349 = .ok (.aload_n 0, 1) := by decide +kernel
theorem dL_isRight_350 : decode cL_isRight 350 = .ok (.iload 5, 2) := by decide +kernel
theorem dL_isRight_352 : decode cL_isRight 352 = .ok (.iconst 2, 1) := by decide +kernel
theorem dL_isRight_353 : decode cL_isRight 353 = .ok (.invokevirtual 29, 3) := by decide +kernel
theorem dL_isRight_356 : decode cL_isRight 356 = .ok (.iadd, 1) := by decide +kernel
theorem dL_isRight_357 : decode cL_isRight 357 = .ok (.iconst 1, 1) := by decide +kernel
theorem dL_isRight_358 : decode cL_isRight 358 = .ok (.isub, 1) := by decide +kernel
theorem dL_isRight_359 : decode cL_isRight 359 = .ok (.istore 6, 2) := by decide +kernel
theorem dL_isRight_361 : decode cL_isRight 361 = .ok (.iload_n 3, 1) := by decide +kernel
theorem dL_isRight_362 : decode cL_isRight 362 = .ok (.aload_n 0, 1) := by decide +kernel
theorem dL_isRight_363 : decode cL_isRight 363 = .ok (.iload 5, 2) := by decide +kernel
theorem dL_isRight_365 : decode cL_isRight 365 = .ok (.iconst 3, 1) := by decide +kernel
theorem dL_isRight_366 : decode cL_isRight 366 = .ok (.invokevirtual 29, 3) := by decide +kernel
theorem dL_isRight_369 : decode cL_isRight 369 = .ok (.iadd, 1) := by decide +kernel
theorem dL_isRight_370 : decode cL_isRight 370 = .ok (.istore_n 3, 1) := by decide +kernel
theorem dL_isRight_371 : decode cL_isRight 371 = .ok (.iload_n 2, 1) := by decide +kernel
theorem dL_isRight_372 : decode cL_isRight 372 = .ok (.aload_n 0, 1) := by decide +kernel
theorem dL_isRight_373 : decode cL_isRight 373 = .ok (.iload 5, 2) := by decide +kernel
theorem dL_isRight_375 : decode cL_isRight 375 = .ok (.iconst 1, 1) := by decide +kernel
theorem dL_isRight_376 : decode cL_isRight 376 = .ok (.invokevirtual 29, 3) := by decide +kernel
theorem dL_isRight_379 : decode cL_isRight 379 = .ok (.aload_n 0, 1) := by decide +kernel
theorem dL_isRight_380 : decode cL_isRight 380 = .ok (.iconst 3, 1) := by decide +kernel
theorem dL_isRight_381 : decode cL_isRight 381 = .ok (.invokevirtual 12, 3) := by decide +kernel
theorem dL_isRight_384 : decode cL_isRight 384 = .ok (.if_icmp .gt 25, 3) := by decide +kernel
theorem dL_isRight_387 : decode cL_isRight 387 = .ok (.aload_n 0, 1) := by decide +kernel
theorem dL_isRight_388 : decode cL_isRight 388 = .ok (.iconst 3, 1) := by decide +kernel
theorem dL_isRight_389 : decode cL_isRight 389 = .ok (.invokevirtual 12, 3) := by decide +kernel
theorem dL_isRight_392 : decode cL_isRight 392 = .ok (.iload 6, 2) := by decide +kernel
theorem dL_isRight_394 : decode cL_isRight 394 = .ok (.if_icmp .gt 15, 3) := by decide +kernel
theorem dL_isRight_397 : decode cL_isRight 397 = .ok (.iconst 1, 1) := by decide +kernel
theorem dL_isRight_398 : decode cL_isRight 398 = .ok (.aload_n 0, 1) := by decide +kernel
theorem dL_isRight_399 : decode cL_isRight 399 = .ok (.iload 5, 2) := by decide +kernel
theorem dL_isRight_401 : decode cL_isRight 401 = .ok (.iconst 0, 1) := by decide +kernel
theorem dL_isRight_402 : decode cL_isRight 402 = .ok (.invokevirtual 29, 3) := by decide +kernel
theorem dL_isRight_405 : decode cL_isRight 405 = .ok (.ishl, 1) := by decide +kernel
theorem dL_isRight_406 : decode cL_isRight 406 = .ok (.goto 4, 3) := by decide +kernel
theorem dL_isRight_409 : decode cL_isRight 409 = .ok (.iconst 0, 1) := by decide +kernel
theorem dL_isRight_410 : decode cL_isRight 410 = .ok (.ior, 1) := by decide +kernel
theorem dL_isRight_411 : decode cL_isRight 411 = .ok (.istore_n 2, 1) := by decide +kernel
theorem dL_isRight_412 : decode cL_isRight 412 = .ok (.iconst 0, 1) := by decide +kernel
theorem dL_isRight_413 : decode cL_isRight 413 = .ok (.istore 7, 2) := by decide +kernel
theorem dL_isRight_415 : decode cL_isRight 415 = .ok (.iload 7, 2) := by decide +kernel
theorem dL_isRight_417 : decode cL_isRight 417 = .ok (.iload 5, 2) := by decide +kernel
theorem dL_isRight_419 : decode cL_isRight 419 = .ok (.if_icmp .ge 65, 3) := by decide +kernel
theorem dL_isRight_422 : decode cL_isRight 422 = .ok (.aload_n 0, 1) := by decide +kernel
theorem dL_isRight_423 : decode cL_isRight 423 = .ok (.iload 7, 2) := by decide +kernel
theorem dL_isRight_425 : decode cL_isRight 425 = .ok (.iconst 0, 1) := by decide +kernel
theorem dL_isRight_426 : decode cL_isRight 426 = .ok (.invokevirtual 29, 3) := by decide +kernel
theorem dL_isRight_429 : decode cL_isRight 429 = .ok (.aload_n 0, 1) := by decide +kernel
theorem dL_isRight_430 : decode cL_isRight 430 = .ok (.iload 5, 2) := by decide +kernel
theorem dL_isRight_432 : decode cL_isRight 432 = .ok (.iconst 0, 1) := by decide +kernel
theorem dL_isRight_433 : decode cL_isRight 433 = .ok (.invokevirtual 29, 3) := by decide +kernel
theorem dL_isRight_436 : decode cL_isRight 436 = .ok (.if_icmp .ne 42, 3) := by decide +kernel
theorem dL_isRight_439 : decode cL_isRight 439 = .ok (.aload_n 0, 1) := by decide +kernel
theorem dL_isRight_440 : decode cL_isRight 440 = .ok (.iload 7, 2) := by decide +kernel
theorem dL_isRight_442 : decode cL_isRight 442 = .ok (.iconst 1, 1) := by decide +kernel
theorem dL_isRight_443 : decode cL_isRight 443 = .ok (.invokevirtual 29, 3) := by decide +kernel
theorem dL_isRight_446 : decode cL_isRight 446 = .ok (.iload 6, 2) := by decide +kernel
theorem dL_isRight_448 : decode cL_isRight 448 = .ok (.if_icmp .gt 30, 3) := by decide +kernel
theorem dL_isRight_451 : decode cL_isRight 451 = .ok (.aload_n 0, 1) := by decide +kernel
theorem dL_isRight_452 : decode cL_isRight 452 = .ok (.iload 5, 2) := by decide +kernel
theorem dL_isRight_454 : decode cL_isRight 454 = .ok (.iconst 1, 1) := by decide +kernel
theorem dL_isRight_455 : decode cL_isRight 455 = .ok (.invokevirtual 29, 3) := by decide +kernel
theorem dL_isRight_458 : decode cL_isRight 458 = .ok (.aload_n 0, 1) := by decide +kernel
theorem dL_isRight_459 : decode cL_isRight 459 = .ok (.iload 7, 2) := by decide +kernel
theorem dL_isRight_461 : decode cL_isRight 461 = .ok (.iconst 1, 1) := by decide +kernel
theorem dL_isRight_462 : decode cL_isRight 462 = .ok (.invokevirtual 29, 3) := by decide +kernel
theorem dL_isRight_465 : decode cL_isRight 465 = .ok (.aload_n 0, 1) := by decide +kernel
theorem dL_isRight_466 : decode cL_isRight 466 = .ok (.iload 7, 2) := by decide +kernel
theorem dL_isRight_468 : decode cL_isRight 468 = .ok (.iconst 2, 1) := by decide +kernel
theorem dL_isRight_469 : decode cL_isRight 469 = .ok (.invokevirtual 29, 3) := by decide +kernel
theorem dL_isRight_472 : decode cL_isRight 472 = .ok (.iadd, 1) := by decide +kernel
theorem dL_isRight_473 : decode cL_isRight 473 = .ok (.if_icmp .ge 5, 3) := by decide +kernel
theorem dL_isRight_476 : decode cL_isRight 476 = .ok (.iconst 0, 1) := by decide +kernel
theorem dL_isRight_477 : decode cL_isRight 477 = .ok (.ireturn, 1) := by decide +kernel
theorem dL_isRight_478 : decode cL_isRight 478 = .ok (.iinc 7 1, 3) := by decide +kernel
theorem dL_isRight_481 : decode cL_isRight 481 = .ok (.goto (-66), 3) := by decide +kernel
theorem dL_isRight_484 : decode cL_isRight 484 = .ok (.iinc 5 1, 3) := by decide +kernel
theorem dL_isRight_487 : decode cL_isRight 487 = .ok (.goto (-155), 3) := by decide +kernel
theorem dL_isRight_490 : decode cL_isRight 490 = .ok (.iconst 0, 1) := by decide +kernel
theorem dL_isRight_491 : decode cL_isRight 491 = .ok (.istore 5, 2) := by decide +kernel
theorem dL_isRight_493 : decode cL_isRight 493 = .ok (.iload 5, 2) := by decide +kernel
theorem dL_isRight_495 : decode cL_isRight 495 = .ok (.iconst 4, 1) := by decide +kernel
theorem dL_isRight_496 : decode cL_isRight 496 = .ok (.if_icmp .ge 114, 3) := by decide +kernel
theorem dL_isRight_499 : decode cL_isRight 499 = .ok (.iconst 0, 1) := by decide +kernel
theorem dL_isRight_500 : decode cL_isRight 500 = .ok (.istore 6, 2) := by decide +kernel
theorem dL_isRight_502 : decode cL_isRight 502 = .ok (.iload 6, 2) := by decide +kernel
theorem dL_isRight_504 : decode cL_isRight 504 = .ok (.iconst 2, 1) := by decide +kernel
theorem dL_isRight_505 : decode cL_isRight 505 = .ok (.if_icmp .ge 99, 3) := by decide +kernel
theorem dL_isRight_508 : decode cL_isRight 508 = .ok (.aload_n 0, 1) := by decide +kernel
theorem dL_isRight_509 : decode cL_isRight 509 = .ok (.iload 5, 2) := by decide +kernel
theorem dL_isRight_511 : decode cL_isRight 511 = .ok (.iload 6, 2) := by decide +kernel
theorem dL_isRight_513 : decode cL_isRight 513 = .ok (.invokevirtual 85, 3) := by decide +kernel
theorem dL_isRight_516 : decode cL_isRight 516 = .ok (.istore 7, 2) := by decide +kernel
theorem dL_isRight_518 : decode cL_isRight 518 = .ok (.iconst 0, 1) := by decide +kernel
theorem dL_isRight_519 : decode cL_isRight 519 = .ok (.istore 8, 2) := by decide +kernel
theorem dL_isRight_521 : decode cL_isRight 521 = .ok (.iload 8, 2) := by decide +kernel
theorem dL_isRight_523 : decode cL_isRight 523 = .ok (.iload_n 1, 1) := by decide +kernel
theorem dL_isRight_524 : decode cL_isRight 524 = .ok (.if_icmp .ge 74, 3) := by decide +kernel
theorem dL_isRight_527 : decode cL_isRight 527 = .ok (.iload 7, 2) := by decide +kernel
theorem dL_isRight_529 : decode cL_isRight 529 = .ok (.iload 8, 2) := by decide +kernel
theorem dL_isRight_531 : decode cL_isRight 531 = .ok (.ishr, 1) := by decide +kernel
theorem dL_isRight_532 : decode cL_isRight 532 = .ok (.iconst 1, 1) := by decide +kernel
theorem dL_isRight_533 : decode cL_isRight 533 = .ok (.iand, 1) := by decide +kernel
theorem dL_isRight_534 : decode cL_isRight 534 = .ok (.iconst 1, 1) := by decide +kernel
theorem dL_isRight_535 : decode cL_isRight 535 = .ok (.if_icmp .ne 7, 3) := by decide +kernel
theorem dL_isRight_538 : decode cL_isRight 538 = .ok (.iconst 1, 1) := by decide +kernel
theorem dL_isRight_539 : decode cL_isRight 539 = .ok (.goto 4, 3) := by decide +kernel
theorem dL_isRight_542 : decode cL_isRight 542 = .ok (.iconst 0, 1) := by decide +kernel
theorem dL_isRight_543 : decode cL_isRight 543 = .ok (.istore 9, 2) := by decide +kernel
theorem dL_isRight_545 : decode cL_isRight 545 = .ok (.iload 9, 2) := by decide +kernel
theorem dL_isRight_547 : decode cL_isRight 547 = .ok (.ifCond .eq 45, 3) := by decide +kernel
theorem dL_isRight_550 : decode cL_isRight 550 = .ok (.aload_n 0, 1) := by decide +kernel
theorem dL_isRight_551 : decode cL_isRight 551 = .ok (.iload 8, 2) := by decide +kernel
theorem dL_isRight_553 : decode cL_isRight 553 = .ok (.bipush 9, 2) := by decide +kernel
theorem dL_isRight_555 : decode cL_isRight 555 = .ok (.invokevirtual 18, 3) := by decide +kernel
theorem dL_isRight_558 : decode cL_isRight 558 = .ok (.ifCond .eq 32, 3) := by decide +kernel
theorem dL_isRight_561 : decode cL_isRight 561 = .ok (.iload_n 2, 1) := by decide +kernel
theorem dL_isRight_562 : decode cL_isRight 562 = .ok (.iload 8, 2) := by decide +kernel
theorem dL_isRight_564 : decode cL_isRight 564 = .ok (.ishr, 1) := by decide +kernel
theorem dL_isRight_565 : decode cL_isRight 565 = .ok (.iconst 1, 1) := by decide +kernel
theorem dL_isRight_566 : decode cL_isRight 566 = .ok (.iand, 1) := by decide +kernel
theorem dL_isRight_567 : decode cL_isRight 567 = .ok (.iconst 1, 1) := by decide +kernel
theorem dL_isRight_568 : decode cL_isRight 568 = .ok (.if_icmp .eq 22, 3) := by decide +kernel
theorem dL_isRight_571 : decode cL_isRight 571 = .ok (.iload 5, 2) := by decide +kernel
theorem dL_isRight_573 : decode cL_isRight 573 = .ok (.iconst 3, 1) := by decide +kernel
theorem dL_isRight_574 : decode cL_isRight 574 = .ok (.if_icmp .ge 18, 3) := by decide +kernel
theorem dL_isRight_577 : decode cL_isRight 577 = .ok (.aload_n 0, 1) := by decide +kernel
theorem dL_isRight_578 : decode cL_isRight 578 = .ok (.iload 8, 2) := by decide +kernel
theorem dL_isRight_580 : decode cL_isRight 580 = .ok (.bipush 8, 2) := by decide +kernel
theorem dL_isRight_582 : decode cL_isRight 582 = .ok (.invokevirtual 18, 3) := by decide +kernel
theorem dL_isRight_585 : decode cL_isRight 585 = .ok (.iload 6, 2) := by decide +kernel
theorem dL_isRight_587 : decode cL_isRight 587 = .ok (.if_icmp .eq 5, 3) := by decide +kernel
theorem dL_isRight_590 : decode cL_isRight 590 = .ok (.iconst 0, 1) := by decide +kernel
theorem dL_isRight_591 : decode cL_isRight 591 = .ok (.ireturn, 1) := by decide +kernel
theorem dL_isRight_592 : decode cL_isRight 592 = .ok (.iinc 8 1, 3) := by decide +kernel
theorem dL_isRight_595 : decode cL_isRight 595 = .ok (.goto (-74), 3) := by decide +kernel
theorem dL_isRight_598 : decode cL_isRight 598 = .ok (.iinc 6 1, 3) := by decide +kernel
theorem dL_isRight_601 : decode cL_isRight 601 = .ok (.goto (-99), 3) := by decide +kernel
theorem dL_isRight_604 : decode cL_isRight 604 = .ok (.iinc 5 1, 3) := by decide +kernel
theorem dL_isRight_607 : decode cL_isRight 607 = .ok (.goto (-114), 3) := by decide +kernel
theorem dL_isRight_610 : decode cL_isRight 610 = .ok (.iconst 0, 1) := by decide +kernel
theorem dL_isRight_611 : decode cL_isRight 611 = .ok (.istore 5, 2) := by decide +kernel
theorem dL_isRight_613 : decode cL_isRight 613 = .ok (.iload 5, 2) := by decide +kernel
theorem dL_isRight_615 : decode cL_isRight 615 = .ok (.iconst 5, 1) := by decide +kernel
theorem dL_isRight_616 : decode cL_isRight 616 = .ok (.if_icmp .ge 20, 3) := by decide +kernel
theorem dL_isRight_619 : decode cL_isRight 619 = .ok (.iload 4, 2) := by decide +kernel
theorem dL_isRight_621 : decode cL_isRight 621 = .ok (.aload_n 0, 1) := by decide +kernel
theorem dL_isRight_622 : decode cL_isRight 622 = .ok (.iload 5, 2) := by decide +kernel
theorem dL_isRight_624 : decode cL_isRight 624 = .ok (.invokevirtual 88, 3) := by decide +kernel
theorem dL_isRight_627 : decode cL_isRight 627 = .ok (.iadd, 1) := by decide +kernel
theorem dL_isRight_628 : decode cL_isRight 628 = .ok (.istore 4, 2) := by decide +kernel
theorem dL_isRight_630 : decode cL_isRight 630 = .ok (.iinc 5 1, 3) := by decide +kernel
theorem dL_isRight_633 : decode cL_isRight 633 = .ok (.goto (-20), 3) := by decide +kernel
theorem dL_isRight_636 : decode cL_isRight 636 = .ok (.iload_n 2, 1) := by decide +kernel
theorem dL_isRight_637 : decode cL_isRight 637 = .ok (.aload_n 0, 1) := by decide +kernel
theorem dL_isRight_638 : decode cL_isRight 638 = .ok (.bipush 8, 2) := by decide +kernel
theorem dL_isRight_640 : decode cL_isRight 640 = .ok (.invokevirtual 12, 3) := by decide +kernel
theorem dL_isRight_643 : decode cL_isRight 643 = .ok (.if_icmp .ne 22, 3) := by decide +kernel
theorem dL_isRight_646 : decode cL_isRight 646 = .ok (.iload_n 3, 1) := by decide +kernel
theorem dL_isRight_647 : decode cL_isRight 647 = .ok (.aload_n 0, 1) := by decide +kernel
theorem dL_isRight_648 : decode cL_isRight 648 = .ok (.bipush 6, 2) := by decide +kernel
theorem dL_isRight_650 : decode cL_isRight 650 = .ok (.invokevirtual 12, 3) := by decide +kernel
theorem dL_isRight_653 : decode cL_isRight 653 = .ok (.if_icmp .ne 12, 3) := by decide +kernel
theorem dL_isRight_656 : decode cL_isRight 656 = .ok (.iload 4, 2) := by decide +kernel
theorem dL_isRight_658 : decode cL_isRight 658 = .ok (.ifCond .lt 7, 3) := by decide +kernel
theorem dL_isRight_661 : decode cL_isRight 661 = .ok (.iconst 1, 1) := by decide +kernel
theorem dL_isRight_662 : decode cL_isRight 662 = .ok (.goto 4, 3) := by decide +kernel
theorem dL_isRight_665 : decode cL_isRight 665 = .ok (.iconst 0, 1) := by decide +kernel
theorem dL_isRight_666 : decode cL_isRight 666 = .ok (.ireturn, 1) := by decide +kernel
theorem dL_law_0 : decode cL_law 0 = .ok (.new 13, 3) := by decide +kernel
theorem dL_law_3 : decode cL_law 3 = .ok (.dup, 1) := by decide +kernel
theorem dL_law_4 : decode cL_law 4 = .ok (.invokespecial 91, 3) := by decide +kernel
theorem dL_law_7 : decode cL_law 7 = .ok (.astore_n 1, 1) := by decide +kernel
theorem dL_law_8 : decode cL_law 8 = .ok (.iconst 0, 1) := by decide +kernel
theorem dL_law_9 : decode cL_law 9 = .ok (.istore_n 2, 1) := by decide +kernel
theorem dL_law_10 : decode cL_law 10 = .ok (.iload_n 2, 1) := by decide +kernel
theorem dL_law_11 : decode cL_law 11 = .ok (.iconst 3, 1) := by decide +kernel
theorem dL_law_12 : decode cL_law 12 = .ok (.if_icmp .ge 64, 3) := by decide +kernel
theorem dL_law_15 : decode cL_law 15 = .ok (.aload_n 0, 1) := by decide +kernel
theorem dL_law_16 : decode cL_law 16 = .ok (.iload_n 2, 1) := by decide +kernel
theorem dL_law_17 : decode cL_law 17 = .ok (.invokestatic 92, 3) := by decide +kernel
theorem dL_law_20 : decode cL_law 20 = .ok (.istore_n 3, 1) := by decide +kernel
theorem dL_law_21 : decode cL_law 21 = .ok (.aload_n 1, 1) := by decide +kernel
theorem dL_law_22 : decode cL_law 22 = .ok (.bipush 80, 2) := by decide +kernel
theorem dL_law_24 : decode cL_law 24 = .ok (.iload_n 3, 1) := by decide +kernel
theorem dL_law_25 : decode cL_law 25 = .ok (.bipush 20, 2) := by decide +kernel
theorem dL_law_27 : decode cL_law 27 = .ok (.invokestatic 32, 3) := by decide +kernel
theorem dL_law_30 : decode cL_law 30 = .ok (.iadd, 1) := by decide +kernel
theorem dL_law_31 : decode cL_law 31 = .ok (.bipush 70, 2) := by decide +kernel
theorem dL_law_33 : decode cL_law 33 = .ok (.iload_n 3, 1) := by decide +kernel
theorem dL_law_34 : decode cL_law 34 = .ok (.iconst 4, 1) := by decide +kernel
theorem dL_law_35 : decode cL_law 35 = .ok (.ishr, 1) := by decide +kernel
theorem dL_law_36 : decode cL_law 36 = .ok (.bipush 20, 2) := by decide +kernel
theorem dL_law_38 : decode cL_law 38 = .ok (.invokestatic 32, 3) := by decide +kernel
theorem dL_law_41 : decode cL_law 41 = .ok (.iadd, 1) := by decide +kernel
theorem dL_law_42 : decode cL_law 42 = .ok (.bipush 100, 2) := by decide +kernel
theorem dL_law_44 : decode cL_law 44 = .ok (.iload_n 3, 1) := by decide +kernel
theorem dL_law_45 : decode cL_law 45 = .ok (.bipush 6, 2) := by decide +kernel
theorem dL_law_47 : decode cL_law 47 = .ok (.ishr, 1) := by decide +kernel
theorem dL_law_48 : decode cL_law 48 = .ok (.bipush 9, 2) := by decide +kernel
theorem dL_law_50 : decode cL_law 50 = .ok (.invokestatic 32, 3) := by decide +kernel
theorem dL_law_53 : decode cL_law 53 = .ok (.iload_n 3, 1) := by decide +kernel
theorem dL_law_54 : decode cL_law 54 = .ok (.bipush 8, 2) := by decide +kernel
theorem dL_law_56 : decode cL_law 56 = .ok (.ishr, 1) := by decide +kernel
theorem dL_law_57 : decode cL_law 57 = .ok (.iconst 4, 1) := by decide +kernel
theorem dL_law_58 : decode cL_law 58 = .ok (.invokestatic 32, 3) := by decide +kernel
theorem dL_law_61 : decode cL_law 61 = .ok (.invokevirtual 37, 3) := by decide +kernel
theorem dL_law_64 : decode cL_law 64 = .ok (.iload_n 2, 1) := by decide +kernel
theorem dL_law_65 : decode cL_law 65 = .ok (.if_icmp .eq 5, 3) := by decide +kernel
theorem dL_law_68 : decode cL_law 68 = .ok (.iconst 0, 1) := by decide +kernel
theorem dL_law_69 : decode cL_law 69 = .ok (.ireturn, 1) := by decide +kernel
theorem dL_law_70 : decode cL_law 70 = .ok (.iinc 2 1, 3) := by decide +kernel
theorem dL_law_73 : decode cL_law 73 = .ok (.goto (-63), 3) := by decide +kernel
theorem dL_law_76 : decode cL_law 76 = .ok (.iconst 0, 1) := by decide +kernel
theorem dL_law_77 : decode cL_law 77 = .ok (.istore_n 2, 1) := by decide +kernel
theorem dL_law_78 : decode cL_law 78 = .ok (.iload_n 2, 1) := by decide +kernel
theorem dL_law_79 : decode cL_law 79 = .ok (.iconst 2, 1) := by decide +kernel
theorem dL_law_80 : decode cL_law 80 = .ok (.if_icmp .ge 49, 3) := by decide +kernel
theorem dL_law_83 : decode cL_law 83 = .ok (.aload_n 0, 1) := by decide +kernel
theorem dL_law_84 : decode cL_law 84 = .ok (.iconst 3, 1) := by decide +kernel
theorem dL_law_85 : decode cL_law 85 = .ok (.iload_n 2, 1) := by decide +kernel
theorem dL_law_86 : decode cL_law 86 = .ok (.iadd, 1) := by decide +kernel
theorem dL_law_87 : decode cL_law 87 = .ok (.invokestatic 92, 3) := by decide +kernel
theorem dL_law_90 : decode cL_law 90 = .ok (.istore_n 3, 1) := by decide +kernel
theorem dL_law_91 : decode cL_law 91 = .ok (.aload_n 1, 1) := by decide +kernel
theorem dL_law_92 : decode cL_law 92 = .ok (.bipush 76, 2) := by decide +kernel
theorem dL_law_94 : decode cL_law 94 = .ok (.iload_n 3, 1) := by decide +kernel
theorem dL_law_95 : decode cL_law 95 = .ok (.bipush 20, 2) := by decide +kernel
theorem dL_law_97 : decode cL_law 97 = .ok (.invokestatic 32, 3) := by decide +kernel
theorem dL_law_100 : decode cL_law 100 = .ok (.iadd, 1) := by decide +kernel
theorem dL_law_101 : decode cL_law 101 = .ok (.bipush 68, 2) := by decide +kernel
theorem dL_law_103 : decode cL_law 103 = .ok (.iload_n 3, 1) := by decide +kernel
theorem dL_law_104 : decode cL_law 104 = .ok (.iconst 4, 1) := by decide +kernel
theorem dL_law_105 : decode cL_law 105 = .ok (.ishr, 1) := by decide +kernel
theorem dL_law_106 : decode cL_law 106 = .ok (.bipush 20, 2) := by decide +kernel
theorem dL_law_108 : decode cL_law 108 = .ok (.invokestatic 32, 3) := by decide +kernel
theorem dL_law_111 : decode cL_law 111 = .ok (.iadd, 1) := by decide +kernel
theorem dL_law_112 : decode cL_law 112 = .ok (.bipush 96, 2) := by decide +kernel
theorem dL_law_114 : decode cL_law 114 = .ok (.invokevirtual 41, 3) := by decide +kernel
theorem dL_law_117 : decode cL_law 117 = .ok (.iload_n 2, 1) := by decide +kernel
theorem dL_law_118 : decode cL_law 118 = .ok (.if_icmp .eq 5, 3) := by decide +kernel
theorem dL_law_121 : decode cL_law 121 = .ok (.iconst 0, 1) := by decide +kernel
theorem dL_law_122 : decode cL_law 122 = .ok (.ireturn, 1) := by decide +kernel
theorem dL_law_123 : decode cL_law 123 = .ok (.iinc 2 1, 3) := by decide +kernel
theorem dL_law_126 : decode cL_law 126 = .ok (.goto (-48), 3) := by decide +kernel
theorem dL_law_129 : decode cL_law 129 = .ok (.iconst 0, 1) := by decide +kernel
theorem dL_law_130 : decode cL_law 130 = .ok (.istore_n 2, 1) := by decide +kernel
theorem dL_law_131 : decode cL_law 131 = .ok (.iload_n 2, 1) := by decide +kernel
theorem dL_law_132 : decode cL_law 132 = .ok (.bipush 16, 2) := by decide +kernel
theorem dL_law_134 : decode cL_law 134 = .ok (.if_icmp .ge 291, 3) := by decide +kernel
theorem dL_law_137 : decode cL_law 137 = .ok (.aload_n 0, 1) := by decide +kernel
theorem dL_law_138 : decode cL_law 138 = .ok (.iconst 4, 1) := by decide +kernel
theorem dL_law_139 : decode cL_law 139 = .ok (.iload_n 2, 1) := by decide +kernel
theorem dL_law_140 : decode cL_law 140 = .ok (.iadd, 1) := by decide +kernel
theorem dL_law_141 : decode cL_law 141 = .ok (.invokestatic 92, 3) := by decide +kernel
theorem dL_law_144 : decode cL_law 144 = .ok (.istore_n 3, 1) := by decide +kernel
theorem dL_law_145 : decode cL_law 145 = .ok (.aload_n 1, 1) := by decide +kernel
theorem dL_law_146 : decode cL_law 146 = .ok (.invokestatic 96, 3) := by decide +kernel
theorem dL_law_149 : decode cL_law 149 = .ok (.lstore 4, 2) := by decide +kernel
theorem dL_law_151 : decode cL_law 151 = .ok (.aload_n 1, 1) := by decide +kernel
theorem dL_law_152 : decode cL_law 152 = .ok (.iconst 0, 1) := by decide +kernel
theorem dL_law_153 : decode cL_law 153 = .ok (.invokevirtual 88, 3) := by decide +kernel
theorem dL_law_156 : decode cL_law 156 = .ok (.aload_n 1, 1) := by decide +kernel
theorem dL_law_157 : decode cL_law 157 = .ok (.iconst 1, 1) := by decide +kernel
theorem dL_law_158 : decode cL_law 158 = .ok (.invokevirtual 88, 3) := by decide +kernel
theorem dL_law_161 : decode cL_law 161 = .ok (.iadd, 1) := by decide +kernel
theorem dL_law_162 : decode cL_law 162 = .ok (.aload_n 1, 1) := by decide +kernel
theorem dL_law_163 : decode cL_law 163 = .ok (.iconst 2, 1) := by decide +kernel
theorem dL_law_164 : decode cL_law 164 = .ok (.invokevirtual 88, 3) := by decide +kernel
theorem dL_law_167 : decode cL_law 167 = .ok (.iadd, 1) := by decide +kernel
theorem dL_law_168 : decode cL_law 168 = .ok (.aload_n 1, 1) := by decide +kernel
theorem dL_law_169 : decode cL_law 169 = .ok (.iconst 3, 1) := by decide +kernel
theorem dL_law_170 : decode cL_law 170 = .ok (.invokevirtual 88, 3) := by decide +kernel
theorem dL_law_173 : decode cL_law 173 = .ok (.iadd, 1) := by decide +kernel
theorem dL_law_174 : decode cL_law 174 = .ok (.aload_n 1, 1) := by decide +kernel
theorem dL_law_175 : decode cL_law 175 = .ok (.iconst 4, 1) := by decide +kernel
theorem dL_law_176 : decode cL_law 176 = .ok (.invokevirtual 88, 3) := by decide +kernel
theorem dL_law_179 : decode cL_law 179 = .ok (.iadd, 1) := by decide +kernel
theorem dL_law_180 : decode cL_law 180 = .ok (.istore 6, 2) := by decide +kernel
theorem dL_law_182 : decode cL_law 182 = .ok (.aload_n 1, 1) := by decide +kernel
theorem dL_law_183 : decode cL_law 183 = .ok (.iload_n 3, 1) := by decide +kernel
theorem dL_law_184 : decode cL_law 184 = .ok (.invokestatic 100, 3) := by decide +kernel
theorem dL_law_187 : decode cL_law 187 = .ok (.istore 7, 2) := by decide +kernel
theorem dL_law_189 : decode cL_law 189 = .ok (.iload 7, 2) := by decide +kernel
theorem dL_law_191 : decode cL_law 191 = .ok (.sipush (-2000), 3) := by decide +kernel
theorem dL_law_194 : decode cL_law 194 = .ok (.if_icmp .ge 13, 3) := by decide +kernel
theorem dL_law_197 : decode cL_law 197 = .ok (.aload_n 1, 1) := by decide +kernel
theorem dL_law_198 : decode cL_law 198 = .ok (.invokestatic 96, 3) := by decide +kernel
theorem dL_law_201 : decode cL_law 201 = .ok (.lload 4, 2) := by decide +kernel
theorem dL_law_203 : decode cL_law 203 = .ok (.lcmp, 1) := by decide +kernel
theorem dL_law_204 : decode cL_law 204 = .ok (.ifCond .ne 45, 3) := by decide +kernel
theorem dL_law_207 : decode cL_law 207 = .ok (.aload_n 1, 1) := by decide +kernel
theorem dL_law_208 : decode cL_law 208 = .ok (.invokestatic 104, 3) := by decide +kernel
theorem dL_law_211 : decode cL_law 211 = .ok (.ifCond .eq 38, 3) := by decide +kernel
theorem dL_law_214 : decode cL_law 214 = .ok (.iload_n 3, 1) := by decide +kernel
theorem dL_law_215 : decode cL_law 215 = .ok (.bipush 15, 2) := by decide +kernel
theorem dL_law_217 : decode cL_law 217 = .ok (.iand, 1) := by decide +kernel
theorem dL_law_218 : decode cL_law 218 = .ok (.bipush 10, 2) := by decide +kernel
theorem dL_law_220 : decode cL_law 220 = .ok (.if_icmp .ne 31, 3) := by decide +kernel
theorem dL_law_223 : decode cL_law 223 = .ok (.iload 7, 2) := by decide +kernel
theorem dL_law_225 : decode cL_law 225 = .ok (.sipush (-2002), 3) := by decide +kernel
theorem dL_law_228 : decode cL_law 228 = .ok (.if_icmp .ne 7, 3) := by decide +kernel
theorem dL_law_231 : decode cL_law 231 = .ok (.iconst 1, 1) := by decide +kernel
theorem dL_law_232 : decode cL_law 232 = .ok (.goto 4, 3) := by decide +kernel
theorem dL_law_235 : decode cL_law 235 = .ok (.iconst 0, 1) := by decide +kernel
theorem dL_law_236 : decode cL_law 236 = .ok (.iload 6, 2) := by decide +kernel
theorem dL_law_238 : decode cL_law 238 = .ok (.ifCond .le 7, 3) := by decide +kernel
theorem dL_law_241 : decode cL_law 241 = .ok (.iconst 1, 1) := by decide +kernel
theorem dL_law_242 : decode cL_law 242 = .ok (.goto 4, 3) := by decide +kernel
theorem dL_law_245 : decode cL_law 245 = .ok (.iconst 0, 1) := by decide +kernel
theorem dL_law_246 : decode cL_law 246 = .ok (.if_icmp .eq 5, 3) := by decide +kernel
theorem dL_law_249 : decode cL_law 249 = .ok (.iconst 0, 1) := by decide +kernel
theorem dL_law_250 : decode cL_law 250 = .ok (.ireturn, 1) := by decide +kernel
theorem dL_law_251 : decode cL_law 251 = .ok (.iload 7, 2) := by decide +kernel
theorem dL_law_253 : decode cL_law 253 = .ok (.iconst (-1), 1) := by decide +kernel
theorem dL_law_254 : decode cL_law 254 = .ok (.if_icmp .lt 55, 3) := by decide +kernel
theorem dL_law_257 : decode cL_law 257 = .ok (.iload_n 2, 1) := by decide +kernel
theorem dL_law_258 : decode cL_law 258 = .ok (.iconst 3, 1) := by decide +kernel
theorem dL_law_259 : decode cL_law 259 = .ok (.iand, 1) := by decide +kernel
theorem dL_law_260 : decode cL_law 260 = .ok (.iconst 2, 1) := by decide +kernel
theorem dL_law_261 : decode cL_law 261 = .ok (.if_icmp .ne 48, 3) := by decide +kernel
theorem dL_law_264 : decode cL_law 264 = .ok (.aload_n 1, 1) := by decide +kernel
theorem dL_law_265 : decode cL_law 265 = .ok (.invokestatic 96, 3) := by decide +kernel
theorem dL_law_268 : decode cL_law 268 = .ok (.lstore 8, 2) := by decide +kernel
theorem dL_law_270 : decode cL_law 270 = .ok (.aload_n 1, 1) := by decide +kernel
theorem dL_law_271 : decode cL_law 271 = .ok (.invokevirtual 108, 3) := by decide +kernel
theorem dL_law_274 : decode cL_law 274 = .ok (.ifCond .lt 33, 3) := by decide +kernel
theorem dL_law_277 : decode cL_law 277 = .ok (.aload_n 1, 1) := by decide +kernel
theorem dL_law_278 : decode cL_law 278 = .ok (.invokestatic 96, 3) := by decide +kernel
theorem dL_law_281 : decode cL_law 281 = .ok (.lload 4, 2) := by decide +kernel
theorem dL_law_283 : decode cL_law 283 = .ok (.lcmp, 1) := by decide +kernel
theorem dL_law_284 : decode cL_law 284 = .ok (.ifCond .ne 23, 3) := by decide +kernel
theorem dL_law_287 : decode cL_law 287 = .ok (.aload_n 1, 1) := by decide +kernel
theorem dL_law_288 : decode cL_law 288 = .ok (.iload_n 3, 1) := by decide +kernel
theorem dL_law_289 : decode cL_law 289 = .ok (.invokestatic 100, 3) := by decide +kernel
theorem dL_law_292 : decode cL_law 292 = .ok (.iload 7, 2) := by decide +kernel
theorem dL_law_294 : decode cL_law 294 = .ok (.if_icmp .ne 13, 3) := by decide +kernel
theorem dL_law_297 : decode cL_law 297 = .ok (.aload_n 1, 1) := by decide +kernel
theorem dL_law_298 : decode cL_law 298 = .ok (.invokestatic 96, 3) := by decide +kernel
theorem dL_law_301 : decode cL_law 301 = .ok (.lload 8, 2) := by decide +kernel
theorem dL_law_303 : decode cL_law 303 = .ok (.lcmp, 1) := by decide +kernel
theorem dL_law_304 : decode cL_law 304 = .ok (.ifCond .eq 5, 3) := by decide +kernel
theorem dL_law_307 : decode cL_law 307 = .ok (.iconst 0, 1) := by decide +kernel
theorem dL_law_308 : decode cL_law 308 = .ok (.ireturn, 1) := by decide +kernel
theorem dL_law_309 : decode cL_law 309 = .ok (.iload_n 2, 1) := by decide +kernel
theorem dL_law_310 : decode cL_law 310 = .ok (.iconst 4, 1) := by decide +kernel
theorem dL_law_311 : decode cL_law 311 = .ok (.irem, 1) := by decide +kernel
theorem dL_law_312 : decode cL_law 312 = .ok (.iconst 1, 1) := by decide +kernel
theorem dL_law_313 : decode cL_law 313 = .ok (.if_icmp .ne 106, 3) := by decide +kernel
theorem dL_law_316 : decode cL_law 316 = .ok (.aload_n 1, 1) := by decide +kernel
theorem dL_law_317 : decode cL_law 317 = .ok (.invokestatic 96, 3) := by decide +kernel
theorem dL_law_320 : decode cL_law 320 = .ok (.lstore 8, 2) := by decide +kernel
theorem dL_law_322 : decode cL_law 322 = .ok (.aload_n 1, 1) := by decide +kernel
theorem dL_law_323 : decode cL_law 323 = .ok (.iload_n 3, 1) := by decide +kernel
theorem dL_law_324 : decode cL_law 324 = .ok (.bipush 12, 2) := by decide +kernel
theorem dL_law_326 : decode cL_law 326 = .ok (.invokestatic 32, 3) := by decide +kernel
theorem dL_law_329 : decode cL_law 329 = .ok (.iload_n 3, 1) := by decide +kernel
theorem dL_law_330 : decode cL_law 330 = .ok (.iconst 4, 1) := by decide +kernel
theorem dL_law_331 : decode cL_law 331 = .ok (.ishr, 1) := by decide +kernel
theorem dL_law_332 : decode cL_law 332 = .ok (.iconst 2, 1) := by decide +kernel
theorem dL_law_333 : decode cL_law 333 = .ok (.invokestatic 32, 3) := by decide +kernel
theorem dL_law_336 : decode cL_law 336 = .ok (.invokevirtual 111, 3) := by decide +kernel
theorem dL_law_339 : decode cL_law 339 = .ok (.istore 10, 2) := by decide +kernel
theorem dL_law_341 : decode cL_law 341 = .ok (.iload 10, 2) := by decide +kernel
theorem dL_law_343 : decode cL_law 343 = .ok (.ifCond .ge 7, 3) := by decide +kernel
theorem dL_law_346 : decode cL_law 346 = .ok (.iconst 0, 1) := by decide +kernel
theorem dL_law_347 : decode cL_law 347 = .ok (.goto 16, 3) := by decide +kernel
theorem dL_law_350 : decode cL_law 350 = .ok (.aload_n 1, 1) := by decide +kernel
theorem dL_law_351 : decode cL_law 351 = .ok (.iload 10, 2) := by decide +kernel
theorem dL_law_353 : decode cL_law 353 = .ok (.iload_n 3, 1) := by decide +kernel
theorem dL_law_354 : decode cL_law 354 = .ok (.iconst 4, 1) := by decide +kernel
theorem dL_law_355 : decode cL_law 355 = .ok (.ishr, 1) := by decide +kernel
theorem dL_law_356 : decode cL_law 356 = .ok (.iconst 2, 1) := by decide +kernel
theorem dL_law_357 : decode cL_law 357 = .ok (.invokestatic 32, 3) := by decide +kernel
theorem dL_law_360 : decode cL_law 360 = .ok (.invokevirtual 79, 3) := by decide +kernel
theorem dL_law_363 : decode cL_law 363 = .ok (.istore 11, 2) := by decide +kernel
theorem dL_law_365 : decode cL_law 365 = .ok (.iload 11, 2) := by decide +kernel
theorem dL_law_367 : decode cL_law 367 = .ok (.ifCond .lt 50, 3) := by decide +kernel
theorem dL_law_370 : decode cL_law 370 = .ok (.iload 10, 2) := by decide +kernel
theorem dL_law_372 : decode cL_law 372 = .ok (.ifCond .lt 35, 3) := by decide +kernel
theorem dL_law_375 : decode cL_law 375 = .ok (.aload_n 1, 1) := by decide +kernel
theorem dL_law_376 : decode cL_law 376 = .ok (.iload 10, 2) := by decide +kernel
theorem dL_law_378 : decode cL_law 378 = .ok (.bipush 9, 2) := by decide +kernel
theorem dL_law_380 : decode cL_law 380 = .ok (.invokevirtual 18, 3) := by decide +kernel
theorem dL_law_383 : decode cL_law 383 = .ok (.aload_n 1, 1) := by decide +kernel
theorem dL_law_384 : decode cL_law 384 = .ok (.bipush 15, 2) := by decide +kernel
theorem dL_law_386 : decode cL_law 386 = .ok (.invokevirtual 12, 3) := by decide +kernel
theorem dL_law_389 : decode cL_law 389 = .ok (.if_icmp .ge 28, 3) := by decide +kernel
theorem dL_law_392 : decode cL_law 392 = .ok (.aload_n 1, 1) := by decide +kernel
theorem dL_law_393 : decode cL_law 393 = .ok (.bipush 8, 2) := by decide +kernel
theorem dL_law_395 : decode cL_law 395 = .ok (.invokevirtual 12, 3) := by decide +kernel
theorem dL_law_398 : decode cL_law 398 = .ok (.iload 10, 2) := by decide +kernel
theorem dL_law_400 : decode cL_law 400 = .ok (.ishr, 1) := by decide +kernel
theorem dL_law_401 : decode cL_law 401 = .ok (.iconst 1, 1) := by decide +kernel
theorem dL_law_402 : decode cL_law 402 = .ok (.iand, 1) := by decide +kernel
theorem dL_law_403 : decode cL_law 403 = .ok (.iconst 1, 1) := by decide +kernel
theorem dL_law_404 : decode cL_law 404 = .ok (.if_icmp .eq 13, 3) := by decide +kernel
theorem dL_law_407 : decode cL_law 407 = .ok (.aload_n 1, 1) := by decide +kernel
theorem dL_law_408 : decode cL_law 408 = .ok (.invokestatic 96, 3) := by decide +kernel
theorem dL_law_411 : decode cL_law 411 = .ok (.lload 8, 2) := by decide +kernel
theorem dL_law_413 : decode cL_law 413 = .ok (.lcmp, 1) := by decide +kernel
theorem dL_law_414 : decode cL_law 414 = .ok (.ifCond .eq 5, 3) := by decide +kernel
theorem dL_law_417 : decode cL_law 417 = .ok (.iconst 0, 1) := by decide +kernel
theorem dL_law_418 : decode cL_law 418 = .ok (.ireturn, 1) := by decide +kernel
theorem dL_law_419 : decode cL_law 419 = .ok (.iinc 2 1, 3) := by decide +kernel
theorem dL_law_422 : decode cL_law 422 = .ok (.goto (-291), 3) := by decide +kernel
theorem dL_law_425 : decode cL_law 425 = .ok (.aload_n 1, 1) := by decide +kernel
theorem dL_law_426 : decode cL_law 426 = .ok (.invokestatic 96, 3) := by decide +kernel
theorem dL_law_429 : decode cL_law 429 = .ok (.lstore_n 2, 1) := by decide +kernel
theorem dL_law_430 : decode cL_law 430 = .ok (.aload_n 1, 1) := by decide +kernel
theorem dL_law_431 : decode cL_law 431 = .ok (.bipush 39, 2) := by decide +kernel
theorem dL_law_433 : decode cL_law 433 = .ok (.bipush 80, 2) := by decide +kernel
theorem dL_law_435 : decode cL_law 435 = .ok (.bipush 80, 2) := by decide +kernel
theorem dL_law_437 : decode cL_law 437 = .ok (.iconst 0, 1) := by decide +kernel
theorem dL_law_438 : decode cL_law 438 = .ok (.iconst 0, 1) := by decide +kernel
theorem dL_law_439 : decode cL_law 439 = .ok (.invokevirtual 37, 3) := by decide +kernel
theorem dL_law_442 : decode cL_law 442 = .ok (.sipush (-2001), 3) := by decide +kernel
theorem dL_law_445 : decode cL_law 445 = .ok (.if_icmp .ne 91, 3) := by decide +kernel
theorem dL_law_448 : decode cL_law 448 = .ok (.aload_n 1, 1) := by decide +kernel
theorem dL_law_449 : decode cL_law 449 = .ok (.sipush 201, 3) := by decide +kernel
theorem dL_law_452 : decode cL_law 452 = .ok (.bipush 80, 2) := by decide +kernel
theorem dL_law_454 : decode cL_law 454 = .ok (.bipush 80, 2) := by decide +kernel
theorem dL_law_456 : decode cL_law 456 = .ok (.invokevirtual 41, 3) := by decide +kernel
theorem dL_law_459 : decode cL_law 459 = .ok (.sipush (-2001), 3) := by decide +kernel
theorem dL_law_462 : decode cL_law 462 = .ok (.if_icmp .ne 74, 3) := by decide +kernel
theorem dL_law_465 : decode cL_law 465 = .ok (.aload_n 1, 1) := by decide +kernel
theorem dL_law_466 : decode cL_law 466 = .ok (.iconst 3, 1) := by decide +kernel
theorem dL_law_467 : decode cL_law 467 = .ok (.iconst 0, 1) := by decide +kernel
theorem dL_law_468 : decode cL_law 468 = .ok (.invokevirtual 47, 3) := by decide +kernel
theorem dL_law_471 : decode cL_law 471 = .ok (.sipush (-2001), 3) := by decide +kernel
theorem dL_law_474 : decode cL_law 474 = .ok (.if_icmp .ne 62, 3) := by decide +kernel
theorem dL_law_477 : decode cL_law 477 = .ok (.aload_n 1, 1) := by decide +kernel
theorem dL_law_478 : decode cL_law 478 = .ok (.iconst 0, 1) := by decide +kernel
theorem dL_law_479 : decode cL_law 479 = .ok (.iconst 3, 1) := by decide +kernel
theorem dL_law_480 : decode cL_law 480 = .ok (.iconst 1, 1) := by decide +kernel
theorem dL_law_481 : decode cL_law 481 = .ok (.invokevirtual 50, 3) := by decide +kernel
theorem dL_law_484 : decode cL_law 484 = .ok (.sipush (-2001), 3) := by decide +kernel
theorem dL_law_487 : decode cL_law 487 = .ok (.if_icmp .ne 49, 3) := by decide +kernel
theorem dL_law_490 : decode cL_law 490 = .ok (.aload_n 1, 1) := by decide +kernel
theorem dL_law_491 : decode cL_law 491 = .ok (.iconst 0, 1) := by decide +kernel
theorem dL_law_492 : decode cL_law 492 = .ok (.iconst 0, 1) := by decide +kernel
theorem dL_law_493 : decode cL_law 493 = .ok (.bipush (-2), 2) := by decide +kernel
theorem dL_law_495 : decode cL_law 495 = .ok (.invokevirtual 56, 3) := by decide +kernel
theorem dL_law_498 : decode cL_law 498 = .ok (.sipush (-2001), 3) := by decide +kernel
theorem dL_law_501 : decode cL_law 501 = .ok (.if_icmp .ne 35, 3) := by decide +kernel
theorem dL_law_504 : decode cL_law 504 = .ok (.aload_n 1, 1) := by decide +kernel
theorem dL_law_505 : decode cL_law 505 = .ok (.bipush 61, 2) := by decide +kernel
theorem dL_law_507 : decode cL_law 507 = .ok (.invokevirtual 63, 3) := by decide +kernel
theorem dL_law_510 : decode cL_law 510 = .ok (.sipush (-2001), 3) := by decide +kernel
theorem dL_law_513 : decode cL_law 513 = .ok (.if_icmp .ne 23, 3) := by decide +kernel
theorem dL_law_516 : decode cL_law 516 = .ok (.aload_n 1, 1) := by decide +kernel
theorem dL_law_517 : decode cL_law 517 = .ok (.iconst 5, 1) := by decide +kernel
theorem dL_law_518 : decode cL_law 518 = .ok (.invokevirtual 88, 3) := by decide +kernel
theorem dL_law_521 : decode cL_law 521 = .ok (.sipush (-2001), 3) := by decide +kernel
theorem dL_law_524 : decode cL_law 524 = .ok (.if_icmp .ne 12, 3) := by decide +kernel
theorem dL_law_527 : decode cL_law 527 = .ok (.aload_n 1, 1) := by decide +kernel
theorem dL_law_528 : decode cL_law 528 = .ok (.invokestatic 96, 3) := by decide +kernel
theorem dL_law_531 : decode cL_law 531 = .ok (.lload_n 2, 1) := by decide +kernel
theorem dL_law_532 : decode cL_law 532 = .ok (.lcmp, 1) := by decide +kernel
theorem dL_law_533 : decode cL_law 533 = .ok (.ifCond .eq 5, 3) := by decide +kernel
theorem dL_law_536 : decode cL_law 536 = .ok (.iconst 0, 1) := by decide +kernel
theorem dL_law_537 : decode cL_law 537 = .ok (.ireturn, 1) := by decide +kernel
theorem dL_law_538 : decode cL_law 538 = .ok (.aload_n 1, 1) := by decide +kernel
theorem dL_law_539 : decode cL_law 539 = .ok (.invokevirtual 114, 3) := by decide +kernel
theorem dL_law_542 : decode cL_law 542 = .ok (.ifCond .ne 41, 3) := by decide +kernel
theorem dL_law_545 : decode cL_law 545 = .ok (.aload_n 1, 1) := by decide +kernel
theorem dL_law_546 : decode cL_law 546 = .ok (.invokestatic 96, 3) := by decide +kernel
theorem dL_law_549 : decode cL_law 549 = .ok (.lload_n 2, 1) := by decide +kernel
theorem dL_law_550 : decode cL_law 550 = .ok (.lcmp, 1) := by decide +kernel
theorem dL_law_551 : decode cL_law 551 = .ok (.ifCond .ne 32, 3) := by decide +kernel
theorem dL_law_554 : decode cL_law 554 = .ok (.aload_n 1, 1) := by decide +kernel
theorem dL_law_555 : decode cL_law 555 = .ok (.bipush 16, 2) := by decide +kernel
theorem dL_law_557 : decode cL_law 557 = .ok (.invokevirtual 12, 3) := by decide +kernel
theorem dL_law_560 : decode cL_law 560 = .ok (.sipush (-2001), 3) := by decide +kernel
theorem dL_law_563 : decode cL_law 563 = .ok (.if_icmp .ne 20, 3) := by decide +kernel
theorem dL_law_566 : decode cL_law 566 = .ok (.aload_n 1, 1) := by decide +kernel
theorem dL_law_567 : decode cL_law 567 = .ok (.sipush 256, 3) := by decide +kernel
theorem dL_law_570 : decode cL_law 570 = .ok (.invokevirtual 117, 3) := by decide +kernel
theorem dL_law_573 : decode cL_law 573 = .ok (.sipush (-2001), 3) := by decide +kernel
theorem dL_law_576 : decode cL_law 576 = .ok (.if_icmp .ne 7, 3) := by decide +kernel
theorem dL_law_579 : decode cL_law 579 = .ok (.iconst 1, 1) := by decide +kernel
theorem dL_law_580 : decode cL_law 580 = .ok (.goto 4, 3) := by decide +kernel
theorem dL_law_583 : decode cL_law 583 = .ok (.iconst 0, 1) := by decide +kernel
theorem dL_law_584 : decode cL_law 584 = .ok (.ireturn, 1) := by decide +kernel
