theorem dL_below_0 : decode cL_below 0 = .ok (.iload_n 0, 1) := by decide +kernel
theorem dL_below_1 : decode cL_below 1 = .ok (.ldc 7, 2) := by decide +kernel
theorem dL_below_3 : decode cL_below 3 = .ok (.iand, 1) := by decide +kernel
theorem dL_below_4 : decode cL_below 4 = .ok (.iload_n 1, 1) := by decide +kernel
theorem dL_below_5 : decode cL_below 5 = .ok (.irem, 1) := by decide +kernel
theorem dL_below_6 : decode cL_below 6 = .ok (.ireturn, 1) := by decide +kernel
theorem dL_cell_0 : decode cL_cell 0 = .ok (.iload_n 1, 1) := by decide +kernel
theorem dL_cell_1 : decode cL_cell 1 = .ok (.aload_n 0, 1) := by decide +kernel
theorem dL_cell_2 : decode cL_cell 2 = .ok (.arraylength, 1) := by decide +kernel
theorem dL_cell_3 : decode cL_cell 3 = .ok (.if_icmp .ge 9, 3) := by decide +kernel
theorem dL_cell_6 : decode cL_cell 6 = .ok (.aload_n 0, 1) := by decide +kernel
theorem dL_cell_7 : decode cL_cell 7 = .ok (.iload_n 1, 1) := by decide +kernel
theorem dL_cell_8 : decode cL_cell 8 = .ok (.iaload, 1) := by decide +kernel
theorem dL_cell_9 : decode cL_cell 9 = .ok (.goto 9, 3) := by decide +kernel
theorem dL_cell_12 : decode cL_cell 12 = .ok (.ldc 8, 2) := by decide +kernel
theorem dL_cell_14 : decode cL_cell 14 = .ok (.iload_n 1, 1) := by decide +kernel
theorem dL_cell_15 : decode cL_cell 15 = .ok (.iconst 3, 1) := by decide +kernel
theorem dL_cell_16 : decode cL_cell 16 = .ok (.iadd, 1) := by decide +kernel
theorem dL_cell_17 : decode cL_cell 17 = .ok (.imul, 1) := by decide +kernel
theorem dL_cell_18 : decode cL_cell 18 = .ok (.ireturn, 1) := by decide +kernel
theorem dL_build_0 : decode cL_build 0 = .ok (.new 9, 3) := by decide +kernel
theorem dL_build_3 : decode cL_build 3 = .ok (.dup, 1) := by decide +kernel
theorem dL_build_4 : decode cL_build 4 = .ok (.invokespecial 11, 3) := by decide +kernel
theorem dL_build_7 : decode cL_build 7 = .ok (.astore_n 2, 1) := by decide +kernel
theorem dL_build_8 : decode cL_build 8 = .ok (.aload_n 2, 1) := by decide +kernel
theorem dL_build_9 : decode cL_build 9 = .ok (.bipush 100, 2) := by decide +kernel
theorem dL_build_11 : decode cL_build 11 = .ok (.aload_n 1, 1) := by decide +kernel
theorem dL_build_12 : decode cL_build 12 = .ok (.iconst 0, 1) := by decide +kernel
theorem dL_build_13 : decode cL_build 13 = .ok (.invokestatic 12, 3) := by decide +kernel
theorem dL_build_16 : decode cL_build 16 = .ok (.sipush 700, 3) := by decide +kernel
theorem dL_build_19 : decode cL_build 19 = .ok (.invokestatic 18, 3) := by decide +kernel
theorem dL_build_22 : decode cL_build 22 = .ok (.iadd, 1) := by decide +kernel
theorem dL_build_23 : decode cL_build 23 = .ok (.putfield 22, 3) := by decide +kernel
theorem dL_build_26 : decode cL_build 26 = .ok (.aload_n 0, 1) := by decide +kernel
theorem dL_build_27 : decode cL_build 27 = .ok (.aload_n 2, 1) := by decide +kernel
theorem dL_build_28 : decode cL_build 28 = .ok (.getfield 22, 3) := by decide +kernel
theorem dL_build_31 : decode cL_build 31 = .ok (.invokevirtual 26, 3) := by decide +kernel
theorem dL_build_34 : decode cL_build 34 = .ok (.sipush 500, 3) := by decide +kernel
theorem dL_build_37 : decode cL_build 37 = .ok (.if_icmp .eq 5, 3) := by decide +kernel
theorem dL_build_40 : decode cL_build 40 = .ok (.aconst_null, 1) := by decide +kernel
theorem dL_build_41 : decode cL_build 41 = .ok (.areturn, 1) := by decide +kernel
theorem dL_build_42 : decode cL_build 42 = .ok (.aload_n 1, 1) := by decide +kernel
theorem dL_build_43 : decode cL_build 43 = .ok (.iconst 0, 1) := by decide +kernel
theorem dL_build_44 : decode cL_build 44 = .ok (.invokestatic 12, 3) := by decide +kernel
theorem dL_build_47 : decode cL_build 47 = .ok (.iconst 5, 1) := by decide +kernel
theorem dL_build_48 : decode cL_build 48 = .ok (.ishr, 1) := by decide +kernel
theorem dL_build_49 : decode cL_build 49 = .ok (.bipush 8, 2) := by decide +kernel
theorem dL_build_51 : decode cL_build 51 = .ok (.invokestatic 18, 3) := by decide +kernel
theorem dL_build_54 : decode cL_build 54 = .ok (.istore_n 3, 1) := by decide +kernel
theorem dL_build_55 : decode cL_build 55 = .ok (.iconst 0, 1) := by decide +kernel
theorem dL_build_56 : decode cL_build 56 = .ok (.istore 4, 2) := by decide +kernel
theorem dL_build_58 : decode cL_build 58 = .ok (.iload 4, 2) := by decide +kernel
theorem dL_build_60 : decode cL_build 60 = .ok (.iload_n 3, 1) := by decide +kernel
theorem dL_build_61 : decode cL_build 61 = .ok (.if_icmp .ge 108, 3) := by decide +kernel
theorem dL_build_64 : decode cL_build 64 = .ok (.aload_n 1, 1) := by decide +kernel
theorem dL_build_65 : decode cL_build 65 = .ok (.iconst 1, 1) := by decide +kernel
theorem dL_build_66 : decode cL_build 66 = .ok (.iload 4, 2) := by decide +kernel
theorem dL_build_68 : decode cL_build 68 = .ok (.iadd, 1) := by decide +kernel
theorem dL_build_69 : decode cL_build 69 = .ok (.invokestatic 12, 3) := by decide +kernel
theorem dL_build_72 : decode cL_build 72 = .ok (.istore 5, 2) := by decide +kernel
theorem dL_build_74 : decode cL_build 74 = .ok (.iload 5, 2) := by decide +kernel
theorem dL_build_76 : decode cL_build 76 = .ok (.iconst 5, 1) := by decide +kernel
theorem dL_build_77 : decode cL_build 77 = .ok (.invokestatic 18, 3) := by decide +kernel
theorem dL_build_80 : decode cL_build 80 = .ok (.ifCond .ne 7, 3) := by decide +kernel
theorem dL_build_83 : decode cL_build 83 = .ok (.iconst 0, 1) := by decide +kernel
theorem dL_build_84 : decode cL_build 84 = .ok (.goto 13, 3) := by decide +kernel
theorem dL_build_87 : decode cL_build 87 = .ok (.iload 5, 2) := by decide +kernel
theorem dL_build_89 : decode cL_build 89 = .ok (.iconst 2, 1) := by decide +kernel
theorem dL_build_90 : decode cL_build 90 = .ok (.ishr, 1) := by decide +kernel
theorem dL_build_91 : decode cL_build 91 = .ok (.sipush 700, 3) := by decide +kernel
theorem dL_build_94 : decode cL_build 94 = .ok (.invokestatic 18, 3) := by decide +kernel
theorem dL_build_97 : decode cL_build 97 = .ok (.istore 6, 2) := by decide +kernel
theorem dL_build_99 : decode cL_build 99 = .ok (.aload_n 2, 1) := by decide +kernel
theorem dL_build_100 : decode cL_build 100 = .ok (.iload 6, 2) := by decide +kernel
theorem dL_build_102 : decode cL_build 102 = .ok (.iload 5, 2) := by decide +kernel
theorem dL_build_104 : decode cL_build 104 = .ok (.iconst 4, 1) := by decide +kernel
theorem dL_build_105 : decode cL_build 105 = .ok (.ishr, 1) := by decide +kernel
theorem dL_build_106 : decode cL_build 106 = .ok (.bipush 11, 2) := by decide +kernel
theorem dL_build_108 : decode cL_build 108 = .ok (.invokestatic 18, 3) := by decide +kernel
theorem dL_build_111 : decode cL_build 111 = .ok (.iconst 5, 1) := by decide +kernel
theorem dL_build_112 : decode cL_build 112 = .ok (.isub, 1) := by decide +kernel
theorem dL_build_113 : decode cL_build 113 = .ok (.iload 5, 2) := by decide +kernel
theorem dL_build_115 : decode cL_build 115 = .ok (.bipush 6, 2) := by decide +kernel
theorem dL_build_117 : decode cL_build 117 = .ok (.ishr, 1) := by decide +kernel
theorem dL_build_118 : decode cL_build 118 = .ok (.bipush 10, 2) := by decide +kernel
theorem dL_build_120 : decode cL_build 120 = .ok (.invokestatic 18, 3) := by decide +kernel
theorem dL_build_123 : decode cL_build 123 = .ok (.invokevirtual 32, 3) := by decide +kernel
theorem dL_build_126 : decode cL_build 126 = .ok (.aload_n 0, 1) := by decide +kernel
theorem dL_build_127 : decode cL_build 127 = .ok (.iload 6, 2) := by decide +kernel
theorem dL_build_129 : decode cL_build 129 = .ok (.iload 5, 2) := by decide +kernel
theorem dL_build_131 : decode cL_build 131 = .ok (.iconst 4, 1) := by decide +kernel
theorem dL_build_132 : decode cL_build 132 = .ok (.ishr, 1) := by decide +kernel
theorem dL_build_133 : decode cL_build 133 = .ok (.bipush 11, 2) := by decide +kernel
theorem dL_build_135 : decode cL_build 135 = .ok (.invokestatic 18, 3) := by decide +kernel
theorem dL_build_138 : decode cL_build 138 = .ok (.iconst 5, 1) := by decide +kernel
theorem dL_build_139 : decode cL_build 139 = .ok (.isub, 1) := by decide +kernel
theorem dL_build_140 : decode cL_build 140 = .ok (.iload 5, 2) := by decide +kernel
theorem dL_build_142 : decode cL_build 142 = .ok (.bipush 6, 2) := by decide +kernel
theorem dL_build_144 : decode cL_build 144 = .ok (.ishr, 1) := by decide +kernel
theorem dL_build_145 : decode cL_build 145 = .ok (.bipush 10, 2) := by decide +kernel
theorem dL_build_147 : decode cL_build 147 = .ok (.invokestatic 18, 3) := by decide +kernel
theorem dL_build_150 : decode cL_build 150 = .ok (.invokevirtual 36, 3) := by decide +kernel
theorem dL_build_153 : decode cL_build 153 = .ok (.aload_n 2, 1) := by decide +kernel
theorem dL_build_154 : decode cL_build 154 = .ok (.getfield 39, 3) := by decide +kernel
theorem dL_build_157 : decode cL_build 157 = .ok (.arraylength, 1) := by decide +kernel
theorem dL_build_158 : decode cL_build 158 = .ok (.if_icmp .eq 5, 3) := by decide +kernel
theorem dL_build_161 : decode cL_build 161 = .ok (.aconst_null, 1) := by decide +kernel
theorem dL_build_162 : decode cL_build 162 = .ok (.areturn, 1) := by decide +kernel
theorem dL_build_163 : decode cL_build 163 = .ok (.iinc 4 1, 3) := by decide +kernel
theorem dL_build_166 : decode cL_build 166 = .ok (.goto (-108), 3) := by decide +kernel
theorem dL_build_169 : decode cL_build 169 = .ok (.iconst 1, 1) := by decide +kernel
theorem dL_build_170 : decode cL_build 170 = .ok (.aload_n 1, 1) := by decide +kernel
theorem dL_build_171 : decode cL_build 171 = .ok (.bipush 9, 2) := by decide +kernel
theorem dL_build_173 : decode cL_build 173 = .ok (.invokestatic 12, 3) := by decide +kernel
theorem dL_build_176 : decode cL_build 176 = .ok (.iconst 4, 1) := by decide +kernel
theorem dL_build_177 : decode cL_build 177 = .ok (.invokestatic 18, 3) := by decide +kernel
theorem dL_build_180 : decode cL_build 180 = .ok (.iadd, 1) := by decide +kernel
theorem dL_build_181 : decode cL_build 181 = .ok (.istore 4, 2) := by decide +kernel
theorem dL_build_183 : decode cL_build 183 = .ok (.aload_n 2, 1) := by decide +kernel
theorem dL_build_184 : decode cL_build 184 = .ok (.iload 4, 2) := by decide +kernel
theorem dL_build_186 : decode cL_build 186 = .ok (.anewarray 43, 3) := by decide +kernel
theorem dL_build_189 : decode cL_build 189 = .ok (.putfield 45, 3) := by decide +kernel
theorem dL_build_192 : decode cL_build 192 = .ok (.iconst 0, 1) := by decide +kernel
theorem dL_build_193 : decode cL_build 193 = .ok (.istore 5, 2) := by decide +kernel
theorem dL_build_195 : decode cL_build 195 = .ok (.iload 5, 2) := by decide +kernel
theorem dL_build_197 : decode cL_build 197 = .ok (.iload 4, 2) := by decide +kernel
theorem dL_build_199 : decode cL_build 199 = .ok (.if_icmp .ge 289, 3) := by decide +kernel
theorem dL_build_202 : decode cL_build 202 = .ok (.aload_n 1, 1) := by decide +kernel
theorem dL_build_203 : decode cL_build 203 = .ok (.bipush 10, 2) := by decide +kernel
theorem dL_build_205 : decode cL_build 205 = .ok (.iload 5, 2) := by decide +kernel
theorem dL_build_207 : decode cL_build 207 = .ok (.iadd, 1) := by decide +kernel
theorem dL_build_208 : decode cL_build 208 = .ok (.invokestatic 12, 3) := by decide +kernel
theorem dL_build_211 : decode cL_build 211 = .ok (.istore 6, 2) := by decide +kernel
theorem dL_build_213 : decode cL_build 213 = .ok (.new 43, 3) := by decide +kernel
theorem dL_build_216 : decode cL_build 216 = .ok (.dup, 1) := by decide +kernel
theorem dL_build_217 : decode cL_build 217 = .ok (.invokespecial 49, 3) := by decide +kernel
theorem dL_build_220 : decode cL_build 220 = .ok (.astore 7, 2) := by decide +kernel
theorem dL_build_222 : decode cL_build 222 = .ok (.aload 7, 2) := by decide +kernel
theorem dL_build_224 : decode cL_build 224 = .ok (.bipush 20, 2) := by decide +kernel
theorem dL_build_226 : decode cL_build 226 = .ok (.iload 6, 2) := by decide +kernel
theorem dL_build_228 : decode cL_build 228 = .ok (.bipush 61, 2) := by decide +kernel
theorem dL_build_230 : decode cL_build 230 = .ok (.invokestatic 18, 3) := by decide +kernel
theorem dL_build_233 : decode cL_build 233 = .ok (.iadd, 1) := by decide +kernel
theorem dL_build_234 : decode cL_build 234 = .ok (.putfield 50, 3) := by decide +kernel
theorem dL_build_237 : decode cL_build 237 = .ok (.aload 7, 2) := by decide +kernel
theorem dL_build_239 : decode cL_build 239 = .ok (.bipush 10, 2) := by decide +kernel
theorem dL_build_241 : decode cL_build 241 = .ok (.iload 6, 2) := by decide +kernel
theorem dL_build_243 : decode cL_build 243 = .ok (.iconst 3, 1) := by decide +kernel
theorem dL_build_244 : decode cL_build 244 = .ok (.ishr, 1) := by decide +kernel
theorem dL_build_245 : decode cL_build 245 = .ok (.bipush 90, 2) := by decide +kernel
theorem dL_build_247 : decode cL_build 247 = .ok (.invokestatic 18, 3) := by decide +kernel
theorem dL_build_250 : decode cL_build 250 = .ok (.iadd, 1) := by decide +kernel
theorem dL_build_251 : decode cL_build 251 = .ok (.putfield 53, 3) := by decide +kernel
theorem dL_build_254 : decode cL_build 254 = .ok (.aload 7, 2) := by decide +kernel
theorem dL_build_256 : decode cL_build 256 = .ok (.iconst 2, 1) := by decide +kernel
theorem dL_build_257 : decode cL_build 257 = .ok (.iload 6, 2) := by decide +kernel
theorem dL_build_259 : decode cL_build 259 = .ok (.iconst 5, 1) := by decide +kernel
theorem dL_build_260 : decode cL_build 260 = .ok (.ishr, 1) := by decide +kernel
theorem dL_build_261 : decode cL_build 261 = .ok (.bipush 7, 2) := by decide +kernel
theorem dL_build_263 : decode cL_build 263 = .ok (.invokestatic 18, 3) := by decide +kernel
theorem dL_build_266 : decode cL_build 266 = .ok (.iadd, 1) := by decide +kernel
theorem dL_build_267 : decode cL_build 267 = .ok (.newarray .int, 2) := by decide +kernel
theorem dL_build_269 : decode cL_build 269 = .ok (.putfield 56, 3) := by decide +kernel
theorem dL_build_272 : decode cL_build 272 = .ok (.aload_n 0, 1) := by decide +kernel
theorem dL_build_273 : decode cL_build 273 = .ok (.aload 7, 2) := by decide +kernel
theorem dL_build_275 : decode cL_build 275 = .ok (.getfield 50, 3) := by decide +kernel
theorem dL_build_278 : decode cL_build 278 = .ok (.aload 7, 2) := by decide +kernel
theorem dL_build_280 : decode cL_build 280 = .ok (.getfield 53, 3) := by decide +kernel
theorem dL_build_283 : decode cL_build 283 = .ok (.aload 7, 2) := by decide +kernel
theorem dL_build_285 : decode cL_build 285 = .ok (.getfield 56, 3) := by decide +kernel
theorem dL_build_288 : decode cL_build 288 = .ok (.arraylength, 1) := by decide +kernel
theorem dL_build_289 : decode cL_build 289 = .ok (.invokevirtual 60, 3) := by decide +kernel
theorem dL_build_292 : decode cL_build 292 = .ok (.iload 5, 2) := by decide +kernel
theorem dL_build_294 : decode cL_build 294 = .ok (.if_icmp .eq 5, 3) := by decide +kernel
theorem dL_build_297 : decode cL_build 297 = .ok (.aconst_null, 1) := by decide +kernel
theorem dL_build_298 : decode cL_build 298 = .ok (.areturn, 1) := by decide +kernel
theorem dL_build_299 : decode cL_build 299 = .ok (.aload 7, 2) := by decide +kernel
theorem dL_build_301 : decode cL_build 301 = .ok (.iconst 1, 1) := by decide +kernel
theorem dL_build_302 : decode cL_build 302 = .ok (.iload 6, 2) := by decide +kernel
theorem dL_build_304 : decode cL_build 304 = .ok (.iconst 2, 1) := by decide +kernel
theorem dL_build_305 : decode cL_build 305 = .ok (.ishr, 1) := by decide +kernel
theorem dL_build_306 : decode cL_build 306 = .ok (.bipush 9, 2) := by decide +kernel
theorem dL_build_308 : decode cL_build 308 = .ok (.invokestatic 18, 3) := by decide +kernel
theorem dL_build_311 : decode cL_build 311 = .ok (.iadd, 1) := by decide +kernel
theorem dL_build_312 : decode cL_build 312 = .ok (.putfield 63, 3) := by decide +kernel
theorem dL_build_315 : decode cL_build 315 = .ok (.aload 7, 2) := by decide +kernel
theorem dL_build_317 : decode cL_build 317 = .ok (.iconst 1, 1) := by decide +kernel
theorem dL_build_318 : decode cL_build 318 = .ok (.iload 6, 2) := by decide +kernel
theorem dL_build_320 : decode cL_build 320 = .ok (.iconst 4, 1) := by decide +kernel
theorem dL_build_321 : decode cL_build 321 = .ok (.ishr, 1) := by decide +kernel
theorem dL_build_322 : decode cL_build 322 = .ok (.bipush 20, 2) := by decide +kernel
theorem dL_build_324 : decode cL_build 324 = .ok (.invokestatic 18, 3) := by decide +kernel
theorem dL_build_327 : decode cL_build 327 = .ok (.iadd, 1) := by decide +kernel
theorem dL_build_328 : decode cL_build 328 = .ok (.putfield 66, 3) := by decide +kernel
theorem dL_build_331 : decode cL_build 331 = .ok (.aload 7, 2) := by decide +kernel
theorem dL_build_333 : decode cL_build 333 = .ok (.bipush 20, 2) := by decide +kernel
theorem dL_build_335 : decode cL_build 335 = .ok (.iload 6, 2) := by decide +kernel
theorem dL_build_337 : decode cL_build 337 = .ok (.bipush 6, 2) := by decide +kernel
theorem dL_build_339 : decode cL_build 339 = .ok (.ishr, 1) := by decide +kernel
theorem dL_build_340 : decode cL_build 340 = .ok (.sipush 381, 3) := by decide +kernel
theorem dL_build_343 : decode cL_build 343 = .ok (.invokestatic 18, 3) := by decide +kernel
theorem dL_build_346 : decode cL_build 346 = .ok (.iadd, 1) := by decide +kernel
theorem dL_build_347 : decode cL_build 347 = .ok (.putfield 69, 3) := by decide +kernel
theorem dL_build_350 : decode cL_build 350 = .ok (.aload 7, 2) := by decide +kernel
theorem dL_build_352 : decode cL_build 352 = .ok (.iconst 1, 1) := by decide +kernel
theorem dL_build_353 : decode cL_build 353 = .ok (.iload 6, 2) := by decide +kernel
theorem dL_build_355 : decode cL_build 355 = .ok (.bipush 7, 2) := by decide +kernel
theorem dL_build_357 : decode cL_build 357 = .ok (.ishr, 1) := by decide +kernel
theorem dL_build_358 : decode cL_build 358 = .ok (.iconst 3, 1) := by decide +kernel
theorem dL_build_359 : decode cL_build 359 = .ok (.invokestatic 18, 3) := by decide +kernel
theorem dL_build_362 : decode cL_build 362 = .ok (.iadd, 1) := by decide +kernel
theorem dL_build_363 : decode cL_build 363 = .ok (.newarray .int, 2) := by decide +kernel
theorem dL_build_365 : decode cL_build 365 = .ok (.putfield 72, 3) := by decide +kernel
theorem dL_build_368 : decode cL_build 368 = .ok (.aload 7, 2) := by decide +kernel
theorem dL_build_370 : decode cL_build 370 = .ok (.aload 7, 2) := by decide +kernel
theorem dL_build_372 : decode cL_build 372 = .ok (.getfield 72, 3) := by decide +kernel
theorem dL_build_375 : decode cL_build 375 = .ok (.arraylength, 1) := by decide +kernel
theorem dL_build_376 : decode cL_build 376 = .ok (.newarray .int, 2) := by decide +kernel
theorem dL_build_378 : decode cL_build 378 = .ok (.putfield 75, 3) := by decide +kernel
theorem dL_build_381 : decode cL_build 381 = .ok (.aload_n 0, 1) := by decide +kernel
theorem dL_build_382 : decode cL_build 382 = .ok (.iload 5, 2) := by decide +kernel
theorem dL_build_384 : decode cL_build 384 = .ok (.aload 7, 2) := by decide +kernel
theorem dL_build_386 : decode cL_build 386 = .ok (.getfield 63, 3) := by decide +kernel
theorem dL_build_389 : decode cL_build 389 = .ok (.aload 7, 2) := by decide +kernel
theorem dL_build_391 : decode cL_build 391 = .ok (.getfield 66, 3) := by decide +kernel
theorem dL_build_394 : decode cL_build 394 = .ok (.aload 7, 2) := by decide +kernel
theorem dL_build_396 : decode cL_build 396 = .ok (.getfield 72, 3) := by decide +kernel
theorem dL_build_399 : decode cL_build 399 = .ok (.arraylength, 1) := by decide +kernel
theorem dL_build_400 : decode cL_build 400 = .ok (.aload 7, 2) := by decide +kernel
theorem dL_build_402 : decode cL_build 402 = .ok (.getfield 69, 3) := by decide +kernel
theorem dL_build_405 : decode cL_build 405 = .ok (.invokevirtual 78, 3) := by decide +kernel
theorem dL_build_408 : decode cL_build 408 = .ok (.iconst 4, 1) := by decide +kernel
theorem dL_build_409 : decode cL_build 409 = .ok (.if_icmp .eq 5, 3) := by decide +kernel
theorem dL_build_412 : decode cL_build 412 = .ok (.aconst_null, 1) := by decide +kernel
theorem dL_build_413 : decode cL_build 413 = .ok (.areturn, 1) := by decide +kernel
theorem dL_build_414 : decode cL_build 414 = .ok (.aload 7, 2) := by decide +kernel
theorem dL_build_416 : decode cL_build 416 = .ok (.iload 6, 2) := by decide +kernel
theorem dL_build_418 : decode cL_build 418 = .ok (.bipush 8, 2) := by decide +kernel
theorem dL_build_420 : decode cL_build 420 = .ok (.ishr, 1) := by decide +kernel
theorem dL_build_421 : decode cL_build 421 = .ok (.bipush 11, 2) := by decide +kernel
theorem dL_build_423 : decode cL_build 423 = .ok (.invokestatic 18, 3) := by decide +kernel
theorem dL_build_426 : decode cL_build 426 = .ok (.putfield 82, 3) := by decide +kernel
theorem dL_build_429 : decode cL_build 429 = .ok (.aload 7, 2) := by decide +kernel
theorem dL_build_431 : decode cL_build 431 = .ok (.iconst 1, 1) := by decide +kernel
theorem dL_build_432 : decode cL_build 432 = .ok (.iload 6, 2) := by decide +kernel
theorem dL_build_434 : decode cL_build 434 = .ok (.bipush 9, 2) := by decide +kernel
theorem dL_build_436 : decode cL_build 436 = .ok (.ishr, 1) := by decide +kernel
theorem dL_build_437 : decode cL_build 437 = .ok (.bipush 40, 2) := by decide +kernel
theorem dL_build_439 : decode cL_build 439 = .ok (.invokestatic 18, 3) := by decide +kernel
theorem dL_build_442 : decode cL_build 442 = .ok (.iadd, 1) := by decide +kernel
theorem dL_build_443 : decode cL_build 443 = .ok (.putfield 85, 3) := by decide +kernel
theorem dL_build_446 : decode cL_build 446 = .ok (.aload_n 0, 1) := by decide +kernel
theorem dL_build_447 : decode cL_build 447 = .ok (.iload 5, 2) := by decide +kernel
theorem dL_build_449 : decode cL_build 449 = .ok (.aload 7, 2) := by decide +kernel
theorem dL_build_451 : decode cL_build 451 = .ok (.getfield 82, 3) := by decide +kernel
theorem dL_build_454 : decode cL_build 454 = .ok (.aload 7, 2) := by decide +kernel
theorem dL_build_456 : decode cL_build 456 = .ok (.getfield 85, 3) := by decide +kernel
theorem dL_build_459 : decode cL_build 459 = .ok (.invokevirtual 88, 3) := by decide +kernel
theorem dL_build_462 : decode cL_build 462 = .ok (.iconst 5, 1) := by decide +kernel
theorem dL_build_463 : decode cL_build 463 = .ok (.if_icmp .eq 5, 3) := by decide +kernel
theorem dL_build_466 : decode cL_build 466 = .ok (.aconst_null, 1) := by decide +kernel
theorem dL_build_467 : decode cL_build 467 = .ok (.areturn, 1) := by decide +kernel
theorem dL_build_468 : decode cL_build 468 = .ok (.aload 7, 2) := by decide +kernel
theorem dL_build_470 : decode cL_build 470 = .ok (.invokevirtual 91, 3) := by decide +kernel
theorem dL_build_473 : decode cL_build 473 = .ok (.aload_n 2, 1) := by decide +kernel
theorem dL_build_474 : decode cL_build 474 = .ok (.getfield 45, 3) := by decide +kernel
theorem dL_build_477 : decode cL_build 477 = .ok (.iload 5, 2) := by decide +kernel
theorem dL_build_479 : decode cL_build 479 = .ok (.aload 7, 2) := by decide +kernel
theorem dL_build_481 : decode cL_build 481 = .ok (.aastore, 1) := by decide +kernel
theorem dL_build_482 : decode cL_build 482 = .ok (.iinc 5 1, 3) := by decide +kernel
theorem dL_build_485 : decode cL_build 485 = .ok (.goto (-290), 3) := by decide +kernel
theorem dL_build_488 : decode cL_build 488 = .ok (.aload_n 2, 1) := by decide +kernel
theorem dL_build_489 : decode cL_build 489 = .ok (.areturn, 1) := by decide +kernel
theorem dL_law_0 : decode cL_law 0 = .ok (.new 27, 3) := by decide +kernel
theorem dL_law_3 : decode cL_law 3 = .ok (.dup, 1) := by decide +kernel
theorem dL_law_4 : decode cL_law 4 = .ok (.invokespecial 94, 3) := by decide +kernel
theorem dL_law_7 : decode cL_law 7 = .ok (.astore_n 1, 1) := by decide +kernel
theorem dL_law_8 : decode cL_law 8 = .ok (.aload_n 1, 1) := by decide +kernel
theorem dL_law_9 : decode cL_law 9 = .ok (.aload_n 0, 1) := by decide +kernel
theorem dL_law_10 : decode cL_law 10 = .ok (.invokestatic 95, 3) := by decide +kernel
theorem dL_law_13 : decode cL_law 13 = .ok (.astore_n 2, 1) := by decide +kernel
theorem dL_law_14 : decode cL_law 14 = .ok (.aload_n 2, 1) := by decide +kernel
theorem dL_law_15 : decode cL_law 15 = .ok (.ifnonnull 5, 3) := by decide +kernel
theorem dL_law_18 : decode cL_law 18 = .ok (.iconst 0, 1) := by decide +kernel
theorem dL_law_19 : decode cL_law 19 = .ok (.ireturn, 1) := by decide +kernel
theorem dL_law_20 : decode cL_law 20 = .ok (.aload_n 2, 1) := by decide +kernel
theorem dL_law_21 : decode cL_law 21 = .ok (.getfield 45, 3) := by decide +kernel
theorem dL_law_24 : decode cL_law 24 = .ok (.arraylength, 1) := by decide +kernel
theorem dL_law_25 : decode cL_law 25 = .ok (.istore_n 3, 1) := by decide +kernel
theorem dL_law_26 : decode cL_law 26 = .ok (.iload_n 3, 1) := by decide +kernel
theorem dL_law_27 : decode cL_law 27 = .ok (.newarray .int, 2) := by decide +kernel
theorem dL_law_29 : decode cL_law 29 = .ok (.astore 4, 2) := by decide +kernel
theorem dL_law_31 : decode cL_law 31 = .ok (.iload_n 3, 1) := by decide +kernel
theorem dL_law_32 : decode cL_law 32 = .ok (.newarray .int, 2) := by decide +kernel
theorem dL_law_34 : decode cL_law 34 = .ok (.astore 5, 2) := by decide +kernel
theorem dL_law_36 : decode cL_law 36 = .ok (.iload_n 3, 1) := by decide +kernel
theorem dL_law_37 : decode cL_law 37 = .ok (.newarray .int, 2) := by decide +kernel
theorem dL_law_39 : decode cL_law 39 = .ok (.astore 6, 2) := by decide +kernel
theorem dL_law_41 : decode cL_law 41 = .ok (.iconst 0, 1) := by decide +kernel
theorem dL_law_42 : decode cL_law 42 = .ok (.istore 7, 2) := by decide +kernel
theorem dL_law_44 : decode cL_law 44 = .ok (.iload 7, 2) := by decide +kernel
theorem dL_law_46 : decode cL_law 46 = .ok (.iload_n 3, 1) := by decide +kernel
theorem dL_law_47 : decode cL_law 47 = .ok (.if_icmp .ge 27, 3) := by decide +kernel
theorem dL_law_50 : decode cL_law 50 = .ok (.aload 5, 2) := by decide +kernel
theorem dL_law_52 : decode cL_law 52 = .ok (.iload 7, 2) := by decide +kernel
theorem dL_law_54 : decode cL_law 54 = .ok (.aload_n 1, 1) := by decide +kernel
theorem dL_law_55 : decode cL_law 55 = .ok (.iload 7, 2) := by decide +kernel
theorem dL_law_57 : decode cL_law 57 = .ok (.iconst 2, 1) := by decide +kernel
theorem dL_law_58 : decode cL_law 58 = .ok (.invokevirtual 99, 3) := by decide +kernel
theorem dL_law_61 : decode cL_law 61 = .ok (.iastore, 1) := by decide +kernel
theorem dL_law_62 : decode cL_law 62 = .ok (.aload 6, 2) := by decide +kernel
theorem dL_law_64 : decode cL_law 64 = .ok (.iload 7, 2) := by decide +kernel
theorem dL_law_66 : decode cL_law 66 = .ok (.iconst (-1), 1) := by decide +kernel
theorem dL_law_67 : decode cL_law 67 = .ok (.iastore, 1) := by decide +kernel
theorem dL_law_68 : decode cL_law 68 = .ok (.iinc 7 1, 3) := by decide +kernel
theorem dL_law_71 : decode cL_law 71 = .ok (.goto (-27), 3) := by decide +kernel
theorem dL_law_74 : decode cL_law 74 = .ok (.iconst 0, 1) := by decide +kernel
theorem dL_law_75 : decode cL_law 75 = .ok (.istore 7, 2) := by decide +kernel
theorem dL_law_77 : decode cL_law 77 = .ok (.iconst 1, 1) := by decide +kernel
theorem dL_law_78 : decode cL_law 78 = .ok (.istore 8, 2) := by decide +kernel
theorem dL_law_80 : decode cL_law 80 = .ok (.iload 8, 2) := by decide +kernel
theorem dL_law_82 : decode cL_law 82 = .ok (.bipush 120, 2) := by decide +kernel
theorem dL_law_84 : decode cL_law 84 = .ok (.if_icmp .gt 789, 3) := by decide +kernel
theorem dL_law_87 : decode cL_law 87 = .ok (.iload_n 3, 1) := by decide +kernel
theorem dL_law_88 : decode cL_law 88 = .ok (.newarray .int, 2) := by decide +kernel
theorem dL_law_90 : decode cL_law 90 = .ok (.astore 9, 2) := by decide +kernel
theorem dL_law_92 : decode cL_law 92 = .ok (.iconst 0, 1) := by decide +kernel
theorem dL_law_93 : decode cL_law 93 = .ok (.istore 10, 2) := by decide +kernel
theorem dL_law_95 : decode cL_law 95 = .ok (.iload 10, 2) := by decide +kernel
theorem dL_law_97 : decode cL_law 97 = .ok (.iload_n 3, 1) := by decide +kernel
theorem dL_law_98 : decode cL_law 98 = .ok (.if_icmp .ge 75, 3) := by decide +kernel
theorem dL_law_101 : decode cL_law 101 = .ok (.aload_n 1, 1) := by decide +kernel
theorem dL_law_102 : decode cL_law 102 = .ok (.iload 10, 2) := by decide +kernel
theorem dL_law_104 : decode cL_law 104 = .ok (.bipush 8, 2) := by decide +kernel
theorem dL_law_106 : decode cL_law 106 = .ok (.invokevirtual 99, 3) := by decide +kernel
theorem dL_law_109 : decode cL_law 109 = .ok (.ifCond .ge 34, 3) := by decide +kernel
theorem dL_law_112 : decode cL_law 112 = .ok (.aload_n 1, 1) := by decide +kernel
theorem dL_law_113 : decode cL_law 113 = .ok (.iload 10, 2) := by decide +kernel
theorem dL_law_115 : decode cL_law 115 = .ok (.iconst 3, 1) := by decide +kernel
theorem dL_law_116 : decode cL_law 116 = .ok (.invokevirtual 99, 3) := by decide +kernel
theorem dL_law_119 : decode cL_law 119 = .ok (.ifCond .ne 24, 3) := by decide +kernel
theorem dL_law_122 : decode cL_law 122 = .ok (.aload_n 1, 1) := by decide +kernel
theorem dL_law_123 : decode cL_law 123 = .ok (.iload 10, 2) := by decide +kernel
theorem dL_law_125 : decode cL_law 125 = .ok (.iconst 0, 1) := by decide +kernel
theorem dL_law_126 : decode cL_law 126 = .ok (.invokevirtual 102, 3) := by decide +kernel
theorem dL_law_129 : decode cL_law 129 = .ok (.aload_n 1, 1) := by decide +kernel
theorem dL_law_130 : decode cL_law 130 = .ok (.iload 10, 2) := by decide +kernel
theorem dL_law_132 : decode cL_law 132 = .ok (.iconst 2, 1) := by decide +kernel
theorem dL_law_133 : decode cL_law 133 = .ok (.invokevirtual 99, 3) := by decide +kernel
theorem dL_law_136 : decode cL_law 136 = .ok (.if_icmp .gt 7, 3) := by decide +kernel
theorem dL_law_139 : decode cL_law 139 = .ok (.iconst 1, 1) := by decide +kernel
theorem dL_law_140 : decode cL_law 140 = .ok (.goto 4, 3) := by decide +kernel
theorem dL_law_143 : decode cL_law 143 = .ok (.iconst 0, 1) := by decide +kernel
theorem dL_law_144 : decode cL_law 144 = .ok (.istore 11, 2) := by decide +kernel
theorem dL_law_146 : decode cL_law 146 = .ok (.aload 9, 2) := by decide +kernel
theorem dL_law_148 : decode cL_law 148 = .ok (.iload 10, 2) := by decide +kernel
theorem dL_law_150 : decode cL_law 150 = .ok (.iload 11, 2) := by decide +kernel
theorem dL_law_152 : decode cL_law 152 = .ok (.ifCond .eq 13, 3) := by decide +kernel
theorem dL_law_155 : decode cL_law 155 = .ok (.aload_n 1, 1) := by decide +kernel
theorem dL_law_156 : decode cL_law 156 = .ok (.iload 10, 2) := by decide +kernel
theorem dL_law_158 : decode cL_law 158 = .ok (.iconst 2, 1) := by decide +kernel
theorem dL_law_159 : decode cL_law 159 = .ok (.invokevirtual 102, 3) := by decide +kernel
theorem dL_law_162 : decode cL_law 162 = .ok (.goto 4, 3) := by decide +kernel
theorem dL_law_165 : decode cL_law 165 = .ok (.iconst 0, 1) := by decide +kernel
theorem dL_law_166 : decode cL_law 166 = .ok (.iastore, 1) := by decide +kernel
theorem dL_law_167 : decode cL_law 167 = .ok (.iinc 10 1, 3) := by decide +kernel
theorem dL_law_170 : decode cL_law 170 = .ok (.goto (-75), 3) := by decide +kernel
theorem dL_law_173 : decode cL_law 173 = .ok (.aload_n 1, 1) := by decide +kernel
theorem dL_law_174 : decode cL_law 174 = .ok (.iload 8, 2) := by decide +kernel
theorem dL_law_176 : decode cL_law 176 = .ok (.iload_n 3, 1) := by decide +kernel
theorem dL_law_177 : decode cL_law 177 = .ok (.irem, 1) := by decide +kernel
theorem dL_law_178 : decode cL_law 178 = .ok (.iconst 1, 1) := by decide +kernel
theorem dL_law_179 : decode cL_law 179 = .ok (.iconst 0, 1) := by decide +kernel
theorem dL_law_180 : decode cL_law 180 = .ok (.invokevirtual 105, 3) := by decide +kernel
theorem dL_law_183 : decode cL_law 183 = .ok (.istore 10, 2) := by decide +kernel
theorem dL_law_185 : decode cL_law 185 = .ok (.aload_n 1, 1) := by decide +kernel
theorem dL_law_186 : decode cL_law 186 = .ok (.iconst 1, 1) := by decide +kernel
theorem dL_law_187 : decode cL_law 187 = .ok (.invokevirtual 108, 3) := by decide +kernel
theorem dL_law_190 : decode cL_law 190 = .ok (.istore 11, 2) := by decide +kernel
theorem dL_law_192 : decode cL_law 192 = .ok (.aload_n 1, 1) := by decide +kernel
theorem dL_law_193 : decode cL_law 193 = .ok (.iload 8, 2) := by decide +kernel
theorem dL_law_195 : decode cL_law 195 = .ok (.iload_n 3, 1) := by decide +kernel
theorem dL_law_196 : decode cL_law 196 = .ok (.irem, 1) := by decide +kernel
theorem dL_law_197 : decode cL_law 197 = .ok (.iconst 0, 1) := by decide +kernel
theorem dL_law_198 : decode cL_law 198 = .ok (.invokevirtual 99, 3) := by decide +kernel
theorem dL_law_201 : decode cL_law 201 = .ok (.iload 10, 2) := by decide +kernel
theorem dL_law_203 : decode cL_law 203 = .ok (.if_icmp .ne 23, 3) := by decide +kernel
theorem dL_law_206 : decode cL_law 206 = .ok (.aload_n 1, 1) := by decide +kernel
theorem dL_law_207 : decode cL_law 207 = .ok (.iconst 0, 1) := by decide +kernel
theorem dL_law_208 : decode cL_law 208 = .ok (.invokevirtual 111, 3) := by decide +kernel
theorem dL_law_211 : decode cL_law 211 = .ok (.iload 8, 2) := by decide +kernel
theorem dL_law_213 : decode cL_law 213 = .ok (.if_icmp .ne 13, 3) := by decide +kernel
theorem dL_law_216 : decode cL_law 216 = .ok (.iload 11, 2) := by decide +kernel
theorem dL_law_218 : decode cL_law 218 = .ok (.aload_n 1, 1) := by decide +kernel
theorem dL_law_219 : decode cL_law 219 = .ok (.iconst 4, 1) := by decide +kernel
theorem dL_law_220 : decode cL_law 220 = .ok (.invokevirtual 111, 3) := by decide +kernel
theorem dL_law_223 : decode cL_law 223 = .ok (.if_icmp .eq 5, 3) := by decide +kernel
theorem dL_law_226 : decode cL_law 226 = .ok (.iconst 0, 1) := by decide +kernel
theorem dL_law_227 : decode cL_law 227 = .ok (.ireturn, 1) := by decide +kernel
theorem dL_law_228 : decode cL_law 228 = .ok (.iconst 0, 1) := by decide +kernel
theorem dL_law_229 : decode cL_law 229 = .ok (.istore 12, 2) := by decide +kernel
theorem dL_law_231 : decode cL_law 231 = .ok (.iconst 0, 1) := by decide +kernel
theorem dL_law_232 : decode cL_law 232 = .ok (.istore 13, 2) := by decide +kernel
theorem dL_law_234 : decode cL_law 234 = .ok (.iload_n 3, 1) := by decide +kernel
theorem dL_law_235 : decode cL_law 235 = .ok (.newarray .boolean, 2) := by decide +kernel
theorem dL_law_237 : decode cL_law 237 = .ok (.astore 14, 2) := by decide +kernel
theorem dL_law_239 : decode cL_law 239 = .ok (.iconst 0, 1) := by decide +kernel
theorem dL_law_240 : decode cL_law 240 = .ok (.istore 15, 2) := by decide +kernel
theorem dL_law_242 : decode cL_law 242 = .ok (.iload 15, 2) := by decide +kernel
theorem dL_law_244 : decode cL_law 244 = .ok (.iload_n 3, 1) := by decide +kernel
theorem dL_law_245 : decode cL_law 245 = .ok (.if_icmp .ge 550, 3) := by decide +kernel
theorem dL_law_248 : decode cL_law 248 = .ok (.aload_n 1, 1) := by decide +kernel
theorem dL_law_249 : decode cL_law 249 = .ok (.iload 15, 2) := by decide +kernel
theorem dL_law_251 : decode cL_law 251 = .ok (.iconst 0, 1) := by decide +kernel
theorem dL_law_252 : decode cL_law 252 = .ok (.invokevirtual 99, 3) := by decide +kernel
theorem dL_law_255 : decode cL_law 255 = .ok (.istore 16, 2) := by decide +kernel
theorem dL_law_257 : decode cL_law 257 = .ok (.aload_n 2, 1) := by decide +kernel
theorem dL_law_258 : decode cL_law 258 = .ok (.getfield 45, 3) := by decide +kernel
theorem dL_law_261 : decode cL_law 261 = .ok (.iload 15, 2) := by decide +kernel
theorem dL_law_263 : decode cL_law 263 = .ok (.aaload, 1) := by decide +kernel
theorem dL_law_264 : decode cL_law 264 = .ok (.getfield 56, 3) := by decide +kernel
theorem dL_law_267 : decode cL_law 267 = .ok (.arraylength, 1) := by decide +kernel
theorem dL_law_268 : decode cL_law 268 = .ok (.istore 17, 2) := by decide +kernel
theorem dL_law_270 : decode cL_law 270 = .ok (.iconst 0, 1) := by decide +kernel
theorem dL_law_271 : decode cL_law 271 = .ok (.istore 18, 2) := by decide +kernel
theorem dL_law_273 : decode cL_law 273 = .ok (.iconst 0, 1) := by decide +kernel
theorem dL_law_274 : decode cL_law 274 = .ok (.istore 19, 2) := by decide +kernel
theorem dL_law_276 : decode cL_law 276 = .ok (.iconst 0, 1) := by decide +kernel
theorem dL_law_277 : decode cL_law 277 = .ok (.istore 20, 2) := by decide +kernel
theorem dL_law_279 : decode cL_law 279 = .ok (.iload 20, 2) := by decide +kernel
theorem dL_law_281 : decode cL_law 281 = .ok (.iload 17, 2) := by decide +kernel
theorem dL_law_283 : decode cL_law 283 = .ok (.if_icmp .ge 98, 3) := by decide +kernel
theorem dL_law_286 : decode cL_law 286 = .ok (.aload_n 1, 1) := by decide +kernel
theorem dL_law_287 : decode cL_law 287 = .ok (.iload 15, 2) := by decide +kernel
theorem dL_law_289 : decode cL_law 289 = .ok (.iload 20, 2) := by decide +kernel
theorem dL_law_291 : decode cL_law 291 = .ok (.invokestatic 114, 3) := by decide +kernel
theorem dL_law_294 : decode cL_law 294 = .ok (.istore 21, 2) := by decide +kernel
theorem dL_law_296 : decode cL_law 296 = .ok (.iload 18, 2) := by decide +kernel
theorem dL_law_298 : decode cL_law 298 = .ok (.iload 21, 2) := by decide +kernel
theorem dL_law_300 : decode cL_law 300 = .ok (.sipush (-9999), 3) := by decide +kernel
theorem dL_law_303 : decode cL_law 303 = .ok (.if_icmp .eq 32, 3) := by decide +kernel
theorem dL_law_306 : decode cL_law 306 = .ok (.iload 21, 2) := by decide +kernel
theorem dL_law_308 : decode cL_law 308 = .ok (.iload 16, 2) := by decide +kernel
theorem dL_law_310 : decode cL_law 310 = .ok (.if_icmp .gt 25, 3) := by decide +kernel
theorem dL_law_313 : decode cL_law 313 = .ok (.iload 21, 2) := by decide +kernel
theorem dL_law_315 : decode cL_law 315 = .ok (.iload 16, 2) := by decide +kernel
theorem dL_law_317 : decode cL_law 317 = .ok (.aload_n 2, 1) := by decide +kernel
theorem dL_law_318 : decode cL_law 318 = .ok (.getfield 45, 3) := by decide +kernel
theorem dL_law_321 : decode cL_law 321 = .ok (.iload 15, 2) := by decide +kernel
theorem dL_law_323 : decode cL_law 323 = .ok (.aaload, 1) := by decide +kernel
theorem dL_law_324 : decode cL_law 324 = .ok (.getfield 50, 3) := by decide +kernel
theorem dL_law_327 : decode cL_law 327 = .ok (.isub, 1) := by decide +kernel
theorem dL_law_328 : decode cL_law 328 = .ok (.if_icmp .lt 7, 3) := by decide +kernel
theorem dL_law_331 : decode cL_law 331 = .ok (.iconst 1, 1) := by decide +kernel
theorem dL_law_332 : decode cL_law 332 = .ok (.goto 4, 3) := by decide +kernel
theorem dL_law_335 : decode cL_law 335 = .ok (.iconst 0, 1) := by decide +kernel
theorem dL_law_336 : decode cL_law 336 = .ok (.iadd, 1) := by decide +kernel
theorem dL_law_337 : decode cL_law 337 = .ok (.istore 18, 2) := by decide +kernel
theorem dL_law_339 : decode cL_law 339 = .ok (.iload 19, 2) := by decide +kernel
theorem dL_law_341 : decode cL_law 341 = .ok (.iload 21, 2) := by decide +kernel
theorem dL_law_343 : decode cL_law 343 = .ok (.sipush (-9999), 3) := by decide +kernel
theorem dL_law_346 : decode cL_law 346 = .ok (.if_icmp .eq 25, 3) := by decide +kernel
theorem dL_law_349 : decode cL_law 349 = .ok (.iload 21, 2) := by decide +kernel
theorem dL_law_351 : decode cL_law 351 = .ok (.iload 16, 2) := by decide +kernel
theorem dL_law_353 : decode cL_law 353 = .ok (.aload_n 2, 1) := by decide +kernel
theorem dL_law_354 : decode cL_law 354 = .ok (.getfield 45, 3) := by decide +kernel
theorem dL_law_357 : decode cL_law 357 = .ok (.iload 15, 2) := by decide +kernel
theorem dL_law_359 : decode cL_law 359 = .ok (.aaload, 1) := by decide +kernel
theorem dL_law_360 : decode cL_law 360 = .ok (.getfield 50, 3) := by decide +kernel
theorem dL_law_363 : decode cL_law 363 = .ok (.isub, 1) := by decide +kernel
theorem dL_law_364 : decode cL_law 364 = .ok (.if_icmp .ge 7, 3) := by decide +kernel
theorem dL_law_367 : decode cL_law 367 = .ok (.iconst 1, 1) := by decide +kernel
theorem dL_law_368 : decode cL_law 368 = .ok (.goto 4, 3) := by decide +kernel
theorem dL_law_371 : decode cL_law 371 = .ok (.iconst 0, 1) := by decide +kernel
theorem dL_law_372 : decode cL_law 372 = .ok (.iadd, 1) := by decide +kernel
theorem dL_law_373 : decode cL_law 373 = .ok (.istore 19, 2) := by decide +kernel
theorem dL_law_375 : decode cL_law 375 = .ok (.iinc 20 1, 3) := by decide +kernel
theorem dL_law_378 : decode cL_law 378 = .ok (.goto (-99), 3) := by decide +kernel
theorem dL_law_381 : decode cL_law 381 = .ok (.iload 16, 2) := by decide +kernel
theorem dL_law_383 : decode cL_law 383 = .ok (.aload 4, 2) := by decide +kernel
theorem dL_law_385 : decode cL_law 385 = .ok (.iload 15, 2) := by decide +kernel
theorem dL_law_387 : decode cL_law 387 = .ok (.iaload, 1) := by decide +kernel
theorem dL_law_388 : decode cL_law 388 = .ok (.aload 9, 2) := by decide +kernel
theorem dL_law_390 : decode cL_law 390 = .ok (.iload 15, 2) := by decide +kernel
theorem dL_law_392 : decode cL_law 392 = .ok (.iaload, 1) := by decide +kernel
theorem dL_law_393 : decode cL_law 393 = .ok (.iadd, 1) := by decide +kernel
theorem dL_law_394 : decode cL_law 394 = .ok (.if_icmp .ne 95, 3) := by decide +kernel
theorem dL_law_397 : decode cL_law 397 = .ok (.aload 9, 2) := by decide +kernel
theorem dL_law_399 : decode cL_law 399 = .ok (.iload 15, 2) := by decide +kernel
theorem dL_law_401 : decode cL_law 401 = .ok (.iaload, 1) := by decide +kernel
theorem dL_law_402 : decode cL_law 402 = .ok (.ifCond .lt 87, 3) := by decide +kernel
theorem dL_law_405 : decode cL_law 405 = .ok (.aload 9, 2) := by decide +kernel
theorem dL_law_407 : decode cL_law 407 = .ok (.iload 15, 2) := by decide +kernel
theorem dL_law_409 : decode cL_law 409 = .ok (.iaload, 1) := by decide +kernel
theorem dL_law_410 : decode cL_law 410 = .ok (.bipush 12, 2) := by decide +kernel
theorem dL_law_412 : decode cL_law 412 = .ok (.if_icmp .gt 77, 3) := by decide +kernel
theorem dL_law_415 : decode cL_law 415 = .ok (.aload_n 1, 1) := by decide +kernel
theorem dL_law_416 : decode cL_law 416 = .ok (.iload 15, 2) := by decide +kernel
theorem dL_law_418 : decode cL_law 418 = .ok (.iconst 4, 1) := by decide +kernel
theorem dL_law_419 : decode cL_law 419 = .ok (.invokevirtual 99, 3) := by decide +kernel
theorem dL_law_422 : decode cL_law 422 = .ok (.iload 18, 2) := by decide +kernel
theorem dL_law_424 : decode cL_law 424 = .ok (.if_icmp .ne 65, 3) := by decide +kernel
theorem dL_law_427 : decode cL_law 427 = .ok (.aload_n 1, 1) := by decide +kernel
theorem dL_law_428 : decode cL_law 428 = .ok (.iload 15, 2) := by decide +kernel
theorem dL_law_430 : decode cL_law 430 = .ok (.iconst 5, 1) := by decide +kernel
theorem dL_law_431 : decode cL_law 431 = .ok (.invokevirtual 99, 3) := by decide +kernel
theorem dL_law_434 : decode cL_law 434 = .ok (.iload 19, 2) := by decide +kernel
theorem dL_law_436 : decode cL_law 436 = .ok (.if_icmp .ne 53, 3) := by decide +kernel
theorem dL_law_439 : decode cL_law 439 = .ok (.iload 18, 2) := by decide +kernel
theorem dL_law_441 : decode cL_law 441 = .ok (.iload 19, 2) := by decide +kernel
theorem dL_law_443 : decode cL_law 443 = .ok (.iadd, 1) := by decide +kernel
theorem dL_law_444 : decode cL_law 444 = .ok (.aload_n 1, 1) := by decide +kernel
theorem dL_law_445 : decode cL_law 445 = .ok (.iload 15, 2) := by decide +kernel
theorem dL_law_447 : decode cL_law 447 = .ok (.bipush 6, 2) := by decide +kernel
theorem dL_law_449 : decode cL_law 449 = .ok (.invokevirtual 99, 3) := by decide +kernel
theorem dL_law_452 : decode cL_law 452 = .ok (.iadd, 1) := by decide +kernel
theorem dL_law_453 : decode cL_law 453 = .ok (.aload_n 1, 1) := by decide +kernel
theorem dL_law_454 : decode cL_law 454 = .ok (.iload 15, 2) := by decide +kernel
theorem dL_law_456 : decode cL_law 456 = .ok (.bipush 7, 2) := by decide +kernel
theorem dL_law_458 : decode cL_law 458 = .ok (.invokevirtual 99, 3) := by decide +kernel
theorem dL_law_461 : decode cL_law 461 = .ok (.iadd, 1) := by decide +kernel
theorem dL_law_462 : decode cL_law 462 = .ok (.iload 17, 2) := by decide +kernel
theorem dL_law_464 : decode cL_law 464 = .ok (.if_icmp .ne 25, 3) := by decide +kernel
theorem dL_law_467 : decode cL_law 467 = .ok (.aload_n 1, 1) := by decide +kernel
theorem dL_law_468 : decode cL_law 468 = .ok (.iload 15, 2) := by decide +kernel
theorem dL_law_470 : decode cL_law 470 = .ok (.bipush 7, 2) := by decide +kernel
theorem dL_law_472 : decode cL_law 472 = .ok (.invokevirtual 99, 3) := by decide +kernel
theorem dL_law_475 : decode cL_law 475 = .ok (.aload_n 2, 1) := by decide +kernel
theorem dL_law_476 : decode cL_law 476 = .ok (.getfield 45, 3) := by decide +kernel
theorem dL_law_479 : decode cL_law 479 = .ok (.iload 15, 2) := by decide +kernel
theorem dL_law_481 : decode cL_law 481 = .ok (.aaload, 1) := by decide +kernel
theorem dL_law_482 : decode cL_law 482 = .ok (.getfield 72, 3) := by decide +kernel
theorem dL_law_485 : decode cL_law 485 = .ok (.arraylength, 1) := by decide +kernel
theorem dL_law_486 : decode cL_law 486 = .ok (.if_icmp .le 5, 3) := by decide +kernel
theorem dL_law_489 : decode cL_law 489 = .ok (.iconst 0, 1) := by decide +kernel
theorem dL_law_490 : decode cL_law 490 = .ok (.ireturn, 1) := by decide +kernel
theorem dL_law_491 : decode cL_law 491 = .ok (.aload_n 1, 1) := by decide +kernel
theorem dL_law_492 : decode cL_law 492 = .ok (.iload 15, 2) := by decide +kernel
theorem dL_law_494 : decode cL_law 494 = .ok (.iconst 1, 1) := by decide +kernel
theorem dL_law_495 : decode cL_law 495 = .ok (.invokevirtual 99, 3) := by decide +kernel
theorem dL_law_498 : decode cL_law 498 = .ok (.ifCond .lt 98, 3) := by decide +kernel
theorem dL_law_501 : decode cL_law 501 = .ok (.aload_n 1, 1) := by decide +kernel
theorem dL_law_502 : decode cL_law 502 = .ok (.iload 15, 2) := by decide +kernel
theorem dL_law_504 : decode cL_law 504 = .ok (.iconst 1, 1) := by decide +kernel
theorem dL_law_505 : decode cL_law 505 = .ok (.invokevirtual 99, 3) := by decide +kernel
theorem dL_law_508 : decode cL_law 508 = .ok (.sipush 1000, 3) := by decide +kernel
theorem dL_law_511 : decode cL_law 511 = .ok (.if_icmp .gt 85, 3) := by decide +kernel
theorem dL_law_514 : decode cL_law 514 = .ok (.aload_n 1, 1) := by decide +kernel
theorem dL_law_515 : decode cL_law 515 = .ok (.iload 15, 2) := by decide +kernel
theorem dL_law_517 : decode cL_law 517 = .ok (.iconst 2, 1) := by decide +kernel
theorem dL_law_518 : decode cL_law 518 = .ok (.invokevirtual 99, 3) := by decide +kernel
theorem dL_law_521 : decode cL_law 521 = .ok (.aload 5, 2) := by decide +kernel
theorem dL_law_523 : decode cL_law 523 = .ok (.iload 15, 2) := by decide +kernel
theorem dL_law_525 : decode cL_law 525 = .ok (.iaload, 1) := by decide +kernel
theorem dL_law_526 : decode cL_law 526 = .ok (.if_icmp .gt 70, 3) := by decide +kernel
theorem dL_law_529 : decode cL_law 529 = .ok (.aload_n 1, 1) := by decide +kernel
theorem dL_law_530 : decode cL_law 530 = .ok (.iload 15, 2) := by decide +kernel
theorem dL_law_532 : decode cL_law 532 = .ok (.iconst 2, 1) := by decide +kernel
theorem dL_law_533 : decode cL_law 533 = .ok (.invokevirtual 99, 3) := by decide +kernel
theorem dL_law_536 : decode cL_law 536 = .ok (.bipush 10, 2) := by decide +kernel
theorem dL_law_538 : decode cL_law 538 = .ok (.if_icmp .lt 58, 3) := by decide +kernel
theorem dL_law_541 : decode cL_law 541 = .ok (.aload_n 1, 1) := by decide +kernel
theorem dL_law_542 : decode cL_law 542 = .ok (.iload 15, 2) := by decide +kernel
theorem dL_law_544 : decode cL_law 544 = .ok (.iconst 3, 1) := by decide +kernel
theorem dL_law_545 : decode cL_law 545 = .ok (.invokevirtual 99, 3) := by decide +kernel
theorem dL_law_548 : decode cL_law 548 = .ok (.ifCond .lt 48, 3) := by decide +kernel
theorem dL_law_551 : decode cL_law 551 = .ok (.aload_n 1, 1) := by decide +kernel
theorem dL_law_552 : decode cL_law 552 = .ok (.iload 15, 2) := by decide +kernel
theorem dL_law_554 : decode cL_law 554 = .ok (.iconst 3, 1) := by decide +kernel
theorem dL_law_555 : decode cL_law 555 = .ok (.invokevirtual 99, 3) := by decide +kernel
theorem dL_law_558 : decode cL_law 558 = .ok (.bipush 14, 2) := by decide +kernel
theorem dL_law_560 : decode cL_law 560 = .ok (.if_icmp .gt 36, 3) := by decide +kernel
theorem dL_law_563 : decode cL_law 563 = .ok (.aload_n 1, 1) := by decide +kernel
theorem dL_law_564 : decode cL_law 564 = .ok (.iload 15, 2) := by decide +kernel
theorem dL_law_566 : decode cL_law 566 = .ok (.iconst 0, 1) := by decide +kernel
theorem dL_law_567 : decode cL_law 567 = .ok (.invokevirtual 102, 3) := by decide +kernel
theorem dL_law_570 : decode cL_law 570 = .ok (.ifCond .lt 26, 3) := by decide +kernel
theorem dL_law_573 : decode cL_law 573 = .ok (.aload_n 1, 1) := by decide +kernel
theorem dL_law_574 : decode cL_law 574 = .ok (.iload 15, 2) := by decide +kernel
theorem dL_law_576 : decode cL_law 576 = .ok (.iconst 1, 1) := by decide +kernel
theorem dL_law_577 : decode cL_law 577 = .ok (.invokevirtual 102, 3) := by decide +kernel
theorem dL_law_580 : decode cL_law 580 = .ok (.aload_n 2, 1) := by decide +kernel
theorem dL_law_581 : decode cL_law 581 = .ok (.getfield 45, 3) := by decide +kernel
theorem dL_law_584 : decode cL_law 584 = .ok (.iload 15, 2) := by decide +kernel
theorem dL_law_586 : decode cL_law 586 = .ok (.aaload, 1) := by decide +kernel
theorem dL_law_587 : decode cL_law 587 = .ok (.getfield 53, 3) := by decide +kernel
theorem dL_law_590 : decode cL_law 590 = .ok (.bipush 10, 2) := by decide +kernel
theorem dL_law_592 : decode cL_law 592 = .ok (.idiv, 1) := by decide +kernel
theorem dL_law_593 : decode cL_law 593 = .ok (.if_icmp .ge 5, 3) := by decide +kernel
theorem dL_law_596 : decode cL_law 596 = .ok (.iconst 0, 1) := by decide +kernel
theorem dL_law_597 : decode cL_law 597 = .ok (.ireturn, 1) := by decide +kernel
theorem dL_law_598 : decode cL_law 598 = .ok (.iload 7, 2) := by decide +kernel
theorem dL_law_600 : decode cL_law 600 = .ok (.aload_n 1, 1) := by decide +kernel
theorem dL_law_601 : decode cL_law 601 = .ok (.iload 15, 2) := by decide +kernel
theorem dL_law_603 : decode cL_law 603 = .ok (.iconst 2, 1) := by decide +kernel
theorem dL_law_604 : decode cL_law 604 = .ok (.invokevirtual 99, 3) := by decide +kernel
theorem dL_law_607 : decode cL_law 607 = .ok (.aload 5, 2) := by decide +kernel
theorem dL_law_609 : decode cL_law 609 = .ok (.iload 15, 2) := by decide +kernel
theorem dL_law_611 : decode cL_law 611 = .ok (.iaload, 1) := by decide +kernel
theorem dL_law_612 : decode cL_law 612 = .ok (.if_icmp .ge 7, 3) := by decide +kernel
theorem dL_law_615 : decode cL_law 615 = .ok (.iconst 1, 1) := by decide +kernel
theorem dL_law_616 : decode cL_law 616 = .ok (.goto 4, 3) := by decide +kernel
theorem dL_law_619 : decode cL_law 619 = .ok (.iconst 0, 1) := by decide +kernel
theorem dL_law_620 : decode cL_law 620 = .ok (.iadd, 1) := by decide +kernel
theorem dL_law_621 : decode cL_law 621 = .ok (.istore 7, 2) := by decide +kernel
theorem dL_law_623 : decode cL_law 623 = .ok (.aload 6, 2) := by decide +kernel
theorem dL_law_625 : decode cL_law 625 = .ok (.iload 15, 2) := by decide +kernel
theorem dL_law_627 : decode cL_law 627 = .ok (.iaload, 1) := by decide +kernel
theorem dL_law_628 : decode cL_law 628 = .ok (.ifCond .lt 27, 3) := by decide +kernel
theorem dL_law_631 : decode cL_law 631 = .ok (.aload_n 1, 1) := by decide +kernel
theorem dL_law_632 : decode cL_law 632 = .ok (.iload 15, 2) := by decide +kernel
theorem dL_law_634 : decode cL_law 634 = .ok (.bipush 8, 2) := by decide +kernel
theorem dL_law_636 : decode cL_law 636 = .ok (.invokevirtual 99, 3) := by decide +kernel
theorem dL_law_639 : decode cL_law 639 = .ok (.aload 6, 2) := by decide +kernel
theorem dL_law_641 : decode cL_law 641 = .ok (.iload 15, 2) := by decide +kernel
theorem dL_law_643 : decode cL_law 643 = .ok (.iaload, 1) := by decide +kernel
theorem dL_law_644 : decode cL_law 644 = .ok (.if_icmp .ne 76, 3) := by decide +kernel
theorem dL_law_647 : decode cL_law 647 = .ok (.aload 9, 2) := by decide +kernel
theorem dL_law_649 : decode cL_law 649 = .ok (.iload 15, 2) := by decide +kernel
theorem dL_law_651 : decode cL_law 651 = .ok (.iaload, 1) := by decide +kernel
theorem dL_law_652 : decode cL_law 652 = .ok (.ifCond .ne 68, 3) := by decide +kernel
theorem dL_law_655 : decode cL_law 655 = .ok (.aload_n 1, 1) := by decide +kernel
theorem dL_law_656 : decode cL_law 656 = .ok (.iload 15, 2) := by decide +kernel
theorem dL_law_658 : decode cL_law 658 = .ok (.bipush 8, 2) := by decide +kernel
theorem dL_law_660 : decode cL_law 660 = .ok (.invokevirtual 99, 3) := by decide +kernel
theorem dL_law_663 : decode cL_law 663 = .ok (.ifCond .lt 7, 3) := by decide +kernel
theorem dL_law_666 : decode cL_law 666 = .ok (.iconst 1, 1) := by decide +kernel
theorem dL_law_667 : decode cL_law 667 = .ok (.goto 4, 3) := by decide +kernel
theorem dL_law_670 : decode cL_law 670 = .ok (.iconst 0, 1) := by decide +kernel
theorem dL_law_671 : decode cL_law 671 = .ok (.iload 16, 2) := by decide +kernel
theorem dL_law_673 : decode cL_law 673 = .ok (.aload_n 2, 1) := by decide +kernel
theorem dL_law_674 : decode cL_law 674 = .ok (.getfield 22, 3) := by decide +kernel
theorem dL_law_677 : decode cL_law 677 = .ok (.if_icmp .lt 7, 3) := by decide +kernel
theorem dL_law_680 : decode cL_law 680 = .ok (.iconst 1, 1) := by decide +kernel
theorem dL_law_681 : decode cL_law 681 = .ok (.goto 4, 3) := by decide +kernel
theorem dL_law_684 : decode cL_law 684 = .ok (.iconst 0, 1) := by decide +kernel
theorem dL_law_685 : decode cL_law 685 = .ok (.if_icmp .ne 35, 3) := by decide +kernel
theorem dL_law_688 : decode cL_law 688 = .ok (.aload 6, 2) := by decide +kernel
theorem dL_law_690 : decode cL_law 690 = .ok (.iload 15, 2) := by decide +kernel
theorem dL_law_692 : decode cL_law 692 = .ok (.iaload, 1) := by decide +kernel
theorem dL_law_693 : decode cL_law 693 = .ok (.ifCond .ge 29, 3) := by decide +kernel
theorem dL_law_696 : decode cL_law 696 = .ok (.aload_n 1, 1) := by decide +kernel
theorem dL_law_697 : decode cL_law 697 = .ok (.iload 15, 2) := by decide +kernel
theorem dL_law_699 : decode cL_law 699 = .ok (.bipush 8, 2) := by decide +kernel
theorem dL_law_701 : decode cL_law 701 = .ok (.invokevirtual 99, 3) := by decide +kernel
theorem dL_law_704 : decode cL_law 704 = .ok (.ifCond .lt 18, 3) := by decide +kernel
theorem dL_law_707 : decode cL_law 707 = .ok (.aload_n 1, 1) := by decide +kernel
theorem dL_law_708 : decode cL_law 708 = .ok (.iload 15, 2) := by decide +kernel
theorem dL_law_710 : decode cL_law 710 = .ok (.bipush 8, 2) := by decide +kernel
theorem dL_law_712 : decode cL_law 712 = .ok (.invokevirtual 99, 3) := by decide +kernel
theorem dL_law_715 : decode cL_law 715 = .ok (.iload 8, 2) := by decide +kernel
theorem dL_law_717 : decode cL_law 717 = .ok (.if_icmp .eq 5, 3) := by decide +kernel
theorem dL_law_720 : decode cL_law 720 = .ok (.iconst 0, 1) := by decide +kernel
theorem dL_law_721 : decode cL_law 721 = .ok (.ireturn, 1) := by decide +kernel
theorem dL_law_722 : decode cL_law 722 = .ok (.aload 4, 2) := by decide +kernel
theorem dL_law_724 : decode cL_law 724 = .ok (.iload 15, 2) := by decide +kernel
theorem dL_law_726 : decode cL_law 726 = .ok (.iload 16, 2) := by decide +kernel
theorem dL_law_728 : decode cL_law 728 = .ok (.iastore, 1) := by decide +kernel
theorem dL_law_729 : decode cL_law 729 = .ok (.aload 5, 2) := by decide +kernel
theorem dL_law_731 : decode cL_law 731 = .ok (.iload 15, 2) := by decide +kernel
theorem dL_law_733 : decode cL_law 733 = .ok (.aload_n 1, 1) := by decide +kernel
theorem dL_law_734 : decode cL_law 734 = .ok (.iload 15, 2) := by decide +kernel
theorem dL_law_736 : decode cL_law 736 = .ok (.iconst 2, 1) := by decide +kernel
theorem dL_law_737 : decode cL_law 737 = .ok (.invokevirtual 99, 3) := by decide +kernel
theorem dL_law_740 : decode cL_law 740 = .ok (.iastore, 1) := by decide +kernel
theorem dL_law_741 : decode cL_law 741 = .ok (.aload 6, 2) := by decide +kernel
theorem dL_law_743 : decode cL_law 743 = .ok (.iload 15, 2) := by decide +kernel
theorem dL_law_745 : decode cL_law 745 = .ok (.aload_n 1, 1) := by decide +kernel
theorem dL_law_746 : decode cL_law 746 = .ok (.iload 15, 2) := by decide +kernel
theorem dL_law_748 : decode cL_law 748 = .ok (.bipush 8, 2) := by decide +kernel
theorem dL_law_750 : decode cL_law 750 = .ok (.invokevirtual 99, 3) := by decide +kernel
theorem dL_law_753 : decode cL_law 753 = .ok (.iastore, 1) := by decide +kernel
theorem dL_law_754 : decode cL_law 754 = .ok (.iload 12, 2) := by decide +kernel
theorem dL_law_756 : decode cL_law 756 = .ok (.aload 6, 2) := by decide +kernel
theorem dL_law_758 : decode cL_law 758 = .ok (.iload 15, 2) := by decide +kernel
theorem dL_law_760 : decode cL_law 760 = .ok (.iaload, 1) := by decide +kernel
theorem dL_law_761 : decode cL_law 761 = .ok (.ifCond .lt 7, 3) := by decide +kernel
theorem dL_law_764 : decode cL_law 764 = .ok (.iconst 1, 1) := by decide +kernel
theorem dL_law_765 : decode cL_law 765 = .ok (.goto 4, 3) := by decide +kernel
theorem dL_law_768 : decode cL_law 768 = .ok (.iconst 0, 1) := by decide +kernel
theorem dL_law_769 : decode cL_law 769 = .ok (.iadd, 1) := by decide +kernel
theorem dL_law_770 : decode cL_law 770 = .ok (.istore 12, 2) := by decide +kernel
theorem dL_law_772 : decode cL_law 772 = .ok (.iload 13, 2) := by decide +kernel
theorem dL_law_774 : decode cL_law 774 = .ok (.iload 16, 2) := by decide +kernel
theorem dL_law_776 : decode cL_law 776 = .ok (.iadd, 1) := by decide +kernel
theorem dL_law_777 : decode cL_law 777 = .ok (.istore 13, 2) := by decide +kernel
theorem dL_law_779 : decode cL_law 779 = .ok (.aload 14, 2) := by decide +kernel
theorem dL_law_781 : decode cL_law 781 = .ok (.aload_n 1, 1) := by decide +kernel
theorem dL_law_782 : decode cL_law 782 = .ok (.iload 15, 2) := by decide +kernel
theorem dL_law_784 : decode cL_law 784 = .ok (.invokevirtual 118, 3) := by decide +kernel
theorem dL_law_787 : decode cL_law 787 = .ok (.iconst 1, 1) := by decide +kernel
theorem dL_law_788 : decode cL_law 788 = .ok (.bastore, 1) := by decide +kernel
theorem dL_law_789 : decode cL_law 789 = .ok (.iinc 15 1, 3) := by decide +kernel
theorem dL_law_792 : decode cL_law 792 = .ok (.goto (-550), 3) := by decide +kernel
theorem dL_law_795 : decode cL_law 795 = .ok (.aload 14, 2) := by decide +kernel
theorem dL_law_797 : decode cL_law 797 = .ok (.astore 15, 2) := by decide +kernel
theorem dL_law_799 : decode cL_law 799 = .ok (.aload 15, 2) := by decide +kernel
theorem dL_law_801 : decode cL_law 801 = .ok (.arraylength, 1) := by decide +kernel
theorem dL_law_802 : decode cL_law 802 = .ok (.istore 16, 2) := by decide +kernel
theorem dL_law_804 : decode cL_law 804 = .ok (.iconst 0, 1) := by decide +kernel
theorem dL_law_805 : decode cL_law 805 = .ok (.istore 17, 2) := by decide +kernel
theorem dL_law_807 : decode cL_law 807 = .ok (.iload 17, 2) := by decide +kernel
theorem dL_law_809 : decode cL_law 809 = .ok (.iload 16, 2) := by decide +kernel
theorem dL_law_811 : decode cL_law 811 = .ok (.if_icmp .ge 23, 3) := by decide +kernel
theorem dL_law_814 : decode cL_law 814 = .ok (.aload 15, 2) := by decide +kernel
theorem dL_law_816 : decode cL_law 816 = .ok (.iload 17, 2) := by decide +kernel
theorem dL_law_818 : decode cL_law 818 = .ok (.baload, 1) := by decide +kernel
theorem dL_law_819 : decode cL_law 819 = .ok (.istore 18, 2) := by decide +kernel
theorem dL_law_821 : decode cL_law 821 = .ok (.iload 18, 2) := by decide +kernel
theorem dL_law_823 : decode cL_law 823 = .ok (.ifCond .ne 5, 3) := by decide +kernel
theorem dL_law_826 : decode cL_law 826 = .ok (.iconst 0, 1) := by decide +kernel
theorem dL_law_827 : decode cL_law 827 = .ok (.ireturn, 1) := by decide +kernel
theorem dL_law_828 : decode cL_law 828 = .ok (.iinc 17 1, 3) := by decide +kernel
theorem dL_law_831 : decode cL_law 831 = .ok (.goto (-24), 3) := by decide +kernel
theorem dL_law_834 : decode cL_law 834 = .ok (.iload 12, 2) := by decide +kernel
theorem dL_law_836 : decode cL_law 836 = .ok (.iload 11, 2) := by decide +kernel
theorem dL_law_838 : decode cL_law 838 = .ok (.if_icmp .ne 27, 3) := by decide +kernel
theorem dL_law_841 : decode cL_law 841 = .ok (.aload_n 1, 1) := by decide +kernel
theorem dL_law_842 : decode cL_law 842 = .ok (.iconst 5, 1) := by decide +kernel
theorem dL_law_843 : decode cL_law 843 = .ok (.invokevirtual 111, 3) := by decide +kernel
theorem dL_law_846 : decode cL_law 846 = .ok (.iload 7, 2) := by decide +kernel
theorem dL_law_848 : decode cL_law 848 = .ok (.if_icmp .lt 17, 3) := by decide +kernel
theorem dL_law_851 : decode cL_law 851 = .ok (.aload_n 1, 1) := by decide +kernel
theorem dL_law_852 : decode cL_law 852 = .ok (.invokevirtual 121, 3) := by decide +kernel
theorem dL_law_855 : decode cL_law 855 = .ok (.iload 13, 2) := by decide +kernel
theorem dL_law_857 : decode cL_law 857 = .ok (.i2d, 1) := by decide +kernel
theorem dL_law_858 : decode cL_law 858 = .ok (.iload_n 3, 1) := by decide +kernel
theorem dL_law_859 : decode cL_law 859 = .ok (.i2d, 1) := by decide +kernel
theorem dL_law_860 : decode cL_law 860 = .ok (.ddiv, 1) := by decide +kernel
theorem dL_law_861 : decode cL_law 861 = .ok (.dcmp .l, 1) := by decide +kernel
theorem dL_law_862 : decode cL_law 862 = .ok (.ifCond .eq 5, 3) := by decide +kernel
theorem dL_law_865 : decode cL_law 865 = .ok (.iconst 0, 1) := by decide +kernel
theorem dL_law_866 : decode cL_law 866 = .ok (.ireturn, 1) := by decide +kernel
theorem dL_law_867 : decode cL_law 867 = .ok (.iinc 8 1, 3) := by decide +kernel
theorem dL_law_870 : decode cL_law 870 = .ok (.goto (-790), 3) := by decide +kernel
theorem dL_law_873 : decode cL_law 873 = .ok (.aload_n 1, 1) := by decide +kernel
theorem dL_law_874 : decode cL_law 874 = .ok (.invokevirtual 125, 3) := by decide +kernel
theorem dL_law_877 : decode cL_law 877 = .ok (.iload_n 3, 1) := by decide +kernel
theorem dL_law_878 : decode cL_law 878 = .ok (.if_icmp .ne 24, 3) := by decide +kernel
theorem dL_law_881 : decode cL_law 881 = .ok (.aload_n 1, 1) := by decide +kernel
theorem dL_law_882 : decode cL_law 882 = .ok (.iconst 4, 1) := by decide +kernel
theorem dL_law_883 : decode cL_law 883 = .ok (.invokevirtual 111, 3) := by decide +kernel
theorem dL_law_886 : decode cL_law 886 = .ok (.ifCond .ne 16, 3) := by decide +kernel
theorem dL_law_889 : decode cL_law 889 = .ok (.aload_n 1, 1) := by decide +kernel
theorem dL_law_890 : decode cL_law 890 = .ok (.invokevirtual 121, 3) := by decide +kernel
theorem dL_law_893 : decode cL_law 893 = .ok (.dconst 0, 1) := by decide +kernel
theorem dL_law_894 : decode cL_law 894 = .ok (.dcmp .l, 1) := by decide +kernel
theorem dL_law_895 : decode cL_law 895 = .ok (.ifCond .ne 7, 3) := by decide +kernel
theorem dL_law_898 : decode cL_law 898 = .ok (.iconst 1, 1) := by decide +kernel
theorem dL_law_899 : decode cL_law 899 = .ok (.goto 4, 3) := by decide +kernel
theorem dL_law_902 : decode cL_law 902 = .ok (.iconst 0, 1) := by decide +kernel
theorem dL_law_903 : decode cL_law 903 = .ok (.ireturn, 1) := by decide +kernel
theorem dL_placeOf_0 : decode cL_placeOf 0 = .ok (.aload_n 0, 1) := by decide +kernel
theorem dL_placeOf_1 : decode cL_placeOf 1 = .ok (.iload_n 1, 1) := by decide +kernel
theorem dL_placeOf_2 : decode cL_placeOf 2 = .ok (.iload_n 2, 1) := by decide +kernel
theorem dL_placeOf_3 : decode cL_placeOf 3 = .ok (.invokevirtual 129, 3) := by decide +kernel
theorem dL_placeOf_6 : decode cL_placeOf 6 = .ok (.ireturn, 1) := by decide +kernel
theorem dL_placeOf_7 : decode cL_placeOf 7 = .ok (.astore_n 3, 1) := by decide +kernel
theorem dL_placeOf_8 : decode cL_placeOf 8 = .ok (.sipush (-9999), 3) := by decide +kernel
theorem dL_placeOf_11 : decode cL_placeOf 11 = .ok (.ireturn, 1) := by decide +kernel
