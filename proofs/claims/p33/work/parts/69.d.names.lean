theorem dL_refuses_235 : decode cL_refuses 235 = .ok (.ldc 17, 2) := by decide +kernel
theorem dL_refuses_237 : decode cL_refuses 237 = .ok (.if_icmp .ne 167, 3) := by decide +kernel
theorem dL_refuses_240 : decode cL_refuses 240 = .ok (.aload_n 0, 1) := by decide +kernel
theorem dL_refuses_241 : decode cL_refuses 241 = .ok (.sipush 501, 3) := by decide +kernel
theorem dL_refuses_244 : decode cL_refuses 244 = .ok (.invokestatic 141, 3) := by decide +kernel
theorem dL_refuses_247 : decode cL_refuses 247 = .ok (.ldc 17, 2) := by decide +kernel
theorem dL_refuses_249 : decode cL_refuses 249 = .ok (.if_icmp .ne 155, 3) := by decide +kernel
theorem dL_refuses_252 : decode cL_refuses 252 = .ok (.aload_n 0, 1) := by decide +kernel
theorem dL_refuses_253 : decode cL_refuses 253 = .ok (.iload 4, 2) := by decide +kernel
theorem dL_refuses_255 : decode cL_refuses 255 = .ok (.bipush 9, 2) := by decide +kernel
theorem dL_refuses_257 : decode cL_refuses 257 = .ok (.invokestatic 98, 3) := by decide +kernel
theorem dL_refuses_260 : decode cL_refuses 260 = .ok (.ldc 27, 2) := by decide +kernel
theorem dL_refuses_262 : decode cL_refuses 262 = .ok (.if_icmp .ne 142, 3) := by decide +kernel
theorem dL_refuses_265 : decode cL_refuses 265 = .ok (.aload_n 0, 1) := by decide +kernel
theorem dL_refuses_266 : decode cL_refuses 266 = .ok (.iload_n 3, 1) := by decide +kernel
theorem dL_refuses_267 : decode cL_refuses 267 = .ok (.invokestatic 101, 3) := by decide +kernel
theorem dL_refuses_270 : decode cL_refuses 270 = .ok (.ldc 27, 2) := by decide +kernel
theorem dL_refuses_272 : decode cL_refuses 272 = .ok (.if_icmp .ne 132, 3) := by decide +kernel
theorem dL_refuses_275 : decode cL_refuses 275 = .ok (.aload_n 0, 1) := by decide +kernel
theorem dL_refuses_276 : decode cL_refuses 276 = .ok (.iconst (-1), 1) := by decide +kernel
theorem dL_refuses_277 : decode cL_refuses 277 = .ok (.invokestatic 136, 3) := by decide +kernel
theorem dL_refuses_280 : decode cL_refuses 280 = .ok (.ldc 27, 2) := by decide +kernel
theorem dL_refuses_282 : decode cL_refuses 282 = .ok (.if_icmp .ne 122, 3) := by decide +kernel
theorem dL_refuses_285 : decode cL_refuses 285 = .ok (.aload_n 0, 1) := by decide +kernel
theorem dL_refuses_286 : decode cL_refuses 286 = .ok (.bipush 18, 2) := by decide +kernel
theorem dL_refuses_288 : decode cL_refuses 288 = .ok (.invokestatic 93, 3) := by decide +kernel
theorem dL_refuses_291 : decode cL_refuses 291 = .ok (.ldc 17, 2) := by decide +kernel
theorem dL_refuses_293 : decode cL_refuses 293 = .ok (.if_icmp .ne 111, 3) := by decide +kernel
theorem dL_refuses_296 : decode cL_refuses 296 = .ok (.aload_n 0, 1) := by decide +kernel
theorem dL_refuses_297 : decode cL_refuses 297 = .ok (.iconst (-1), 1) := by decide +kernel
theorem dL_refuses_298 : decode cL_refuses 298 = .ok (.iconst 0, 1) := by decide +kernel
theorem dL_refuses_299 : decode cL_refuses 299 = .ok (.invokestatic 111, 3) := by decide +kernel
theorem dL_refuses_302 : decode cL_refuses 302 = .ok (.ldc2_w 69, 3) := by decide +kernel
theorem dL_refuses_305 : decode cL_refuses 305 = .ok (.lcmp, 1) := by decide +kernel
theorem dL_refuses_306 : decode cL_refuses 306 = .ok (.ifCond .ne 98, 3) := by decide +kernel
theorem dL_refuses_309 : decode cL_refuses 309 = .ok (.aload_n 0, 1) := by decide +kernel
theorem dL_refuses_310 : decode cL_refuses 310 = .ok (.iconst 0, 1) := by decide +kernel
theorem dL_refuses_311 : decode cL_refuses 311 = .ok (.iconst 4, 1) := by decide +kernel
theorem dL_refuses_312 : decode cL_refuses 312 = .ok (.invokestatic 111, 3) := by decide +kernel
theorem dL_refuses_315 : decode cL_refuses 315 = .ok (.ldc2_w 69, 3) := by decide +kernel
theorem dL_refuses_318 : decode cL_refuses 318 = .ok (.lcmp, 1) := by decide +kernel
theorem dL_refuses_319 : decode cL_refuses 319 = .ok (.ifCond .ne 85, 3) := by decide +kernel
theorem dL_refuses_322 : decode cL_refuses 322 = .ok (.aload_n 0, 1) := by decide +kernel
theorem dL_refuses_323 : decode cL_refuses 323 = .ok (.bipush 10, 2) := by decide +kernel
theorem dL_refuses_325 : decode cL_refuses 325 = .ok (.iconst 0, 1) := by decide +kernel
theorem dL_refuses_326 : decode cL_refuses 326 = .ok (.invokestatic 111, 3) := by decide +kernel
theorem dL_refuses_329 : decode cL_refuses 329 = .ok (.ldc2_w 188, 3) := by decide +kernel
theorem dL_refuses_332 : decode cL_refuses 332 = .ok (.lcmp, 1) := by decide +kernel
theorem dL_refuses_333 : decode cL_refuses 333 = .ok (.ifCond .ne 71, 3) := by decide +kernel
theorem dL_refuses_336 : decode cL_refuses 336 = .ok (.aload_n 0, 1) := by decide +kernel
theorem dL_refuses_337 : decode cL_refuses 337 = .ok (.sipush (-301), 3) := by decide +kernel
theorem dL_refuses_340 : decode cL_refuses 340 = .ok (.invokestatic 127, 3) := by decide +kernel
theorem dL_refuses_343 : decode cL_refuses 343 = .ok (.ldc 17, 2) := by decide +kernel
theorem dL_refuses_345 : decode cL_refuses 345 = .ok (.if_icmp .ne 59, 3) := by decide +kernel
theorem dL_refuses_348 : decode cL_refuses 348 = .ok (.aload_n 0, 1) := by decide +kernel
theorem dL_refuses_349 : decode cL_refuses 349 = .ok (.iload 4, 2) := by decide +kernel
theorem dL_refuses_351 : decode cL_refuses 351 = .ok (.invokestatic 167, 3) := by decide +kernel
theorem dL_refuses_354 : decode cL_refuses 354 = .ok (.ldc 27, 2) := by decide +kernel
theorem dL_refuses_356 : decode cL_refuses 356 = .ok (.if_icmp .ne 48, 3) := by decide +kernel
theorem dL_refuses_359 : decode cL_refuses 359 = .ok (.aload_n 0, 1) := by decide +kernel
theorem dL_refuses_360 : decode cL_refuses 360 = .ok (.sipush 600, 3) := by decide +kernel
theorem dL_refuses_363 : decode cL_refuses 363 = .ok (.sipush 599, 3) := by decide +kernel
theorem dL_refuses_366 : decode cL_refuses 366 = .ok (.invokestatic 156, 3) := by decide +kernel
theorem dL_refuses_369 : decode cL_refuses 369 = .ok (.ldc 17, 2) := by decide +kernel
theorem dL_refuses_371 : decode cL_refuses 371 = .ok (.if_icmp .ne 33, 3) := by decide +kernel
theorem dL_refuses_374 : decode cL_refuses 374 = .ok (.aload_n 0, 1) := by decide +kernel
theorem dL_refuses_375 : decode cL_refuses 375 = .ok (.sipush 501, 3) := by decide +kernel
theorem dL_refuses_378 : decode cL_refuses 378 = .ok (.invokestatic 138, 3) := by decide +kernel
theorem dL_refuses_381 : decode cL_refuses 381 = .ok (.ldc2_w 69, 3) := by decide +kernel
theorem dL_refuses_384 : decode cL_refuses 384 = .ok (.lcmp, 1) := by decide +kernel
theorem dL_refuses_385 : decode cL_refuses 385 = .ok (.ifCond .ne 19, 3) := by decide +kernel
theorem dL_refuses_388 : decode cL_refuses 388 = .ok (.aload_n 0, 1) := by decide +kernel
theorem dL_refuses_389 : decode cL_refuses 389 = .ok (.sipush 128, 3) := by decide +kernel
theorem dL_refuses_392 : decode cL_refuses 392 = .ok (.invokestatic 190, 3) := by decide +kernel
theorem dL_refuses_395 : decode cL_refuses 395 = .ok (.ldc 17, 2) := by decide +kernel
theorem dL_refuses_397 : decode cL_refuses 397 = .ok (.if_icmp .ne 7, 3) := by decide +kernel
theorem dL_refuses_400 : decode cL_refuses 400 = .ok (.iconst 1, 1) := by decide +kernel
theorem dL_refuses_401 : decode cL_refuses 401 = .ok (.goto 4, 3) := by decide +kernel
theorem dL_refuses_404 : decode cL_refuses 404 = .ok (.iconst 0, 1) := by decide +kernel
theorem dL_refuses_405 : decode cL_refuses 405 = .ok (.istore 5, 2) := by decide +kernel
theorem dL_refuses_407 : decode cL_refuses 407 = .ok (.iload 5, 2) := by decide +kernel
theorem dL_refuses_409 : decode cL_refuses 409 = .ok (.ifCond .eq 16, 3) := by decide +kernel
theorem dL_refuses_412 : decode cL_refuses 412 = .ok (.aload_n 0, 1) := by decide +kernel
theorem dL_refuses_413 : decode cL_refuses 413 = .ok (.invokevirtual 147, 3) := by decide +kernel
theorem dL_refuses_416 : decode cL_refuses 416 = .ok (.lload_n 1, 1) := by decide +kernel
theorem dL_refuses_417 : decode cL_refuses 417 = .ok (.lcmp, 1) := by decide +kernel
theorem dL_refuses_418 : decode cL_refuses 418 = .ok (.ifCond .ne 7, 3) := by decide +kernel
theorem dL_refuses_421 : decode cL_refuses 421 = .ok (.iconst 1, 1) := by decide +kernel
theorem dL_refuses_422 : decode cL_refuses 422 = .ok (.goto 4, 3) := by decide +kernel
theorem dL_refuses_425 : decode cL_refuses 425 = .ok (.iconst 0, 1) := by decide +kernel
theorem dL_refuses_426 : decode cL_refuses 426 = .ok (.ireturn, 1) := by decide +kernel
theorem dL_law_0 : decode cL_law 0 = .ok (.new 10, 3) := by decide +kernel
theorem dL_law_3 : decode cL_law 3 = .ok (.dup, 1) := by decide +kernel
theorem dL_law_4 : decode cL_law 4 = .ok (.invokespecial 192, 3) := by decide +kernel
theorem dL_law_7 : decode cL_law 7 = .ok (.astore_n 1, 1) := by decide +kernel
theorem dL_law_8 : decode cL_law 8 = .ok (.aload_n 1, 1) := by decide +kernel
theorem dL_law_9 : decode cL_law 9 = .ok (.invokestatic 193, 3) := by decide +kernel
theorem dL_law_12 : decode cL_law 12 = .ok (.ifCond .eq 33, 3) := by decide +kernel
theorem dL_law_15 : decode cL_law 15 = .ok (.aload_n 1, 1) := by decide +kernel
theorem dL_law_16 : decode cL_law 16 = .ok (.invokestatic 164, 3) := by decide +kernel
theorem dL_law_19 : decode cL_law 19 = .ok (.ldc 20, 2) := by decide +kernel
theorem dL_law_21 : decode cL_law 21 = .ok (.if_icmp .ne 24, 3) := by decide +kernel
theorem dL_law_24 : decode cL_law 24 = .ok (.aload_n 1, 1) := by decide +kernel
theorem dL_law_25 : decode cL_law 25 = .ok (.invokestatic 197, 3) := by decide +kernel
theorem dL_law_28 : decode cL_law 28 = .ok (.ifCond .eq 17, 3) := by decide +kernel
theorem dL_law_31 : decode cL_law 31 = .ok (.aload_n 1, 1) := by decide +kernel
theorem dL_law_32 : decode cL_law 32 = .ok (.invokevirtual 200, 3) := by decide +kernel
theorem dL_law_35 : decode cL_law 35 = .ok (.ifCond .ne 10, 3) := by decide +kernel
theorem dL_law_38 : decode cL_law 38 = .ok (.aload_n 1, 1) := by decide +kernel
theorem dL_law_39 : decode cL_law 39 = .ok (.invokestatic 164, 3) := by decide +kernel
theorem dL_law_42 : decode cL_law 42 = .ok (.ifCond .eq 5, 3) := by decide +kernel
theorem dL_law_45 : decode cL_law 45 = .ok (.iconst 0, 1) := by decide +kernel
theorem dL_law_46 : decode cL_law 46 = .ok (.ireturn, 1) := by decide +kernel
theorem dL_law_47 : decode cL_law 47 = .ok (.iconst 0, 1) := by decide +kernel
theorem dL_law_48 : decode cL_law 48 = .ok (.istore_n 2, 1) := by decide +kernel
theorem dL_law_49 : decode cL_law 49 = .ok (.iload_n 2, 1) := by decide +kernel
theorem dL_law_50 : decode cL_law 50 = .ok (.bipush 46, 2) := by decide +kernel
theorem dL_law_52 : decode cL_law 52 = .ok (.if_icmp .ge 1065, 3) := by decide +kernel
theorem dL_law_55 : decode cL_law 55 = .ok (.aload_n 0, 1) := by decide +kernel
theorem dL_law_56 : decode cL_law 56 = .ok (.iconst 2, 1) := by decide +kernel
theorem dL_law_57 : decode cL_law 57 = .ok (.iload_n 2, 1) := by decide +kernel
theorem dL_law_58 : decode cL_law 58 = .ok (.imul, 1) := by decide +kernel
theorem dL_law_59 : decode cL_law 59 = .ok (.invokestatic 203, 3) := by decide +kernel
theorem dL_law_62 : decode cL_law 62 = .ok (.istore_n 3, 1) := by decide +kernel
theorem dL_law_63 : decode cL_law 63 = .ok (.aload_n 0, 1) := by decide +kernel
theorem dL_law_64 : decode cL_law 64 = .ok (.iconst 2, 1) := by decide +kernel
theorem dL_law_65 : decode cL_law 65 = .ok (.iload_n 2, 1) := by decide +kernel
theorem dL_law_66 : decode cL_law 66 = .ok (.imul, 1) := by decide +kernel
theorem dL_law_67 : decode cL_law 67 = .ok (.iconst 1, 1) := by decide +kernel
theorem dL_law_68 : decode cL_law 68 = .ok (.iadd, 1) := by decide +kernel
theorem dL_law_69 : decode cL_law 69 = .ok (.invokestatic 203, 3) := by decide +kernel
theorem dL_law_72 : decode cL_law 72 = .ok (.istore 4, 2) := by decide +kernel
theorem dL_law_74 : decode cL_law 74 = .ok (.aload_n 1, 1) := by decide +kernel
theorem dL_law_75 : decode cL_law 75 = .ok (.iconst 0, 1) := by decide +kernel
theorem dL_law_76 : decode cL_law 76 = .ok (.invokestatic 93, 3) := by decide +kernel
theorem dL_law_79 : decode cL_law 79 = .ok (.istore 5, 2) := by decide +kernel
theorem dL_law_81 : decode cL_law 81 = .ok (.aload_n 1, 1) := by decide +kernel
theorem dL_law_82 : decode cL_law 82 = .ok (.iconst 1, 1) := by decide +kernel
theorem dL_law_83 : decode cL_law 83 = .ok (.invokestatic 93, 3) := by decide +kernel
theorem dL_law_86 : decode cL_law 86 = .ok (.istore 6, 2) := by decide +kernel
theorem dL_law_88 : decode cL_law 88 = .ok (.iload_n 2, 1) := by decide +kernel
theorem dL_law_89 : decode cL_law 89 = .ok (.iconst 3, 1) := by decide +kernel
theorem dL_law_90 : decode cL_law 90 = .ok (.if_icmp .ge 7, 3) := by decide +kernel
theorem dL_law_93 : decode cL_law 93 = .ok (.iconst 0, 1) := by decide +kernel
theorem dL_law_94 : decode cL_law 94 = .ok (.goto 9, 3) := by decide +kernel
theorem dL_law_97 : decode cL_law 97 = .ok (.iload_n 3, 1) := by decide +kernel
theorem dL_law_98 : decode cL_law 98 = .ok (.bipush 16, 2) := by decide +kernel
theorem dL_law_100 : decode cL_law 100 = .ok (.invokestatic 153, 3) := by decide +kernel
theorem dL_law_103 : decode cL_law 103 = .ok (.istore 7, 2) := by decide +kernel
theorem dL_law_105 : decode cL_law 105 = .ok (.iload 6, 2) := by decide +kernel
theorem dL_law_107 : decode cL_law 107 = .ok (.ifCond .ne 7, 3) := by decide +kernel
theorem dL_law_110 : decode cL_law 110 = .ok (.iconst 0, 1) := by decide +kernel
theorem dL_law_111 : decode cL_law 111 = .ok (.goto 11, 3) := by decide +kernel
theorem dL_law_114 : decode cL_law 114 = .ok (.iload_n 3, 1) := by decide +kernel
theorem dL_law_115 : decode cL_law 115 = .ok (.iconst 5, 1) := by decide +kernel
theorem dL_law_116 : decode cL_law 116 = .ok (.ishr, 1) := by decide +kernel
theorem dL_law_117 : decode cL_law 117 = .ok (.iload 6, 2) := by decide +kernel
theorem dL_law_119 : decode cL_law 119 = .ok (.invokestatic 153, 3) := by decide +kernel
theorem dL_law_122 : decode cL_law 122 = .ok (.istore 8, 2) := by decide +kernel
theorem dL_law_124 : decode cL_law 124 = .ok (.iload 7, 2) := by decide +kernel
theorem dL_law_126 : decode cL_law 126 = .ok (.iconst 2, 1) := by decide +kernel
theorem dL_law_127 : decode cL_law 127 = .ok (.if_icmp .ge 123, 3) := by decide +kernel
theorem dL_law_130 : decode cL_law 130 = .ok (.iload 4, 2) := by decide +kernel
theorem dL_law_132 : decode cL_law 132 = .ok (.iconst 2, 1) := by decide +kernel
theorem dL_law_133 : decode cL_law 133 = .ok (.invokestatic 153, 3) := by decide +kernel
theorem dL_law_136 : decode cL_law 136 = .ok (.ifCond .ne 7, 3) := by decide +kernel
theorem dL_law_139 : decode cL_law 139 = .ok (.iconst 1, 1) := by decide +kernel
theorem dL_law_140 : decode cL_law 140 = .ok (.goto 4, 3) := by decide +kernel
theorem dL_law_143 : decode cL_law 143 = .ok (.iconst (-1), 1) := by decide +kernel
theorem dL_law_144 : decode cL_law 144 = .ok (.istore 9, 2) := by decide +kernel
theorem dL_law_146 : decode cL_law 146 = .ok (.iconst 1, 1) := by decide +kernel
theorem dL_law_147 : decode cL_law 147 = .ok (.iload 4, 2) := by decide +kernel
theorem dL_law_149 : decode cL_law 149 = .ok (.iconst 3, 1) := by decide +kernel
theorem dL_law_150 : decode cL_law 150 = .ok (.ishr, 1) := by decide +kernel
theorem dL_law_151 : decode cL_law 151 = .ok (.ldc 169, 2) := by decide +kernel
theorem dL_law_153 : decode cL_law 153 = .ok (.invokestatic 153, 3) := by decide +kernel
theorem dL_law_156 : decode cL_law 156 = .ok (.iadd, 1) := by decide +kernel
theorem dL_law_157 : decode cL_law 157 = .ok (.istore 10, 2) := by decide +kernel
theorem dL_law_159 : decode cL_law 159 = .ok (.aload_n 1, 1) := by decide +kernel
theorem dL_law_160 : decode cL_law 160 = .ok (.iload 4, 2) := by decide +kernel
theorem dL_law_162 : decode cL_law 162 = .ok (.iconst 1, 1) := by decide +kernel
theorem dL_law_163 : decode cL_law 163 = .ok (.ishr, 1) := by decide +kernel
theorem dL_law_164 : decode cL_law 164 = .ok (.iload 5, 2) := by decide +kernel
theorem dL_law_166 : decode cL_law 166 = .ok (.invokestatic 153, 3) := by decide +kernel
theorem dL_law_169 : decode cL_law 169 = .ok (.iload 9, 2) := by decide +kernel
theorem dL_law_171 : decode cL_law 171 = .ok (.iload 10, 2) := by decide +kernel
theorem dL_law_173 : decode cL_law 173 = .ok (.invokestatic 176, 3) := by decide +kernel
theorem dL_law_176 : decode cL_law 176 = .ok (.istore 11, 2) := by decide +kernel
theorem dL_law_178 : decode cL_law 178 = .ok (.iload 11, 2) := by decide +kernel
theorem dL_law_180 : decode cL_law 180 = .ok (.iload 6, 2) := by decide +kernel
theorem dL_law_182 : decode cL_law 182 = .ok (.bipush 9, 2) := by decide +kernel
theorem dL_law_184 : decode cL_law 184 = .ok (.if_icmp .ne 8, 3) := by decide +kernel
theorem dL_law_187 : decode cL_law 187 = .ok (.ldc 20, 2) := by decide +kernel
theorem dL_law_189 : decode cL_law 189 = .ok (.goto 5, 3) := by decide +kernel
theorem dL_law_192 : decode cL_law 192 = .ok (.iload 6, 2) := by decide +kernel
theorem dL_law_194 : decode cL_law 194 = .ok (.if_icmp .ne 51, 3) := by decide +kernel
theorem dL_law_197 : decode cL_law 197 = .ok (.iload 11, 2) := by decide +kernel
theorem dL_law_199 : decode cL_law 199 = .ok (.ifCond .lt 48, 3) := by decide +kernel
theorem dL_law_202 : decode cL_law 202 = .ok (.aload_n 1, 1) := by decide +kernel
theorem dL_law_203 : decode cL_law 203 = .ok (.iload 11, 2) := by decide +kernel
theorem dL_law_205 : decode cL_law 205 = .ok (.iconst 0, 1) := by decide +kernel
theorem dL_law_206 : decode cL_law 206 = .ok (.invokestatic 98, 3) := by decide +kernel
theorem dL_law_209 : decode cL_law 209 = .ok (.iload 4, 2) := by decide +kernel
theorem dL_law_211 : decode cL_law 211 = .ok (.iconst 1, 1) := by decide +kernel
theorem dL_law_212 : decode cL_law 212 = .ok (.ishr, 1) := by decide +kernel
theorem dL_law_213 : decode cL_law 213 = .ok (.iload 5, 2) := by decide +kernel
theorem dL_law_215 : decode cL_law 215 = .ok (.invokestatic 153, 3) := by decide +kernel
theorem dL_law_218 : decode cL_law 218 = .ok (.if_icmp .ne 27, 3) := by decide +kernel
theorem dL_law_221 : decode cL_law 221 = .ok (.aload_n 1, 1) := by decide +kernel
theorem dL_law_222 : decode cL_law 222 = .ok (.iload 11, 2) := by decide +kernel
theorem dL_law_224 : decode cL_law 224 = .ok (.iconst 1, 1) := by decide +kernel
theorem dL_law_225 : decode cL_law 225 = .ok (.invokestatic 98, 3) := by decide +kernel
theorem dL_law_228 : decode cL_law 228 = .ok (.iload 9, 2) := by decide +kernel
theorem dL_law_230 : decode cL_law 230 = .ok (.if_icmp .ne 15, 3) := by decide +kernel
theorem dL_law_233 : decode cL_law 233 = .ok (.aload_n 1, 1) := by decide +kernel
theorem dL_law_234 : decode cL_law 234 = .ok (.iload 11, 2) := by decide +kernel
theorem dL_law_236 : decode cL_law 236 = .ok (.iconst 2, 1) := by decide +kernel
theorem dL_law_237 : decode cL_law 237 = .ok (.invokestatic 98, 3) := by decide +kernel
theorem dL_law_240 : decode cL_law 240 = .ok (.iload 10, 2) := by decide +kernel
theorem dL_law_242 : decode cL_law 242 = .ok (.if_icmp .eq 5, 3) := by decide +kernel
theorem dL_law_245 : decode cL_law 245 = .ok (.iconst 0, 1) := by decide +kernel
theorem dL_law_246 : decode cL_law 246 = .ok (.ireturn, 1) := by decide +kernel
theorem dL_law_247 : decode cL_law 247 = .ok (.goto 855, 3) := by decide +kernel
theorem dL_law_250 : decode cL_law 250 = .ok (.iload 7, 2) := by decide +kernel
theorem dL_law_252 : decode cL_law 252 = .ok (.iconst 2, 1) := by decide +kernel
theorem dL_law_253 : decode cL_law 253 = .ok (.if_icmp .ne 63, 3) := by decide +kernel
theorem dL_law_256 : decode cL_law 256 = .ok (.aload_n 1, 1) := by decide +kernel
theorem dL_law_257 : decode cL_law 257 = .ok (.iload 4, 2) := by decide +kernel
theorem dL_law_259 : decode cL_law 259 = .ok (.sipush 501, 3) := by decide +kernel
theorem dL_law_262 : decode cL_law 262 = .ok (.invokestatic 153, 3) := by decide +kernel
theorem dL_law_265 : decode cL_law 265 = .ok (.invokestatic 172, 3) := by decide +kernel
theorem dL_law_268 : decode cL_law 268 = .ok (.istore 9, 2) := by decide +kernel
theorem dL_law_270 : decode cL_law 270 = .ok (.iload 9, 2) := by decide +kernel
theorem dL_law_272 : decode cL_law 272 = .ok (.iload 5, 2) := by decide +kernel
theorem dL_law_274 : decode cL_law 274 = .ok (.bipush 6, 2) := by decide +kernel
theorem dL_law_276 : decode cL_law 276 = .ok (.if_icmp .ne 8, 3) := by decide +kernel
theorem dL_law_279 : decode cL_law 279 = .ok (.ldc 20, 2) := by decide +kernel
theorem dL_law_281 : decode cL_law 281 = .ok (.goto 5, 3) := by decide +kernel
theorem dL_law_284 : decode cL_law 284 = .ok (.iload 5, 2) := by decide +kernel
theorem dL_law_286 : decode cL_law 286 = .ok (.if_icmp .ne 25, 3) := by decide +kernel
theorem dL_law_289 : decode cL_law 289 = .ok (.iload 9, 2) := by decide +kernel
theorem dL_law_291 : decode cL_law 291 = .ok (.ifCond .lt 22, 3) := by decide +kernel
theorem dL_law_294 : decode cL_law 294 = .ok (.aload_n 1, 1) := by decide +kernel
theorem dL_law_295 : decode cL_law 295 = .ok (.iload 9, 2) := by decide +kernel
theorem dL_law_297 : decode cL_law 297 = .ok (.invokestatic 101, 3) := by decide +kernel
theorem dL_law_300 : decode cL_law 300 = .ok (.iload 4, 2) := by decide +kernel
theorem dL_law_302 : decode cL_law 302 = .ok (.sipush 501, 3) := by decide +kernel
theorem dL_law_305 : decode cL_law 305 = .ok (.invokestatic 153, 3) := by decide +kernel
theorem dL_law_308 : decode cL_law 308 = .ok (.if_icmp .eq 5, 3) := by decide +kernel
theorem dL_law_311 : decode cL_law 311 = .ok (.iconst 0, 1) := by decide +kernel
theorem dL_law_312 : decode cL_law 312 = .ok (.ireturn, 1) := by decide +kernel
theorem dL_law_313 : decode cL_law 313 = .ok (.goto 789, 3) := by decide +kernel
theorem dL_law_316 : decode cL_law 316 = .ok (.iload 7, 2) := by decide +kernel
theorem dL_law_318 : decode cL_law 318 = .ok (.iconst 3, 1) := by decide +kernel
theorem dL_law_319 : decode cL_law 319 = .ok (.if_icmp .ne 95, 3) := by decide +kernel
theorem dL_law_322 : decode cL_law 322 = .ok (.iload 4, 2) := by decide +kernel
theorem dL_law_324 : decode cL_law 324 = .ok (.iload 5, 2) := by decide +kernel
theorem dL_law_326 : decode cL_law 326 = .ok (.invokestatic 153, 3) := by decide +kernel
theorem dL_law_329 : decode cL_law 329 = .ok (.istore 9, 2) := by decide +kernel
theorem dL_law_331 : decode cL_law 331 = .ok (.aload_n 1, 1) := by decide +kernel
theorem dL_law_332 : decode cL_law 332 = .ok (.iload 9, 2) := by decide +kernel
theorem dL_law_334 : decode cL_law 334 = .ok (.invokestatic 101, 3) := by decide +kernel
theorem dL_law_337 : decode cL_law 337 = .ok (.istore 10, 2) := by decide +kernel
theorem dL_law_339 : decode cL_law 339 = .ok (.aload_n 1, 1) := by decide +kernel
theorem dL_law_340 : decode cL_law 340 = .ok (.iload 9, 2) := by decide +kernel
theorem dL_law_342 : decode cL_law 342 = .ok (.iload 4, 2) := by decide +kernel
theorem dL_law_344 : decode cL_law 344 = .ok (.iconst 3, 1) := by decide +kernel
theorem dL_law_345 : decode cL_law 345 = .ok (.ishr, 1) := by decide +kernel
theorem dL_law_346 : decode cL_law 346 = .ok (.sipush 501, 3) := by decide +kernel
theorem dL_law_349 : decode cL_law 349 = .ok (.invokestatic 153, 3) := by decide +kernel
theorem dL_law_352 : decode cL_law 352 = .ok (.invokestatic 174, 3) := by decide +kernel
theorem dL_law_355 : decode cL_law 355 = .ok (.iload 10, 2) := by decide +kernel
theorem dL_law_357 : decode cL_law 357 = .ok (.if_icmp .ne 52, 3) := by decide +kernel
theorem dL_law_360 : decode cL_law 360 = .ok (.aload_n 1, 1) := by decide +kernel
theorem dL_law_361 : decode cL_law 361 = .ok (.iload 9, 2) := by decide +kernel
theorem dL_law_363 : decode cL_law 363 = .ok (.invokestatic 101, 3) := by decide +kernel
theorem dL_law_366 : decode cL_law 366 = .ok (.iload 4, 2) := by decide +kernel
theorem dL_law_368 : decode cL_law 368 = .ok (.iconst 3, 1) := by decide +kernel
theorem dL_law_369 : decode cL_law 369 = .ok (.ishr, 1) := by decide +kernel
theorem dL_law_370 : decode cL_law 370 = .ok (.sipush 501, 3) := by decide +kernel
theorem dL_law_373 : decode cL_law 373 = .ok (.invokestatic 153, 3) := by decide +kernel
theorem dL_law_376 : decode cL_law 376 = .ok (.if_icmp .ne 33, 3) := by decide +kernel
theorem dL_law_379 : decode cL_law 379 = .ok (.iload 4, 2) := by decide +kernel
theorem dL_law_381 : decode cL_law 381 = .ok (.bipush 12, 2) := by decide +kernel
theorem dL_law_383 : decode cL_law 383 = .ok (.ishr, 1) := by decide +kernel
theorem dL_law_384 : decode cL_law 384 = .ok (.iconst 2, 1) := by decide +kernel
theorem dL_law_385 : decode cL_law 385 = .ok (.invokestatic 153, 3) := by decide +kernel
theorem dL_law_388 : decode cL_law 388 = .ok (.ifCond .ne 23, 3) := by decide +kernel
theorem dL_law_391 : decode cL_law 391 = .ok (.aload_n 1, 1) := by decide +kernel
theorem dL_law_392 : decode cL_law 392 = .ok (.invokestatic 164, 3) := by decide +kernel
theorem dL_law_395 : decode cL_law 395 = .ok (.ifCond .lt 14, 3) := by decide +kernel
theorem dL_law_398 : decode cL_law 398 = .ok (.aload_n 1, 1) := by decide +kernel
theorem dL_law_399 : decode cL_law 399 = .ok (.iload 9, 2) := by decide +kernel
theorem dL_law_401 : decode cL_law 401 = .ok (.invokestatic 101, 3) := by decide +kernel
theorem dL_law_404 : decode cL_law 404 = .ok (.iload 10, 2) := by decide +kernel
theorem dL_law_406 : decode cL_law 406 = .ok (.if_icmp .eq 5, 3) := by decide +kernel
theorem dL_law_409 : decode cL_law 409 = .ok (.iconst 0, 1) := by decide +kernel
theorem dL_law_410 : decode cL_law 410 = .ok (.ireturn, 1) := by decide +kernel
theorem dL_law_411 : decode cL_law 411 = .ok (.goto 691, 3) := by decide +kernel
theorem dL_law_414 : decode cL_law 414 = .ok (.iload 7, 2) := by decide +kernel
theorem dL_law_416 : decode cL_law 416 = .ok (.iconst 4, 1) := by decide +kernel
theorem dL_law_417 : decode cL_law 417 = .ok (.if_icmp .ne 80, 3) := by decide +kernel
theorem dL_law_420 : decode cL_law 420 = .ok (.iload 6, 2) := by decide +kernel
theorem dL_law_422 : decode cL_law 422 = .ok (.ifCond .le 75, 3) := by decide +kernel
theorem dL_law_425 : decode cL_law 425 = .ok (.iload 4, 2) := by decide +kernel
theorem dL_law_427 : decode cL_law 427 = .ok (.iconst 3, 1) := by decide +kernel
theorem dL_law_428 : decode cL_law 428 = .ok (.invokestatic 153, 3) := by decide +kernel
theorem dL_law_431 : decode cL_law 431 = .ok (.ifCond .ne 66, 3) := by decide +kernel
theorem dL_law_434 : decode cL_law 434 = .ok (.iload 8, 2) := by decide +kernel
theorem dL_law_436 : decode cL_law 436 = .ok (.iconst 1, 1) := by decide +kernel
theorem dL_law_437 : decode cL_law 437 = .ok (.iadd, 1) := by decide +kernel
theorem dL_law_438 : decode cL_law 438 = .ok (.iload 6, 2) := by decide +kernel
theorem dL_law_440 : decode cL_law 440 = .ok (.if_icmp .ge 15, 3) := by decide +kernel
theorem dL_law_443 : decode cL_law 443 = .ok (.aload_n 1, 1) := by decide +kernel
theorem dL_law_444 : decode cL_law 444 = .ok (.iload 8, 2) := by decide +kernel
theorem dL_law_446 : decode cL_law 446 = .ok (.iconst 1, 1) := by decide +kernel
theorem dL_law_447 : decode cL_law 447 = .ok (.iadd, 1) := by decide +kernel
theorem dL_law_448 : decode cL_law 448 = .ok (.iconst 2, 1) := by decide +kernel
theorem dL_law_449 : decode cL_law 449 = .ok (.invokestatic 98, 3) := by decide +kernel
theorem dL_law_452 : decode cL_law 452 = .ok (.goto 4, 3) := by decide +kernel
theorem dL_law_455 : decode cL_law 455 = .ok (.iconst 0, 1) := by decide +kernel
theorem dL_law_456 : decode cL_law 456 = .ok (.istore 9, 2) := by decide +kernel
theorem dL_law_458 : decode cL_law 458 = .ok (.aload_n 1, 1) := by decide +kernel
theorem dL_law_459 : decode cL_law 459 = .ok (.iload 8, 2) := by decide +kernel
theorem dL_law_461 : decode cL_law 461 = .ok (.invokestatic 179, 3) := by decide +kernel
theorem dL_law_464 : decode cL_law 464 = .ok (.iload 6, 2) := by decide +kernel
theorem dL_law_466 : decode cL_law 466 = .ok (.iconst 1, 1) := by decide +kernel
theorem dL_law_467 : decode cL_law 467 = .ok (.isub, 1) := by decide +kernel
theorem dL_law_468 : decode cL_law 468 = .ok (.if_icmp .ne 24, 3) := by decide +kernel
theorem dL_law_471 : decode cL_law 471 = .ok (.iload 8, 2) := by decide +kernel
theorem dL_law_473 : decode cL_law 473 = .ok (.iconst 1, 1) := by decide +kernel
theorem dL_law_474 : decode cL_law 474 = .ok (.iadd, 1) := by decide +kernel
theorem dL_law_475 : decode cL_law 475 = .ok (.iload 6, 2) := by decide +kernel
theorem dL_law_477 : decode cL_law 477 = .ok (.if_icmp .ge 17, 3) := by decide +kernel
theorem dL_law_480 : decode cL_law 480 = .ok (.aload_n 1, 1) := by decide +kernel
theorem dL_law_481 : decode cL_law 481 = .ok (.iload 8, 2) := by decide +kernel
theorem dL_law_483 : decode cL_law 483 = .ok (.iconst 2, 1) := by decide +kernel
theorem dL_law_484 : decode cL_law 484 = .ok (.invokestatic 98, 3) := by decide +kernel
theorem dL_law_487 : decode cL_law 487 = .ok (.iload 9, 2) := by decide +kernel
theorem dL_law_489 : decode cL_law 489 = .ok (.if_icmp .eq 5, 3) := by decide +kernel
theorem dL_law_492 : decode cL_law 492 = .ok (.iconst 0, 1) := by decide +kernel
theorem dL_law_493 : decode cL_law 493 = .ok (.ireturn, 1) := by decide +kernel
theorem dL_law_494 : decode cL_law 494 = .ok (.goto 608, 3) := by decide +kernel
theorem dL_law_497 : decode cL_law 497 = .ok (.iload 7, 2) := by decide +kernel
theorem dL_law_499 : decode cL_law 499 = .ok (.iconst 5, 1) := by decide +kernel
theorem dL_law_500 : decode cL_law 500 = .ok (.if_icmp .ne 58, 3) := by decide +kernel
theorem dL_law_503 : decode cL_law 503 = .ok (.iload 6, 2) := by decide +kernel
theorem dL_law_505 : decode cL_law 505 = .ok (.ifCond .le 53, 3) := by decide +kernel
theorem dL_law_508 : decode cL_law 508 = .ok (.aload_n 1, 1) := by decide +kernel
theorem dL_law_509 : decode cL_law 509 = .ok (.iload 8, 2) := by decide +kernel
theorem dL_law_511 : decode cL_law 511 = .ok (.iconst 2, 1) := by decide +kernel
theorem dL_law_512 : decode cL_law 512 = .ok (.invokestatic 98, 3) := by decide +kernel
theorem dL_law_515 : decode cL_law 515 = .ok (.istore 9, 2) := by decide +kernel
theorem dL_law_517 : decode cL_law 517 = .ok (.iconst 1, 1) := by decide +kernel
theorem dL_law_518 : decode cL_law 518 = .ok (.iload 4, 2) := by decide +kernel
theorem dL_law_520 : decode cL_law 520 = .ok (.ldc 169, 2) := by decide +kernel
theorem dL_law_522 : decode cL_law 522 = .ok (.invokestatic 153, 3) := by decide +kernel
theorem dL_law_525 : decode cL_law 525 = .ok (.iadd, 1) := by decide +kernel
theorem dL_law_526 : decode cL_law 526 = .ok (.istore 10, 2) := by decide +kernel
theorem dL_law_528 : decode cL_law 528 = .ok (.aload_n 1, 1) := by decide +kernel
theorem dL_law_529 : decode cL_law 529 = .ok (.iload 8, 2) := by decide +kernel
theorem dL_law_531 : decode cL_law 531 = .ok (.iload 10, 2) := by decide +kernel
theorem dL_law_533 : decode cL_law 533 = .ok (.invokestatic 170, 3) := by decide +kernel
theorem dL_law_536 : decode cL_law 536 = .ok (.iload 9, 2) := by decide +kernel
theorem dL_law_538 : decode cL_law 538 = .ok (.if_icmp .ne 15, 3) := by decide +kernel
theorem dL_law_541 : decode cL_law 541 = .ok (.aload_n 1, 1) := by decide +kernel
theorem dL_law_542 : decode cL_law 542 = .ok (.iload 8, 2) := by decide +kernel
theorem dL_law_544 : decode cL_law 544 = .ok (.iconst 2, 1) := by decide +kernel
theorem dL_law_545 : decode cL_law 545 = .ok (.invokestatic 98, 3) := by decide +kernel
theorem dL_law_548 : decode cL_law 548 = .ok (.iload 10, 2) := by decide +kernel
theorem dL_law_550 : decode cL_law 550 = .ok (.if_icmp .eq 5, 3) := by decide +kernel
theorem dL_law_553 : decode cL_law 553 = .ok (.iconst 0, 1) := by decide +kernel
theorem dL_law_554 : decode cL_law 554 = .ok (.ireturn, 1) := by decide +kernel
theorem dL_law_555 : decode cL_law 555 = .ok (.goto 547, 3) := by decide +kernel
theorem dL_law_558 : decode cL_law 558 = .ok (.iload 7, 2) := by decide +kernel
theorem dL_law_560 : decode cL_law 560 = .ok (.bipush 8, 2) := by decide +kernel
theorem dL_law_562 : decode cL_law 562 = .ok (.if_icmp .ge 104, 3) := by decide +kernel
theorem dL_law_565 : decode cL_law 565 = .ok (.iload 4, 2) := by decide +kernel
theorem dL_law_567 : decode cL_law 567 = .ok (.iconst 5, 1) := by decide +kernel
theorem dL_law_568 : decode cL_law 568 = .ok (.invokestatic 153, 3) := by decide +kernel
theorem dL_law_571 : decode cL_law 571 = .ok (.istore 9, 2) := by decide +kernel
theorem dL_law_573 : decode cL_law 573 = .ok (.aload_n 1, 1) := by decide +kernel
theorem dL_law_574 : decode cL_law 574 = .ok (.iload 9, 2) := by decide +kernel
theorem dL_law_576 : decode cL_law 576 = .ok (.invokestatic 136, 3) := by decide +kernel
theorem dL_law_579 : decode cL_law 579 = .ok (.istore 10, 2) := by decide +kernel
theorem dL_law_581 : decode cL_law 581 = .ok (.iload 4, 2) := by decide +kernel
theorem dL_law_583 : decode cL_law 583 = .ok (.iconst 3, 1) := by decide +kernel
theorem dL_law_584 : decode cL_law 584 = .ok (.ishr, 1) := by decide +kernel
theorem dL_law_585 : decode cL_law 585 = .ok (.sipush 901, 3) := by decide +kernel
theorem dL_law_588 : decode cL_law 588 = .ok (.invokestatic 153, 3) := by decide +kernel
theorem dL_law_591 : decode cL_law 591 = .ok (.sipush 300, 3) := by decide +kernel
theorem dL_law_594 : decode cL_law 594 = .ok (.isub, 1) := by decide +kernel
theorem dL_law_595 : decode cL_law 595 = .ok (.istore 11, 2) := by decide +kernel
theorem dL_law_597 : decode cL_law 597 = .ok (.aload_n 1, 1) := by decide +kernel
theorem dL_law_598 : decode cL_law 598 = .ok (.iconst 2, 1) := by decide +kernel
theorem dL_law_599 : decode cL_law 599 = .ok (.invokestatic 93, 3) := by decide +kernel
theorem dL_law_602 : decode cL_law 602 = .ok (.istore 12, 2) := by decide +kernel
theorem dL_law_604 : decode cL_law 604 = .ok (.aload_n 1, 1) := by decide +kernel
theorem dL_law_605 : decode cL_law 605 = .ok (.iload 9, 2) := by decide +kernel
theorem dL_law_607 : decode cL_law 607 = .ok (.iload 11, 2) := by decide +kernel
theorem dL_law_609 : decode cL_law 609 = .ok (.invokestatic 181, 3) := by decide +kernel
theorem dL_law_612 : decode cL_law 612 = .ok (.iload 10, 2) := by decide +kernel
theorem dL_law_614 : decode cL_law 614 = .ok (.if_icmp .ne 47, 3) := by decide +kernel
theorem dL_law_617 : decode cL_law 617 = .ok (.aload_n 1, 1) := by decide +kernel
theorem dL_law_618 : decode cL_law 618 = .ok (.iload 9, 2) := by decide +kernel
theorem dL_law_620 : decode cL_law 620 = .ok (.invokestatic 136, 3) := by decide +kernel
theorem dL_law_623 : decode cL_law 623 = .ok (.iload 11, 2) := by decide +kernel
theorem dL_law_625 : decode cL_law 625 = .ok (.if_icmp .ne 36, 3) := by decide +kernel
theorem dL_law_628 : decode cL_law 628 = .ok (.iload 4, 2) := by decide +kernel
theorem dL_law_630 : decode cL_law 630 = .ok (.bipush 13, 2) := by decide +kernel
theorem dL_law_632 : decode cL_law 632 = .ok (.ishr, 1) := by decide +kernel
theorem dL_law_633 : decode cL_law 633 = .ok (.iconst 2, 1) := by decide +kernel
theorem dL_law_634 : decode cL_law 634 = .ok (.invokestatic 153, 3) := by decide +kernel
theorem dL_law_637 : decode cL_law 637 = .ok (.ifCond .ne 26, 3) := by decide +kernel
theorem dL_law_640 : decode cL_law 640 = .ok (.aload_n 1, 1) := by decide +kernel
theorem dL_law_641 : decode cL_law 641 = .ok (.iload 9, 2) := by decide +kernel
theorem dL_law_643 : decode cL_law 643 = .ok (.invokestatic 183, 3) := by decide +kernel
theorem dL_law_646 : decode cL_law 646 = .ok (.iload 12, 2) := by decide +kernel
theorem dL_law_648 : decode cL_law 648 = .ok (.if_icmp .ne 13, 3) := by decide +kernel
theorem dL_law_651 : decode cL_law 651 = .ok (.aload_n 1, 1) := by decide +kernel
theorem dL_law_652 : decode cL_law 652 = .ok (.iconst 2, 1) := by decide +kernel
theorem dL_law_653 : decode cL_law 653 = .ok (.invokestatic 93, 3) := by decide +kernel
theorem dL_law_656 : decode cL_law 656 = .ok (.iload 9, 2) := by decide +kernel
theorem dL_law_658 : decode cL_law 658 = .ok (.if_icmp .eq 5, 3) := by decide +kernel
theorem dL_law_661 : decode cL_law 661 = .ok (.iconst 0, 1) := by decide +kernel
theorem dL_law_662 : decode cL_law 662 = .ok (.ireturn, 1) := by decide +kernel
theorem dL_law_663 : decode cL_law 663 = .ok (.goto 439, 3) := by decide +kernel
theorem dL_law_666 : decode cL_law 666 = .ok (.iload 7, 2) := by decide +kernel
theorem dL_law_668 : decode cL_law 668 = .ok (.bipush 8, 2) := by decide +kernel
theorem dL_law_670 : decode cL_law 670 = .ok (.if_icmp .ne 105, 3) := by decide +kernel
theorem dL_law_673 : decode cL_law 673 = .ok (.aload_n 1, 1) := by decide +kernel
theorem dL_law_674 : decode cL_law 674 = .ok (.iconst 4, 1) := by decide +kernel
theorem dL_law_675 : decode cL_law 675 = .ok (.invokestatic 93, 3) := by decide +kernel
theorem dL_law_678 : decode cL_law 678 = .ok (.istore 9, 2) := by decide +kernel
theorem dL_law_680 : decode cL_law 680 = .ok (.iload 4, 2) := by decide +kernel
theorem dL_law_682 : decode cL_law 682 = .ok (.sipush 1401, 3) := by decide +kernel
theorem dL_law_685 : decode cL_law 685 = .ok (.invokestatic 153, 3) := by decide +kernel
theorem dL_law_688 : decode cL_law 688 = .ok (.sipush 700, 3) := by decide +kernel
theorem dL_law_691 : decode cL_law 691 = .ok (.isub, 1) := by decide +kernel
theorem dL_law_692 : decode cL_law 692 = .ok (.istore 10, 2) := by decide +kernel
theorem dL_law_694 : decode cL_law 694 = .ok (.iload 9, 2) := by decide +kernel
theorem dL_law_696 : decode cL_law 696 = .ok (.iload 10, 2) := by decide +kernel
theorem dL_law_698 : decode cL_law 698 = .ok (.iadd, 1) := by decide +kernel
theorem dL_law_699 : decode cL_law 699 = .ok (.sipush (-500), 3) := by decide +kernel
theorem dL_law_702 : decode cL_law 702 = .ok (.if_icmp .lt 18, 3) := by decide +kernel
theorem dL_law_705 : decode cL_law 705 = .ok (.iload 9, 2) := by decide +kernel
theorem dL_law_707 : decode cL_law 707 = .ok (.iload 10, 2) := by decide +kernel
theorem dL_law_709 : decode cL_law 709 = .ok (.iadd, 1) := by decide +kernel
theorem dL_law_710 : decode cL_law 710 = .ok (.sipush 500, 3) := by decide +kernel
theorem dL_law_713 : decode cL_law 713 = .ok (.if_icmp .gt 7, 3) := by decide +kernel
theorem dL_law_716 : decode cL_law 716 = .ok (.iconst 1, 1) := by decide +kernel
theorem dL_law_717 : decode cL_law 717 = .ok (.goto 4, 3) := by decide +kernel
theorem dL_law_720 : decode cL_law 720 = .ok (.iconst 0, 1) := by decide +kernel
theorem dL_law_721 : decode cL_law 721 = .ok (.istore 11, 2) := by decide +kernel
theorem dL_law_723 : decode cL_law 723 = .ok (.aload_n 1, 1) := by decide +kernel
theorem dL_law_724 : decode cL_law 724 = .ok (.iload 10, 2) := by decide +kernel
theorem dL_law_726 : decode cL_law 726 = .ok (.invokestatic 162, 3) := by decide +kernel
theorem dL_law_729 : decode cL_law 729 = .ok (.iload 11, 2) := by decide +kernel
theorem dL_law_731 : decode cL_law 731 = .ok (.ifCond .eq 11, 3) := by decide +kernel
theorem dL_law_734 : decode cL_law 734 = .ok (.iload 9, 2) := by decide +kernel
theorem dL_law_736 : decode cL_law 736 = .ok (.iload 10, 2) := by decide +kernel
theorem dL_law_738 : decode cL_law 738 = .ok (.iadd, 1) := by decide +kernel
theorem dL_law_739 : decode cL_law 739 = .ok (.goto 5, 3) := by decide +kernel
theorem dL_law_742 : decode cL_law 742 = .ok (.ldc 20, 2) := by decide +kernel
theorem dL_law_744 : decode cL_law 744 = .ok (.if_icmp .ne 26, 3) := by decide +kernel
theorem dL_law_747 : decode cL_law 747 = .ok (.aload_n 1, 1) := by decide +kernel
theorem dL_law_748 : decode cL_law 748 = .ok (.iconst 4, 1) := by decide +kernel
theorem dL_law_749 : decode cL_law 749 = .ok (.invokestatic 93, 3) := by decide +kernel
theorem dL_law_752 : decode cL_law 752 = .ok (.iload 11, 2) := by decide +kernel
theorem dL_law_754 : decode cL_law 754 = .ok (.ifCond .eq 11, 3) := by decide +kernel
theorem dL_law_757 : decode cL_law 757 = .ok (.iload 9, 2) := by decide +kernel
theorem dL_law_759 : decode cL_law 759 = .ok (.iload 10, 2) := by decide +kernel
theorem dL_law_761 : decode cL_law 761 = .ok (.iadd, 1) := by decide +kernel
theorem dL_law_762 : decode cL_law 762 = .ok (.goto 5, 3) := by decide +kernel
theorem dL_law_765 : decode cL_law 765 = .ok (.iload 9, 2) := by decide +kernel
theorem dL_law_767 : decode cL_law 767 = .ok (.if_icmp .eq 5, 3) := by decide +kernel
theorem dL_law_770 : decode cL_law 770 = .ok (.iconst 0, 1) := by decide +kernel
theorem dL_law_771 : decode cL_law 771 = .ok (.ireturn, 1) := by decide +kernel
theorem dL_law_772 : decode cL_law 772 = .ok (.goto 330, 3) := by decide +kernel
theorem dL_law_775 : decode cL_law 775 = .ok (.iload 7, 2) := by decide +kernel
theorem dL_law_777 : decode cL_law 777 = .ok (.bipush 9, 2) := by decide +kernel
theorem dL_law_779 : decode cL_law 779 = .ok (.if_icmp .ne 144, 3) := by decide +kernel
theorem dL_law_782 : decode cL_law 782 = .ok (.iload 4, 2) := by decide +kernel
theorem dL_law_784 : decode cL_law 784 = .ok (.iconst 3, 1) := by decide +kernel
theorem dL_law_785 : decode cL_law 785 = .ok (.invokestatic 153, 3) := by decide +kernel
theorem dL_law_788 : decode cL_law 788 = .ok (.istore 9, 2) := by decide +kernel
theorem dL_law_790 : decode cL_law 790 = .ok (.iload 9, 2) := by decide +kernel
theorem dL_law_792 : decode cL_law 792 = .ok (.ifCond .ne 18, 3) := by decide +kernel
theorem dL_law_795 : decode cL_law 795 = .ok (.ldc 207, 2) := by decide +kernel
theorem dL_law_797 : decode cL_law 797 = .ok (.iload 4, 2) := by decide +kernel
theorem dL_law_799 : decode cL_law 799 = .ok (.iconst 2, 1) := by decide +kernel
theorem dL_law_800 : decode cL_law 800 = .ok (.ishr, 1) := by decide +kernel
theorem dL_law_801 : decode cL_law 801 = .ok (.ldc 208, 2) := by decide +kernel
theorem dL_law_803 : decode cL_law 803 = .ok (.invokestatic 153, 3) := by decide +kernel
theorem dL_law_806 : decode cL_law 806 = .ok (.iadd, 1) := by decide +kernel
theorem dL_law_807 : decode cL_law 807 = .ok (.goto 32, 3) := by decide +kernel
theorem dL_law_810 : decode cL_law 810 = .ok (.iload 9, 2) := by decide +kernel
theorem dL_law_812 : decode cL_law 812 = .ok (.iconst 1, 1) := by decide +kernel
theorem dL_law_813 : decode cL_law 813 = .ok (.if_icmp .ne 17, 3) := by decide +kernel
theorem dL_law_816 : decode cL_law 816 = .ok (.iconst 1, 1) := by decide +kernel
theorem dL_law_817 : decode cL_law 817 = .ok (.iload 4, 2) := by decide +kernel
theorem dL_law_819 : decode cL_law 819 = .ok (.iconst 2, 1) := by decide +kernel
theorem dL_law_820 : decode cL_law 820 = .ok (.ishr, 1) := by decide +kernel
theorem dL_law_821 : decode cL_law 821 = .ok (.bipush 24, 2) := by decide +kernel
theorem dL_law_823 : decode cL_law 823 = .ok (.invokestatic 153, 3) := by decide +kernel
theorem dL_law_826 : decode cL_law 826 = .ok (.iadd, 1) := by decide +kernel
theorem dL_law_827 : decode cL_law 827 = .ok (.goto 12, 3) := by decide +kernel
theorem dL_law_830 : decode cL_law 830 = .ok (.iload 4, 2) := by decide +kernel
theorem dL_law_832 : decode cL_law 832 = .ok (.iconst 2, 1) := by decide +kernel
theorem dL_law_833 : decode cL_law 833 = .ok (.ishr, 1) := by decide +kernel
theorem dL_law_834 : decode cL_law 834 = .ok (.bipush 101, 2) := by decide +kernel
theorem dL_law_836 : decode cL_law 836 = .ok (.invokestatic 153, 3) := by decide +kernel
theorem dL_law_839 : decode cL_law 839 = .ok (.istore 10, 2) := by decide +kernel
theorem dL_law_841 : decode cL_law 841 = .ok (.aload_n 1, 1) := by decide +kernel
theorem dL_law_842 : decode cL_law 842 = .ok (.bipush 13, 2) := by decide +kernel
theorem dL_law_844 : decode cL_law 844 = .ok (.iload 9, 2) := by decide +kernel
theorem dL_law_846 : decode cL_law 846 = .ok (.iadd, 1) := by decide +kernel
theorem dL_law_847 : decode cL_law 847 = .ok (.invokestatic 93, 3) := by decide +kernel
theorem dL_law_850 : decode cL_law 850 = .ok (.istore 11, 2) := by decide +kernel
theorem dL_law_852 : decode cL_law 852 = .ok (.aload_n 1, 1) := by decide +kernel
theorem dL_law_853 : decode cL_law 853 = .ok (.iconst 5, 1) := by decide +kernel
theorem dL_law_854 : decode cL_law 854 = .ok (.invokestatic 93, 3) := by decide +kernel
theorem dL_law_857 : decode cL_law 857 = .ok (.istore 12, 2) := by decide +kernel
theorem dL_law_859 : decode cL_law 859 = .ok (.aload_n 1, 1) := by decide +kernel
theorem dL_law_860 : decode cL_law 860 = .ok (.iload 9, 2) := by decide +kernel
theorem dL_law_862 : decode cL_law 862 = .ok (.iload 10, 2) := by decide +kernel
theorem dL_law_864 : decode cL_law 864 = .ok (.invokestatic 185, 3) := by decide +kernel
theorem dL_law_867 : decode cL_law 867 = .ok (.iload 11, 2) := by decide +kernel
theorem dL_law_869 : decode cL_law 869 = .ok (.if_icmp .ne 49, 3) := by decide +kernel
theorem dL_law_872 : decode cL_law 872 = .ok (.aload_n 1, 1) := by decide +kernel
theorem dL_law_873 : decode cL_law 873 = .ok (.bipush 13, 2) := by decide +kernel
theorem dL_law_875 : decode cL_law 875 = .ok (.iload 9, 2) := by decide +kernel
theorem dL_law_877 : decode cL_law 877 = .ok (.iadd, 1) := by decide +kernel
theorem dL_law_878 : decode cL_law 878 = .ok (.invokestatic 93, 3) := by decide +kernel
theorem dL_law_881 : decode cL_law 881 = .ok (.iload 10, 2) := by decide +kernel
theorem dL_law_883 : decode cL_law 883 = .ok (.if_icmp .ne 35, 3) := by decide +kernel
theorem dL_law_886 : decode cL_law 886 = .ok (.iload 4, 2) := by decide +kernel
theorem dL_law_888 : decode cL_law 888 = .ok (.bipush 20, 2) := by decide +kernel
theorem dL_law_890 : decode cL_law 890 = .ok (.ishr, 1) := by decide +kernel
theorem dL_law_891 : decode cL_law 891 = .ok (.iconst 2, 1) := by decide +kernel
theorem dL_law_892 : decode cL_law 892 = .ok (.invokestatic 153, 3) := by decide +kernel
theorem dL_law_895 : decode cL_law 895 = .ok (.ifCond .ne 25, 3) := by decide +kernel
theorem dL_law_898 : decode cL_law 898 = .ok (.aload_n 1, 1) := by decide +kernel
theorem dL_law_899 : decode cL_law 899 = .ok (.invokevirtual 209, 3) := by decide +kernel
theorem dL_law_902 : decode cL_law 902 = .ok (.iload 12, 2) := by decide +kernel
theorem dL_law_904 : decode cL_law 904 = .ok (.if_icmp .ne 14, 3) := by decide +kernel
theorem dL_law_907 : decode cL_law 907 = .ok (.aload_n 1, 1) := by decide +kernel
theorem dL_law_908 : decode cL_law 908 = .ok (.iconst 5, 1) := by decide +kernel
theorem dL_law_909 : decode cL_law 909 = .ok (.invokestatic 93, 3) := by decide +kernel
theorem dL_law_912 : decode cL_law 912 = .ok (.sipush 192, 3) := by decide +kernel
theorem dL_law_915 : decode cL_law 915 = .ok (.if_icmp .eq 5, 3) := by decide +kernel
theorem dL_law_918 : decode cL_law 918 = .ok (.iconst 0, 1) := by decide +kernel
theorem dL_law_919 : decode cL_law 919 = .ok (.ireturn, 1) := by decide +kernel
theorem dL_law_920 : decode cL_law 920 = .ok (.goto 182, 3) := by decide +kernel
theorem dL_law_923 : decode cL_law 923 = .ok (.iload 7, 2) := by decide +kernel
theorem dL_law_925 : decode cL_law 925 = .ok (.bipush 13, 2) := by decide +kernel
theorem dL_law_927 : decode cL_law 927 = .ok (.if_icmp .ge 38, 3) := by decide +kernel
theorem dL_law_930 : decode cL_law 930 = .ok (.iconst 0, 1) := by decide +kernel
theorem dL_law_931 : decode cL_law 931 = .ok (.istore 9, 2) := by decide +kernel
theorem dL_law_933 : decode cL_law 933 = .ok (.iload 9, 2) := by decide +kernel
theorem dL_law_935 : decode cL_law 935 = .ok (.iconst 1, 1) := by decide +kernel
theorem dL_law_936 : decode cL_law 936 = .ok (.iload 4, 2) := by decide +kernel
theorem dL_law_938 : decode cL_law 938 = .ok (.bipush 8, 2) := by decide +kernel
theorem dL_law_940 : decode cL_law 940 = .ok (.invokestatic 153, 3) := by decide +kernel
theorem dL_law_943 : decode cL_law 943 = .ok (.iadd, 1) := by decide +kernel
theorem dL_law_944 : decode cL_law 944 = .ok (.if_icmp .ge 18, 3) := by decide +kernel
theorem dL_law_947 : decode cL_law 947 = .ok (.aload_n 1, 1) := by decide +kernel
theorem dL_law_948 : decode cL_law 948 = .ok (.invokestatic 212, 3) := by decide +kernel
theorem dL_law_951 : decode cL_law 951 = .ok (.ifCond .ne 5, 3) := by decide +kernel
theorem dL_law_954 : decode cL_law 954 = .ok (.iconst 0, 1) := by decide +kernel
theorem dL_law_955 : decode cL_law 955 = .ok (.ireturn, 1) := by decide +kernel
theorem dL_law_956 : decode cL_law 956 = .ok (.iinc 9 1, 3) := by decide +kernel
theorem dL_law_959 : decode cL_law 959 = .ok (.goto (-26), 3) := by decide +kernel
theorem dL_law_962 : decode cL_law 962 = .ok (.goto 140, 3) := by decide +kernel
theorem dL_law_965 : decode cL_law 965 = .ok (.iload 7, 2) := by decide +kernel
theorem dL_law_967 : decode cL_law 967 = .ok (.bipush 13, 2) := by decide +kernel
theorem dL_law_969 : decode cL_law 969 = .ok (.if_icmp .ne 115, 3) := by decide +kernel
theorem dL_law_972 : decode cL_law 972 = .ok (.aload_n 1, 1) := by decide +kernel
theorem dL_law_973 : decode cL_law 973 = .ok (.bipush 10, 2) := by decide +kernel
theorem dL_law_975 : decode cL_law 975 = .ok (.invokestatic 93, 3) := by decide +kernel
theorem dL_law_978 : decode cL_law 978 = .ok (.istore 9, 2) := by decide +kernel
theorem dL_law_980 : decode cL_law 980 = .ok (.aload_n 1, 1) := by decide +kernel
theorem dL_law_981 : decode cL_law 981 = .ok (.iconst 3, 1) := by decide +kernel
theorem dL_law_982 : decode cL_law 982 = .ok (.invokestatic 93, 3) := by decide +kernel
theorem dL_law_985 : decode cL_law 985 = .ok (.istore 10, 2) := by decide +kernel
theorem dL_law_987 : decode cL_law 987 = .ok (.aload_n 1, 1) := by decide +kernel
theorem dL_law_988 : decode cL_law 988 = .ok (.aload_n 1, 1) := by decide +kernel
theorem dL_law_989 : decode cL_law 989 = .ok (.iconst 2, 1) := by decide +kernel
theorem dL_law_990 : decode cL_law 990 = .ok (.invokestatic 93, 3) := by decide +kernel
theorem dL_law_993 : decode cL_law 993 = .ok (.invokestatic 136, 3) := by decide +kernel
theorem dL_law_996 : decode cL_law 996 = .ok (.istore 11, 2) := by decide +kernel
theorem dL_law_998 : decode cL_law 998 = .ok (.iconst 1, 1) := by decide +kernel
theorem dL_law_999 : decode cL_law 999 = .ok (.iload 4, 2) := by decide +kernel
theorem dL_law_1001 : decode cL_law 1001 = .ok (.sipush 200, 3) := by decide +kernel
theorem dL_law_1004 : decode cL_law 1004 = .ok (.invokestatic 153, 3) := by decide +kernel
theorem dL_law_1007 : decode cL_law 1007 = .ok (.iadd, 1) := by decide +kernel
theorem dL_law_1008 : decode cL_law 1008 = .ok (.istore 12, 2) := by decide +kernel
theorem dL_law_1010 : decode cL_law 1010 = .ok (.aload_n 1, 1) := by decide +kernel
theorem dL_law_1011 : decode cL_law 1011 = .ok (.iload 12, 2) := by decide +kernel
theorem dL_law_1013 : decode cL_law 1013 = .ok (.invokestatic 141, 3) := by decide +kernel
theorem dL_law_1016 : decode cL_law 1016 = .ok (.ldc 17, 2) := by decide +kernel
theorem dL_law_1018 : decode cL_law 1018 = .ok (.if_icmp .eq 61, 3) := by decide +kernel
theorem dL_law_1021 : decode cL_law 1021 = .ok (.aload_n 1, 1) := by decide +kernel
theorem dL_law_1022 : decode cL_law 1022 = .ok (.bipush 10, 2) := by decide +kernel
theorem dL_law_1024 : decode cL_law 1024 = .ok (.invokestatic 93, 3) := by decide +kernel
theorem dL_law_1027 : decode cL_law 1027 = .ok (.iload 9, 2) := by decide +kernel
theorem dL_law_1029 : decode cL_law 1029 = .ok (.iload 12, 2) := by decide +kernel
theorem dL_law_1031 : decode cL_law 1031 = .ok (.iadd, 1) := by decide +kernel
theorem dL_law_1032 : decode cL_law 1032 = .ok (.if_icmp .ne 47, 3) := by decide +kernel
theorem dL_law_1035 : decode cL_law 1035 = .ok (.aload_n 1, 1) := by decide +kernel
theorem dL_law_1036 : decode cL_law 1036 = .ok (.iconst 3, 1) := by decide +kernel
theorem dL_law_1037 : decode cL_law 1037 = .ok (.invokestatic 93, 3) := by decide +kernel
theorem dL_law_1040 : decode cL_law 1040 = .ok (.iload 10, 2) := by decide +kernel
theorem dL_law_1042 : decode cL_law 1042 = .ok (.iload 11, 2) := by decide +kernel
theorem dL_law_1044 : decode cL_law 1044 = .ok (.if_icmp .ge 8, 3) := by decide +kernel
theorem dL_law_1047 : decode cL_law 1047 = .ok (.iload 10, 2) := by decide +kernel
theorem dL_law_1049 : decode cL_law 1049 = .ok (.goto 5, 3) := by decide +kernel
theorem dL_law_1052 : decode cL_law 1052 = .ok (.iload 11, 2) := by decide +kernel
theorem dL_law_1054 : decode cL_law 1054 = .ok (.if_icmp .lt 25, 3) := by decide +kernel
theorem dL_law_1057 : decode cL_law 1057 = .ok (.aload_n 1, 1) := by decide +kernel
theorem dL_law_1058 : decode cL_law 1058 = .ok (.iconst 3, 1) := by decide +kernel
theorem dL_law_1059 : decode cL_law 1059 = .ok (.invokestatic 93, 3) := by decide +kernel
theorem dL_law_1062 : decode cL_law 1062 = .ok (.iload 10, 2) := by decide +kernel
theorem dL_law_1064 : decode cL_law 1064 = .ok (.iload 11, 2) := by decide +kernel
theorem dL_law_1066 : decode cL_law 1066 = .ok (.if_icmp .ge 8, 3) := by decide +kernel
theorem dL_law_1069 : decode cL_law 1069 = .ok (.iload 11, 2) := by decide +kernel
theorem dL_law_1071 : decode cL_law 1071 = .ok (.goto 5, 3) := by decide +kernel
theorem dL_law_1074 : decode cL_law 1074 = .ok (.iload 10, 2) := by decide +kernel
theorem dL_law_1076 : decode cL_law 1076 = .ok (.if_icmp .le 5, 3) := by decide +kernel
theorem dL_law_1079 : decode cL_law 1079 = .ok (.iconst 0, 1) := by decide +kernel
theorem dL_law_1080 : decode cL_law 1080 = .ok (.ireturn, 1) := by decide +kernel
theorem dL_law_1081 : decode cL_law 1081 = .ok (.goto 21, 3) := by decide +kernel
theorem dL_law_1084 : decode cL_law 1084 = .ok (.iload 7, 2) := by decide +kernel
theorem dL_law_1086 : decode cL_law 1086 = .ok (.bipush 14, 2) := by decide +kernel
theorem dL_law_1088 : decode cL_law 1088 = .ok (.if_icmp .ne 14, 3) := by decide +kernel
theorem dL_law_1091 : decode cL_law 1091 = .ok (.aload_n 1, 1) := by decide +kernel
theorem dL_law_1092 : decode cL_law 1092 = .ok (.iload 4, 2) := by decide +kernel
theorem dL_law_1094 : decode cL_law 1094 = .ok (.invokestatic 215, 3) := by decide +kernel
theorem dL_law_1097 : decode cL_law 1097 = .ok (.ifCond .ne 5, 3) := by decide +kernel
theorem dL_law_1100 : decode cL_law 1100 = .ok (.iconst 0, 1) := by decide +kernel
theorem dL_law_1101 : decode cL_law 1101 = .ok (.ireturn, 1) := by decide +kernel
theorem dL_law_1102 : decode cL_law 1102 = .ok (.aload_n 1, 1) := by decide +kernel
theorem dL_law_1103 : decode cL_law 1103 = .ok (.invokestatic 197, 3) := by decide +kernel
theorem dL_law_1106 : decode cL_law 1106 = .ok (.ifCond .ne 5, 3) := by decide +kernel
theorem dL_law_1109 : decode cL_law 1109 = .ok (.iconst 0, 1) := by decide +kernel
theorem dL_law_1110 : decode cL_law 1110 = .ok (.ireturn, 1) := by decide +kernel
theorem dL_law_1111 : decode cL_law 1111 = .ok (.iinc 2 1, 3) := by decide +kernel
theorem dL_law_1114 : decode cL_law 1114 = .ok (.goto (-1065), 3) := by decide +kernel
theorem dL_law_1117 : decode cL_law 1117 = .ok (.aload_n 1, 1) := by decide +kernel
theorem dL_law_1118 : decode cL_law 1118 = .ok (.invokestatic 193, 3) := by decide +kernel
theorem dL_law_1121 : decode cL_law 1121 = .ok (.ifCond .eq 20, 3) := by decide +kernel
theorem dL_law_1124 : decode cL_law 1124 = .ok (.aload_n 1, 1) := by decide +kernel
theorem dL_law_1125 : decode cL_law 1125 = .ok (.aload_n 0, 1) := by decide +kernel
theorem dL_law_1126 : decode cL_law 1126 = .ok (.bipush 93, 2) := by decide +kernel
theorem dL_law_1128 : decode cL_law 1128 = .ok (.invokestatic 203, 3) := by decide +kernel
theorem dL_law_1131 : decode cL_law 1131 = .ok (.invokestatic 215, 3) := by decide +kernel
theorem dL_law_1134 : decode cL_law 1134 = .ok (.ifCond .eq 7, 3) := by decide +kernel
theorem dL_law_1137 : decode cL_law 1137 = .ok (.iconst 1, 1) := by decide +kernel
theorem dL_law_1138 : decode cL_law 1138 = .ok (.goto 4, 3) := by decide +kernel
theorem dL_law_1141 : decode cL_law 1141 = .ok (.iconst 0, 1) := by decide +kernel
theorem dL_law_1142 : decode cL_law 1142 = .ok (.ireturn, 1) := by decide +kernel
