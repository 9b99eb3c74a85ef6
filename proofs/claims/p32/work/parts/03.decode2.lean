theorem dL_isGood_96 : decode cL_isGood 96 = .ok (.iconst 3, 1) := by decide +kernel
theorem dL_isGood_97 : decode cL_isGood 97 = .ok (.iaload, 1) := by decide +kernel
theorem dL_isGood_98 : decode cL_isGood 98 = .ok (.iconst 5, 1) := by decide +kernel
theorem dL_isGood_99 : decode cL_isGood 99 = .ok (.if_icmp .lt 11, 3) := by decide +kernel
theorem dL_isGood_102 : decode cL_isGood 102 = .ok (.aload 4, 2) := by decide +kernel
theorem dL_isGood_104 : decode cL_isGood 104 = .ok (.iconst 4, 1) := by decide +kernel
theorem dL_isGood_105 : decode cL_isGood 105 = .ok (.iaload, 1) := by decide +kernel
theorem dL_isGood_106 : decode cL_isGood 106 = .ok (.iload_n 3, 1) := by decide +kernel
theorem dL_isGood_107 : decode cL_isGood 107 = .ok (.if_icmp .gt 7, 3) := by decide +kernel
theorem dL_isGood_110 : decode cL_isGood 110 = .ok (.iconst 1, 1) := by decide +kernel
theorem dL_isGood_111 : decode cL_isGood 111 = .ok (.goto 4, 3) := by decide +kernel
theorem dL_isGood_114 : decode cL_isGood 114 = .ok (.iconst 0, 1) := by decide +kernel
theorem dL_isGood_115 : decode cL_isGood 115 = .ok (.ireturn, 1) := by decide +kernel
theorem dL_act_0 : decode cL_act 0 = .ok (.iload_n 2, 1) := by decide +kernel
theorem dL_act_1 : decode cL_act 1 = .ok (.iconst 5, 1) := by decide +kernel
theorem dL_act_2 : decode cL_act 2 = .ok (.invokestatic 32, 3) := by decide +kernel
theorem dL_act_5 : decode cL_act 5 = .ok (.istore_n 3, 1) := by decide +kernel
theorem dL_act_6 : decode cL_act 6 = .ok (.iconst 1, 1) := by decide +kernel
theorem dL_act_7 : decode cL_act 7 = .ok (.iload_n 2, 1) := by decide +kernel
theorem dL_act_8 : decode cL_act 8 = .ok (.iconst 3, 1) := by decide +kernel
theorem dL_act_9 : decode cL_act 9 = .ok (.ishr, 1) := by decide +kernel
theorem dL_act_10 : decode cL_act 10 = .ok (.bipush 11, 2) := by decide +kernel
theorem dL_act_12 : decode cL_act 12 = .ok (.invokestatic 32, 3) := by decide +kernel
theorem dL_act_15 : decode cL_act 15 = .ok (.iadd, 1) := by decide +kernel
theorem dL_act_16 : decode cL_act 16 = .ok (.istore 4, 2) := by decide +kernel
theorem dL_act_18 : decode cL_act 18 = .ok (.iload_n 2, 1) := by decide +kernel
theorem dL_act_19 : decode cL_act 19 = .ok (.bipush 7, 2) := by decide +kernel
theorem dL_act_21 : decode cL_act 21 = .ok (.ishr, 1) := by decide +kernel
theorem dL_act_22 : decode cL_act 22 = .ok (.bipush 10, 2) := by decide +kernel
theorem dL_act_24 : decode cL_act 24 = .ok (.invokestatic 32, 3) := by decide +kernel
theorem dL_act_27 : decode cL_act 27 = .ok (.istore 5, 2) := by decide +kernel
theorem dL_act_29 : decode cL_act 29 = .ok (.iload_n 1, 1) := by decide +kernel
theorem dL_act_30 : decode cL_act 30 = .ok (.bipush 20, 2) := by decide +kernel
theorem dL_act_32 : decode cL_act 32 = .ok (.invokestatic 32, 3) := by decide +kernel
theorem dL_act_35 : decode cL_act 35 = .ok (.tableswitch 333 0 12 #[65, 70, 97, 97, 103, 166, 166, 166, 166, 225, 235, 260, 289], 65) := by decide +kernel
theorem dL_act_100 : decode cL_act 100 = .ok (.aload_n 0, 1) := by decide +kernel
theorem dL_act_101 : decode cL_act 101 = .ok (.invokevirtual 37, 3) := by decide +kernel
theorem dL_act_104 : decode cL_act 104 = .ok (.ireturn, 1) := by decide +kernel
theorem dL_act_105 : decode cL_act 105 = .ok (.aload_n 0, 1) := by decide +kernel
theorem dL_act_106 : decode cL_act 106 = .ok (.iload_n 2, 1) := by decide +kernel
theorem dL_act_107 : decode cL_act 107 = .ok (.iconst 3, 1) := by decide +kernel
theorem dL_act_108 : decode cL_act 108 = .ok (.iand, 1) := by decide +kernel
theorem dL_act_109 : decode cL_act 109 = .ok (.ifCond .ne 11, 3) := by decide +kernel
theorem dL_act_112 : decode cL_act 112 = .ok (.aload_n 0, 1) := by decide +kernel
theorem dL_act_113 : decode cL_act 113 = .ok (.iconst 1, 1) := by decide +kernel
theorem dL_act_114 : decode cL_act 114 = .ok (.invokevirtual 13, 3) := by decide +kernel
theorem dL_act_117 : decode cL_act 117 = .ok (.goto 11, 3) := by decide +kernel
theorem dL_act_120 : decode cL_act 120 = .ok (.iload_n 2, 1) := by decide +kernel
theorem dL_act_121 : decode cL_act 121 = .ok (.iconst 2, 1) := by decide +kernel
theorem dL_act_122 : decode cL_act 122 = .ok (.ishr, 1) := by decide +kernel
theorem dL_act_123 : decode cL_act 123 = .ok (.bipush 60, 2) := by decide +kernel
theorem dL_act_125 : decode cL_act 125 = .ok (.invokestatic 32, 3) := by decide +kernel
theorem dL_act_128 : decode cL_act 128 = .ok (.invokevirtual 41, 3) := by decide +kernel
theorem dL_act_131 : decode cL_act 131 = .ok (.ireturn, 1) := by decide +kernel
theorem dL_act_132 : decode cL_act 132 = .ok (.aload_n 0, 1) := by decide +kernel
theorem dL_act_133 : decode cL_act 133 = .ok (.iload_n 3, 1) := by decide +kernel
theorem dL_act_134 : decode cL_act 134 = .ok (.invokevirtual 44, 3) := by decide +kernel
theorem dL_act_137 : decode cL_act 137 = .ok (.ireturn, 1) := by decide +kernel
theorem dL_act_138 : decode cL_act 138 = .ok (.aload_n 0, 1) := by decide +kernel
theorem dL_act_139 : decode cL_act 139 = .ok (.iload_n 3, 1) := by decide +kernel
theorem dL_act_140 : decode cL_act 140 = .ok (.aload_n 0, 1) := by decide +kernel
theorem dL_act_141 : decode cL_act 141 = .ok (.iload_n 3, 1) := by decide +kernel
theorem dL_act_142 : decode cL_act 142 = .ok (.iconst 1, 1) := by decide +kernel
theorem dL_act_143 : decode cL_act 143 = .ok (.invokevirtual 19, 3) := by decide +kernel
theorem dL_act_146 : decode cL_act 146 = .ok (.iload 4, 2) := by decide +kernel
theorem dL_act_148 : decode cL_act 148 = .ok (.iadd, 1) := by decide +kernel
theorem dL_act_149 : decode cL_act 149 = .ok (.aload_n 0, 1) := by decide +kernel
theorem dL_act_150 : decode cL_act 150 = .ok (.iload_n 3, 1) := by decide +kernel
theorem dL_act_151 : decode cL_act 151 = .ok (.iconst 0, 1) := by decide +kernel
theorem dL_act_152 : decode cL_act 152 = .ok (.invokevirtual 19, 3) := by decide +kernel
theorem dL_act_155 : decode cL_act 155 = .ok (.irem, 1) := by decide +kernel
theorem dL_act_156 : decode cL_act 156 = .ok (.invokevirtual 23, 3) := by decide +kernel
theorem dL_act_159 : decode cL_act 159 = .ok (.istore 6, 2) := by decide +kernel
theorem dL_act_161 : decode cL_act 161 = .ok (.aload_n 0, 1) := by decide +kernel
theorem dL_act_162 : decode cL_act 162 = .ok (.iload_n 3, 1) := by decide +kernel
theorem dL_act_163 : decode cL_act 163 = .ok (.iconst 4, 1) := by decide +kernel
theorem dL_act_164 : decode cL_act 164 = .ok (.invokevirtual 19, 3) := by decide +kernel
theorem dL_act_167 : decode cL_act 167 = .ok (.ifCond .ne 29, 3) := by decide +kernel
theorem dL_act_170 : decode cL_act 170 = .ok (.aload_n 0, 1) := by decide +kernel
theorem dL_act_171 : decode cL_act 171 = .ok (.iload_n 3, 1) := by decide +kernel
theorem dL_act_172 : decode cL_act 172 = .ok (.iload 6, 2) := by decide +kernel
theorem dL_act_174 : decode cL_act 174 = .ok (.aload_n 0, 1) := by decide +kernel
theorem dL_act_175 : decode cL_act 175 = .ok (.bipush 9, 2) := by decide +kernel
theorem dL_act_177 : decode cL_act 177 = .ok (.invokevirtual 13, 3) := by decide +kernel
theorem dL_act_180 : decode cL_act 180 = .ok (.invokestatic 47, 3) := by decide +kernel
theorem dL_act_183 : decode cL_act 183 = .ok (.ifCond .eq 13, 3) := by decide +kernel
theorem dL_act_186 : decode cL_act 186 = .ok (.aload_n 0, 1) := by decide +kernel
theorem dL_act_187 : decode cL_act 187 = .ok (.iload_n 3, 1) := by decide +kernel
theorem dL_act_188 : decode cL_act 188 = .ok (.iload 4, 2) := by decide +kernel
theorem dL_act_190 : decode cL_act 190 = .ok (.invokevirtual 51, 3) := by decide +kernel
theorem dL_act_193 : decode cL_act 193 = .ok (.goto 7, 3) := by decide +kernel
theorem dL_act_196 : decode cL_act 196 = .ok (.aload_n 0, 1) := by decide +kernel
theorem dL_act_197 : decode cL_act 197 = .ok (.invokevirtual 37, 3) := by decide +kernel
theorem dL_act_200 : decode cL_act 200 = .ok (.ireturn, 1) := by decide +kernel
theorem dL_act_201 : decode cL_act 201 = .ok (.iload_n 2, 1) := by decide +kernel
theorem dL_act_202 : decode cL_act 202 = .ok (.iconst 3, 1) := by decide +kernel
theorem dL_act_203 : decode cL_act 203 = .ok (.ishr, 1) := by decide +kernel
theorem dL_act_204 : decode cL_act 204 = .ok (.aload_n 0, 1) := by decide +kernel
theorem dL_act_205 : decode cL_act 205 = .ok (.iload_n 3, 1) := by decide +kernel
theorem dL_act_206 : decode cL_act 206 = .ok (.iconst 0, 1) := by decide +kernel
theorem dL_act_207 : decode cL_act 207 = .ok (.invokevirtual 19, 3) := by decide +kernel
theorem dL_act_210 : decode cL_act 210 = .ok (.invokestatic 32, 3) := by decide +kernel
theorem dL_act_213 : decode cL_act 213 = .ok (.istore 7, 2) := by decide +kernel
theorem dL_act_215 : decode cL_act 215 = .ok (.iload 7, 2) := by decide +kernel
theorem dL_act_217 : decode cL_act 217 = .ok (.aload_n 0, 1) := by decide +kernel
theorem dL_act_218 : decode cL_act 218 = .ok (.iload_n 3, 1) := by decide +kernel
theorem dL_act_219 : decode cL_act 219 = .ok (.iconst 1, 1) := by decide +kernel
theorem dL_act_220 : decode cL_act 220 = .ok (.invokevirtual 19, 3) := by decide +kernel
theorem dL_act_223 : decode cL_act 223 = .ok (.if_icmp .ne 19, 3) := by decide +kernel
theorem dL_act_226 : decode cL_act 226 = .ok (.aload_n 0, 1) := by decide +kernel
theorem dL_act_227 : decode cL_act 227 = .ok (.iload_n 3, 1) := by decide +kernel
theorem dL_act_228 : decode cL_act 228 = .ok (.iload 5, 2) := by decide +kernel
theorem dL_act_230 : decode cL_act 230 = .ok (.aload_n 0, 1) := by decide +kernel
theorem dL_act_231 : decode cL_act 231 = .ok (.bipush 9, 2) := by decide +kernel
theorem dL_act_233 : decode cL_act 233 = .ok (.invokevirtual 13, 3) := by decide +kernel
theorem dL_act_236 : decode cL_act 236 = .ok (.invokestatic 47, 3) := by decide +kernel
theorem dL_act_239 : decode cL_act 239 = .ok (.ifCond .eq 15, 3) := by decide +kernel
theorem dL_act_242 : decode cL_act 242 = .ok (.aload_n 0, 1) := by decide +kernel
theorem dL_act_243 : decode cL_act 243 = .ok (.iload_n 3, 1) := by decide +kernel
theorem dL_act_244 : decode cL_act 244 = .ok (.iload 7, 2) := by decide +kernel
theorem dL_act_246 : decode cL_act 246 = .ok (.iload 5, 2) := by decide +kernel
theorem dL_act_248 : decode cL_act 248 = .ok (.invokevirtual 54, 3) := by decide +kernel
theorem dL_act_251 : decode cL_act 251 = .ok (.goto 8, 3) := by decide +kernel
theorem dL_act_254 : decode cL_act 254 = .ok (.aload_n 0, 1) := by decide +kernel
theorem dL_act_255 : decode cL_act 255 = .ok (.iload_n 3, 1) := by decide +kernel
theorem dL_act_256 : decode cL_act 256 = .ok (.invokevirtual 44, 3) := by decide +kernel
theorem dL_act_259 : decode cL_act 259 = .ok (.ireturn, 1) := by decide +kernel
theorem dL_act_260 : decode cL_act 260 = .ok (.aload_n 0, 1) := by decide +kernel
theorem dL_act_261 : decode cL_act 261 = .ok (.iload_n 3, 1) := by decide +kernel
theorem dL_act_262 : decode cL_act 262 = .ok (.iconst 1, 1) := by decide +kernel
theorem dL_act_263 : decode cL_act 263 = .ok (.iload 4, 2) := by decide +kernel
theorem dL_act_265 : decode cL_act 265 = .ok (.iadd, 1) := by decide +kernel
theorem dL_act_266 : decode cL_act 266 = .ok (.invokevirtual 58, 3) := by decide +kernel
theorem dL_act_269 : decode cL_act 269 = .ok (.ireturn, 1) := by decide +kernel
theorem dL_act_270 : decode cL_act 270 = .ok (.aload_n 0, 1) := by decide +kernel
theorem dL_act_271 : decode cL_act 271 = .ok (.iconst (-1), 1) := by decide +kernel
theorem dL_act_272 : decode cL_act 272 = .ok (.iconst 0, 1) := by decide +kernel
theorem dL_act_273 : decode cL_act 273 = .ok (.iload 5, 2) := by decide +kernel
theorem dL_act_275 : decode cL_act 275 = .ok (.invokestatic 47, 3) := by decide +kernel
theorem dL_act_278 : decode cL_act 278 = .ok (.ifCond .eq 12, 3) := by decide +kernel
theorem dL_act_281 : decode cL_act 281 = .ok (.aload_n 0, 1) := by decide +kernel
theorem dL_act_282 : decode cL_act 282 = .ok (.iload 5, 2) := by decide +kernel
theorem dL_act_284 : decode cL_act 284 = .ok (.invokevirtual 61, 3) := by decide +kernel
theorem dL_act_287 : decode cL_act 287 = .ok (.goto 7, 3) := by decide +kernel
theorem dL_act_290 : decode cL_act 290 = .ok (.aload_n 0, 1) := by decide +kernel
theorem dL_act_291 : decode cL_act 291 = .ok (.invokevirtual 37, 3) := by decide +kernel
theorem dL_act_294 : decode cL_act 294 = .ok (.ireturn, 1) := by decide +kernel
theorem dL_act_295 : decode cL_act 295 = .ok (.aload_n 0, 1) := by decide +kernel
theorem dL_act_296 : decode cL_act 296 = .ok (.bipush 7, 2) := by decide +kernel
theorem dL_act_298 : decode cL_act 298 = .ok (.invokevirtual 13, 3) := by decide +kernel
theorem dL_act_301 : decode cL_act 301 = .ok (.bipush 6, 2) := by decide +kernel
theorem dL_act_303 : decode cL_act 303 = .ok (.if_icmp .ge 10, 3) := by decide +kernel
theorem dL_act_306 : decode cL_act 306 = .ok (.aload_n 0, 1) := by decide +kernel
theorem dL_act_307 : decode cL_act 307 = .ok (.invokevirtual 64, 3) := by decide +kernel
theorem dL_act_310 : decode cL_act 310 = .ok (.goto 13, 3) := by decide +kernel
theorem dL_act_313 : decode cL_act 313 = .ok (.aload_n 0, 1) := by decide +kernel
theorem dL_act_314 : decode cL_act 314 = .ok (.iload_n 2, 1) := by decide +kernel
theorem dL_act_315 : decode cL_act 315 = .ok (.bipush 6, 2) := by decide +kernel
theorem dL_act_317 : decode cL_act 317 = .ok (.invokestatic 32, 3) := by decide +kernel
theorem dL_act_320 : decode cL_act 320 = .ok (.invokevirtual 67, 3) := by decide +kernel
theorem dL_act_323 : decode cL_act 323 = .ok (.ireturn, 1) := by decide +kernel
theorem dL_act_324 : decode cL_act 324 = .ok (.iload_n 2, 1) := by decide +kernel
theorem dL_act_325 : decode cL_act 325 = .ok (.iconst 3, 1) := by decide +kernel
theorem dL_act_326 : decode cL_act 326 = .ok (.iand, 1) := by decide +kernel
theorem dL_act_327 : decode cL_act 327 = .ok (.ifCond .ne 10, 3) := by decide +kernel
theorem dL_act_330 : decode cL_act 330 = .ok (.aload_n 0, 1) := by decide +kernel
theorem dL_act_331 : decode cL_act 331 = .ok (.invokevirtual 70, 3) := by decide +kernel
theorem dL_act_334 : decode cL_act 334 = .ok (.goto 33, 3) := by decide +kernel
theorem dL_act_337 : decode cL_act 337 = .ok (.aload_n 0, 1) := by decide +kernel
theorem dL_act_338 : decode cL_act 338 = .ok (.bipush 7, 2) := by decide +kernel
theorem dL_act_340 : decode cL_act 340 = .ok (.invokevirtual 13, 3) := by decide +kernel
theorem dL_act_343 : decode cL_act 343 = .ok (.ifCond .le 20, 3) := by decide +kernel
theorem dL_act_346 : decode cL_act 346 = .ok (.aload_n 0, 1) := by decide +kernel
theorem dL_act_347 : decode cL_act 347 = .ok (.iload_n 2, 1) := by decide +kernel
theorem dL_act_348 : decode cL_act 348 = .ok (.aload_n 0, 1) := by decide +kernel
theorem dL_act_349 : decode cL_act 349 = .ok (.bipush 7, 2) := by decide +kernel
theorem dL_act_351 : decode cL_act 351 = .ok (.invokevirtual 13, 3) := by decide +kernel
theorem dL_act_354 : decode cL_act 354 = .ok (.invokestatic 32, 3) := by decide +kernel
theorem dL_act_357 : decode cL_act 357 = .ok (.invokevirtual 67, 3) := by decide +kernel
theorem dL_act_360 : decode cL_act 360 = .ok (.goto 7, 3) := by decide +kernel
theorem dL_act_363 : decode cL_act 363 = .ok (.aload_n 0, 1) := by decide +kernel
theorem dL_act_364 : decode cL_act 364 = .ok (.invokevirtual 64, 3) := by decide +kernel
theorem dL_act_367 : decode cL_act 367 = .ok (.ireturn, 1) := by decide +kernel
theorem dL_act_368 : decode cL_act 368 = .ok (.iconst 1, 1) := by decide +kernel
theorem dL_act_369 : decode cL_act 369 = .ok (.iload_n 2, 1) := by decide +kernel
theorem dL_act_370 : decode cL_act 370 = .ok (.iload_n 2, 1) := by decide +kernel
theorem dL_act_371 : decode cL_act 371 = .ok (.bipush 8, 2) := by decide +kernel
theorem dL_act_373 : decode cL_act 373 = .ok (.ishr, 1) := by decide +kernel
theorem dL_act_374 : decode cL_act 374 = .ok (.iconst 1, 1) := by decide +kernel
theorem dL_act_375 : decode cL_act 375 = .ok (.iand, 1) := by decide +kernel
theorem dL_act_376 : decode cL_act 376 = .ok (.ifCond .ne 8, 3) := by decide +kernel
theorem dL_act_379 : decode cL_act 379 = .ok (.bipush 60, 2) := by decide +kernel
theorem dL_act_381 : decode cL_act 381 = .ok (.goto 5, 3) := by decide +kernel
theorem dL_act_384 : decode cL_act 384 = .ok (.bipush 6, 2) := by decide +kernel
theorem dL_act_386 : decode cL_act 386 = .ok (.invokestatic 32, 3) := by decide +kernel
theorem dL_act_389 : decode cL_act 389 = .ok (.iadd, 1) := by decide +kernel
theorem dL_act_390 : decode cL_act 390 = .ok (.istore 8, 2) := by decide +kernel
theorem dL_act_392 : decode cL_act 392 = .ok (.aload_n 0, 1) := by decide +kernel
theorem dL_act_393 : decode cL_act 393 = .ok (.iload_n 2, 1) := by decide +kernel
theorem dL_act_394 : decode cL_act 394 = .ok (.bipush 9, 2) := by decide +kernel
theorem dL_act_396 : decode cL_act 396 = .ok (.ishr, 1) := by decide +kernel
theorem dL_act_397 : decode cL_act 397 = .ok (.iconst 3, 1) := by decide +kernel
theorem dL_act_398 : decode cL_act 398 = .ok (.iand, 1) := by decide +kernel
theorem dL_act_399 : decode cL_act 399 = .ok (.ifCond .ne 9, 3) := by decide +kernel
theorem dL_act_402 : decode cL_act 402 = .ok (.iload 8, 2) := by decide +kernel
theorem dL_act_404 : decode cL_act 404 = .ok (.ineg, 1) := by decide +kernel
theorem dL_act_405 : decode cL_act 405 = .ok (.goto 5, 3) := by decide +kernel
theorem dL_act_408 : decode cL_act 408 = .ok (.iload 8, 2) := by decide +kernel
theorem dL_act_410 : decode cL_act 410 = .ok (.invokevirtual 73, 3) := by decide +kernel
theorem dL_act_413 : decode cL_act 413 = .ok (.ireturn, 1) := by decide +kernel
theorem dL_holds_0 : decode cL_holds 0 = .ok (.iconst 0, 1) := by decide +kernel
theorem dL_holds_1 : decode cL_holds 1 = .ok (.istore_n 1, 1) := by decide +kernel
theorem dL_holds_2 : decode cL_holds 2 = .ok (.iconst 0, 1) := by decide +kernel
theorem dL_holds_3 : decode cL_holds 3 = .ok (.istore_n 2, 1) := by decide +kernel
theorem dL_holds_4 : decode cL_holds 4 = .ok (.iconst 0, 1) := by decide +kernel
theorem dL_holds_5 : decode cL_holds 5 = .ok (.istore_n 3, 1) := by decide +kernel
theorem dL_holds_6 : decode cL_holds 6 = .ok (.aload_n 0, 1) := by decide +kernel
theorem dL_holds_7 : decode cL_holds 7 = .ok (.iconst (-1), 1) := by decide +kernel
theorem dL_holds_8 : decode cL_holds 8 = .ok (.iconst 0, 1) := by decide +kernel
theorem dL_holds_9 : decode cL_holds 9 = .ok (.aload_n 0, 1) := by decide +kernel
theorem dL_holds_10 : decode cL_holds 10 = .ok (.bipush 9, 2) := by decide +kernel
theorem dL_holds_12 : decode cL_holds 12 = .ok (.invokevirtual 13, 3) := by decide +kernel
theorem dL_holds_15 : decode cL_holds 15 = .ok (.invokestatic 47, 3) := by decide +kernel
theorem dL_holds_18 : decode cL_holds 18 = .ok (.ifCond .eq 84, 3) := by decide +kernel
theorem dL_holds_21 : decode cL_holds 21 = .ok (.aload_n 0, 1) := by decide +kernel
theorem dL_holds_22 : decode cL_holds 22 = .ok (.iconst 0, 1) := by decide +kernel
theorem dL_holds_23 : decode cL_holds 23 = .ok (.invokevirtual 13, 3) := by decide +kernel
theorem dL_holds_26 : decode cL_holds 26 = .ok (.aload_n 0, 1) := by decide +kernel
theorem dL_holds_27 : decode cL_holds 27 = .ok (.iconst 3, 1) := by decide +kernel
theorem dL_holds_28 : decode cL_holds 28 = .ok (.invokevirtual 13, 3) := by decide +kernel
theorem dL_holds_31 : decode cL_holds 31 = .ok (.aload_n 0, 1) := by decide +kernel
theorem dL_holds_32 : decode cL_holds 32 = .ok (.iconst 4, 1) := by decide +kernel
theorem dL_holds_33 : decode cL_holds 33 = .ok (.invokevirtual 13, 3) := by decide +kernel
theorem dL_holds_36 : decode cL_holds 36 = .ok (.isub, 1) := by decide +kernel
theorem dL_holds_37 : decode cL_holds 37 = .ok (.if_icmp .ne 65, 3) := by decide +kernel
theorem dL_holds_40 : decode cL_holds 40 = .ok (.aload_n 0, 1) := by decide +kernel
theorem dL_holds_41 : decode cL_holds 41 = .ok (.iconst 0, 1) := by decide +kernel
theorem dL_holds_42 : decode cL_holds 42 = .ok (.invokevirtual 13, 3) := by decide +kernel
theorem dL_holds_45 : decode cL_holds 45 = .ok (.sipush (-9999), 3) := by decide +kernel
theorem dL_holds_48 : decode cL_holds 48 = .ok (.if_icmp .lt 54, 3) := by decide +kernel
theorem dL_holds_51 : decode cL_holds 51 = .ok (.aload_n 0, 1) := by decide +kernel
theorem dL_holds_52 : decode cL_holds 52 = .ok (.iconst 0, 1) := by decide +kernel
theorem dL_holds_53 : decode cL_holds 53 = .ok (.invokevirtual 13, 3) := by decide +kernel
theorem dL_holds_56 : decode cL_holds 56 = .ok (.sipush 9999, 3) := by decide +kernel
theorem dL_holds_59 : decode cL_holds 59 = .ok (.if_icmp .gt 43, 3) := by decide +kernel
theorem dL_holds_62 : decode cL_holds 62 = .ok (.aload_n 0, 1) := by decide +kernel
theorem dL_holds_63 : decode cL_holds 63 = .ok (.iconst 1, 1) := by decide +kernel
theorem dL_holds_64 : decode cL_holds 64 = .ok (.invokevirtual 13, 3) := by decide +kernel
theorem dL_holds_67 : decode cL_holds 67 = .ok (.aload_n 0, 1) := by decide +kernel
theorem dL_holds_68 : decode cL_holds 68 = .ok (.iconst 0, 1) := by decide +kernel
theorem dL_holds_69 : decode cL_holds 69 = .ok (.invokevirtual 13, 3) := by decide +kernel
theorem dL_holds_72 : decode cL_holds 72 = .ok (.ldc 76, 2) := by decide +kernel
theorem dL_holds_74 : decode cL_holds 74 = .ok (.iadd, 1) := by decide +kernel
theorem dL_holds_75 : decode cL_holds 75 = .ok (.bipush 60, 2) := by decide +kernel
theorem dL_holds_77 : decode cL_holds 77 = .ok (.irem, 1) := by decide +kernel
theorem dL_holds_78 : decode cL_holds 78 = .ok (.if_icmp .ne 24, 3) := by decide +kernel
theorem dL_holds_81 : decode cL_holds 81 = .ok (.aload_n 0, 1) := by decide +kernel
theorem dL_holds_82 : decode cL_holds 82 = .ok (.iconst 2, 1) := by decide +kernel
theorem dL_holds_83 : decode cL_holds 83 = .ok (.invokevirtual 13, 3) := by decide +kernel
theorem dL_holds_86 : decode cL_holds 86 = .ok (.ifCond .eq 12, 3) := by decide +kernel
theorem dL_holds_89 : decode cL_holds 89 = .ok (.aload_n 0, 1) := by decide +kernel
theorem dL_holds_90 : decode cL_holds 90 = .ok (.bipush 11, 2) := by decide +kernel
theorem dL_holds_92 : decode cL_holds 92 = .ok (.invokevirtual 13, 3) := by decide +kernel
theorem dL_holds_95 : decode cL_holds 95 = .ok (.ifCond .ne 7, 3) := by decide +kernel
theorem dL_holds_98 : decode cL_holds 98 = .ok (.iconst 1, 1) := by decide +kernel
theorem dL_holds_99 : decode cL_holds 99 = .ok (.goto 4, 3) := by decide +kernel
theorem dL_holds_102 : decode cL_holds 102 = .ok (.iconst 0, 1) := by decide +kernel
theorem dL_holds_103 : decode cL_holds 103 = .ok (.istore 4, 2) := by decide +kernel
theorem dL_holds_105 : decode cL_holds 105 = .ok (.iconst 0, 1) := by decide +kernel
theorem dL_holds_106 : decode cL_holds 106 = .ok (.istore 5, 2) := by decide +kernel
theorem dL_holds_108 : decode cL_holds 108 = .ok (.iload 5, 2) := by decide +kernel
theorem dL_holds_110 : decode cL_holds 110 = .ok (.iconst 5, 1) := by decide +kernel
theorem dL_holds_111 : decode cL_holds 111 = .ok (.if_icmp .ge 258, 3) := by decide +kernel
theorem dL_holds_114 : decode cL_holds 114 = .ok (.iconst 0, 1) := by decide +kernel
theorem dL_holds_115 : decode cL_holds 115 = .ok (.istore 6, 2) := by decide +kernel
theorem dL_holds_117 : decode cL_holds 117 = .ok (.iconst 0, 1) := by decide +kernel
theorem dL_holds_118 : decode cL_holds 118 = .ok (.istore 7, 2) := by decide +kernel
theorem dL_holds_120 : decode cL_holds 120 = .ok (.iload 7, 2) := by decide +kernel
theorem dL_holds_122 : decode cL_holds 122 = .ok (.aload_n 0, 1) := by decide +kernel
theorem dL_holds_123 : decode cL_holds 123 = .ok (.iload 5, 2) := by decide +kernel
theorem dL_holds_125 : decode cL_holds 125 = .ok (.iconst 0, 1) := by decide +kernel
theorem dL_holds_126 : decode cL_holds 126 = .ok (.invokevirtual 19, 3) := by decide +kernel
theorem dL_holds_129 : decode cL_holds 129 = .ok (.if_icmp .ge 31, 3) := by decide +kernel
theorem dL_holds_132 : decode cL_holds 132 = .ok (.iload 6, 2) := by decide +kernel
theorem dL_holds_134 : decode cL_holds 134 = .ok (.aload_n 0, 1) := by decide +kernel
theorem dL_holds_135 : decode cL_holds 135 = .ok (.iload 5, 2) := by decide +kernel
theorem dL_holds_137 : decode cL_holds 137 = .ok (.iload 7, 2) := by decide +kernel
theorem dL_holds_139 : decode cL_holds 139 = .ok (.invokevirtual 23, 3) := by decide +kernel
theorem dL_holds_142 : decode cL_holds 142 = .ok (.iconst 4, 1) := by decide +kernel
theorem dL_holds_143 : decode cL_holds 143 = .ok (.if_icmp .le 7, 3) := by decide +kernel
theorem dL_holds_146 : decode cL_holds 146 = .ok (.iconst 1, 1) := by decide +kernel
theorem dL_holds_147 : decode cL_holds 147 = .ok (.goto 4, 3) := by decide +kernel
theorem dL_holds_150 : decode cL_holds 150 = .ok (.iconst 0, 1) := by decide +kernel
theorem dL_holds_151 : decode cL_holds 151 = .ok (.iadd, 1) := by decide +kernel
theorem dL_holds_152 : decode cL_holds 152 = .ok (.istore 6, 2) := by decide +kernel
theorem dL_holds_154 : decode cL_holds 154 = .ok (.iinc 7 1, 3) := by decide +kernel
theorem dL_holds_157 : decode cL_holds 157 = .ok (.goto (-37), 3) := by decide +kernel
theorem dL_holds_160 : decode cL_holds 160 = .ok (.iload_n 3, 1) := by decide +kernel
theorem dL_holds_161 : decode cL_holds 161 = .ok (.aload_n 0, 1) := by decide +kernel
theorem dL_holds_162 : decode cL_holds 162 = .ok (.iload 5, 2) := by decide +kernel
theorem dL_holds_164 : decode cL_holds 164 = .ok (.iconst 3, 1) := by decide +kernel
theorem dL_holds_165 : decode cL_holds 165 = .ok (.invokevirtual 19, 3) := by decide +kernel
theorem dL_holds_168 : decode cL_holds 168 = .ok (.iadd, 1) := by decide +kernel
theorem dL_holds_169 : decode cL_holds 169 = .ok (.istore_n 3, 1) := by decide +kernel
theorem dL_holds_170 : decode cL_holds 170 = .ok (.iload_n 1, 1) := by decide +kernel
theorem dL_holds_171 : decode cL_holds 171 = .ok (.aload_n 0, 1) := by decide +kernel
theorem dL_holds_172 : decode cL_holds 172 = .ok (.iload 5, 2) := by decide +kernel
theorem dL_holds_174 : decode cL_holds 174 = .ok (.iconst 5, 1) := by decide +kernel
theorem dL_holds_175 : decode cL_holds 175 = .ok (.invokevirtual 19, 3) := by decide +kernel
theorem dL_holds_178 : decode cL_holds 178 = .ok (.iadd, 1) := by decide +kernel
theorem dL_holds_179 : decode cL_holds 179 = .ok (.istore_n 1, 1) := by decide +kernel
theorem dL_holds_180 : decode cL_holds 180 = .ok (.iload_n 2, 1) := by decide +kernel
theorem dL_holds_181 : decode cL_holds 181 = .ok (.aload_n 0, 1) := by decide +kernel
theorem dL_holds_182 : decode cL_holds 182 = .ok (.iload 5, 2) := by decide +kernel
theorem dL_holds_184 : decode cL_holds 184 = .ok (.iconst 4, 1) := by decide +kernel
theorem dL_holds_185 : decode cL_holds 185 = .ok (.invokevirtual 19, 3) := by decide +kernel
theorem dL_holds_188 : decode cL_holds 188 = .ok (.iadd, 1) := by decide +kernel
theorem dL_holds_189 : decode cL_holds 189 = .ok (.istore_n 2, 1) := by decide +kernel
theorem dL_holds_190 : decode cL_holds 190 = .ok (.iload 4, 2) := by decide +kernel
theorem dL_holds_192 : decode cL_holds 192 = .ok (.ifCond .eq 168, 3) := by decide +kernel
theorem dL_holds_195 : decode cL_holds 195 = .ok (.aload_n 0, 1) := by decide +kernel
theorem dL_holds_196 : decode cL_holds 196 = .ok (.iload 5, 2) := by decide +kernel
theorem dL_holds_198 : decode cL_holds 198 = .ok (.iconst 1, 1) := by decide +kernel
theorem dL_holds_199 : decode cL_holds 199 = .ok (.invokevirtual 19, 3) := by decide +kernel
theorem dL_holds_202 : decode cL_holds 202 = .ok (.aload_n 0, 1) := by decide +kernel
theorem dL_holds_203 : decode cL_holds 203 = .ok (.iload 5, 2) := by decide +kernel
theorem dL_holds_205 : decode cL_holds 205 = .ok (.iconst 2, 1) := by decide +kernel
theorem dL_holds_206 : decode cL_holds 206 = .ok (.invokevirtual 19, 3) := by decide +kernel
theorem dL_holds_209 : decode cL_holds 209 = .ok (.if_icmp .ne 151, 3) := by decide +kernel
theorem dL_holds_212 : decode cL_holds 212 = .ok (.aload_n 0, 1) := by decide +kernel
theorem dL_holds_213 : decode cL_holds 213 = .ok (.iload 5, 2) := by decide +kernel
theorem dL_holds_215 : decode cL_holds 215 = .ok (.iconst 1, 1) := by decide +kernel
theorem dL_holds_216 : decode cL_holds 216 = .ok (.invokevirtual 19, 3) := by decide +kernel
theorem dL_holds_219 : decode cL_holds 219 = .ok (.ifCond .lt 141, 3) := by decide +kernel
theorem dL_holds_222 : decode cL_holds 222 = .ok (.aload_n 0, 1) := by decide +kernel
theorem dL_holds_223 : decode cL_holds 223 = .ok (.iload 5, 2) := by decide +kernel
theorem dL_holds_225 : decode cL_holds 225 = .ok (.iconst 1, 1) := by decide +kernel
theorem dL_holds_226 : decode cL_holds 226 = .ok (.invokevirtual 19, 3) := by decide +kernel
theorem dL_holds_229 : decode cL_holds 229 = .ok (.aload_n 0, 1) := by decide +kernel
theorem dL_holds_230 : decode cL_holds 230 = .ok (.iload 5, 2) := by decide +kernel
theorem dL_holds_232 : decode cL_holds 232 = .ok (.iconst 0, 1) := by decide +kernel
theorem dL_holds_233 : decode cL_holds 233 = .ok (.invokevirtual 19, 3) := by decide +kernel
theorem dL_holds_236 : decode cL_holds 236 = .ok (.if_icmp .ge 124, 3) := by decide +kernel
theorem dL_holds_239 : decode cL_holds 239 = .ok (.aload_n 0, 1) := by decide +kernel
theorem dL_holds_240 : decode cL_holds 240 = .ok (.iload 5, 2) := by decide +kernel
theorem dL_holds_242 : decode cL_holds 242 = .ok (.iconst 3, 1) := by decide +kernel
theorem dL_holds_243 : decode cL_holds 243 = .ok (.invokevirtual 19, 3) := by decide +kernel
theorem dL_holds_246 : decode cL_holds 246 = .ok (.aload_n 0, 1) := by decide +kernel
theorem dL_holds_247 : decode cL_holds 247 = .ok (.iload 5, 2) := by decide +kernel
theorem dL_holds_249 : decode cL_holds 249 = .ok (.aload_n 0, 1) := by decide +kernel
theorem dL_holds_250 : decode cL_holds 250 = .ok (.iload 5, 2) := by decide +kernel
theorem dL_holds_252 : decode cL_holds 252 = .ok (.iconst 1, 1) := by decide +kernel
theorem dL_holds_253 : decode cL_holds 253 = .ok (.invokevirtual 19, 3) := by decide +kernel
theorem dL_holds_256 : decode cL_holds 256 = .ok (.invokevirtual 23, 3) := by decide +kernel
theorem dL_holds_259 : decode cL_holds 259 = .ok (.if_icmp .ne 101, 3) := by decide +kernel
theorem dL_holds_262 : decode cL_holds 262 = .ok (.aload_n 0, 1) := by decide +kernel
theorem dL_holds_263 : decode cL_holds 263 = .ok (.iload 5, 2) := by decide +kernel
theorem dL_holds_265 : decode cL_holds 265 = .ok (.iconst 3, 1) := by decide +kernel
theorem dL_holds_266 : decode cL_holds 266 = .ok (.invokevirtual 19, 3) := by decide +kernel
theorem dL_holds_269 : decode cL_holds 269 = .ok (.aload_n 0, 1) := by decide +kernel
theorem dL_holds_270 : decode cL_holds 270 = .ok (.iconst 0, 1) := by decide +kernel
theorem dL_holds_271 : decode cL_holds 271 = .ok (.iload 5, 2) := by decide +kernel
theorem dL_holds_273 : decode cL_holds 273 = .ok (.invokevirtual 77, 3) := by decide +kernel
theorem dL_holds_276 : decode cL_holds 276 = .ok (.if_icmp .ne 84, 3) := by decide +kernel
theorem dL_holds_279 : decode cL_holds 279 = .ok (.aload_n 0, 1) := by decide +kernel
theorem dL_holds_280 : decode cL_holds 280 = .ok (.iload 5, 2) := by decide +kernel
theorem dL_holds_282 : decode cL_holds 282 = .ok (.iconst 5, 1) := by decide +kernel
theorem dL_holds_283 : decode cL_holds 283 = .ok (.invokevirtual 19, 3) := by decide +kernel
theorem dL_holds_286 : decode cL_holds 286 = .ok (.iconst 1, 1) := by decide +kernel
theorem dL_holds_287 : decode cL_holds 287 = .ok (.if_icmp .ne 7, 3) := by decide +kernel
theorem dL_holds_290 : decode cL_holds 290 = .ok (.iconst 1, 1) := by decide +kernel
theorem dL_holds_291 : decode cL_holds 291 = .ok (.goto 4, 3) := by decide +kernel
theorem dL_holds_294 : decode cL_holds 294 = .ok (.iconst 0, 1) := by decide +kernel
theorem dL_holds_295 : decode cL_holds 295 = .ok (.aload_n 0, 1) := by decide +kernel
theorem dL_holds_296 : decode cL_holds 296 = .ok (.iload 5, 2) := by decide +kernel
theorem dL_holds_298 : decode cL_holds 298 = .ok (.iconst 3, 1) := by decide +kernel
theorem dL_holds_299 : decode cL_holds 299 = .ok (.invokevirtual 19, 3) := by decide +kernel
theorem dL_holds_302 : decode cL_holds 302 = .ok (.iconst 4, 1) := by decide +kernel
theorem dL_holds_303 : decode cL_holds 303 = .ok (.if_icmp .le 7, 3) := by decide +kernel
theorem dL_holds_306 : decode cL_holds 306 = .ok (.iconst 1, 1) := by decide +kernel
theorem dL_holds_307 : decode cL_holds 307 = .ok (.goto 4, 3) := by decide +kernel
theorem dL_holds_310 : decode cL_holds 310 = .ok (.iconst 0, 1) := by decide +kernel
theorem dL_holds_311 : decode cL_holds 311 = .ok (.if_icmp .ne 49, 3) := by decide +kernel
theorem dL_holds_314 : decode cL_holds 314 = .ok (.aload_n 0, 1) := by decide +kernel
theorem dL_holds_315 : decode cL_holds 315 = .ok (.iload 5, 2) := by decide +kernel
theorem dL_holds_317 : decode cL_holds 317 = .ok (.bipush 6, 2) := by decide +kernel
theorem dL_holds_319 : decode cL_holds 319 = .ok (.invokevirtual 19, 3) := by decide +kernel
theorem dL_holds_322 : decode cL_holds 322 = .ok (.iload 6, 2) := by decide +kernel
theorem dL_holds_324 : decode cL_holds 324 = .ok (.if_icmp .ne 36, 3) := by decide +kernel
theorem dL_holds_327 : decode cL_holds 327 = .ok (.aload_n 0, 1) := by decide +kernel
theorem dL_holds_328 : decode cL_holds 328 = .ok (.iload 5, 2) := by decide +kernel
theorem dL_holds_330 : decode cL_holds 330 = .ok (.iconst 4, 1) := by decide +kernel
theorem dL_holds_331 : decode cL_holds 331 = .ok (.invokevirtual 19, 3) := by decide +kernel
theorem dL_holds_334 : decode cL_holds 334 = .ok (.iconst 1, 1) := by decide +kernel
theorem dL_holds_335 : decode cL_holds 335 = .ok (.if_icmp .eq 21, 3) := by decide +kernel
theorem dL_holds_338 : decode cL_holds 338 = .ok (.aload_n 0, 1) := by decide +kernel
theorem dL_holds_339 : decode cL_holds 339 = .ok (.bipush 17, 2) := by decide +kernel
theorem dL_holds_341 : decode cL_holds 341 = .ok (.iload 5, 2) := by decide +kernel
theorem dL_holds_343 : decode cL_holds 343 = .ok (.invokevirtual 77, 3) := by decide +kernel
theorem dL_holds_346 : decode cL_holds 346 = .ok (.aload_n 0, 1) := by decide +kernel
theorem dL_holds_347 : decode cL_holds 347 = .ok (.iload 5, 2) := by decide +kernel
theorem dL_holds_349 : decode cL_holds 349 = .ok (.iconst 3, 1) := by decide +kernel
theorem dL_holds_350 : decode cL_holds 350 = .ok (.invokevirtual 19, 3) := by decide +kernel
theorem dL_holds_353 : decode cL_holds 353 = .ok (.if_icmp .ne 7, 3) := by decide +kernel
theorem dL_holds_356 : decode cL_holds 356 = .ok (.iconst 1, 1) := by decide +kernel
theorem dL_holds_357 : decode cL_holds 357 = .ok (.goto 4, 3) := by decide +kernel
theorem dL_holds_360 : decode cL_holds 360 = .ok (.iconst 0, 1) := by decide +kernel
theorem dL_holds_361 : decode cL_holds 361 = .ok (.istore 4, 2) := by decide +kernel
theorem dL_holds_363 : decode cL_holds 363 = .ok (.iinc 5 1, 3) := by decide +kernel
theorem dL_holds_366 : decode cL_holds 366 = .ok (.goto (-258), 3) := by decide +kernel
theorem dL_holds_369 : decode cL_holds 369 = .ok (.iconst 0, 1) := by decide +kernel
theorem dL_holds_370 : decode cL_holds 370 = .ok (.istore 5, 2) := by decide +kernel
theorem dL_holds_372 : decode cL_holds 372 = .ok (.iload 5, 2) := by decide +kernel
theorem dL_holds_374 : decode cL_holds 374 = .ok (.aload_n 0, 1) := by decide +kernel
theorem dL_holds_375 : decode cL_holds 375 = .ok (.bipush 7, 2) := by decide +kernel
theorem dL_holds_377 : decode cL_holds 377 = .ok (.invokevirtual 13, 3) := by decide +kernel
theorem dL_holds_380 : decode cL_holds 380 = .ok (.if_icmp .ge 107, 3) := by decide +kernel
theorem dL_holds_383 : decode cL_holds 383 = .ok (.iconst 1, 1) := by decide +kernel
theorem dL_holds_384 : decode cL_holds 384 = .ok (.istore 6, 2) := by decide +kernel
theorem dL_holds_386 : decode cL_holds 386 = .ok (.iconst 0, 1) := by decide +kernel
theorem dL_holds_387 : decode cL_holds 387 = .ok (.istore 7, 2) := by decide +kernel
theorem dL_holds_389 : decode cL_holds 389 = .ok (.iload 7, 2) := by decide +kernel
theorem dL_holds_391 : decode cL_holds 391 = .ok (.iconst 5, 1) := by decide +kernel
theorem dL_holds_392 : decode cL_holds 392 = .ok (.if_icmp .ge 39, 3) := by decide +kernel
theorem dL_holds_395 : decode cL_holds 395 = .ok (.iload 6, 2) := by decide +kernel
theorem dL_holds_397 : decode cL_holds 397 = .ok (.ifCond .eq 25, 3) := by decide +kernel
theorem dL_holds_400 : decode cL_holds 400 = .ok (.aload_n 0, 1) := by decide +kernel
theorem dL_holds_401 : decode cL_holds 401 = .ok (.iload 5, 2) := by decide +kernel
theorem dL_holds_403 : decode cL_holds 403 = .ok (.iload 7, 2) := by decide +kernel
theorem dL_holds_405 : decode cL_holds 405 = .ok (.invokevirtual 26, 3) := by decide +kernel
theorem dL_holds_408 : decode cL_holds 408 = .ok (.aload_n 0, 1) := by decide +kernel
theorem dL_holds_409 : decode cL_holds 409 = .ok (.iload 7, 2) := by decide +kernel
theorem dL_holds_411 : decode cL_holds 411 = .ok (.iconst 3, 1) := by decide +kernel
theorem dL_holds_412 : decode cL_holds 412 = .ok (.invokevirtual 19, 3) := by decide +kernel
theorem dL_holds_415 : decode cL_holds 415 = .ok (.if_icmp .ne 7, 3) := by decide +kernel
theorem dL_holds_418 : decode cL_holds 418 = .ok (.iconst 1, 1) := by decide +kernel
theorem dL_holds_419 : decode cL_holds 419 = .ok (.goto 4, 3) := by decide +kernel
theorem dL_holds_422 : decode cL_holds 422 = .ok (.iconst 0, 1) := by decide +kernel
theorem dL_holds_423 : decode cL_holds 423 = .ok (.istore 6, 2) := by decide +kernel
theorem dL_holds_425 : decode cL_holds 425 = .ok (.iinc 7 1, 3) := by decide +kernel
theorem dL_holds_428 : decode cL_holds 428 = .ok (.goto (-39), 3) := by decide +kernel
theorem dL_holds_431 : decode cL_holds 431 = .ok (.iload 4, 2) := by decide +kernel
theorem dL_holds_433 : decode cL_holds 433 = .ok (.ifCond .eq 45, 3) := by decide +kernel
theorem dL_holds_436 : decode cL_holds 436 = .ok (.aload_n 0, 1) := by decide +kernel
theorem dL_holds_437 : decode cL_holds 437 = .ok (.iload 5, 2) := by decide +kernel
theorem dL_holds_439 : decode cL_holds 439 = .ok (.iconst 5, 1) := by decide +kernel
theorem dL_holds_440 : decode cL_holds 440 = .ok (.invokevirtual 26, 3) := by decide +kernel
theorem dL_holds_443 : decode cL_holds 443 = .ok (.iconst 1, 1) := by decide +kernel
theorem dL_holds_444 : decode cL_holds 444 = .ok (.if_icmp .ne 7, 3) := by decide +kernel
theorem dL_holds_447 : decode cL_holds 447 = .ok (.iconst 1, 1) := by decide +kernel
theorem dL_holds_448 : decode cL_holds 448 = .ok (.goto 4, 3) := by decide +kernel
theorem dL_holds_451 : decode cL_holds 451 = .ok (.iconst 0, 1) := by decide +kernel
theorem dL_holds_452 : decode cL_holds 452 = .ok (.iload 6, 2) := by decide +kernel
theorem dL_holds_454 : decode cL_holds 454 = .ok (.if_icmp .ne 24, 3) := by decide +kernel
theorem dL_holds_457 : decode cL_holds 457 = .ok (.iload 6, 2) := by decide +kernel
theorem dL_holds_459 : decode cL_holds 459 = .ok (.ifCond .eq 15, 3) := by decide +kernel
theorem dL_holds_462 : decode cL_holds 462 = .ok (.aload_n 0, 1) := by decide +kernel
theorem dL_holds_463 : decode cL_holds 463 = .ok (.iload 5, 2) := by decide +kernel
theorem dL_holds_465 : decode cL_holds 465 = .ok (.bipush 6, 2) := by decide +kernel
theorem dL_holds_467 : decode cL_holds 467 = .ok (.invokevirtual 26, 3) := by decide +kernel
theorem dL_holds_470 : decode cL_holds 470 = .ok (.iconst 1, 1) := by decide +kernel
theorem dL_holds_471 : decode cL_holds 471 = .ok (.if_icmp .ne 7, 3) := by decide +kernel
theorem dL_holds_474 : decode cL_holds 474 = .ok (.iconst 1, 1) := by decide +kernel
theorem dL_holds_475 : decode cL_holds 475 = .ok (.goto 4, 3) := by decide +kernel
theorem dL_holds_478 : decode cL_holds 478 = .ok (.iconst 0, 1) := by decide +kernel
theorem dL_holds_479 : decode cL_holds 479 = .ok (.istore 4, 2) := by decide +kernel
theorem dL_holds_481 : decode cL_holds 481 = .ok (.iinc 5 1, 3) := by decide +kernel
theorem dL_holds_484 : decode cL_holds 484 = .ok (.goto (-112), 3) := by decide +kernel
theorem dL_holds_487 : decode cL_holds 487 = .ok (.iload 4, 2) := by decide +kernel
theorem dL_holds_489 : decode cL_holds 489 = .ok (.ifCond .eq 39, 3) := by decide +kernel
theorem dL_holds_492 : decode cL_holds 492 = .ok (.iload_n 1, 1) := by decide +kernel
theorem dL_holds_493 : decode cL_holds 493 = .ok (.aload_n 0, 1) := by decide +kernel
theorem dL_holds_494 : decode cL_holds 494 = .ok (.bipush 8, 2) := by decide +kernel
theorem dL_holds_496 : decode cL_holds 496 = .ok (.invokevirtual 13, 3) := by decide +kernel
theorem dL_holds_499 : decode cL_holds 499 = .ok (.if_icmp .ne 29, 3) := by decide +kernel
theorem dL_holds_502 : decode cL_holds 502 = .ok (.iload_n 2, 1) := by decide +kernel
theorem dL_holds_503 : decode cL_holds 503 = .ok (.aload_n 0, 1) := by decide +kernel
theorem dL_holds_504 : decode cL_holds 504 = .ok (.iconst 5, 1) := by decide +kernel
theorem dL_holds_505 : decode cL_holds 505 = .ok (.invokevirtual 13, 3) := by decide +kernel
theorem dL_holds_508 : decode cL_holds 508 = .ok (.if_icmp .ne 20, 3) := by decide +kernel
theorem dL_holds_511 : decode cL_holds 511 = .ok (.aload_n 0, 1) := by decide +kernel
theorem dL_holds_512 : decode cL_holds 512 = .ok (.invokevirtual 80, 3) := by decide +kernel
theorem dL_holds_515 : decode cL_holds 515 = .ok (.iload_n 3, 1) := by decide +kernel
theorem dL_holds_516 : decode cL_holds 516 = .ok (.i2f, 1) := by decide +kernel
theorem dL_holds_517 : decode cL_holds 517 = .ok (.ldc 84, 2) := by decide +kernel
theorem dL_holds_519 : decode cL_holds 519 = .ok (.fdiv, 1) := by decide +kernel
theorem dL_holds_520 : decode cL_holds 520 = .ok (.fcmp .l, 1) := by decide +kernel
theorem dL_holds_521 : decode cL_holds 521 = .ok (.ifCond .ne 7, 3) := by decide +kernel
theorem dL_holds_524 : decode cL_holds 524 = .ok (.iconst 1, 1) := by decide +kernel
theorem dL_holds_525 : decode cL_holds 525 = .ok (.goto 4, 3) := by decide +kernel
theorem dL_holds_528 : decode cL_holds 528 = .ok (.iconst 0, 1) := by decide +kernel
theorem dL_holds_529 : decode cL_holds 529 = .ok (.ireturn, 1) := by decide +kernel
theorem dL_isAhead_0 : decode cL_isAhead 0 = .ok (.aload_n 0, 1) := by decide +kernel
theorem dL_isAhead_1 : decode cL_isAhead 1 = .ok (.iconst 0, 1) := by decide +kernel
theorem dL_isAhead_2 : decode cL_isAhead 2 = .ok (.invokevirtual 85, 3) := by decide +kernel
theorem dL_isAhead_5 : decode cL_isAhead 5 = .ok (.istore_n 2, 1) := by decide +kernel
theorem dL_isAhead_6 : decode cL_isAhead 6 = .ok (.aload_n 0, 1) := by decide +kernel
theorem dL_isAhead_7 : decode cL_isAhead 7 = .ok (.iconst 0, 1) := by decide +kernel
theorem dL_isAhead_8 : decode cL_isAhead 8 = .ok (.invokevirtual 88, 3) := by decide +kernel
theorem dL_isAhead_11 : decode cL_isAhead 11 = .ok (.istore_n 3, 1) := by decide +kernel
theorem dL_isAhead_12 : decode cL_isAhead 12 = .ok (.aload_n 0, 1) := by decide +kernel
theorem dL_isAhead_13 : decode cL_isAhead 13 = .ok (.iconst 1, 1) := by decide +kernel
theorem dL_isAhead_14 : decode cL_isAhead 14 = .ok (.invokevirtual 88, 3) := by decide +kernel
theorem dL_isAhead_17 : decode cL_isAhead 17 = .ok (.istore 4, 2) := by decide +kernel
theorem dL_isAhead_19 : decode cL_isAhead 19 = .ok (.aload_n 0, 1) := by decide +kernel
theorem dL_isAhead_20 : decode cL_isAhead 20 = .ok (.invokevirtual 91, 3) := by decide +kernel
theorem dL_isAhead_23 : decode cL_isAhead 23 = .ok (.dstore 5, 2) := by decide +kernel
theorem dL_isAhead_25 : decode cL_isAhead 25 = .ok (.iload_n 2, 1) := by decide +kernel
theorem dL_isAhead_26 : decode cL_isAhead 26 = .ok (.aload_n 0, 1) := by decide +kernel
theorem dL_isAhead_27 : decode cL_isAhead 27 = .ok (.iconst 1, 1) := by decide +kernel
theorem dL_isAhead_28 : decode cL_isAhead 28 = .ok (.invokevirtual 85, 3) := by decide +kernel
theorem dL_isAhead_31 : decode cL_isAhead 31 = .ok (.if_icmp .ne 90, 3) := by decide +kernel
theorem dL_isAhead_34 : decode cL_isAhead 34 = .ok (.iload_n 2, 1) := by decide +kernel
theorem dL_isAhead_35 : decode cL_isAhead 35 = .ok (.iconst 1, 1) := by decide +kernel
theorem dL_isAhead_36 : decode cL_isAhead 36 = .ok (.if_icmp .lt 85, 3) := by decide +kernel
theorem dL_isAhead_39 : decode cL_isAhead 39 = .ok (.iload_n 2, 1) := by decide +kernel
theorem dL_isAhead_40 : decode cL_isAhead 40 = .ok (.sipush 27720, 3) := by decide +kernel
theorem dL_isAhead_43 : decode cL_isAhead 43 = .ok (.if_icmp .gt 78, 3) := by decide +kernel
theorem dL_isAhead_46 : decode cL_isAhead 46 = .ok (.iload_n 3, 1) := by decide +kernel
theorem dL_isAhead_47 : decode cL_isAhead 47 = .ok (.ifCond .ge 7, 3) := by decide +kernel
theorem dL_isAhead_50 : decode cL_isAhead 50 = .ok (.iconst 1, 1) := by decide +kernel
theorem dL_isAhead_51 : decode cL_isAhead 51 = .ok (.goto 4, 3) := by decide +kernel
theorem dL_isAhead_54 : decode cL_isAhead 54 = .ok (.iconst 0, 1) := by decide +kernel
theorem dL_isAhead_55 : decode cL_isAhead 55 = .ok (.iload 4, 2) := by decide +kernel
theorem dL_isAhead_57 : decode cL_isAhead 57 = .ok (.ifCond .ge 7, 3) := by decide +kernel
theorem dL_isAhead_60 : decode cL_isAhead 60 = .ok (.iconst 1, 1) := by decide +kernel
theorem dL_isAhead_61 : decode cL_isAhead 61 = .ok (.goto 4, 3) := by decide +kernel
theorem dL_isAhead_64 : decode cL_isAhead 64 = .ok (.iconst 0, 1) := by decide +kernel
theorem dL_isAhead_65 : decode cL_isAhead 65 = .ok (.if_icmp .ne 56, 3) := by decide +kernel
theorem dL_isAhead_68 : decode cL_isAhead 68 = .ok (.iload_n 3, 1) := by decide +kernel
theorem dL_isAhead_69 : decode cL_isAhead 69 = .ok (.ifCond .ge 7, 3) := by decide +kernel
theorem dL_isAhead_72 : decode cL_isAhead 72 = .ok (.iconst 1, 1) := by decide +kernel
theorem dL_isAhead_73 : decode cL_isAhead 73 = .ok (.goto 4, 3) := by decide +kernel
theorem dL_isAhead_76 : decode cL_isAhead 76 = .ok (.iconst 0, 1) := by decide +kernel
theorem dL_isAhead_77 : decode cL_isAhead 77 = .ok (.dload 5, 2) := by decide +kernel
theorem dL_isAhead_79 : decode cL_isAhead 79 = .ok (.dconst 1, 1) := by decide +kernel
theorem dL_isAhead_80 : decode cL_isAhead 80 = .ok (.dcmp .l, 1) := by decide +kernel
theorem dL_isAhead_81 : decode cL_isAhead 81 = .ok (.ifCond .ne 7, 3) := by decide +kernel
theorem dL_isAhead_84 : decode cL_isAhead 84 = .ok (.iconst 1, 1) := by decide +kernel
theorem dL_isAhead_85 : decode cL_isAhead 85 = .ok (.goto 4, 3) := by decide +kernel
theorem dL_isAhead_88 : decode cL_isAhead 88 = .ok (.iconst 0, 1) := by decide +kernel
theorem dL_isAhead_89 : decode cL_isAhead 89 = .ok (.if_icmp .ne 32, 3) := by decide +kernel
theorem dL_isAhead_92 : decode cL_isAhead 92 = .ok (.iload_n 3, 1) := by decide +kernel
theorem dL_isAhead_93 : decode cL_isAhead 93 = .ok (.iload_n 2, 1) := by decide +kernel
theorem dL_isAhead_94 : decode cL_isAhead 94 = .ok (.if_icmp .ge 27, 3) := by decide +kernel
theorem dL_isAhead_97 : decode cL_isAhead 97 = .ok (.iload 4, 2) := by decide +kernel
theorem dL_isAhead_99 : decode cL_isAhead 99 = .ok (.iload_n 2, 1) := by decide +kernel
theorem dL_isAhead_100 : decode cL_isAhead 100 = .ok (.if_icmp .ge 21, 3) := by decide +kernel
theorem dL_isAhead_103 : decode cL_isAhead 103 = .ok (.dload 5, 2) := by decide +kernel
theorem dL_isAhead_105 : decode cL_isAhead 105 = .ok (.dconst 0, 1) := by decide +kernel
theorem dL_isAhead_106 : decode cL_isAhead 106 = .ok (.dcmp .l, 1) := by decide +kernel
theorem dL_isAhead_107 : decode cL_isAhead 107 = .ok (.ifCond .le 14, 3) := by decide +kernel
theorem dL_isAhead_110 : decode cL_isAhead 110 = .ok (.dload 5, 2) := by decide +kernel
theorem dL_isAhead_112 : decode cL_isAhead 112 = .ok (.dconst 1, 1) := by decide +kernel
theorem dL_isAhead_113 : decode cL_isAhead 113 = .ok (.dcmp .g, 1) := by decide +kernel
theorem dL_isAhead_114 : decode cL_isAhead 114 = .ok (.ifCond .gt 7, 3) := by decide +kernel
theorem dL_isAhead_117 : decode cL_isAhead 117 = .ok (.iconst 1, 1) := by decide +kernel
theorem dL_isAhead_118 : decode cL_isAhead 118 = .ok (.goto 4, 3) := by decide +kernel
theorem dL_isAhead_121 : decode cL_isAhead 121 = .ok (.iconst 0, 1) := by decide +kernel
theorem dL_isAhead_122 : decode cL_isAhead 122 = .ok (.istore 7, 2) := by decide +kernel
theorem dL_isAhead_124 : decode cL_isAhead 124 = .ok (.iconst 0, 1) := by decide +kernel
theorem dL_isAhead_125 : decode cL_isAhead 125 = .ok (.istore 8, 2) := by decide +kernel
theorem dL_isAhead_127 : decode cL_isAhead 127 = .ok (.iload 8, 2) := by decide +kernel
theorem dL_isAhead_129 : decode cL_isAhead 129 = .ok (.iconst 5, 1) := by decide +kernel
theorem dL_isAhead_130 : decode cL_isAhead 130 = .ok (.if_icmp .ge 67, 3) := by decide +kernel
theorem dL_isAhead_133 : decode cL_isAhead 133 = .ok (.iload 7, 2) := by decide +kernel
theorem dL_isAhead_135 : decode cL_isAhead 135 = .ok (.ifCond .eq 53, 3) := by decide +kernel
theorem dL_isAhead_138 : decode cL_isAhead 138 = .ok (.iload_n 2, 1) := by decide +kernel
theorem dL_isAhead_139 : decode cL_isAhead 139 = .ok (.sipush 9999, 3) := by decide +kernel
theorem dL_isAhead_142 : decode cL_isAhead 142 = .ok (.if_icmp .gt 20, 3) := by decide +kernel
theorem dL_isAhead_145 : decode cL_isAhead 145 = .ok (.aload_n 0, 1) := by decide +kernel
theorem dL_isAhead_146 : decode cL_isAhead 146 = .ok (.iload_n 2, 1) := by decide +kernel
theorem dL_isAhead_147 : decode cL_isAhead 147 = .ok (.iload 8, 2) := by decide +kernel
theorem dL_isAhead_149 : decode cL_isAhead 149 = .ok (.invokevirtual 77, 3) := by decide +kernel
theorem dL_isAhead_152 : decode cL_isAhead 152 = .ok (.aload_n 0, 1) := by decide +kernel
theorem dL_isAhead_153 : decode cL_isAhead 153 = .ok (.iconst 0, 1) := by decide +kernel
theorem dL_isAhead_154 : decode cL_isAhead 154 = .ok (.iload 8, 2) := by decide +kernel
theorem dL_isAhead_156 : decode cL_isAhead 156 = .ok (.invokevirtual 77, 3) := by decide +kernel
theorem dL_isAhead_159 : decode cL_isAhead 159 = .ok (.if_icmp .ne 29, 3) := by decide +kernel
theorem dL_isAhead_162 : decode cL_isAhead 162 = .ok (.aload_n 0, 1) := by decide +kernel
theorem dL_isAhead_163 : decode cL_isAhead 163 = .ok (.iload 8, 2) := by decide +kernel
theorem dL_isAhead_165 : decode cL_isAhead 165 = .ok (.iconst 4, 1) := by decide +kernel
theorem dL_isAhead_166 : decode cL_isAhead 166 = .ok (.invokevirtual 19, 3) := by decide +kernel
theorem dL_isAhead_169 : decode cL_isAhead 169 = .ok (.ifCond .eq 15, 3) := by decide +kernel
theorem dL_isAhead_172 : decode cL_isAhead 172 = .ok (.iload_n 2, 1) := by decide +kernel
theorem dL_isAhead_173 : decode cL_isAhead 173 = .ok (.aload_n 0, 1) := by decide +kernel
theorem dL_isAhead_174 : decode cL_isAhead 174 = .ok (.iload 8, 2) := by decide +kernel
theorem dL_isAhead_176 : decode cL_isAhead 176 = .ok (.iconst 0, 1) := by decide +kernel
theorem dL_isAhead_177 : decode cL_isAhead 177 = .ok (.invokevirtual 19, 3) := by decide +kernel
theorem dL_isAhead_180 : decode cL_isAhead 180 = .ok (.irem, 1) := by decide +kernel
theorem dL_isAhead_181 : decode cL_isAhead 181 = .ok (.ifCond .ne 7, 3) := by decide +kernel
theorem dL_isAhead_184 : decode cL_isAhead 184 = .ok (.iconst 1, 1) := by decide +kernel
theorem dL_isAhead_185 : decode cL_isAhead 185 = .ok (.goto 4, 3) := by decide +kernel
theorem dL_isAhead_188 : decode cL_isAhead 188 = .ok (.iconst 0, 1) := by decide +kernel
theorem dL_isAhead_189 : decode cL_isAhead 189 = .ok (.istore 7, 2) := by decide +kernel
theorem dL_isAhead_191 : decode cL_isAhead 191 = .ok (.iinc 8 1, 3) := by decide +kernel
theorem dL_isAhead_194 : decode cL_isAhead 194 = .ok (.goto (-67), 3) := by decide +kernel
theorem dL_isAhead_197 : decode cL_isAhead 197 = .ok (.iconst 0, 1) := by decide +kernel
theorem dL_isAhead_198 : decode cL_isAhead 198 = .ok (.istore 8, 2) := by decide +kernel
theorem dL_isAhead_200 : decode cL_isAhead 200 = .ok (.iload 8, 2) := by decide +kernel
theorem dL_isAhead_202 : decode cL_isAhead 202 = .ok (.iconst 2, 1) := by decide +kernel
theorem dL_isAhead_203 : decode cL_isAhead 203 = .ok (.if_icmp .ge 142, 3) := by decide +kernel
theorem dL_isAhead_206 : decode cL_isAhead 206 = .ok (.aload_n 0, 1) := by decide +kernel
theorem dL_isAhead_207 : decode cL_isAhead 207 = .ok (.iload 8, 2) := by decide +kernel
theorem dL_isAhead_209 : decode cL_isAhead 209 = .ok (.invokevirtual 29, 3) := by decide +kernel
theorem dL_isAhead_212 : decode cL_isAhead 212 = .ok (.istore 9, 2) := by decide +kernel
theorem dL_isAhead_214 : decode cL_isAhead 214 = .ok (.aload_n 0, 1) := by decide +kernel
theorem dL_isAhead_215 : decode cL_isAhead 215 = .ok (.iload 8, 2) := by decide +kernel
theorem dL_isAhead_217 : decode cL_isAhead 217 = .ok (.invokevirtual 95, 3) := by decide +kernel
theorem dL_isAhead_220 : decode cL_isAhead 220 = .ok (.istore 10, 2) := by decide +kernel
theorem dL_isAhead_222 : decode cL_isAhead 222 = .ok (.iload 7, 2) := by decide +kernel
theorem dL_isAhead_224 : decode cL_isAhead 224 = .ok (.ifCond .eq 70, 3) := by decide +kernel
theorem dL_isAhead_227 : decode cL_isAhead 227 = .ok (.aload_n 0, 1) := by decide +kernel
theorem dL_isAhead_228 : decode cL_isAhead 228 = .ok (.iload 8, 2) := by decide +kernel
theorem dL_isAhead_230 : decode cL_isAhead 230 = .ok (.invokevirtual 88, 3) := by decide +kernel
theorem dL_isAhead_233 : decode cL_isAhead 233 = .ok (.ifCond .ne 7, 3) := by decide +kernel
theorem dL_isAhead_236 : decode cL_isAhead 236 = .ok (.iconst 1, 1) := by decide +kernel
theorem dL_isAhead_237 : decode cL_isAhead 237 = .ok (.goto 4, 3) := by decide +kernel
theorem dL_isAhead_240 : decode cL_isAhead 240 = .ok (.iconst 0, 1) := by decide +kernel
theorem dL_isAhead_241 : decode cL_isAhead 241 = .ok (.iload 9, 2) := by decide +kernel
theorem dL_isAhead_243 : decode cL_isAhead 243 = .ok (.iconst 1, 1) := by decide +kernel
theorem dL_isAhead_244 : decode cL_isAhead 244 = .ok (.if_icmp .eq 9, 3) := by decide +kernel
theorem dL_isAhead_247 : decode cL_isAhead 247 = .ok (.iload 9, 2) := by decide +kernel
theorem dL_isAhead_249 : decode cL_isAhead 249 = .ok (.iconst 2, 1) := by decide +kernel
theorem dL_isAhead_250 : decode cL_isAhead 250 = .ok (.if_icmp .ne 7, 3) := by decide +kernel
theorem dL_isAhead_253 : decode cL_isAhead 253 = .ok (.iconst 1, 1) := by decide +kernel
theorem dL_isAhead_254 : decode cL_isAhead 254 = .ok (.goto 4, 3) := by decide +kernel
theorem dL_isAhead_257 : decode cL_isAhead 257 = .ok (.iconst 0, 1) := by decide +kernel
theorem dL_isAhead_258 : decode cL_isAhead 258 = .ok (.if_icmp .ne 36, 3) := by decide +kernel
theorem dL_isAhead_261 : decode cL_isAhead 261 = .ok (.iload 10, 2) := by decide +kernel
theorem dL_isAhead_263 : decode cL_isAhead 263 = .ok (.iconst (-1), 1) := by decide +kernel
theorem dL_isAhead_264 : decode cL_isAhead 264 = .ok (.if_icmp .eq 26, 3) := by decide +kernel
theorem dL_isAhead_267 : decode cL_isAhead 267 = .ok (.iload 9, 2) := by decide +kernel
theorem dL_isAhead_269 : decode cL_isAhead 269 = .ok (.iconst 1, 1) := by decide +kernel
theorem dL_isAhead_270 : decode cL_isAhead 270 = .ok (.if_icmp .eq 9, 3) := by decide +kernel
theorem dL_isAhead_273 : decode cL_isAhead 273 = .ok (.iload 9, 2) := by decide +kernel
theorem dL_isAhead_275 : decode cL_isAhead 275 = .ok (.iconst 2, 1) := by decide +kernel
theorem dL_isAhead_276 : decode cL_isAhead 276 = .ok (.if_icmp .ne 18, 3) := by decide +kernel
theorem dL_isAhead_279 : decode cL_isAhead 279 = .ok (.aload_n 0, 1) := by decide +kernel
theorem dL_isAhead_280 : decode cL_isAhead 280 = .ok (.iload 10, 2) := by decide +kernel
theorem dL_isAhead_282 : decode cL_isAhead 282 = .ok (.iconst 4, 1) := by decide +kernel
theorem dL_isAhead_283 : decode cL_isAhead 283 = .ok (.invokevirtual 19, 3) := by decide +kernel
theorem dL_isAhead_286 : decode cL_isAhead 286 = .ok (.iconst 1, 1) := by decide +kernel
theorem dL_isAhead_287 : decode cL_isAhead 287 = .ok (.if_icmp .ne 7, 3) := by decide +kernel
theorem dL_isAhead_290 : decode cL_isAhead 290 = .ok (.iconst 1, 1) := by decide +kernel
theorem dL_isAhead_291 : decode cL_isAhead 291 = .ok (.goto 4, 3) := by decide +kernel
theorem dL_isAhead_294 : decode cL_isAhead 294 = .ok (.iconst 0, 1) := by decide +kernel
theorem dL_isAhead_295 : decode cL_isAhead 295 = .ok (.istore 7, 2) := by decide +kernel
theorem dL_isAhead_297 : decode cL_isAhead 297 = .ok (.iload 7, 2) := by decide +kernel
theorem dL_isAhead_299 : decode cL_isAhead 299 = .ok (.ifCond .eq 40, 3) := by decide +kernel
theorem dL_isAhead_302 : decode cL_isAhead 302 = .ok (.iload 10, 2) := by decide +kernel
theorem dL_isAhead_304 : decode cL_isAhead 304 = .ok (.ifCond .lt 35, 3) := by decide +kernel
theorem dL_isAhead_307 : decode cL_isAhead 307 = .ok (.aload_n 0, 1) := by decide +kernel
theorem dL_isAhead_308 : decode cL_isAhead 308 = .ok (.iload 10, 2) := by decide +kernel
theorem dL_isAhead_310 : decode cL_isAhead 310 = .ok (.invokevirtual 44, 3) := by decide +kernel
theorem dL_isAhead_313 : decode cL_isAhead 313 = .ok (.ifCond .ne 23, 3) := by decide +kernel
theorem dL_isAhead_316 : decode cL_isAhead 316 = .ok (.aload_n 0, 1) := by decide +kernel
theorem dL_isAhead_317 : decode cL_isAhead 317 = .ok (.iload 8, 2) := by decide +kernel
theorem dL_isAhead_319 : decode cL_isAhead 319 = .ok (.invokevirtual 29, 3) := by decide +kernel
theorem dL_isAhead_322 : decode cL_isAhead 322 = .ok (.ifCond .ne 14, 3) := by decide +kernel
theorem dL_isAhead_325 : decode cL_isAhead 325 = .ok (.aload_n 0, 1) := by decide +kernel
theorem dL_isAhead_326 : decode cL_isAhead 326 = .ok (.invokevirtual 98, 3) := by decide +kernel
theorem dL_isAhead_329 : decode cL_isAhead 329 = .ok (.ifCond .lt 7, 3) := by decide +kernel
theorem dL_isAhead_332 : decode cL_isAhead 332 = .ok (.iconst 1, 1) := by decide +kernel
theorem dL_isAhead_333 : decode cL_isAhead 333 = .ok (.goto 4, 3) := by decide +kernel
theorem dL_isAhead_336 : decode cL_isAhead 336 = .ok (.iconst 0, 1) := by decide +kernel
theorem dL_isAhead_337 : decode cL_isAhead 337 = .ok (.istore 7, 2) := by decide +kernel
theorem dL_isAhead_339 : decode cL_isAhead 339 = .ok (.iinc 8 1, 3) := by decide +kernel
theorem dL_isAhead_342 : decode cL_isAhead 342 = .ok (.goto (-142), 3) := by decide +kernel
theorem dL_isAhead_345 : decode cL_isAhead 345 = .ok (.aload_n 0, 1) := by decide +kernel
theorem dL_isAhead_346 : decode cL_isAhead 346 = .ok (.bipush 7, 2) := by decide +kernel
theorem dL_isAhead_348 : decode cL_isAhead 348 = .ok (.invokevirtual 13, 3) := by decide +kernel
theorem dL_isAhead_351 : decode cL_isAhead 351 = .ok (.ifCond .ne 7, 3) := by decide +kernel
theorem dL_isAhead_354 : decode cL_isAhead 354 = .ok (.iconst (-1), 1) := by decide +kernel
theorem dL_isAhead_355 : decode cL_isAhead 355 = .ok (.goto 13, 3) := by decide +kernel
theorem dL_isAhead_358 : decode cL_isAhead 358 = .ok (.iload_n 1, 1) := by decide +kernel
theorem dL_isAhead_359 : decode cL_isAhead 359 = .ok (.aload_n 0, 1) := by decide +kernel
theorem dL_isAhead_360 : decode cL_isAhead 360 = .ok (.bipush 7, 2) := by decide +kernel
theorem dL_isAhead_362 : decode cL_isAhead 362 = .ok (.invokevirtual 13, 3) := by decide +kernel
theorem dL_isAhead_365 : decode cL_isAhead 365 = .ok (.invokestatic 32, 3) := by decide +kernel
theorem dL_isAhead_368 : decode cL_isAhead 368 = .ok (.istore 8, 2) := by decide +kernel
theorem dL_isAhead_370 : decode cL_isAhead 370 = .ok (.iload 8, 2) := by decide +kernel
theorem dL_isAhead_372 : decode cL_isAhead 372 = .ok (.ifCond .ge 7, 3) := by decide +kernel
theorem dL_isAhead_375 : decode cL_isAhead 375 = .ok (.iconst (-1), 1) := by decide +kernel
theorem dL_isAhead_376 : decode cL_isAhead 376 = .ok (.goto 11, 3) := by decide +kernel
theorem dL_isAhead_379 : decode cL_isAhead 379 = .ok (.aload_n 0, 1) := by decide +kernel
theorem dL_isAhead_380 : decode cL_isAhead 380 = .ok (.iload 8, 2) := by decide +kernel
theorem dL_isAhead_382 : decode cL_isAhead 382 = .ok (.bipush 7, 2) := by decide +kernel
theorem dL_isAhead_384 : decode cL_isAhead 384 = .ok (.invokevirtual 26, 3) := by decide +kernel
theorem dL_isAhead_387 : decode cL_isAhead 387 = .ok (.istore 9, 2) := by decide +kernel
theorem dL_isAhead_389 : decode cL_isAhead 389 = .ok (.iconst 0, 1) := by decide +kernel
theorem dL_isAhead_390 : decode cL_isAhead 390 = .ok (.istore 10, 2) := by decide +kernel
theorem dL_isAhead_392 : decode cL_isAhead 392 = .ok (.iload 10, 2) := by decide +kernel
theorem dL_isAhead_394 : decode cL_isAhead 394 = .ok (.iconst 5, 1) := by decide +kernel
theorem dL_isAhead_395 : decode cL_isAhead 395 = .ok (.if_icmp .ge 59, 3) := by decide +kernel
theorem dL_isAhead_398 : decode cL_isAhead 398 = .ok (.iload 9, 2) := by decide +kernel
theorem dL_isAhead_400 : decode cL_isAhead 400 = .ok (.ifCond .lt 54, 3) := by decide +kernel
theorem dL_isAhead_403 : decode cL_isAhead 403 = .ok (.iload 9, 2) := by decide +kernel
theorem dL_isAhead_405 : decode cL_isAhead 405 = .ok (.sipush 10000, 3) := by decide +kernel
theorem dL_isAhead_408 : decode cL_isAhead 408 = .ok (.if_icmp .ge 46, 3) := by decide +kernel
theorem dL_isAhead_411 : decode cL_isAhead 411 = .ok (.iload 7, 2) := by decide +kernel
theorem dL_isAhead_413 : decode cL_isAhead 413 = .ok (.ifCond .eq 32, 3) := by decide +kernel
theorem dL_isAhead_416 : decode cL_isAhead 416 = .ok (.aload_n 0, 1) := by decide +kernel
theorem dL_isAhead_417 : decode cL_isAhead 417 = .ok (.iload 9, 2) := by decide +kernel
theorem dL_isAhead_419 : decode cL_isAhead 419 = .ok (.iload 10, 2) := by decide +kernel
theorem dL_isAhead_421 : decode cL_isAhead 421 = .ok (.invokevirtual 77, 3) := by decide +kernel
theorem dL_isAhead_424 : decode cL_isAhead 424 = .ok (.aload_n 0, 1) := by decide +kernel
theorem dL_isAhead_425 : decode cL_isAhead 425 = .ok (.iload 8, 2) := by decide +kernel
theorem dL_isAhead_427 : decode cL_isAhead 427 = .ok (.iload 10, 2) := by decide +kernel
theorem dL_isAhead_429 : decode cL_isAhead 429 = .ok (.invokevirtual 26, 3) := by decide +kernel
theorem dL_isAhead_432 : decode cL_isAhead 432 = .ok (.if_icmp .ne 13, 3) := by decide +kernel
theorem dL_isAhead_435 : decode cL_isAhead 435 = .ok (.iload 9, 2) := by decide +kernel
theorem dL_isAhead_437 : decode cL_isAhead 437 = .ok (.iload_n 2, 1) := by decide +kernel
theorem dL_isAhead_438 : decode cL_isAhead 438 = .ok (.if_icmp .ge 7, 3) := by decide +kernel
theorem dL_isAhead_441 : decode cL_isAhead 441 = .ok (.iconst 1, 1) := by decide +kernel
theorem dL_isAhead_442 : decode cL_isAhead 442 = .ok (.goto 4, 3) := by decide +kernel
theorem dL_isAhead_445 : decode cL_isAhead 445 = .ok (.iconst 0, 1) := by decide +kernel
theorem dL_isAhead_446 : decode cL_isAhead 446 = .ok (.istore 7, 2) := by decide +kernel
theorem dL_isAhead_448 : decode cL_isAhead 448 = .ok (.iinc 10 1, 3) := by decide +kernel
theorem dL_isAhead_451 : decode cL_isAhead 451 = .ok (.goto (-59), 3) := by decide +kernel
theorem dL_isAhead_454 : decode cL_isAhead 454 = .ok (.iload 7, 2) := by decide +kernel
theorem dL_isAhead_456 : decode cL_isAhead 456 = .ok (.ifCond .eq 41, 3) := by decide +kernel
theorem dL_isAhead_459 : decode cL_isAhead 459 = .ok (.iload 8, 2) := by decide +kernel
theorem dL_isAhead_461 : decode cL_isAhead 461 = .ok (.ifCond .lt 32, 3) := by decide +kernel
theorem dL_isAhead_464 : decode cL_isAhead 464 = .ok (.iload 9, 2) := by decide +kernel
theorem dL_isAhead_466 : decode cL_isAhead 466 = .ok (.ifCond .ne 7, 3) := by decide +kernel
theorem dL_isAhead_469 : decode cL_isAhead 469 = .ok (.iconst 1, 1) := by decide +kernel
theorem dL_isAhead_470 : decode cL_isAhead 470 = .ok (.goto 4, 3) := by decide +kernel
theorem dL_isAhead_473 : decode cL_isAhead 473 = .ok (.iconst 0, 1) := by decide +kernel
theorem dL_isAhead_474 : decode cL_isAhead 474 = .ok (.aload_n 0, 1) := by decide +kernel
theorem dL_isAhead_475 : decode cL_isAhead 475 = .ok (.iload 8, 2) := by decide +kernel
theorem dL_isAhead_477 : decode cL_isAhead 477 = .ok (.iconst 5, 1) := by decide +kernel
theorem dL_isAhead_478 : decode cL_isAhead 478 = .ok (.invokevirtual 26, 3) := by decide +kernel
theorem dL_isAhead_481 : decode cL_isAhead 481 = .ok (.iconst 1, 1) := by decide +kernel
theorem dL_isAhead_482 : decode cL_isAhead 482 = .ok (.if_icmp .ne 7, 3) := by decide +kernel
theorem dL_isAhead_485 : decode cL_isAhead 485 = .ok (.iconst 1, 1) := by decide +kernel
theorem dL_isAhead_486 : decode cL_isAhead 486 = .ok (.goto 4, 3) := by decide +kernel
theorem dL_isAhead_489 : decode cL_isAhead 489 = .ok (.iconst 0, 1) := by decide +kernel
theorem dL_isAhead_490 : decode cL_isAhead 490 = .ok (.if_icmp .ne 7, 3) := by decide +kernel
theorem dL_isAhead_493 : decode cL_isAhead 493 = .ok (.iconst 1, 1) := by decide +kernel
theorem dL_isAhead_494 : decode cL_isAhead 494 = .ok (.goto 4, 3) := by decide +kernel
theorem dL_isAhead_497 : decode cL_isAhead 497 = .ok (.iconst 0, 1) := by decide +kernel
theorem dL_isAhead_498 : decode cL_isAhead 498 = .ok (.ireturn, 1) := by decide +kernel
theorem dL_isTurned_0 : decode cL_isTurned 0 = .ok (.aload_n 0, 1) := by decide +kernel
theorem dL_isTurned_1 : decode cL_isTurned 1 = .ok (.invokestatic 101, 3) := by decide +kernel
theorem dL_isTurned_4 : decode cL_isTurned 4 = .ok (.lstore_n 2, 1) := by decide +kernel
theorem dL_isTurned_5 : decode cL_isTurned 5 = .ok (.aload_n 0, 1) := by decide +kernel
theorem dL_isTurned_6 : decode cL_isTurned 6 = .ok (.iconst 0, 1) := by decide +kernel
theorem dL_isTurned_7 : decode cL_isTurned 7 = .ok (.invokevirtual 13, 3) := by decide +kernel
theorem dL_isTurned_10 : decode cL_isTurned 10 = .ok (.istore 4, 2) := by decide +kernel
theorem dL_isTurned_12 : decode cL_isTurned 12 = .ok (.iload_n 1, 1) := by decide +kernel
theorem dL_isTurned_13 : decode cL_isTurned 13 = .ok (.ifCond .le 7, 3) := by decide +kernel
theorem dL_isTurned_16 : decode cL_isTurned 16 = .ok (.iconst 0, 1) := by decide +kernel
theorem dL_isTurned_17 : decode cL_isTurned 17 = .ok (.goto 4, 3) := by decide +kernel
theorem dL_isTurned_20 : decode cL_isTurned 20 = .ok (.iconst 1, 1) := by decide +kernel
theorem dL_isTurned_21 : decode cL_isTurned 21 = .ok (.istore 5, 2) := by decide +kernel
theorem dL_isTurned_23 : decode cL_isTurned 23 = .ok (.aload_n 0, 1) := by decide +kernel
theorem dL_isTurned_24 : decode cL_isTurned 24 = .ok (.iload 5, 2) := by decide +kernel
theorem dL_isTurned_26 : decode cL_isTurned 26 = .ok (.invokevirtual 29, 3) := by decide +kernel
theorem dL_isTurned_29 : decode cL_isTurned 29 = .ok (.istore 6, 2) := by decide +kernel
theorem dL_isTurned_31 : decode cL_isTurned 31 = .ok (.iload_n 1, 1) := by decide +kernel
theorem dL_isTurned_32 : decode cL_isTurned 32 = .ok (.ifCond .le 7, 3) := by decide +kernel
theorem dL_isTurned_35 : decode cL_isTurned 35 = .ok (.iload_n 1, 1) := by decide +kernel
theorem dL_isTurned_36 : decode cL_isTurned 36 = .ok (.goto 5, 3) := by decide +kernel
theorem dL_isTurned_39 : decode cL_isTurned 39 = .ok (.iload_n 1, 1) := by decide +kernel
theorem dL_isTurned_40 : decode cL_isTurned 40 = .ok (.ineg, 1) := by decide +kernel
theorem dL_isTurned_41 : decode cL_isTurned 41 = .ok (.istore 7, 2) := by decide +kernel
theorem dL_isTurned_43 : decode cL_isTurned 43 = .ok (.iconst 5, 1) := by decide +kernel
theorem dL_isTurned_44 : decode cL_isTurned 44 = .ok (.newarray .int, 2) := by decide +kernel
theorem dL_isTurned_46 : decode cL_isTurned 46 = .ok (.astore 8, 2) := by decide +kernel
theorem dL_isTurned_48 : decode cL_isTurned 48 = .ok (.iconst 5, 1) := by decide +kernel
theorem dL_isTurned_49 : decode cL_isTurned 49 = .ok (.newarray .int, 2) := by decide +kernel
theorem dL_isTurned_51 : decode cL_isTurned 51 = .ok (.astore 9, 2) := by decide +kernel
theorem dL_isTurned_53 : decode cL_isTurned 53 = .ok (.iconst 0, 1) := by decide +kernel
theorem dL_isTurned_54 : decode cL_isTurned 54 = .ok (.istore 10, 2) := by decide +kernel
theorem dL_isTurned_56 : decode cL_isTurned 56 = .ok (.iload 10, 2) := by decide +kernel
theorem dL_isTurned_58 : decode cL_isTurned 58 = .ok (.iconst 5, 1) := by decide +kernel
theorem dL_isTurned_59 : decode cL_isTurned 59 = .ok (.if_icmp .ge 33, 3) := by decide +kernel
theorem dL_isTurned_62 : decode cL_isTurned 62 = .ok (.aload 8, 2) := by decide +kernel
theorem dL_isTurned_64 : decode cL_isTurned 64 = .ok (.iload 10, 2) := by decide +kernel
theorem dL_isTurned_66 : decode cL_isTurned 66 = .ok (.aload_n 0, 1) := by decide +kernel
theorem dL_isTurned_67 : decode cL_isTurned 67 = .ok (.iload_n 1, 1) := by decide +kernel
theorem dL_isTurned_68 : decode cL_isTurned 68 = .ok (.iload 10, 2) := by decide +kernel
theorem dL_isTurned_70 : decode cL_isTurned 70 = .ok (.invokevirtual 77, 3) := by decide +kernel
theorem dL_isTurned_73 : decode cL_isTurned 73 = .ok (.iastore, 1) := by decide +kernel
theorem dL_isTurned_74 : decode cL_isTurned 74 = .ok (.aload 9, 2) := by decide +kernel
theorem dL_isTurned_76 : decode cL_isTurned 76 = .ok (.iload 10, 2) := by decide +kernel
theorem dL_isTurned_78 : decode cL_isTurned 78 = .ok (.aload_n 0, 1) := by decide +kernel
theorem dL_isTurned_79 : decode cL_isTurned 79 = .ok (.iload 10, 2) := by decide +kernel
theorem dL_isTurned_81 : decode cL_isTurned 81 = .ok (.iconst 1, 1) := by decide +kernel
theorem dL_isTurned_82 : decode cL_isTurned 82 = .ok (.invokevirtual 19, 3) := by decide +kernel
theorem dL_isTurned_85 : decode cL_isTurned 85 = .ok (.iastore, 1) := by decide +kernel
theorem dL_isTurned_86 : decode cL_isTurned 86 = .ok (.iinc 10 1, 3) := by decide +kernel
theorem dL_isTurned_89 : decode cL_isTurned 89 = .ok (.goto (-33), 3) := by decide +kernel
theorem dL_isTurned_92 : decode cL_isTurned 92 = .ok (.aload_n 0, 1) := by decide +kernel
theorem dL_isTurned_93 : decode cL_isTurned 93 = .ok (.iload_n 1, 1) := by decide +kernel
theorem dL_isTurned_94 : decode cL_isTurned 94 = .ok (.invokevirtual 73, 3) := by decide +kernel
theorem dL_isTurned_97 : decode cL_isTurned 97 = .ok (.istore 10, 2) := by decide +kernel
theorem dL_isTurned_99 : decode cL_isTurned 99 = .ok (.iload 10, 2) := by decide +kernel
theorem dL_isTurned_101 : decode cL_isTurned 101 = .ok (.ifCond .lt 76, 3) := by decide +kernel
theorem dL_isTurned_104 : decode cL_isTurned 104 = .ok (.iload 10, 2) := by decide +kernel
theorem dL_isTurned_106 : decode cL_isTurned 106 = .ok (.iload 7, 2) := by decide +kernel
theorem dL_isTurned_108 : decode cL_isTurned 108 = .ok (.if_icmp .gt 69, 3) := by decide +kernel
theorem dL_isTurned_111 : decode cL_isTurned 111 = .ok (.aload_n 0, 1) := by decide +kernel
theorem dL_isTurned_112 : decode cL_isTurned 112 = .ok (.iconst 0, 1) := by decide +kernel
theorem dL_isTurned_113 : decode cL_isTurned 113 = .ok (.invokevirtual 13, 3) := by decide +kernel
theorem dL_isTurned_116 : decode cL_isTurned 116 = .ok (.iload 4, 2) := by decide +kernel
theorem dL_isTurned_118 : decode cL_isTurned 118 = .ok (.iload_n 1, 1) := by decide +kernel
theorem dL_isTurned_119 : decode cL_isTurned 119 = .ok (.ifCond .le 8, 3) := by decide +kernel
theorem dL_isTurned_122 : decode cL_isTurned 122 = .ok (.iload 10, 2) := by decide +kernel
theorem dL_isTurned_124 : decode cL_isTurned 124 = .ok (.goto 6, 3) := by decide +kernel
theorem dL_isTurned_127 : decode cL_isTurned 127 = .ok (.iload 10, 2) := by decide +kernel
theorem dL_isTurned_129 : decode cL_isTurned 129 = .ok (.ineg, 1) := by decide +kernel
theorem dL_isTurned_130 : decode cL_isTurned 130 = .ok (.iadd, 1) := by decide +kernel
theorem dL_isTurned_131 : decode cL_isTurned 131 = .ok (.if_icmp .ne 46, 3) := by decide +kernel
theorem dL_isTurned_134 : decode cL_isTurned 134 = .ok (.iload 10, 2) := by decide +kernel
theorem dL_isTurned_136 : decode cL_isTurned 136 = .ok (.iload 7, 2) := by decide +kernel
theorem dL_isTurned_138 : decode cL_isTurned 138 = .ok (.if_icmp .eq 12, 3) := by decide +kernel
theorem dL_isTurned_141 : decode cL_isTurned 141 = .ok (.aload_n 0, 1) := by decide +kernel
theorem dL_isTurned_142 : decode cL_isTurned 142 = .ok (.iload 5, 2) := by decide +kernel
theorem dL_isTurned_144 : decode cL_isTurned 144 = .ok (.invokevirtual 29, 3) := by decide +kernel
theorem dL_isTurned_147 : decode cL_isTurned 147 = .ok (.ifCond .eq 30, 3) := by decide +kernel
theorem dL_isTurned_150 : decode cL_isTurned 150 = .ok (.iload 10, 2) := by decide +kernel
theorem dL_isTurned_152 : decode cL_isTurned 152 = .ok (.ifCond .ne 7, 3) := by decide +kernel
theorem dL_isTurned_155 : decode cL_isTurned 155 = .ok (.iconst 1, 1) := by decide +kernel
theorem dL_isTurned_156 : decode cL_isTurned 156 = .ok (.goto 4, 3) := by decide +kernel
theorem dL_isTurned_159 : decode cL_isTurned 159 = .ok (.iconst 0, 1) := by decide +kernel
theorem dL_isTurned_160 : decode cL_isTurned 160 = .ok (.iload 6, 2) := by decide +kernel
theorem dL_isTurned_162 : decode cL_isTurned 162 = .ok (.ifCond .eq 7, 3) := by decide +kernel
theorem dL_isTurned_165 : decode cL_isTurned 165 = .ok (.iconst 1, 1) := by decide +kernel
theorem dL_isTurned_166 : decode cL_isTurned 166 = .ok (.goto 4, 3) := by decide +kernel
theorem dL_isTurned_169 : decode cL_isTurned 169 = .ok (.iconst 0, 1) := by decide +kernel
theorem dL_isTurned_170 : decode cL_isTurned 170 = .ok (.if_icmp .ne 7, 3) := by decide +kernel
theorem dL_isTurned_173 : decode cL_isTurned 173 = .ok (.iconst 1, 1) := by decide +kernel
theorem dL_isTurned_174 : decode cL_isTurned 174 = .ok (.goto 4, 3) := by decide +kernel
theorem dL_isTurned_177 : decode cL_isTurned 177 = .ok (.iconst 0, 1) := by decide +kernel
theorem dL_isTurned_178 : decode cL_isTurned 178 = .ok (.istore 11, 2) := by decide +kernel
theorem dL_isTurned_180 : decode cL_isTurned 180 = .ok (.iconst 0, 1) := by decide +kernel
theorem dL_isTurned_181 : decode cL_isTurned 181 = .ok (.istore 12, 2) := by decide +kernel
theorem dL_isTurned_183 : decode cL_isTurned 183 = .ok (.iload 12, 2) := by decide +kernel
theorem dL_isTurned_185 : decode cL_isTurned 185 = .ok (.iconst 5, 1) := by decide +kernel
theorem dL_isTurned_186 : decode cL_isTurned 186 = .ok (.if_icmp .ge 43, 3) := by decide +kernel
theorem dL_isTurned_189 : decode cL_isTurned 189 = .ok (.iload 11, 2) := by decide +kernel
theorem dL_isTurned_191 : decode cL_isTurned 191 = .ok (.ifCond .eq 29, 3) := by decide +kernel
theorem dL_isTurned_194 : decode cL_isTurned 194 = .ok (.iload 10, 2) := by decide +kernel
theorem dL_isTurned_196 : decode cL_isTurned 196 = .ok (.iload 7, 2) := by decide +kernel
theorem dL_isTurned_198 : decode cL_isTurned 198 = .ok (.if_icmp .lt 18, 3) := by decide +kernel
theorem dL_isTurned_201 : decode cL_isTurned 201 = .ok (.aload_n 0, 1) := by decide +kernel
theorem dL_isTurned_202 : decode cL_isTurned 202 = .ok (.iload 12, 2) := by decide +kernel
theorem dL_isTurned_204 : decode cL_isTurned 204 = .ok (.iconst 3, 1) := by decide +kernel
theorem dL_isTurned_205 : decode cL_isTurned 205 = .ok (.invokevirtual 19, 3) := by decide +kernel
theorem dL_isTurned_208 : decode cL_isTurned 208 = .ok (.aload 8, 2) := by decide +kernel
theorem dL_isTurned_210 : decode cL_isTurned 210 = .ok (.iload 12, 2) := by decide +kernel
theorem dL_isTurned_212 : decode cL_isTurned 212 = .ok (.iaload, 1) := by decide +kernel
theorem dL_isTurned_213 : decode cL_isTurned 213 = .ok (.if_icmp .ne 7, 3) := by decide +kernel
theorem dL_isTurned_216 : decode cL_isTurned 216 = .ok (.iconst 1, 1) := by decide +kernel
theorem dL_isTurned_217 : decode cL_isTurned 217 = .ok (.goto 4, 3) := by decide +kernel
theorem dL_isTurned_220 : decode cL_isTurned 220 = .ok (.iconst 0, 1) := by decide +kernel
theorem dL_isTurned_221 : decode cL_isTurned 221 = .ok (.istore 11, 2) := by decide +kernel
theorem dL_isTurned_223 : decode cL_isTurned 223 = .ok (.iinc 12 1, 3) := by decide +kernel
theorem dL_isTurned_226 : decode cL_isTurned 226 = .ok (.goto (-43), 3) := by decide +kernel
theorem dL_isTurned_229 : decode cL_isTurned 229 = .ok (.iload 11, 2) := by decide +kernel
theorem dL_isTurned_231 : decode cL_isTurned 231 = .ok (.ifCond .eq 14, 3) := by decide +kernel
theorem dL_isTurned_234 : decode cL_isTurned 234 = .ok (.aload_n 0, 1) := by decide +kernel
theorem dL_isTurned_235 : decode cL_isTurned 235 = .ok (.invokevirtual 98, 3) := by decide +kernel
theorem dL_isTurned_238 : decode cL_isTurned 238 = .ok (.ifCond .lt 7, 3) := by decide +kernel
theorem dL_isTurned_241 : decode cL_isTurned 241 = .ok (.iconst 1, 1) := by decide +kernel
theorem dL_isTurned_242 : decode cL_isTurned 242 = .ok (.goto 4, 3) := by decide +kernel
theorem dL_isTurned_245 : decode cL_isTurned 245 = .ok (.iconst 0, 1) := by decide +kernel
theorem dL_isTurned_246 : decode cL_isTurned 246 = .ok (.istore 11, 2) := by decide +kernel
theorem dL_isTurned_248 : decode cL_isTurned 248 = .ok (.iload 11, 2) := by decide +kernel
theorem dL_isTurned_250 : decode cL_isTurned 250 = .ok (.ifCond .eq 85, 3) := by decide +kernel
theorem dL_isTurned_253 : decode cL_isTurned 253 = .ok (.aload_n 0, 1) := by decide +kernel
theorem dL_isTurned_254 : decode cL_isTurned 254 = .ok (.iconst 1, 1) := by decide +kernel
theorem dL_isTurned_255 : decode cL_isTurned 255 = .ok (.invokevirtual 73, 3) := by decide +kernel
theorem dL_isTurned_258 : decode cL_isTurned 258 = .ok (.iconst 1, 1) := by decide +kernel
theorem dL_isTurned_259 : decode cL_isTurned 259 = .ok (.if_icmp .ne 76, 3) := by decide +kernel
theorem dL_isTurned_262 : decode cL_isTurned 262 = .ok (.aload_n 0, 1) := by decide +kernel
theorem dL_isTurned_263 : decode cL_isTurned 263 = .ok (.iconst (-1), 1) := by decide +kernel
theorem dL_isTurned_264 : decode cL_isTurned 264 = .ok (.invokevirtual 73, 3) := by decide +kernel
theorem dL_isTurned_267 : decode cL_isTurned 267 = .ok (.istore 12, 2) := by decide +kernel
theorem dL_isTurned_269 : decode cL_isTurned 269 = .ok (.iconst 0, 1) := by decide +kernel
theorem dL_isTurned_270 : decode cL_isTurned 270 = .ok (.istore 13, 2) := by decide +kernel
theorem dL_isTurned_272 : decode cL_isTurned 272 = .ok (.iload 13, 2) := by decide +kernel
theorem dL_isTurned_274 : decode cL_isTurned 274 = .ok (.iconst 5, 1) := by decide +kernel
theorem dL_isTurned_275 : decode cL_isTurned 275 = .ok (.if_icmp .ge 41, 3) := by decide +kernel
theorem dL_isTurned_278 : decode cL_isTurned 278 = .ok (.iload 11, 2) := by decide +kernel
theorem dL_isTurned_280 : decode cL_isTurned 280 = .ok (.ifCond .eq 27, 3) := by decide +kernel
theorem dL_isTurned_283 : decode cL_isTurned 283 = .ok (.iload 12, 2) := by decide +kernel
theorem dL_isTurned_285 : decode cL_isTurned 285 = .ok (.ifCond .eq 18, 3) := by decide +kernel
theorem dL_isTurned_288 : decode cL_isTurned 288 = .ok (.aload_n 0, 1) := by decide +kernel
theorem dL_isTurned_289 : decode cL_isTurned 289 = .ok (.iload 13, 2) := by decide +kernel
theorem dL_isTurned_291 : decode cL_isTurned 291 = .ok (.iconst 1, 1) := by decide +kernel
theorem dL_isTurned_292 : decode cL_isTurned 292 = .ok (.invokevirtual 19, 3) := by decide +kernel
theorem dL_isTurned_295 : decode cL_isTurned 295 = .ok (.aload 9, 2) := by decide +kernel
theorem dL_isTurned_297 : decode cL_isTurned 297 = .ok (.iload 13, 2) := by decide +kernel
theorem dL_isTurned_299 : decode cL_isTurned 299 = .ok (.iaload, 1) := by decide +kernel
theorem dL_isTurned_300 : decode cL_isTurned 300 = .ok (.if_icmp .ne 7, 3) := by decide +kernel
theorem dL_isTurned_303 : decode cL_isTurned 303 = .ok (.iconst 1, 1) := by decide +kernel
theorem dL_isTurned_304 : decode cL_isTurned 304 = .ok (.goto 4, 3) := by decide +kernel
theorem dL_isTurned_307 : decode cL_isTurned 307 = .ok (.iconst 0, 1) := by decide +kernel
theorem dL_isTurned_308 : decode cL_isTurned 308 = .ok (.istore 11, 2) := by decide +kernel
theorem dL_isTurned_310 : decode cL_isTurned 310 = .ok (.iinc 13 1, 3) := by decide +kernel
theorem dL_isTurned_313 : decode cL_isTurned 313 = .ok (.goto (-41), 3) := by decide +kernel
theorem dL_isTurned_316 : decode cL_isTurned 316 = .ok (.iload 11, 2) := by decide +kernel
theorem dL_isTurned_318 : decode cL_isTurned 318 = .ok (.ifCond .eq 14, 3) := by decide +kernel
theorem dL_isTurned_321 : decode cL_isTurned 321 = .ok (.aload_n 0, 1) := by decide +kernel
theorem dL_isTurned_322 : decode cL_isTurned 322 = .ok (.invokevirtual 98, 3) := by decide +kernel
theorem dL_isTurned_325 : decode cL_isTurned 325 = .ok (.ifCond .lt 7, 3) := by decide +kernel
theorem dL_isTurned_328 : decode cL_isTurned 328 = .ok (.iconst 1, 1) := by decide +kernel
theorem dL_isTurned_329 : decode cL_isTurned 329 = .ok (.goto 4, 3) := by decide +kernel
theorem dL_isTurned_332 : decode cL_isTurned 332 = .ok (.iconst 0, 1) := by decide +kernel
theorem dL_isTurned_333 : decode cL_isTurned 333 = .ok (.istore 11, 2) := by decide +kernel
theorem dL_isTurned_335 : decode cL_isTurned 335 = .ok (.iload 11, 2) := by decide +kernel
theorem dL_isTurned_337 : decode cL_isTurned 337 = .ok (.ifCond .eq 23, 3) := by decide +kernel
theorem dL_isTurned_340 : decode cL_isTurned 340 = .ok (.aload_n 0, 1) := by decide +kernel
theorem dL_isTurned_341 : decode cL_isTurned 341 = .ok (.invokevirtual 98, 3) := by decide +kernel
theorem dL_isTurned_344 : decode cL_isTurned 344 = .ok (.ifCond .lt 16, 3) := by decide +kernel
theorem dL_isTurned_347 : decode cL_isTurned 347 = .ok (.aload_n 0, 1) := by decide +kernel
theorem dL_isTurned_348 : decode cL_isTurned 348 = .ok (.invokestatic 101, 3) := by decide +kernel
theorem dL_isTurned_351 : decode cL_isTurned 351 = .ok (.lload_n 2, 1) := by decide +kernel
theorem dL_isTurned_352 : decode cL_isTurned 352 = .ok (.lcmp, 1) := by decide +kernel
theorem dL_isTurned_353 : decode cL_isTurned 353 = .ok (.ifCond .ne 7, 3) := by decide +kernel
theorem dL_isTurned_356 : decode cL_isTurned 356 = .ok (.iconst 1, 1) := by decide +kernel
theorem dL_isTurned_357 : decode cL_isTurned 357 = .ok (.goto 4, 3) := by decide +kernel
theorem dL_isTurned_360 : decode cL_isTurned 360 = .ok (.iconst 0, 1) := by decide +kernel
theorem dL_isTurned_361 : decode cL_isTurned 361 = .ok (.ireturn, 1) := by decide +kernel
theorem dL_law_0 : decode cL_law 0 = .ok (.new 14, 3) := by decide +kernel
theorem dL_law_3 : decode cL_law 3 = .ok (.dup, 1) := by decide +kernel
theorem dL_law_4 : decode cL_law 4 = .ok (.invokespecial 105, 3) := by decide +kernel
theorem dL_law_7 : decode cL_law 7 = .ok (.astore_n 1, 1) := by decide +kernel
theorem dL_law_8 : decode cL_law 8 = .ok (.aload_n 1, 1) := by decide +kernel
theorem dL_law_9 : decode cL_law 9 = .ok (.invokevirtual 106, 3) := by decide +kernel
theorem dL_law_12 : decode cL_law 12 = .ok (.ifCond .ne 14, 3) := by decide +kernel
theorem dL_law_15 : decode cL_law 15 = .ok (.aload_n 1, 1) := by decide +kernel
theorem dL_law_16 : decode cL_law 16 = .ok (.invokestatic 109, 3) := by decide +kernel
theorem dL_law_19 : decode cL_law 19 = .ok (.ifCond .eq 7, 3) := by decide +kernel
theorem dL_law_22 : decode cL_law 22 = .ok (.iconst 1, 1) := by decide +kernel
theorem dL_law_23 : decode cL_law 23 = .ok (.goto 4, 3) := by decide +kernel
theorem dL_law_26 : decode cL_law 26 = .ok (.iconst 0, 1) := by decide +kernel
theorem dL_law_27 : decode cL_law 27 = .ok (.istore_n 2, 1) := by decide +kernel
theorem dL_law_28 : decode cL_law 28 = .ok (.iconst 0, 1) := by decide +kernel
theorem dL_law_29 : decode cL_law 29 = .ok (.istore_n 3, 1) := by decide +kernel
theorem dL_law_30 : decode cL_law 30 = .ok (.iload_n 3, 1) := by decide +kernel
theorem dL_law_31 : decode cL_law 31 = .ok (.bipush 60, 2) := by decide +kernel
theorem dL_law_33 : decode cL_law 33 = .ok (.if_icmp .ge 273, 3) := by decide +kernel
theorem dL_law_36 : decode cL_law 36 = .ok (.iload_n 2, 1) := by decide +kernel
theorem dL_law_37 : decode cL_law 37 = .ok (.ifCond .eq 269, 3) := by decide +kernel
theorem dL_law_40 : decode cL_law 40 = .ok (.aload_n 0, 1) := by decide +kernel
theorem dL_law_41 : decode cL_law 41 = .ok (.iconst 2, 1) := by decide +kernel
theorem dL_law_42 : decode cL_law 42 = .ok (.iload_n 3, 1) := by decide +kernel
theorem dL_law_43 : decode cL_law 43 = .ok (.imul, 1) := by decide +kernel
theorem dL_law_44 : decode cL_law 44 = .ok (.invokestatic 113, 3) := by decide +kernel
theorem dL_law_47 : decode cL_law 47 = .ok (.istore 4, 2) := by decide +kernel
theorem dL_law_49 : decode cL_law 49 = .ok (.aload_n 0, 1) := by decide +kernel
theorem dL_law_50 : decode cL_law 50 = .ok (.iconst 2, 1) := by decide +kernel
theorem dL_law_51 : decode cL_law 51 = .ok (.iload_n 3, 1) := by decide +kernel
theorem dL_law_52 : decode cL_law 52 = .ok (.imul, 1) := by decide +kernel
theorem dL_law_53 : decode cL_law 53 = .ok (.iconst 1, 1) := by decide +kernel
theorem dL_law_54 : decode cL_law 54 = .ok (.iadd, 1) := by decide +kernel
theorem dL_law_55 : decode cL_law 55 = .ok (.invokestatic 113, 3) := by decide +kernel
theorem dL_law_58 : decode cL_law 58 = .ok (.istore 5, 2) := by decide +kernel
theorem dL_law_60 : decode cL_law 60 = .ok (.aload_n 1, 1) := by decide +kernel
theorem dL_law_61 : decode cL_law 61 = .ok (.invokestatic 101, 3) := by decide +kernel
theorem dL_law_64 : decode cL_law 64 = .ok (.lstore 6, 2) := by decide +kernel
theorem dL_law_66 : decode cL_law 66 = .ok (.aload_n 1, 1) := by decide +kernel
theorem dL_law_67 : decode cL_law 67 = .ok (.bipush 12, 2) := by decide +kernel
theorem dL_law_69 : decode cL_law 69 = .ok (.invokevirtual 13, 3) := by decide +kernel
theorem dL_law_72 : decode cL_law 72 = .ok (.istore 8, 2) := by decide +kernel
theorem dL_law_74 : decode cL_law 74 = .ok (.aload_n 1, 1) := by decide +kernel
theorem dL_law_75 : decode cL_law 75 = .ok (.iload 4, 2) := by decide +kernel
theorem dL_law_77 : decode cL_law 77 = .ok (.iload 5, 2) := by decide +kernel
theorem dL_law_79 : decode cL_law 79 = .ok (.invokestatic 117, 3) := by decide +kernel
theorem dL_law_82 : decode cL_law 82 = .ok (.istore 9, 2) := by decide +kernel
theorem dL_law_84 : decode cL_law 84 = .ok (.iload 9, 2) := by decide +kernel
theorem dL_law_86 : decode cL_law 86 = .ok (.ifCond .lt 32, 3) := by decide +kernel
theorem dL_law_89 : decode cL_law 89 = .ok (.aload_n 1, 1) := by decide +kernel
theorem dL_law_90 : decode cL_law 90 = .ok (.bipush 12, 2) := by decide +kernel
theorem dL_law_92 : decode cL_law 92 = .ok (.invokevirtual 13, 3) := by decide +kernel
theorem dL_law_95 : decode cL_law 95 = .ok (.iload 8, 2) := by decide +kernel
theorem dL_law_97 : decode cL_law 97 = .ok (.bipush 6, 2) := by decide +kernel
theorem dL_law_99 : decode cL_law 99 = .ok (.if_icmp .ge 10, 3) := by decide +kernel
theorem dL_law_102 : decode cL_law 102 = .ok (.iload 8, 2) := by decide +kernel
theorem dL_law_104 : decode cL_law 104 = .ok (.iconst 1, 1) := by decide +kernel
theorem dL_law_105 : decode cL_law 105 = .ok (.iadd, 1) := by decide +kernel
theorem dL_law_106 : decode cL_law 106 = .ok (.goto 5, 3) := by decide +kernel
theorem dL_law_109 : decode cL_law 109 = .ok (.bipush 6, 2) := by decide +kernel
theorem dL_law_111 : decode cL_law 111 = .ok (.if_icmp .ne 7, 3) := by decide +kernel
theorem dL_law_114 : decode cL_law 114 = .ok (.iconst 1, 1) := by decide +kernel
theorem dL_law_115 : decode cL_law 115 = .ok (.goto 4, 3) := by decide +kernel
theorem dL_law_118 : decode cL_law 118 = .ok (.iconst 0, 1) := by decide +kernel
theorem dL_law_119 : decode cL_law 119 = .ok (.istore_n 2, 1) := by decide +kernel
theorem dL_law_120 : decode cL_law 120 = .ok (.iload_n 2, 1) := by decide +kernel
theorem dL_law_121 : decode cL_law 121 = .ok (.ifCond .eq 77, 3) := by decide +kernel
theorem dL_law_124 : decode cL_law 124 = .ok (.iload 4, 2) := by decide +kernel
theorem dL_law_126 : decode cL_law 126 = .ok (.bipush 8, 2) := by decide +kernel
theorem dL_law_128 : decode cL_law 128 = .ok (.ishr, 1) := by decide +kernel
theorem dL_law_129 : decode cL_law 129 = .ok (.iconst 3, 1) := by decide +kernel
theorem dL_law_130 : decode cL_law 130 = .ok (.iand, 1) := by decide +kernel
theorem dL_law_131 : decode cL_law 131 = .ok (.ifCond .ne 67, 3) := by decide +kernel
theorem dL_law_134 : decode cL_law 134 = .ok (.aload_n 1, 1) := by decide +kernel
theorem dL_law_135 : decode cL_law 135 = .ok (.invokestatic 101, 3) := by decide +kernel
theorem dL_law_138 : decode cL_law 138 = .ok (.lstore 10, 2) := by decide +kernel
theorem dL_law_140 : decode cL_law 140 = .ok (.aload_n 1, 1) := by decide +kernel
theorem dL_law_141 : decode cL_law 141 = .ok (.bipush 12, 2) := by decide +kernel
theorem dL_law_143 : decode cL_law 143 = .ok (.invokevirtual 13, 3) := by decide +kernel
theorem dL_law_146 : decode cL_law 146 = .ok (.iconst 1, 1) := by decide +kernel
theorem dL_law_147 : decode cL_law 147 = .ok (.isub, 1) := by decide +kernel
theorem dL_law_148 : decode cL_law 148 = .ok (.istore 12, 2) := by decide +kernel
theorem dL_law_150 : decode cL_law 150 = .ok (.aload_n 1, 1) := by decide +kernel
theorem dL_law_151 : decode cL_law 151 = .ok (.invokevirtual 98, 3) := by decide +kernel
theorem dL_law_154 : decode cL_law 154 = .ok (.iload 12, 2) := by decide +kernel
theorem dL_law_156 : decode cL_law 156 = .ok (.if_icmp .ne 40, 3) := by decide +kernel
theorem dL_law_159 : decode cL_law 159 = .ok (.aload_n 1, 1) := by decide +kernel
theorem dL_law_160 : decode cL_law 160 = .ok (.invokestatic 101, 3) := by decide +kernel
theorem dL_law_163 : decode cL_law 163 = .ok (.lload 6, 2) := by decide +kernel
theorem dL_law_165 : decode cL_law 165 = .ok (.lcmp, 1) := by decide +kernel
theorem dL_law_166 : decode cL_law 166 = .ok (.ifCond .ne 30, 3) := by decide +kernel
theorem dL_law_169 : decode cL_law 169 = .ok (.aload_n 1, 1) := by decide +kernel
theorem dL_law_170 : decode cL_law 170 = .ok (.iload 4, 2) := by decide +kernel
theorem dL_law_172 : decode cL_law 172 = .ok (.iload 5, 2) := by decide +kernel
theorem dL_law_174 : decode cL_law 174 = .ok (.invokestatic 117, 3) := by decide +kernel
theorem dL_law_177 : decode cL_law 177 = .ok (.iload 9, 2) := by decide +kernel
theorem dL_law_179 : decode cL_law 179 = .ok (.if_icmp .ne 17, 3) := by decide +kernel
theorem dL_law_182 : decode cL_law 182 = .ok (.aload_n 1, 1) := by decide +kernel
theorem dL_law_183 : decode cL_law 183 = .ok (.invokestatic 101, 3) := by decide +kernel
theorem dL_law_186 : decode cL_law 186 = .ok (.lload 10, 2) := by decide +kernel
theorem dL_law_188 : decode cL_law 188 = .ok (.lcmp, 1) := by decide +kernel
theorem dL_law_189 : decode cL_law 189 = .ok (.ifCond .ne 7, 3) := by decide +kernel
theorem dL_law_192 : decode cL_law 192 = .ok (.iconst 1, 1) := by decide +kernel
theorem dL_law_193 : decode cL_law 193 = .ok (.goto 4, 3) := by decide +kernel
theorem dL_law_196 : decode cL_law 196 = .ok (.iconst 0, 1) := by decide +kernel
theorem dL_law_197 : decode cL_law 197 = .ok (.istore_n 2, 1) := by decide +kernel
theorem dL_law_198 : decode cL_law 198 = .ok (.iconst 1, 1) := by decide +kernel
theorem dL_law_199 : decode cL_law 199 = .ok (.iload 4, 2) := by decide +kernel
theorem dL_law_201 : decode cL_law 201 = .ok (.iconst 5, 1) := by decide +kernel
theorem dL_law_202 : decode cL_law 202 = .ok (.ishr, 1) := by decide +kernel
theorem dL_law_203 : decode cL_law 203 = .ok (.bipush 60, 2) := by decide +kernel
theorem dL_law_205 : decode cL_law 205 = .ok (.invokestatic 32, 3) := by decide +kernel
theorem dL_law_208 : decode cL_law 208 = .ok (.iadd, 1) := by decide +kernel
theorem dL_law_209 : decode cL_law 209 = .ok (.istore 10, 2) := by decide +kernel
theorem dL_law_211 : decode cL_law 211 = .ok (.iload_n 2, 1) := by decide +kernel
theorem dL_law_212 : decode cL_law 212 = .ok (.ifCond .eq 86, 3) := by decide +kernel
theorem dL_law_215 : decode cL_law 215 = .ok (.aload_n 1, 1) := by decide +kernel
theorem dL_law_216 : decode cL_law 216 = .ok (.invokestatic 109, 3) := by decide +kernel
theorem dL_law_219 : decode cL_law 219 = .ok (.ifCond .eq 79, 3) := by decide +kernel
theorem dL_law_222 : decode cL_law 222 = .ok (.iload_n 3, 1) := by decide +kernel
theorem dL_law_223 : decode cL_law 223 = .ok (.iconst 3, 1) := by decide +kernel
theorem dL_law_224 : decode cL_law 224 = .ok (.irem, 1) := by decide +kernel
theorem dL_law_225 : decode cL_law 225 = .ok (.iconst 1, 1) := by decide +kernel
theorem dL_law_226 : decode cL_law 226 = .ok (.if_icmp .ne 27, 3) := by decide +kernel
theorem dL_law_229 : decode cL_law 229 = .ok (.aload_n 1, 1) := by decide +kernel
theorem dL_law_230 : decode cL_law 230 = .ok (.iload 4, 2) := by decide +kernel
theorem dL_law_232 : decode cL_law 232 = .ok (.iconst 4, 1) := by decide +kernel
theorem dL_law_233 : decode cL_law 233 = .ok (.ishr, 1) := by decide +kernel
theorem dL_law_234 : decode cL_law 234 = .ok (.iconst 1, 1) := by decide +kernel
theorem dL_law_235 : decode cL_law 235 = .ok (.iand, 1) := by decide +kernel
theorem dL_law_236 : decode cL_law 236 = .ok (.ifCond .ne 8, 3) := by decide +kernel
theorem dL_law_239 : decode cL_law 239 = .ok (.iload 10, 2) := by decide +kernel
theorem dL_law_241 : decode cL_law 241 = .ok (.goto 6, 3) := by decide +kernel
theorem dL_law_244 : decode cL_law 244 = .ok (.iload 10, 2) := by decide +kernel
theorem dL_law_246 : decode cL_law 246 = .ok (.ineg, 1) := by decide +kernel
theorem dL_law_247 : decode cL_law 247 = .ok (.invokestatic 121, 3) := by decide +kernel
theorem dL_law_250 : decode cL_law 250 = .ok (.ifCond .eq 48, 3) := by decide +kernel
theorem dL_law_253 : decode cL_law 253 = .ok (.iload_n 3, 1) := by decide +kernel
theorem dL_law_254 : decode cL_law 254 = .ok (.bipush 6, 2) := by decide +kernel
theorem dL_law_256 : decode cL_law 256 = .ok (.irem, 1) := by decide +kernel
theorem dL_law_257 : decode cL_law 257 = .ok (.iconst 2, 1) := by decide +kernel
theorem dL_law_258 : decode cL_law 258 = .ok (.if_icmp .ne 14, 3) := by decide +kernel
theorem dL_law_261 : decode cL_law 261 = .ok (.aload_n 1, 1) := by decide +kernel
theorem dL_law_262 : decode cL_law 262 = .ok (.iload 5, 2) := by decide +kernel
theorem dL_law_264 : decode cL_law 264 = .ok (.iconst 5, 1) := by decide +kernel
theorem dL_law_265 : decode cL_law 265 = .ok (.ishr, 1) := by decide +kernel
theorem dL_law_266 : decode cL_law 266 = .ok (.invokestatic 125, 3) := by decide +kernel
theorem dL_law_269 : decode cL_law 269 = .ok (.ifCond .eq 29, 3) := by decide +kernel
theorem dL_law_272 : decode cL_law 272 = .ok (.iload_n 3, 1) := by decide +kernel
theorem dL_law_273 : decode cL_law 273 = .ok (.bipush 23, 2) := by decide +kernel
theorem dL_law_275 : decode cL_law 275 = .ok (.irem, 1) := by decide +kernel
theorem dL_law_276 : decode cL_law 276 = .ok (.bipush 14, 2) := by decide +kernel
theorem dL_law_278 : decode cL_law 278 = .ok (.if_icmp .ne 16, 3) := by decide +kernel
theorem dL_law_281 : decode cL_law 281 = .ok (.aload_n 1, 1) := by decide +kernel
theorem dL_law_282 : decode cL_law 282 = .ok (.invokevirtual 106, 3) := by decide +kernel
theorem dL_law_285 : decode cL_law 285 = .ok (.aload_n 1, 1) := by decide +kernel
theorem dL_law_286 : decode cL_law 286 = .ok (.bipush 7, 2) := by decide +kernel
theorem dL_law_288 : decode cL_law 288 = .ok (.invokevirtual 13, 3) := by decide +kernel
theorem dL_law_291 : decode cL_law 291 = .ok (.if_icmp .ne 7, 3) := by decide +kernel
theorem dL_law_294 : decode cL_law 294 = .ok (.iconst 1, 1) := by decide +kernel
theorem dL_law_295 : decode cL_law 295 = .ok (.goto 4, 3) := by decide +kernel
theorem dL_law_298 : decode cL_law 298 = .ok (.iconst 0, 1) := by decide +kernel
theorem dL_law_299 : decode cL_law 299 = .ok (.istore_n 2, 1) := by decide +kernel
theorem dL_law_300 : decode cL_law 300 = .ok (.iinc 3 1, 3) := by decide +kernel
theorem dL_law_303 : decode cL_law 303 = .ok (.goto (-273), 3) := by decide +kernel
theorem dL_law_306 : decode cL_law 306 = .ok (.iload_n 2, 1) := by decide +kernel
theorem dL_law_307 : decode cL_law 307 = .ok (.ireturn, 1) := by decide +kernel
