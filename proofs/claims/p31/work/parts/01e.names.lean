theorem dL_road_44 : decode cL_road 44 = .ok (.aload_n 0, 1) := by decide +kernel
theorem dL_road_45 : decode cL_road 45 = .ok (.iload_n 1, 1) := by decide +kernel
theorem dL_road_46 : decode cL_road 46 = .ok (.iconst 1, 1) := by decide +kernel
theorem dL_road_47 : decode cL_road 47 = .ok (.invokevirtual 48, 3) := by decide +kernel
theorem dL_road_50 : decode cL_road 50 = .ok (.iload 4, 2) := by decide +kernel
theorem dL_road_52 : decode cL_road 52 = .ok (.iload_n 2, 1) := by decide +kernel
theorem dL_road_53 : decode cL_road 53 = .ok (.invokestatic 24, 3) := by decide +kernel
theorem dL_road_56 : decode cL_road 56 = .ok (.isub, 1) := by decide +kernel
theorem dL_road_57 : decode cL_road 57 = .ok (.if_icmp .ne 78, 3) := by decide +kernel
theorem dL_road_60 : decode cL_road 60 = .ok (.aload_n 0, 1) := by decide +kernel
theorem dL_road_61 : decode cL_road 61 = .ok (.iload_n 1, 1) := by decide +kernel
theorem dL_road_62 : decode cL_road 62 = .ok (.iconst 2, 1) := by decide +kernel
theorem dL_road_63 : decode cL_road 63 = .ok (.invokevirtual 48, 3) := by decide +kernel
theorem dL_road_66 : decode cL_road 66 = .ok (.iload_n 2, 1) := by decide +kernel
theorem dL_road_67 : decode cL_road 67 = .ok (.invokestatic 24, 3) := by decide +kernel
theorem dL_road_70 : decode cL_road 70 = .ok (.if_icmp .ne 65, 3) := by decide +kernel
theorem dL_road_73 : decode cL_road 73 = .ok (.aload_n 0, 1) := by decide +kernel
theorem dL_road_74 : decode cL_road 74 = .ok (.iload_n 1, 1) := by decide +kernel
theorem dL_road_75 : decode cL_road 75 = .ok (.iconst 3, 1) := by decide +kernel
theorem dL_road_76 : decode cL_road 76 = .ok (.invokevirtual 48, 3) := by decide +kernel
theorem dL_road_79 : decode cL_road 79 = .ok (.iload_n 2, 1) := by decide +kernel
theorem dL_road_80 : decode cL_road 80 = .ok (.invokestatic 51, 3) := by decide +kernel
theorem dL_road_83 : decode cL_road 83 = .ok (.if_icmp .ne 52, 3) := by decide +kernel
theorem dL_road_86 : decode cL_road 86 = .ok (.aload_n 0, 1) := by decide +kernel
theorem dL_road_87 : decode cL_road 87 = .ok (.iload_n 1, 1) := by decide +kernel
theorem dL_road_88 : decode cL_road 88 = .ok (.iconst 4, 1) := by decide +kernel
theorem dL_road_89 : decode cL_road 89 = .ok (.invokevirtual 48, 3) := by decide +kernel
theorem dL_road_92 : decode cL_road 92 = .ok (.iload 5, 2) := by decide +kernel
theorem dL_road_94 : decode cL_road 94 = .ok (.if_icmp .ne 41, 3) := by decide +kernel
theorem dL_road_97 : decode cL_road 97 = .ok (.aload_n 0, 1) := by decide +kernel
theorem dL_road_98 : decode cL_road 98 = .ok (.iload_n 1, 1) := by decide +kernel
theorem dL_road_99 : decode cL_road 99 = .ok (.iconst 5, 1) := by decide +kernel
theorem dL_road_100 : decode cL_road 100 = .ok (.invokevirtual 48, 3) := by decide +kernel
theorem dL_road_103 : decode cL_road 103 = .ok (.aload_n 3, 1) := by decide +kernel
theorem dL_road_104 : decode cL_road 104 = .ok (.iconst 0, 1) := by decide +kernel
theorem dL_road_105 : decode cL_road 105 = .ok (.iaload, 1) := by decide +kernel
theorem dL_road_106 : decode cL_road 106 = .ok (.aload_n 3, 1) := by decide +kernel
theorem dL_road_107 : decode cL_road 107 = .ok (.iconst 3, 1) := by decide +kernel
theorem dL_road_108 : decode cL_road 108 = .ok (.iaload, 1) := by decide +kernel
theorem dL_road_109 : decode cL_road 109 = .ok (.iadd, 1) := by decide +kernel
theorem dL_road_110 : decode cL_road 110 = .ok (.if_icmp .ne 25, 3) := by decide +kernel
theorem dL_road_113 : decode cL_road 113 = .ok (.aload_n 0, 1) := by decide +kernel
theorem dL_road_114 : decode cL_road 114 = .ok (.iload_n 1, 1) := by decide +kernel
theorem dL_road_115 : decode cL_road 115 = .ok (.bipush 6, 2) := by decide +kernel
theorem dL_road_117 : decode cL_road 117 = .ok (.invokevirtual 48, 3) := by decide +kernel
theorem dL_road_120 : decode cL_road 120 = .ok (.iload_n 2, 1) := by decide +kernel
theorem dL_road_121 : decode cL_road 121 = .ok (.invokestatic 54, 3) := by decide +kernel
theorem dL_road_124 : decode cL_road 124 = .ok (.ifCond .eq 7, 3) := by decide +kernel
theorem dL_road_127 : decode cL_road 127 = .ok (.iconst 1, 1) := by decide +kernel
theorem dL_road_128 : decode cL_road 128 = .ok (.goto 4, 3) := by decide +kernel
theorem dL_road_131 : decode cL_road 131 = .ok (.iconst 0, 1) := by decide +kernel
theorem dL_road_132 : decode cL_road 132 = .ok (.if_icmp .eq 5, 3) := by decide +kernel
theorem dL_road_135 : decode cL_road 135 = .ok (.iconst 0, 1) := by decide +kernel
theorem dL_road_136 : decode cL_road 136 = .ok (.ireturn, 1) := by decide +kernel
theorem dL_road_137 : decode cL_road 137 = .ok (.aload_n 0, 1) := by decide +kernel
theorem dL_road_138 : decode cL_road 138 = .ok (.iload_n 1, 1) := by decide +kernel
theorem dL_road_139 : decode cL_road 139 = .ok (.bipush 7, 2) := by decide +kernel
theorem dL_road_141 : decode cL_road 141 = .ok (.invokevirtual 48, 3) := by decide +kernel
theorem dL_road_144 : decode cL_road 144 = .ok (.iload_n 2, 1) := by decide +kernel
theorem dL_road_145 : decode cL_road 145 = .ok (.iload_n 2, 1) := by decide +kernel
theorem dL_road_146 : decode cL_road 146 = .ok (.invokestatic 58, 3) := by decide +kernel
theorem dL_road_149 : decode cL_road 149 = .ok (.invokestatic 61, 3) := by decide +kernel
theorem dL_road_152 : decode cL_road 152 = .ok (.ifCond .eq 7, 3) := by decide +kernel
theorem dL_road_155 : decode cL_road 155 = .ok (.iconst 1, 1) := by decide +kernel
theorem dL_road_156 : decode cL_road 156 = .ok (.goto 4, 3) := by decide +kernel
theorem dL_road_159 : decode cL_road 159 = .ok (.iconst 0, 1) := by decide +kernel
theorem dL_road_160 : decode cL_road 160 = .ok (.if_icmp .ne 70, 3) := by decide +kernel
theorem dL_road_163 : decode cL_road 163 = .ok (.aload_n 0, 1) := by decide +kernel
theorem dL_road_164 : decode cL_road 164 = .ok (.iload_n 1, 1) := by decide +kernel
theorem dL_road_165 : decode cL_road 165 = .ok (.bipush 8, 2) := by decide +kernel
theorem dL_road_167 : decode cL_road 167 = .ok (.invokevirtual 48, 3) := by decide +kernel
theorem dL_road_170 : decode cL_road 170 = .ok (.iload_n 2, 1) := by decide +kernel
theorem dL_road_171 : decode cL_road 171 = .ok (.iload_n 2, 1) := by decide +kernel
theorem dL_road_172 : decode cL_road 172 = .ok (.invokestatic 65, 3) := by decide +kernel
theorem dL_road_175 : decode cL_road 175 = .ok (.invokestatic 61, 3) := by decide +kernel
theorem dL_road_178 : decode cL_road 178 = .ok (.ifCond .eq 7, 3) := by decide +kernel
theorem dL_road_181 : decode cL_road 181 = .ok (.iconst 1, 1) := by decide +kernel
theorem dL_road_182 : decode cL_road 182 = .ok (.goto 4, 3) := by decide +kernel
theorem dL_road_185 : decode cL_road 185 = .ok (.iconst 0, 1) := by decide +kernel
theorem dL_road_186 : decode cL_road 186 = .ok (.if_icmp .ne 44, 3) := by decide +kernel
theorem dL_road_189 : decode cL_road 189 = .ok (.aload_n 0, 1) := by decide +kernel
theorem dL_road_190 : decode cL_road 190 = .ok (.iload_n 1, 1) := by decide +kernel
theorem dL_road_191 : decode cL_road 191 = .ok (.bipush 9, 2) := by decide +kernel
theorem dL_road_193 : decode cL_road 193 = .ok (.invokevirtual 48, 3) := by decide +kernel
theorem dL_road_196 : decode cL_road 196 = .ok (.iload_n 2, 1) := by decide +kernel
theorem dL_road_197 : decode cL_road 197 = .ok (.iload_n 2, 1) := by decide +kernel
theorem dL_road_198 : decode cL_road 198 = .ok (.invokestatic 65, 3) := by decide +kernel
theorem dL_road_201 : decode cL_road 201 = .ok (.invokestatic 58, 3) := by decide +kernel
theorem dL_road_204 : decode cL_road 204 = .ok (.invokestatic 61, 3) := by decide +kernel
theorem dL_road_207 : decode cL_road 207 = .ok (.ifCond .eq 7, 3) := by decide +kernel
theorem dL_road_210 : decode cL_road 210 = .ok (.iconst 1, 1) := by decide +kernel
theorem dL_road_211 : decode cL_road 211 = .ok (.goto 4, 3) := by decide +kernel
theorem dL_road_214 : decode cL_road 214 = .ok (.iconst 0, 1) := by decide +kernel
theorem dL_road_215 : decode cL_road 215 = .ok (.if_icmp .ne 15, 3) := by decide +kernel
theorem dL_road_218 : decode cL_road 218 = .ok (.aload_n 0, 1) := by decide +kernel
theorem dL_road_219 : decode cL_road 219 = .ok (.iload_n 1, 1) := by decide +kernel
theorem dL_road_220 : decode cL_road 220 = .ok (.bipush 10, 2) := by decide +kernel
theorem dL_road_222 : decode cL_road 222 = .ok (.invokevirtual 48, 3) := by decide +kernel
theorem dL_road_225 : decode cL_road 225 = .ok (.ldc 68, 2) := by decide +kernel
theorem dL_road_227 : decode cL_road 227 = .ok (.if_icmp .eq 5, 3) := by decide +kernel
theorem dL_road_230 : decode cL_road 230 = .ok (.iconst 0, 1) := by decide +kernel
theorem dL_road_231 : decode cL_road 231 = .ok (.ireturn, 1) := by decide +kernel
theorem dL_road_232 : decode cL_road 232 = .ok (.iconst 0, 1) := by decide +kernel
theorem dL_road_233 : decode cL_road 233 = .ok (.istore 6, 2) := by decide +kernel
theorem dL_road_235 : decode cL_road 235 = .ok (.iload 6, 2) := by decide +kernel
theorem dL_road_237 : decode cL_road 237 = .ok (.iload 4, 2) := by decide +kernel
theorem dL_road_239 : decode cL_road 239 = .ok (.if_icmp .ge 38, 3) := by decide +kernel
theorem dL_road_242 : decode cL_road 242 = .ok (.aload_n 0, 1) := by decide +kernel
theorem dL_road_243 : decode cL_road 243 = .ok (.iload_n 1, 1) := by decide +kernel
theorem dL_road_244 : decode cL_road 244 = .ok (.iload 6, 2) := by decide +kernel
theorem dL_road_246 : decode cL_road 246 = .ok (.invokevirtual 69, 3) := by decide +kernel
theorem dL_road_249 : decode cL_road 249 = .ok (.iload_n 2, 1) := by decide +kernel
theorem dL_road_250 : decode cL_road 250 = .ok (.iload 6, 2) := by decide +kernel
theorem dL_road_252 : decode cL_road 252 = .ok (.invokestatic 14, 3) := by decide +kernel
theorem dL_road_255 : decode cL_road 255 = .ok (.iconst 1, 1) := by decide +kernel
theorem dL_road_256 : decode cL_road 256 = .ok (.if_icmp .ne 8, 3) := by decide +kernel
theorem dL_road_259 : decode cL_road 259 = .ok (.bipush 82, 2) := by decide +kernel
theorem dL_road_261 : decode cL_road 261 = .ok (.goto 5, 3) := by decide +kernel
theorem dL_road_264 : decode cL_road 264 = .ok (.bipush 76, 2) := by decide +kernel
theorem dL_road_266 : decode cL_road 266 = .ok (.if_icmp .eq 5, 3) := by decide +kernel
theorem dL_road_269 : decode cL_road 269 = .ok (.iconst 0, 1) := by decide +kernel
theorem dL_road_270 : decode cL_road 270 = .ok (.ireturn, 1) := by decide +kernel
theorem dL_road_271 : decode cL_road 271 = .ok (.iinc 6 1, 3) := by decide +kernel
theorem dL_road_274 : decode cL_road 274 = .ok (.goto (-39), 3) := by decide +kernel
theorem dL_road_277 : decode cL_road 277 = .ok (.iconst 0, 1) := by decide +kernel
theorem dL_road_278 : decode cL_road 278 = .ok (.istore 6, 2) := by decide +kernel
theorem dL_road_280 : decode cL_road 280 = .ok (.iload 6, 2) := by decide +kernel
theorem dL_road_282 : decode cL_road 282 = .ok (.iconst 4, 1) := by decide +kernel
theorem dL_road_283 : decode cL_road 283 = .ok (.if_icmp .ge 25, 3) := by decide +kernel
theorem dL_road_286 : decode cL_road 286 = .ok (.aload_n 0, 1) := by decide +kernel
theorem dL_road_287 : decode cL_road 287 = .ok (.iload_n 1, 1) := by decide +kernel
theorem dL_road_288 : decode cL_road 288 = .ok (.iload 6, 2) := by decide +kernel
theorem dL_road_290 : decode cL_road 290 = .ok (.invokevirtual 72, 3) := by decide +kernel
theorem dL_road_293 : decode cL_road 293 = .ok (.aload_n 3, 1) := by decide +kernel
theorem dL_road_294 : decode cL_road 294 = .ok (.iload 6, 2) := by decide +kernel
theorem dL_road_296 : decode cL_road 296 = .ok (.iaload, 1) := by decide +kernel
theorem dL_road_297 : decode cL_road 297 = .ok (.if_icmp .eq 5, 3) := by decide +kernel
theorem dL_road_300 : decode cL_road 300 = .ok (.iconst 0, 1) := by decide +kernel
theorem dL_road_301 : decode cL_road 301 = .ok (.ireturn, 1) := by decide +kernel
theorem dL_road_302 : decode cL_road 302 = .ok (.iinc 6 1, 3) := by decide +kernel
theorem dL_road_305 : decode cL_road 305 = .ok (.goto (-25), 3) := by decide +kernel
theorem dL_road_308 : decode cL_road 308 = .ok (.aload_n 3, 1) := by decide +kernel
theorem dL_road_309 : decode cL_road 309 = .ok (.iconst 0, 1) := by decide +kernel
theorem dL_road_310 : decode cL_road 310 = .ok (.iaload, 1) := by decide +kernel
theorem dL_road_311 : decode cL_road 311 = .ok (.i2l, 1) := by decide +kernel
theorem dL_road_312 : decode cL_road 312 = .ok (.aload_n 3, 1) := by decide +kernel
theorem dL_road_313 : decode cL_road 313 = .ok (.iconst 3, 1) := by decide +kernel
theorem dL_road_314 : decode cL_road 314 = .ok (.iaload, 1) := by decide +kernel
theorem dL_road_315 : decode cL_road 315 = .ok (.i2l, 1) := by decide +kernel
theorem dL_road_316 : decode cL_road 316 = .ok (.lmul, 1) := by decide +kernel
theorem dL_road_317 : decode cL_road 317 = .ok (.aload_n 3, 1) := by decide +kernel
theorem dL_road_318 : decode cL_road 318 = .ok (.iconst 1, 1) := by decide +kernel
theorem dL_road_319 : decode cL_road 319 = .ok (.iaload, 1) := by decide +kernel
theorem dL_road_320 : decode cL_road 320 = .ok (.i2l, 1) := by decide +kernel
theorem dL_road_321 : decode cL_road 321 = .ok (.aload_n 3, 1) := by decide +kernel
theorem dL_road_322 : decode cL_road 322 = .ok (.iconst 2, 1) := by decide +kernel
theorem dL_road_323 : decode cL_road 323 = .ok (.iaload, 1) := by decide +kernel
theorem dL_road_324 : decode cL_road 324 = .ok (.i2l, 1) := by decide +kernel
theorem dL_road_325 : decode cL_road 325 = .ok (.lmul, 1) := by decide +kernel
theorem dL_road_326 : decode cL_road 326 = .ok (.lsub, 1) := by decide +kernel
theorem dL_road_327 : decode cL_road 327 = .ok (.lconst 1, 1) := by decide +kernel
theorem dL_road_328 : decode cL_road 328 = .ok (.lcmp, 1) := by decide +kernel
theorem dL_road_329 : decode cL_road 329 = .ok (.ifCond .ne 56, 3) := by decide +kernel
theorem dL_road_332 : decode cL_road 332 = .ok (.aload_n 0, 1) := by decide +kernel
theorem dL_road_333 : decode cL_road 333 = .ok (.iload_n 1, 1) := by decide +kernel
theorem dL_road_334 : decode cL_road 334 = .ok (.iconst 0, 1) := by decide +kernel
theorem dL_road_335 : decode cL_road 335 = .ok (.invokevirtual 74, 3) := by decide +kernel
theorem dL_road_338 : decode cL_road 338 = .ok (.aload_n 3, 1) := by decide +kernel
theorem dL_road_339 : decode cL_road 339 = .ok (.iconst 0, 1) := by decide +kernel
theorem dL_road_340 : decode cL_road 340 = .ok (.iaload, 1) := by decide +kernel
theorem dL_road_341 : decode cL_road 341 = .ok (.aload_n 3, 1) := by decide +kernel
theorem dL_road_342 : decode cL_road 342 = .ok (.iconst 1, 1) := by decide +kernel
theorem dL_road_343 : decode cL_road 343 = .ok (.iaload, 1) := by decide +kernel
theorem dL_road_344 : decode cL_road 344 = .ok (.iadd, 1) := by decide +kernel
theorem dL_road_345 : decode cL_road 345 = .ok (.if_icmp .ne 40, 3) := by decide +kernel
theorem dL_road_348 : decode cL_road 348 = .ok (.aload_n 0, 1) := by decide +kernel
theorem dL_road_349 : decode cL_road 349 = .ok (.iload_n 1, 1) := by decide +kernel
theorem dL_road_350 : decode cL_road 350 = .ok (.iconst 1, 1) := by decide +kernel
theorem dL_road_351 : decode cL_road 351 = .ok (.invokevirtual 74, 3) := by decide +kernel
theorem dL_road_354 : decode cL_road 354 = .ok (.aload_n 3, 1) := by decide +kernel
theorem dL_road_355 : decode cL_road 355 = .ok (.iconst 2, 1) := by decide +kernel
theorem dL_road_356 : decode cL_road 356 = .ok (.iaload, 1) := by decide +kernel
theorem dL_road_357 : decode cL_road 357 = .ok (.aload_n 3, 1) := by decide +kernel
theorem dL_road_358 : decode cL_road 358 = .ok (.iconst 3, 1) := by decide +kernel
theorem dL_road_359 : decode cL_road 359 = .ok (.iaload, 1) := by decide +kernel
theorem dL_road_360 : decode cL_road 360 = .ok (.iadd, 1) := by decide +kernel
theorem dL_road_361 : decode cL_road 361 = .ok (.if_icmp .ne 24, 3) := by decide +kernel
theorem dL_road_364 : decode cL_road 364 = .ok (.aload_n 3, 1) := by decide +kernel
theorem dL_road_365 : decode cL_road 365 = .ok (.iconst 0, 1) := by decide +kernel
theorem dL_road_366 : decode cL_road 366 = .ok (.iaload, 1) := by decide +kernel
theorem dL_road_367 : decode cL_road 367 = .ok (.aload_n 3, 1) := by decide +kernel
theorem dL_road_368 : decode cL_road 368 = .ok (.iconst 1, 1) := by decide +kernel
theorem dL_road_369 : decode cL_road 369 = .ok (.iaload, 1) := by decide +kernel
theorem dL_road_370 : decode cL_road 370 = .ok (.iadd, 1) := by decide +kernel
theorem dL_road_371 : decode cL_road 371 = .ok (.aload_n 3, 1) := by decide +kernel
theorem dL_road_372 : decode cL_road 372 = .ok (.iconst 2, 1) := by decide +kernel
theorem dL_road_373 : decode cL_road 373 = .ok (.iaload, 1) := by decide +kernel
theorem dL_road_374 : decode cL_road 374 = .ok (.aload_n 3, 1) := by decide +kernel
theorem dL_road_375 : decode cL_road 375 = .ok (.iconst 3, 1) := by decide +kernel
theorem dL_road_376 : decode cL_road 376 = .ok (.iaload, 1) := by decide +kernel
theorem dL_road_377 : decode cL_road 377 = .ok (.iadd, 1) := by decide +kernel
theorem dL_road_378 : decode cL_road 378 = .ok (.invokestatic 77, 3) := by decide +kernel
theorem dL_road_381 : decode cL_road 381 = .ok (.iconst 1, 1) := by decide +kernel
theorem dL_road_382 : decode cL_road 382 = .ok (.if_icmp .eq 5, 3) := by decide +kernel
theorem dL_road_385 : decode cL_road 385 = .ok (.iconst 0, 1) := by decide +kernel
theorem dL_road_386 : decode cL_road 386 = .ok (.ireturn, 1) := by decide +kernel
theorem dL_road_387 : decode cL_road 387 = .ok (.iload_n 2, 1) := by decide +kernel
theorem dL_road_388 : decode cL_road 388 = .ok (.invokestatic 54, 3) := by decide +kernel
theorem dL_road_391 : decode cL_road 391 = .ok (.ifCond .ne 54, 3) := by decide +kernel
theorem dL_road_394 : decode cL_road 394 = .ok (.aload_n 0, 1) := by decide +kernel
theorem dL_road_395 : decode cL_road 395 = .ok (.iload_n 1, 1) := by decide +kernel
theorem dL_road_396 : decode cL_road 396 = .ok (.iconst 0, 1) := by decide +kernel
theorem dL_road_397 : decode cL_road 397 = .ok (.invokevirtual 80, 3) := by decide +kernel
theorem dL_road_400 : decode cL_road 400 = .ok (.ldc 83, 2) := by decide +kernel
theorem dL_road_402 : decode cL_road 402 = .ok (.if_icmp .ne 41, 3) := by decide +kernel
theorem dL_road_405 : decode cL_road 405 = .ok (.aload_n 0, 1) := by decide +kernel
theorem dL_road_406 : decode cL_road 406 = .ok (.iload_n 1, 1) := by decide +kernel
theorem dL_road_407 : decode cL_road 407 = .ok (.iconst 5, 1) := by decide +kernel
theorem dL_road_408 : decode cL_road 408 = .ok (.invokevirtual 80, 3) := by decide +kernel
theorem dL_road_411 : decode cL_road 411 = .ok (.ldc 68, 2) := by decide +kernel
theorem dL_road_413 : decode cL_road 413 = .ok (.if_icmp .ne 30, 3) := by decide +kernel
theorem dL_road_416 : decode cL_road 416 = .ok (.aload_n 0, 1) := by decide +kernel
theorem dL_road_417 : decode cL_road 417 = .ok (.iload_n 1, 1) := by decide +kernel
theorem dL_road_418 : decode cL_road 418 = .ok (.iload 4, 2) := by decide +kernel
theorem dL_road_420 : decode cL_road 420 = .ok (.invokevirtual 69, 3) := by decide +kernel
theorem dL_road_423 : decode cL_road 423 = .ok (.ldc 84, 2) := by decide +kernel
theorem dL_road_425 : decode cL_road 425 = .ok (.if_icmp .ne 18, 3) := by decide +kernel
theorem dL_road_428 : decode cL_road 428 = .ok (.aload_n 0, 1) := by decide +kernel
theorem dL_road_429 : decode cL_road 429 = .ok (.iload_n 1, 1) := by decide +kernel
theorem dL_road_430 : decode cL_road 430 = .ok (.iconst (-1), 1) := by decide +kernel
theorem dL_road_431 : decode cL_road 431 = .ok (.invokevirtual 69, 3) := by decide +kernel
theorem dL_road_434 : decode cL_road 434 = .ok (.ldc 84, 2) := by decide +kernel
theorem dL_road_436 : decode cL_road 436 = .ok (.if_icmp .ne 7, 3) := by decide +kernel
theorem dL_road_439 : decode cL_road 439 = .ok (.iconst 1, 1) := by decide +kernel
theorem dL_road_440 : decode cL_road 440 = .ok (.goto 4, 3) := by decide +kernel
theorem dL_road_443 : decode cL_road 443 = .ok (.iconst 0, 1) := by decide +kernel
theorem dL_road_444 : decode cL_road 444 = .ok (.ireturn, 1) := by decide +kernel
theorem dL_road_445 : decode cL_road 445 = .ok (.aload_n 3, 1) := by decide +kernel
theorem dL_road_446 : decode cL_road 446 = .ok (.iconst 2, 1) := by decide +kernel
theorem dL_road_447 : decode cL_road 447 = .ok (.iaload, 1) := by decide +kernel
theorem dL_road_448 : decode cL_road 448 = .ok (.aload_n 3, 1) := by decide +kernel
theorem dL_road_449 : decode cL_road 449 = .ok (.iconst 3, 1) := by decide +kernel
theorem dL_road_450 : decode cL_road 450 = .ok (.iaload, 1) := by decide +kernel
theorem dL_road_451 : decode cL_road 451 = .ok (.aload_n 3, 1) := by decide +kernel
theorem dL_road_452 : decode cL_road 452 = .ok (.iconst 0, 1) := by decide +kernel
theorem dL_road_453 : decode cL_road 453 = .ok (.iaload, 1) := by decide +kernel
theorem dL_road_454 : decode cL_road 454 = .ok (.isub, 1) := by decide +kernel
theorem dL_road_455 : decode cL_road 455 = .ok (.invokestatic 77, 3) := by decide +kernel
theorem dL_road_458 : decode cL_road 458 = .ok (.aload_n 3, 1) := by decide +kernel
theorem dL_road_459 : decode cL_road 459 = .ok (.iconst 1, 1) := by decide +kernel
theorem dL_road_460 : decode cL_road 460 = .ok (.iaload, 1) := by decide +kernel
theorem dL_road_461 : decode cL_road 461 = .ok (.invokestatic 77, 3) := by decide +kernel
theorem dL_road_464 : decode cL_road 464 = .ok (.istore 6, 2) := by decide +kernel
theorem dL_road_466 : decode cL_road 466 = .ok (.aload_n 3, 1) := by decide +kernel
theorem dL_road_467 : decode cL_road 467 = .ok (.iconst 2, 1) := by decide +kernel
theorem dL_road_468 : decode cL_road 468 = .ok (.iaload, 1) := by decide +kernel
theorem dL_road_469 : decode cL_road 469 = .ok (.iload 6, 2) := by decide +kernel
theorem dL_road_471 : decode cL_road 471 = .ok (.idiv, 1) := by decide +kernel
theorem dL_road_472 : decode cL_road 472 = .ok (.istore 7, 2) := by decide +kernel
theorem dL_road_474 : decode cL_road 474 = .ok (.aload_n 3, 1) := by decide +kernel
theorem dL_road_475 : decode cL_road 475 = .ok (.iconst 3, 1) := by decide +kernel
theorem dL_road_476 : decode cL_road 476 = .ok (.iaload, 1) := by decide +kernel
theorem dL_road_477 : decode cL_road 477 = .ok (.aload_n 3, 1) := by decide +kernel
theorem dL_road_478 : decode cL_road 478 = .ok (.iconst 0, 1) := by decide +kernel
theorem dL_road_479 : decode cL_road 479 = .ok (.iaload, 1) := by decide +kernel
theorem dL_road_480 : decode cL_road 480 = .ok (.isub, 1) := by decide +kernel
theorem dL_road_481 : decode cL_road 481 = .ok (.iload 6, 2) := by decide +kernel
theorem dL_road_483 : decode cL_road 483 = .ok (.idiv, 1) := by decide +kernel
theorem dL_road_484 : decode cL_road 484 = .ok (.istore 8, 2) := by decide +kernel
theorem dL_road_486 : decode cL_road 486 = .ok (.aload_n 3, 1) := by decide +kernel
theorem dL_road_487 : decode cL_road 487 = .ok (.iconst 1, 1) := by decide +kernel
theorem dL_road_488 : decode cL_road 488 = .ok (.iaload, 1) := by decide +kernel
theorem dL_road_489 : decode cL_road 489 = .ok (.ineg, 1) := by decide +kernel
theorem dL_road_490 : decode cL_road 490 = .ok (.iload 6, 2) := by decide +kernel
theorem dL_road_492 : decode cL_road 492 = .ok (.idiv, 1) := by decide +kernel
theorem dL_road_493 : decode cL_road 493 = .ok (.istore 9, 2) := by decide +kernel
theorem dL_road_495 : decode cL_road 495 = .ok (.aload_n 3, 1) := by decide +kernel
theorem dL_road_496 : decode cL_road 496 = .ok (.iconst 0, 1) := by decide +kernel
theorem dL_road_497 : decode cL_road 497 = .ok (.iaload, 1) := by decide +kernel
theorem dL_road_498 : decode cL_road 498 = .ok (.aload_n 3, 1) := by decide +kernel
theorem dL_road_499 : decode cL_road 499 = .ok (.iconst 3, 1) := by decide +kernel
theorem dL_road_500 : decode cL_road 500 = .ok (.iaload, 1) := by decide +kernel
theorem dL_road_501 : decode cL_road 501 = .ok (.iadd, 1) := by decide +kernel
theorem dL_road_502 : decode cL_road 502 = .ok (.i2l, 1) := by decide +kernel
theorem dL_road_503 : decode cL_road 503 = .ok (.lstore 10, 2) := by decide +kernel
theorem dL_road_505 : decode cL_road 505 = .ok (.aload_n 0, 1) := by decide +kernel
theorem dL_road_506 : decode cL_road 506 = .ok (.iload_n 1, 1) := by decide +kernel
theorem dL_road_507 : decode cL_road 507 = .ok (.iconst 0, 1) := by decide +kernel
theorem dL_road_508 : decode cL_road 508 = .ok (.invokevirtual 80, 3) := by decide +kernel
theorem dL_road_511 : decode cL_road 511 = .ok (.iload 7, 2) := by decide +kernel
theorem dL_road_513 : decode cL_road 513 = .ok (.if_icmp .ne 119, 3) := by decide +kernel
theorem dL_road_516 : decode cL_road 516 = .ok (.aload_n 0, 1) := by decide +kernel
theorem dL_road_517 : decode cL_road 517 = .ok (.iload_n 1, 1) := by decide +kernel
theorem dL_road_518 : decode cL_road 518 = .ok (.iconst 1, 1) := by decide +kernel
theorem dL_road_519 : decode cL_road 519 = .ok (.invokevirtual 80, 3) := by decide +kernel
theorem dL_road_522 : decode cL_road 522 = .ok (.iload 8, 2) := by decide +kernel
theorem dL_road_524 : decode cL_road 524 = .ok (.if_icmp .ne 108, 3) := by decide +kernel
theorem dL_road_527 : decode cL_road 527 = .ok (.aload_n 0, 1) := by decide +kernel
theorem dL_road_528 : decode cL_road 528 = .ok (.iload_n 1, 1) := by decide +kernel
theorem dL_road_529 : decode cL_road 529 = .ok (.iconst 2, 1) := by decide +kernel
theorem dL_road_530 : decode cL_road 530 = .ok (.invokevirtual 80, 3) := by decide +kernel
theorem dL_road_533 : decode cL_road 533 = .ok (.iload 9, 2) := by decide +kernel
theorem dL_road_535 : decode cL_road 535 = .ok (.if_icmp .ne 97, 3) := by decide +kernel
theorem dL_road_538 : decode cL_road 538 = .ok (.aload_n 0, 1) := by decide +kernel
theorem dL_road_539 : decode cL_road 539 = .ok (.iload_n 1, 1) := by decide +kernel
theorem dL_road_540 : decode cL_road 540 = .ok (.iconst 3, 1) := by decide +kernel
theorem dL_road_541 : decode cL_road 541 = .ok (.invokevirtual 80, 3) := by decide +kernel
theorem dL_road_544 : decode cL_road 544 = .ok (.iload 6, 2) := by decide +kernel
theorem dL_road_546 : decode cL_road 546 = .ok (.if_icmp .ne 86, 3) := by decide +kernel
theorem dL_road_549 : decode cL_road 549 = .ok (.aload_n 0, 1) := by decide +kernel
theorem dL_road_550 : decode cL_road 550 = .ok (.iload_n 1, 1) := by decide +kernel
theorem dL_road_551 : decode cL_road 551 = .ok (.iconst 4, 1) := by decide +kernel
theorem dL_road_552 : decode cL_road 552 = .ok (.invokevirtual 80, 3) := by decide +kernel
theorem dL_road_555 : decode cL_road 555 = .ok (.iload 8, 2) := by decide +kernel
theorem dL_road_557 : decode cL_road 557 = .ok (.iload 8, 2) := by decide +kernel
theorem dL_road_559 : decode cL_road 559 = .ok (.imul, 1) := by decide +kernel
theorem dL_road_560 : decode cL_road 560 = .ok (.iconst 4, 1) := by decide +kernel
theorem dL_road_561 : decode cL_road 561 = .ok (.iload 7, 2) := by decide +kernel
theorem dL_road_563 : decode cL_road 563 = .ok (.imul, 1) := by decide +kernel
theorem dL_road_564 : decode cL_road 564 = .ok (.iload 9, 2) := by decide +kernel
theorem dL_road_566 : decode cL_road 566 = .ok (.imul, 1) := by decide +kernel
theorem dL_road_567 : decode cL_road 567 = .ok (.isub, 1) := by decide +kernel
theorem dL_road_568 : decode cL_road 568 = .ok (.if_icmp .ne 64, 3) := by decide +kernel
theorem dL_road_571 : decode cL_road 571 = .ok (.iload 7, 2) := by decide +kernel
theorem dL_road_573 : decode cL_road 573 = .ok (.ifCond .le 59, 3) := by decide +kernel
theorem dL_road_576 : decode cL_road 576 = .ok (.iload 9, 2) := by decide +kernel
theorem dL_road_578 : decode cL_road 578 = .ok (.ifCond .ge 54, 3) := by decide +kernel
theorem dL_road_581 : decode cL_road 581 = .ok (.lload 10, 2) := by decide +kernel
theorem dL_road_583 : decode cL_road 583 = .ok (.lload 10, 2) := by decide +kernel
theorem dL_road_585 : decode cL_road 585 = .ok (.lmul, 1) := by decide +kernel
theorem dL_road_586 : decode cL_road 586 = .ok (.ldc2_w 85, 3) := by decide +kernel
theorem dL_road_589 : decode cL_road 589 = .ok (.lsub, 1) := by decide +kernel
theorem dL_road_590 : decode cL_road 590 = .ok (.iload 6, 2) := by decide +kernel
theorem dL_road_592 : decode cL_road 592 = .ok (.i2l, 1) := by decide +kernel
theorem dL_road_593 : decode cL_road 593 = .ok (.iload 6, 2) := by decide +kernel
theorem dL_road_595 : decode cL_road 595 = .ok (.i2l, 1) := by decide +kernel
theorem dL_road_596 : decode cL_road 596 = .ok (.lmul, 1) := by decide +kernel
theorem dL_road_597 : decode cL_road 597 = .ok (.iload 8, 2) := by decide +kernel
theorem dL_road_599 : decode cL_road 599 = .ok (.iload 8, 2) := by decide +kernel
theorem dL_road_601 : decode cL_road 601 = .ok (.imul, 1) := by decide +kernel
theorem dL_road_602 : decode cL_road 602 = .ok (.iconst 4, 1) := by decide +kernel
theorem dL_road_603 : decode cL_road 603 = .ok (.iload 7, 2) := by decide +kernel
theorem dL_road_605 : decode cL_road 605 = .ok (.imul, 1) := by decide +kernel
theorem dL_road_606 : decode cL_road 606 = .ok (.iload 9, 2) := by decide +kernel
theorem dL_road_608 : decode cL_road 608 = .ok (.imul, 1) := by decide +kernel
theorem dL_road_609 : decode cL_road 609 = .ok (.isub, 1) := by decide +kernel
theorem dL_road_610 : decode cL_road 610 = .ok (.i2l, 1) := by decide +kernel
theorem dL_road_611 : decode cL_road 611 = .ok (.lmul, 1) := by decide +kernel
theorem dL_road_612 : decode cL_road 612 = .ok (.lcmp, 1) := by decide +kernel
theorem dL_road_613 : decode cL_road 613 = .ok (.ifCond .ne 19, 3) := by decide +kernel
theorem dL_road_616 : decode cL_road 616 = .ok (.aload_n 0, 1) := by decide +kernel
theorem dL_road_617 : decode cL_road 617 = .ok (.iload_n 1, 1) := by decide +kernel
theorem dL_road_618 : decode cL_road 618 = .ok (.iload 4, 2) := by decide +kernel
theorem dL_road_620 : decode cL_road 620 = .ok (.invokevirtual 69, 3) := by decide +kernel
theorem dL_road_623 : decode cL_road 623 = .ok (.ldc 84, 2) := by decide +kernel
theorem dL_road_625 : decode cL_road 625 = .ok (.if_icmp .ne 7, 3) := by decide +kernel
theorem dL_road_628 : decode cL_road 628 = .ok (.iconst 1, 1) := by decide +kernel
theorem dL_road_629 : decode cL_road 629 = .ok (.goto 4, 3) := by decide +kernel
theorem dL_road_632 : decode cL_road 632 = .ok (.iconst 0, 1) := by decide +kernel
theorem dL_road_633 : decode cL_road 633 = .ok (.ireturn, 1) := by decide +kernel
set_option maxRecDepth 20000 in
theorem ggL_stands_L_road : GoodIn wsL_stands wsL_road := goodIn_rq _ [7, 3, 8, 2, 9, 10, 11, 6, 12, 13, 14, 15, 16, 17, 18, 19, 20, 21, 22, 23, 24, 25, 26, 27, 28, 29, 30, 31, 32, 33, 34, 35, 36, 37, 38, 39, 40, 41, 42, 43, 44, 45, 46, 47, 48, 49, 50, 51, 52, 53, 54, 55, 56, 57, 58, 59, 60, 61, 62, 63, 64, 65, 66, 67, 68, 69, 70, 71, 72, 73, 74, 75, 76, 77, 78, 79, 80, 81, 82, 83, 84, 85, 86, 87, 88, 89, 90, 91, 92, 93, 94, 95, 96, 97, 98, 99, 100, 101, 102, 103, 104, 105, 106, 107, 108, 109, 110, 111, 112, 113, 114, 115, 116, 117, 118, 119, 120, 121, 122, 123, 124, 125, 126, 127, 128, 129, 130, 131, 132, 133, 134, 135, 136, 137, 138, 139, 140, 141, 142, 143, 144, 145, 146, 147, 148, 149, 150, 151, 152, 153, 154, 155, 156, 157, 158, 159, 160, 161, 162, 163, 164, 165, 211, 212, 213, 214, 215, 216, 217, 218, 219, 220, 221, 222, 223] (by decide +kernel) (by decide +kernel)
set_option maxRecDepth 20000 in
theorem gL_stands_L_road : GoodIn wsL_stands (va_wsS RL 87 yL_road wsL_road) := goodIn_app (goodIn_of _ (by decide +kernel)) ggL_stands_L_road
set_option maxRecDepth 20000 in
theorem ggL_stands_L_isClosed : GoodIn wsL_stands wsL_isClosed := goodIn_rq _ [111, 103, 104, 6, 105, 10, 11, 12, 19, 20, 21] (by decide +kernel) (by decide +kernel)
set_option maxRecDepth 20000 in
theorem gL_stands_L_isClosed : GoodIn wsL_stands (va_wsS RL 54 yL_isClosed wsL_isClosed) := goodIn_app (goodIn_of _ (by decide +kernel)) ggL_stands_L_isClosed
set_option maxRecDepth 20000 in
theorem ggL_stands_L_alike : GoodIn wsL_stands wsL_alike := goodIn_rq _ [117, 10, 11, 6, 12, 25, 26, 27, 13, 14, 15, 16, 17, 18, 19, 20, 21, 22, 23, 24, 28, 29, 30] (by decide +kernel) (by decide +kernel)
set_option maxRecDepth 20000 in
theorem gL_stands_L_alike : GoodIn wsL_stands (va_wsS RL 61 yL_alike wsL_alike) := goodIn_app (goodIn_of _ (by decide +kernel)) ggL_stands_L_alike
set_option maxRecDepth 20000 in
theorem ggL_stands_L_size : GoodIn wsL_stands wsL_size := goodIn_rq _ [12] (by decide +kernel) (by decide +kernel)
set_option maxRecDepth 20000 in
theorem gL_stands_L_size : GoodIn wsL_stands (va_wsS RL 8 yL_size wsL_size) := goodIn_app (goodIn_of _ (by decide +kernel)) ggL_stands_L_size
set_option maxRecDepth 20000 in
theorem ggL_stands_L_turned : GoodIn wsL_stands wsL_turned := goodIn_rq _ [15, 10, 11, 6, 12, 16, 17, 18, 19, 20, 21, 22, 23, 24] (by decide +kernel) (by decide +kernel)
set_option maxRecDepth 20000 in
theorem gL_stands_L_turned : GoodIn wsL_stands (va_wsS RL 27 yL_turned wsL_turned) := goodIn_app (goodIn_of _ (by decide +kernel)) ggL_stands_L_turned
set_option maxRecDepth 20000 in
theorem ggL_stands_X4_alike : GoodIn wsL_stands wsX4_alike := goodIn_rq _ [169, 39, 40, 41, 170, 43, 44, 45, 37, 46, 47, 48, 171, 65, 66, 59, 67, 63, 62, 68, 69, 70, 71, 61, 72, 211, 212, 213, 214, 215, 216, 217, 218, 219, 220, 221, 222, 223] (by decide +kernel) (by decide +kernel)
set_option maxRecDepth 20000 in
theorem gL_stands_X4_alike : GoodIn wsL_stands (wsV RL 91 RX4 yX4_alike wsX4_alike) := goodIn_app (goodIn_of _ (by decide +kernel)) ggL_stands_X4_alike
set_option maxRecDepth 20000 in
theorem ggL_stands_X4_count : GoodIn wsL_stands wsX4_count := goodIn_rq _ [175, 47, 176, 177, 178, 179, 180, 181, 42, 182, 183, 184, 37, 185, 186, 187, 188, 189, 43, 44, 45, 46, 48, 83, 84, 85, 59, 86, 61, 72, 190, 191, 192, 193, 194, 195, 196, 197, 198, 167, 168, 169, 39, 40, 41, 170, 171, 65, 66, 67, 63, 62, 68, 69, 70, 71, 218, 219, 220, 221, 222, 223, 224, 225, 226, 227, 228, 229, 230, 231, 232, 233, 234, 211, 212, 213, 214, 215, 216, 217] (by decide +kernel) (by decide +kernel)
set_option maxRecDepth 20000 in
theorem gL_stands_X4_count : GoodIn wsL_stands (wsV RL 93 RX4 yX4_count wsX4_count) := goodIn_app (goodIn_of _ (by decide +kernel)) ggL_stands_X4_count
set_option maxRecDepth 20000 in
theorem ggL_stands_X4_road : GoodIn wsL_stands wsX4_road := goodIn_rq _ [38, 39, 40, 41, 42, 43, 44, 45, 37, 46, 47, 48, 49, 50, 51, 52, 53, 54, 55, 56, 57, 58, 59, 60, 61, 62, 63, 64, 65, 66, 67, 68, 69, 70, 71, 72, 73, 74, 75, 76, 77, 78, 79, 80, 81, 82, 83, 84, 85, 86, 87, 88, 89, 90, 91, 92, 93, 94, 95, 96, 97, 98, 99, 100, 101, 102, 211, 212, 213, 214, 215, 216, 217, 218, 219, 220, 221, 222, 223] (by decide +kernel) (by decide +kernel)
set_option maxRecDepth 20000 in
theorem gL_stands_X4_road : GoodIn wsL_stands (wsV RL 48 RX4 yX4_road wsX4_road) := goodIn_app (goodIn_of _ (by decide +kernel)) ggL_stands_X4_road
set_option maxRecDepth 20000 in
theorem ggL_stands_X4_sign : GoodIn wsL_stands wsX4_sign := goodIn_rq _ [124, 40, 39, 43, 44, 45, 37, 46, 47, 48, 125, 92, 93, 59, 94, 61, 63, 126, 127, 128, 211, 212, 213, 214, 215, 216, 217, 218, 219, 220, 221, 222, 223] (by decide +kernel) (by decide +kernel)
set_option maxRecDepth 20000 in
theorem gL_stands_X4_sign : GoodIn wsL_stands (wsV RL 69 RX4 yX4_sign wsX4_sign) := goodIn_app (goodIn_of _ (by decide +kernel)) ggL_stands_X4_sign
set_option maxRecDepth 20000 in
theorem ggL_stands_X4_table : GoodIn wsL_stands wsX4_table := goodIn_rq _ [132, 39, 133, 134, 135, 136, 42, 43, 44, 45, 37, 46, 47, 48, 211, 212, 213, 214, 215, 216, 217, 218, 219, 220, 221, 222, 223] (by decide +kernel) (by decide +kernel)
set_option maxRecDepth 20000 in
theorem gL_stands_X4_table : GoodIn wsL_stands (wsV RL 72 RX4 yX4_table wsX4_table) := goodIn_app (goodIn_of _ (by decide +kernel)) ggL_stands_X4_table
set_option maxRecDepth 20000 in
theorem ggL_stands_X4_form : GoodIn wsL_stands wsX4_form := goodIn_rq _ [147, 39, 42, 148, 43, 44, 45, 37, 46, 47, 48, 83, 84, 85, 59, 86, 61, 72, 149, 150, 151, 152, 153, 82, 81, 154, 155, 156, 157, 158, 159, 160, 161, 162, 163, 164, 165, 218, 219, 220, 221, 222, 223, 211, 212, 213, 214, 215, 216, 217] (by decide +kernel) (by decide +kernel)
set_option maxRecDepth 20000 in
theorem gL_stands_X4_form : GoodIn wsL_stands (wsV RL 80 RX4 yX4_form wsX4_form) := goodIn_app (goodIn_of _ (by decide +kernel)) ggL_stands_X4_form
set_option maxRecDepth 20000 in
theorem ggL_stands_X4_end : GoodIn wsL_stands wsX4_end := goodIn_rq _ [140, 39, 133, 134, 135, 136, 42, 43, 44, 45, 37, 46, 47, 48, 211, 212, 213, 214, 215, 216, 217, 218, 219, 220, 221, 222, 223] (by decide +kernel) (by decide +kernel)
set_option maxRecDepth 20000 in
theorem gL_stands_X4_end : GoodIn wsL_stands (wsV RL 74 RX4 yX4_end wsX4_end) := goodIn_app (goodIn_of _ (by decide +kernel)) ggL_stands_X4_end
set_option maxRecDepth 20000 in
theorem ggL_stands_X4_cross : GoodIn wsL_stands wsX4_cross := goodIn_rq _ [202, 39, 148, 43, 44, 45, 37, 46, 47, 48, 83, 84, 85, 59, 86, 61, 72, 203, 204, 205, 206, 63, 91, 92, 93, 94, 207, 208, 209, 210, 218, 219, 220, 221, 222, 223, 211, 212, 213, 214, 215, 216, 217] (by decide +kernel) (by decide +kernel)
set_option maxRecDepth 20000 in
theorem gL_stands_X4_cross : GoodIn wsL_stands (wsV RL 96 RX4 yX4_cross wsX4_cross) := goodIn_app (goodIn_of _ (by decide +kernel)) ggL_stands_X4_cross
theorem dL_stands_0 : decode cL_stands 0 = .ok (.iconst 0, 1) := by decide +kernel
theorem dL_stands_1 : decode cL_stands 1 = .ok (.istore 4, 2) := by decide +kernel
theorem dL_stands_3 : decode cL_stands 3 = .ok (.iconst 0, 1) := by decide +kernel
theorem dL_stands_4 : decode cL_stands 4 = .ok (.istore 5, 2) := by decide +kernel
theorem dL_stands_6 : decode cL_stands 6 = .ok (.iconst 0, 1) := by decide +kernel
theorem dL_stands_7 : decode cL_stands 7 = .ok (.istore 6, 2) := by decide +kernel
theorem dL_stands_9 : decode cL_stands 9 = .ok (.iload 6, 2) := by decide +kernel
theorem dL_stands_11 : decode cL_stands 11 = .ok (.iload_n 2, 1) := by decide +kernel
theorem dL_stands_12 : decode cL_stands 12 = .ok (.if_icmp .ge 179, 3) := by decide +kernel
theorem dL_stands_15 : decode cL_stands 15 = .ok (.aload_n 0, 1) := by decide +kernel
theorem dL_stands_16 : decode cL_stands 16 = .ok (.iload 6, 2) := by decide +kernel
theorem dL_stands_18 : decode cL_stands 18 = .ok (.aload_n 1, 1) := by decide +kernel
theorem dL_stands_19 : decode cL_stands 19 = .ok (.iload 6, 2) := by decide +kernel
theorem dL_stands_21 : decode cL_stands 21 = .ok (.iaload, 1) := by decide +kernel
theorem dL_stands_22 : decode cL_stands 22 = .ok (.aload_n 3, 1) := by decide +kernel
theorem dL_stands_23 : decode cL_stands 23 = .ok (.invokestatic 87, 3) := by decide +kernel
theorem dL_stands_26 : decode cL_stands 26 = .ok (.ifCond .ne 5, 3) := by decide +kernel
theorem dL_stands_29 : decode cL_stands 29 = .ok (.iconst 0, 1) := by decide +kernel
theorem dL_stands_30 : decode cL_stands 30 = .ok (.ireturn, 1) := by decide +kernel
theorem dL_stands_31 : decode cL_stands 31 = .ok (.iload 4, 2) := by decide +kernel
theorem dL_stands_33 : decode cL_stands 33 = .ok (.aload_n 1, 1) := by decide +kernel
theorem dL_stands_34 : decode cL_stands 34 = .ok (.iload 6, 2) := by decide +kernel
theorem dL_stands_36 : decode cL_stands 36 = .ok (.iaload, 1) := by decide +kernel
theorem dL_stands_37 : decode cL_stands 37 = .ok (.invokestatic 54, 3) := by decide +kernel
theorem dL_stands_40 : decode cL_stands 40 = .ok (.ifCond .eq 7, 3) := by decide +kernel
theorem dL_stands_43 : decode cL_stands 43 = .ok (.iconst 1, 1) := by decide +kernel
theorem dL_stands_44 : decode cL_stands 44 = .ok (.goto 4, 3) := by decide +kernel
theorem dL_stands_47 : decode cL_stands 47 = .ok (.iconst 0, 1) := by decide +kernel
theorem dL_stands_48 : decode cL_stands 48 = .ok (.iadd, 1) := by decide +kernel
theorem dL_stands_49 : decode cL_stands 49 = .ok (.istore 4, 2) := by decide +kernel
theorem dL_stands_51 : decode cL_stands 51 = .ok (.iconst 1, 1) := by decide +kernel
theorem dL_stands_52 : decode cL_stands 52 = .ok (.istore 7, 2) := by decide +kernel
theorem dL_stands_54 : decode cL_stands 54 = .ok (.iconst 0, 1) := by decide +kernel
theorem dL_stands_55 : decode cL_stands 55 = .ok (.istore 8, 2) := by decide +kernel
theorem dL_stands_57 : decode cL_stands 57 = .ok (.iload 8, 2) := by decide +kernel
theorem dL_stands_59 : decode cL_stands 59 = .ok (.iload 6, 2) := by decide +kernel
theorem dL_stands_61 : decode cL_stands 61 = .ok (.if_icmp .ge 33, 3) := by decide +kernel
theorem dL_stands_64 : decode cL_stands 64 = .ok (.iload 7, 2) := by decide +kernel
theorem dL_stands_66 : decode cL_stands 66 = .ok (.aload_n 1, 1) := by decide +kernel
theorem dL_stands_67 : decode cL_stands 67 = .ok (.iload 6, 2) := by decide +kernel
theorem dL_stands_69 : decode cL_stands 69 = .ok (.iaload, 1) := by decide +kernel
theorem dL_stands_70 : decode cL_stands 70 = .ok (.aload_n 1, 1) := by decide +kernel
theorem dL_stands_71 : decode cL_stands 71 = .ok (.iload 8, 2) := by decide +kernel
theorem dL_stands_73 : decode cL_stands 73 = .ok (.iaload, 1) := by decide +kernel
theorem dL_stands_74 : decode cL_stands 74 = .ok (.invokestatic 61, 3) := by decide +kernel
theorem dL_stands_77 : decode cL_stands 77 = .ok (.ifCond .ne 7, 3) := by decide +kernel
theorem dL_stands_80 : decode cL_stands 80 = .ok (.iconst 1, 1) := by decide +kernel
theorem dL_stands_81 : decode cL_stands 81 = .ok (.goto 4, 3) := by decide +kernel
theorem dL_stands_84 : decode cL_stands 84 = .ok (.iconst 0, 1) := by decide +kernel
theorem dL_stands_85 : decode cL_stands 85 = .ok (.iand, 1) := by decide +kernel
theorem dL_stands_86 : decode cL_stands 86 = .ok (.istore 7, 2) := by decide +kernel
theorem dL_stands_88 : decode cL_stands 88 = .ok (.iinc 8 1, 3) := by decide +kernel
theorem dL_stands_91 : decode cL_stands 91 = .ok (.goto (-34), 3) := by decide +kernel
theorem dL_stands_94 : decode cL_stands 94 = .ok (.iload 5, 2) := by decide +kernel
theorem dL_stands_96 : decode cL_stands 96 = .ok (.iload 7, 2) := by decide +kernel
theorem dL_stands_98 : decode cL_stands 98 = .ok (.ifCond .eq 7, 3) := by decide +kernel
theorem dL_stands_101 : decode cL_stands 101 = .ok (.iconst 1, 1) := by decide +kernel
theorem dL_stands_102 : decode cL_stands 102 = .ok (.goto 4, 3) := by decide +kernel
theorem dL_stands_105 : decode cL_stands 105 = .ok (.iconst 0, 1) := by decide +kernel
theorem dL_stands_106 : decode cL_stands 106 = .ok (.iadd, 1) := by decide +kernel
theorem dL_stands_107 : decode cL_stands 107 = .ok (.istore 5, 2) := by decide +kernel
theorem dL_stands_109 : decode cL_stands 109 = .ok (.iconst 0, 1) := by decide +kernel
theorem dL_stands_110 : decode cL_stands 110 = .ok (.istore 8, 2) := by decide +kernel
theorem dL_stands_112 : decode cL_stands 112 = .ok (.iload 8, 2) := by decide +kernel
theorem dL_stands_114 : decode cL_stands 114 = .ok (.iload_n 2, 1) := by decide +kernel
theorem dL_stands_115 : decode cL_stands 115 = .ok (.if_icmp .ge 70, 3) := by decide +kernel
theorem dL_stands_118 : decode cL_stands 118 = .ok (.ldc 90, 2) := by decide +kernel
theorem dL_stands_120 : decode cL_stands 120 = .ok (.istore 9, 2) := by decide +kernel
theorem dL_stands_122 : decode cL_stands 122 = .ok (.aload_n 1, 1) := by decide +kernel
theorem dL_stands_123 : decode cL_stands 123 = .ok (.iload 6, 2) := by decide +kernel
theorem dL_stands_125 : decode cL_stands 125 = .ok (.iaload, 1) := by decide +kernel
theorem dL_stands_126 : decode cL_stands 126 = .ok (.invokestatic 8, 3) := by decide +kernel
theorem dL_stands_129 : decode cL_stands 129 = .ok (.iconst 1, 1) := by decide +kernel
theorem dL_stands_130 : decode cL_stands 130 = .ok (.isub, 1) := by decide +kernel
theorem dL_stands_131 : decode cL_stands 131 = .ok (.istore 10, 2) := by decide +kernel
theorem dL_stands_133 : decode cL_stands 133 = .ok (.iload 10, 2) := by decide +kernel
theorem dL_stands_135 : decode cL_stands 135 = .ok (.ifCond .lt 29, 3) := by decide +kernel
theorem dL_stands_138 : decode cL_stands 138 = .ok (.aload_n 1, 1) := by decide +kernel
theorem dL_stands_139 : decode cL_stands 139 = .ok (.iload 6, 2) := by decide +kernel
theorem dL_stands_141 : decode cL_stands 141 = .ok (.iaload, 1) := by decide +kernel
theorem dL_stands_142 : decode cL_stands 142 = .ok (.iload 10, 2) := by decide +kernel
theorem dL_stands_144 : decode cL_stands 144 = .ok (.invokestatic 27, 3) := by decide +kernel
theorem dL_stands_147 : decode cL_stands 147 = .ok (.aload_n 1, 1) := by decide +kernel
theorem dL_stands_148 : decode cL_stands 148 = .ok (.iload 8, 2) := by decide +kernel
theorem dL_stands_150 : decode cL_stands 150 = .ok (.iaload, 1) := by decide +kernel
theorem dL_stands_151 : decode cL_stands 151 = .ok (.if_icmp .ne 7, 3) := by decide +kernel
theorem dL_stands_154 : decode cL_stands 154 = .ok (.iload 10, 2) := by decide +kernel
theorem dL_stands_156 : decode cL_stands 156 = .ok (.istore 9, 2) := by decide +kernel
theorem dL_stands_158 : decode cL_stands 158 = .ok (.iinc 10 (-1), 3) := by decide +kernel
theorem dL_stands_161 : decode cL_stands 161 = .ok (.goto (-28), 3) := by decide +kernel
theorem dL_stands_164 : decode cL_stands 164 = .ok (.aload_n 0, 1) := by decide +kernel
theorem dL_stands_165 : decode cL_stands 165 = .ok (.iload 6, 2) := by decide +kernel
theorem dL_stands_167 : decode cL_stands 167 = .ok (.iload 8, 2) := by decide +kernel
theorem dL_stands_169 : decode cL_stands 169 = .ok (.invokevirtual 91, 3) := by decide +kernel
theorem dL_stands_172 : decode cL_stands 172 = .ok (.iload 9, 2) := by decide +kernel
theorem dL_stands_174 : decode cL_stands 174 = .ok (.if_icmp .eq 5, 3) := by decide +kernel
theorem dL_stands_177 : decode cL_stands 177 = .ok (.iconst 0, 1) := by decide +kernel
theorem dL_stands_178 : decode cL_stands 178 = .ok (.ireturn, 1) := by decide +kernel
theorem dL_stands_179 : decode cL_stands 179 = .ok (.iinc 8 1, 3) := by decide +kernel
theorem dL_stands_182 : decode cL_stands 182 = .ok (.goto (-70), 3) := by decide +kernel
theorem dL_stands_185 : decode cL_stands 185 = .ok (.iinc 6 1, 3) := by decide +kernel
theorem dL_stands_188 : decode cL_stands 188 = .ok (.goto (-179), 3) := by decide +kernel
theorem dL_stands_191 : decode cL_stands 191 = .ok (.aload_n 0, 1) := by decide +kernel
theorem dL_stands_192 : decode cL_stands 192 = .ok (.iconst 0, 1) := by decide +kernel
theorem dL_stands_193 : decode cL_stands 193 = .ok (.invokevirtual 93, 3) := by decide +kernel
theorem dL_stands_196 : decode cL_stands 196 = .ok (.iload_n 2, 1) := by decide +kernel
theorem dL_stands_197 : decode cL_stands 197 = .ok (.if_icmp .ne 142, 3) := by decide +kernel
theorem dL_stands_200 : decode cL_stands 200 = .ok (.aload_n 0, 1) := by decide +kernel
theorem dL_stands_201 : decode cL_stands 201 = .ok (.iconst 1, 1) := by decide +kernel
theorem dL_stands_202 : decode cL_stands 202 = .ok (.invokevirtual 93, 3) := by decide +kernel
theorem dL_stands_205 : decode cL_stands 205 = .ok (.iload 4, 2) := by decide +kernel
theorem dL_stands_207 : decode cL_stands 207 = .ok (.if_icmp .ne 132, 3) := by decide +kernel
theorem dL_stands_210 : decode cL_stands 210 = .ok (.aload_n 0, 1) := by decide +kernel
theorem dL_stands_211 : decode cL_stands 211 = .ok (.iconst 2, 1) := by decide +kernel
theorem dL_stands_212 : decode cL_stands 212 = .ok (.invokevirtual 93, 3) := by decide +kernel
theorem dL_stands_215 : decode cL_stands 215 = .ok (.iload 5, 2) := by decide +kernel
theorem dL_stands_217 : decode cL_stands 217 = .ok (.if_icmp .ne 122, 3) := by decide +kernel
theorem dL_stands_220 : decode cL_stands 220 = .ok (.aload_n 0, 1) := by decide +kernel
theorem dL_stands_221 : decode cL_stands 221 = .ok (.iload_n 2, 1) := by decide +kernel
theorem dL_stands_222 : decode cL_stands 222 = .ok (.iconst 0, 1) := by decide +kernel
theorem dL_stands_223 : decode cL_stands 223 = .ok (.invokevirtual 48, 3) := by decide +kernel
theorem dL_stands_226 : decode cL_stands 226 = .ok (.ldc 84, 2) := by decide +kernel
theorem dL_stands_228 : decode cL_stands 228 = .ok (.if_icmp .ne 111, 3) := by decide +kernel
theorem dL_stands_231 : decode cL_stands 231 = .ok (.aload_n 0, 1) := by decide +kernel
theorem dL_stands_232 : decode cL_stands 232 = .ok (.iconst (-1), 1) := by decide +kernel
theorem dL_stands_233 : decode cL_stands 233 = .ok (.iconst 0, 1) := by decide +kernel
theorem dL_stands_234 : decode cL_stands 234 = .ok (.invokevirtual 48, 3) := by decide +kernel
theorem dL_stands_237 : decode cL_stands 237 = .ok (.ldc 84, 2) := by decide +kernel
theorem dL_stands_239 : decode cL_stands 239 = .ok (.if_icmp .ne 100, 3) := by decide +kernel
theorem dL_stands_242 : decode cL_stands 242 = .ok (.aload_n 0, 1) := by decide +kernel
theorem dL_stands_243 : decode cL_stands 243 = .ok (.iload_n 2, 1) := by decide +kernel
theorem dL_stands_244 : decode cL_stands 244 = .ok (.iconst 0, 1) := by decide +kernel
theorem dL_stands_245 : decode cL_stands 245 = .ok (.invokevirtual 69, 3) := by decide +kernel
theorem dL_stands_248 : decode cL_stands 248 = .ok (.ldc 84, 2) := by decide +kernel
theorem dL_stands_250 : decode cL_stands 250 = .ok (.if_icmp .ne 89, 3) := by decide +kernel
theorem dL_stands_253 : decode cL_stands 253 = .ok (.aload_n 0, 1) := by decide +kernel
theorem dL_stands_254 : decode cL_stands 254 = .ok (.iload_n 2, 1) := by decide +kernel
theorem dL_stands_255 : decode cL_stands 255 = .ok (.iconst 0, 1) := by decide +kernel
theorem dL_stands_256 : decode cL_stands 256 = .ok (.invokevirtual 72, 3) := by decide +kernel
theorem dL_stands_259 : decode cL_stands 259 = .ok (.ldc 84, 2) := by decide +kernel
theorem dL_stands_261 : decode cL_stands 261 = .ok (.if_icmp .ne 78, 3) := by decide +kernel
theorem dL_stands_264 : decode cL_stands 264 = .ok (.aload_n 0, 1) := by decide +kernel
theorem dL_stands_265 : decode cL_stands 265 = .ok (.iload_n 2, 1) := by decide +kernel
theorem dL_stands_266 : decode cL_stands 266 = .ok (.bipush 9, 2) := by decide +kernel
theorem dL_stands_268 : decode cL_stands 268 = .ok (.invokevirtual 80, 3) := by decide +kernel
theorem dL_stands_271 : decode cL_stands 271 = .ok (.ldc 84, 2) := by decide +kernel
theorem dL_stands_273 : decode cL_stands 273 = .ok (.if_icmp .ne 66, 3) := by decide +kernel
theorem dL_stands_276 : decode cL_stands 276 = .ok (.aload_n 0, 1) := by decide +kernel
theorem dL_stands_277 : decode cL_stands 277 = .ok (.iload_n 2, 1) := by decide +kernel
theorem dL_stands_278 : decode cL_stands 278 = .ok (.iconst 0, 1) := by decide +kernel
theorem dL_stands_279 : decode cL_stands 279 = .ok (.invokevirtual 74, 3) := by decide +kernel
theorem dL_stands_282 : decode cL_stands 282 = .ok (.ldc 84, 2) := by decide +kernel
theorem dL_stands_284 : decode cL_stands 284 = .ok (.if_icmp .ne 55, 3) := by decide +kernel
theorem dL_stands_287 : decode cL_stands 287 = .ok (.aload_n 0, 1) := by decide +kernel
theorem dL_stands_288 : decode cL_stands 288 = .ok (.iload_n 2, 1) := by decide +kernel
theorem dL_stands_289 : decode cL_stands 289 = .ok (.iconst 0, 1) := by decide +kernel
theorem dL_stands_290 : decode cL_stands 290 = .ok (.invokevirtual 91, 3) := by decide +kernel
theorem dL_stands_293 : decode cL_stands 293 = .ok (.ldc 84, 2) := by decide +kernel
theorem dL_stands_295 : decode cL_stands 295 = .ok (.if_icmp .ne 44, 3) := by decide +kernel
theorem dL_stands_298 : decode cL_stands 298 = .ok (.aload_n 0, 1) := by decide +kernel
theorem dL_stands_299 : decode cL_stands 299 = .ok (.iconst 0, 1) := by decide +kernel
theorem dL_stands_300 : decode cL_stands 300 = .ok (.iload_n 2, 1) := by decide +kernel
theorem dL_stands_301 : decode cL_stands 301 = .ok (.invokevirtual 96, 3) := by decide +kernel
theorem dL_stands_304 : decode cL_stands 304 = .ok (.ldc 84, 2) := by decide +kernel
theorem dL_stands_306 : decode cL_stands 306 = .ok (.if_icmp .ne 33, 3) := by decide +kernel
theorem dL_stands_309 : decode cL_stands 309 = .ok (.iload_n 2, 1) := by decide +kernel
theorem dL_stands_310 : decode cL_stands 310 = .ok (.ifCond .eq 25, 3) := by decide +kernel
theorem dL_stands_313 : decode cL_stands 313 = .ok (.aload_n 0, 1) := by decide +kernel
theorem dL_stands_314 : decode cL_stands 314 = .ok (.iconst 0, 1) := by decide +kernel
theorem dL_stands_315 : decode cL_stands 315 = .ok (.iconst 4, 1) := by decide +kernel
theorem dL_stands_316 : decode cL_stands 316 = .ok (.invokevirtual 72, 3) := by decide +kernel
theorem dL_stands_319 : decode cL_stands 319 = .ok (.ldc 68, 2) := by decide +kernel
theorem dL_stands_321 : decode cL_stands 321 = .ok (.if_icmp .ne 18, 3) := by decide +kernel
theorem dL_stands_324 : decode cL_stands 324 = .ok (.aload_n 0, 1) := by decide +kernel
theorem dL_stands_325 : decode cL_stands 325 = .ok (.iconst 0, 1) := by decide +kernel
theorem dL_stands_326 : decode cL_stands 326 = .ok (.iconst 2, 1) := by decide +kernel
theorem dL_stands_327 : decode cL_stands 327 = .ok (.invokevirtual 74, 3) := by decide +kernel
theorem dL_stands_330 : decode cL_stands 330 = .ok (.ldc 68, 2) := by decide +kernel
theorem dL_stands_332 : decode cL_stands 332 = .ok (.if_icmp .ne 7, 3) := by decide +kernel
theorem dL_stands_335 : decode cL_stands 335 = .ok (.iconst 1, 1) := by decide +kernel
theorem dL_stands_336 : decode cL_stands 336 = .ok (.goto 4, 3) := by decide +kernel
theorem dL_stands_339 : decode cL_stands 339 = .ok (.iconst 0, 1) := by decide +kernel
theorem dL_stands_340 : decode cL_stands 340 = .ok (.ireturn, 1) := by decide +kernel
set_option maxRecDepth 20000 in
theorem ggL_crosses_L_isClosed : GoodIn wsL_crosses wsL_isClosed := goodIn_rq _ [5, 6, 7, 4, 8, 9, 10, 11, 12, 13, 14] (by decide +kernel) (by decide +kernel)
set_option maxRecDepth 20000 in
theorem gL_crosses_L_isClosed : GoodIn wsL_crosses (va_wsS RL 54 yL_isClosed wsL_isClosed) := goodIn_app (goodIn_of _ (by decide +kernel)) ggL_crosses_L_isClosed
set_option maxRecDepth 20000 in
theorem ggL_crosses_L_crossings : GoodIn wsL_crosses wsL_crossings := goodIn_rq _ [17, 9, 10, 4, 11, 12, 13, 14, 18, 19, 20] (by decide +kernel) (by decide +kernel)
set_option maxRecDepth 20000 in
theorem gL_crosses_L_crossings : GoodIn wsL_crosses (va_wsS RL 99 yL_crossings wsL_crossings) := goodIn_app (goodIn_of _ (by decide +kernel)) ggL_crosses_L_crossings
set_option maxRecDepth 20000 in
theorem ggL_crosses_X4_cross : GoodIn wsL_crosses wsX4_cross := goodIn_rq _ [25, 26, 27, 28, 29, 30, 24, 31, 32, 33, 34, 35, 36, 37, 38, 39, 40, 41, 42, 43, 44, 45, 46, 47, 48, 49, 50, 51, 52, 53, 78, 79, 80, 81, 82, 83, 84, 85, 86, 87, 88, 89, 90] (by decide +kernel) (by decide +kernel)
set_option maxRecDepth 20000 in
theorem gL_crosses_X4_cross : GoodIn wsL_crosses (wsV RL 96 RX4 yX4_cross wsX4_cross) := goodIn_app (goodIn_of _ (by decide +kernel)) ggL_crosses_X4_cross
set_option maxRecDepth 20000 in
theorem ggL_crosses_L_turned : GoodIn wsL_crosses wsL_turned := goodIn_rq _ [56, 9, 10, 4, 11, 18, 19, 20, 12, 13, 14, 57, 58, 59] (by decide +kernel) (by decide +kernel)
set_option maxRecDepth 20000 in
theorem gL_crosses_L_turned : GoodIn wsL_crosses (va_wsS RL 27 yL_turned wsL_turned) := goodIn_app (goodIn_of _ (by decide +kernel)) ggL_crosses_L_turned
set_option maxRecDepth 20000 in
theorem ggL_crosses_L_mirror : GoodIn wsL_crosses wsL_mirror := goodIn_rq _ [62, 9, 10, 4, 11, 12, 13, 14, 57, 58, 59] (by decide +kernel) (by decide +kernel)
set_option maxRecDepth 20000 in
theorem gL_crosses_L_mirror : GoodIn wsL_crosses (va_wsS RL 65 yL_mirror wsL_mirror) := goodIn_app (goodIn_of _ (by decide +kernel)) ggL_crosses_L_mirror
set_option maxRecDepth 20000 in
theorem ggL_crosses_L_back : GoodIn wsL_crosses wsL_back := goodIn_rq _ [65, 9, 10, 4, 11, 12, 13, 14, 57, 58, 59] (by decide +kernel) (by decide +kernel)
set_option maxRecDepth 20000 in
theorem gL_crosses_L_back : GoodIn wsL_crosses (va_wsS RL 58 yL_back wsL_back) := goodIn_app (goodIn_of _ (by decide +kernel)) ggL_crosses_L_back
set_option maxRecDepth 20000 in
theorem ggL_crosses_L_size : GoodIn wsL_crosses wsL_size := goodIn_rq _ [11] (by decide +kernel) (by decide +kernel)
set_option maxRecDepth 20000 in
theorem gL_crosses_L_size : GoodIn wsL_crosses (va_wsS RL 8 yL_size wsL_size) := goodIn_app (goodIn_of _ (by decide +kernel)) ggL_crosses_L_size
set_option maxRecDepth 20000 in
theorem ggL_crosses_L_join : GoodIn wsL_crosses wsL_join := goodIn_rq _ [68, 9, 10, 4, 11, 12, 13, 14, 57, 58, 59] (by decide +kernel) (by decide +kernel)
set_option maxRecDepth 20000 in
theorem gL_crosses_L_join : GoodIn wsL_crosses (va_wsS RL 102 yL_join wsL_join) := goodIn_app (goodIn_of _ (by decide +kernel)) ggL_crosses_L_join
set_option maxRecDepth 20000 in
theorem ggL_crosses_L_alike : GoodIn wsL_crosses wsL_alike := goodIn_rq _ [71, 9, 10, 4, 11, 72, 73, 74, 54, 55, 56, 18, 19, 20, 12, 13, 14, 57, 58, 59, 75, 76, 77] (by decide +kernel) (by decide +kernel)
