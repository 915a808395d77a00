theorem dL_acts_0 : decode cL_acts 0 = .ok (.iload_n 1, 1) := by decide +kernel
theorem dL_acts_1 : decode cL_acts 1 = .ok (.bipush 32, 2) := by decide +kernel
theorem dL_acts_3 : decode cL_acts 3 = .ok (.idiv, 1) := by decide +kernel
theorem dL_acts_4 : decode cL_acts 4 = .ok (.istore_n 2, 1) := by decide +kernel
theorem dL_acts_5 : decode cL_acts 5 = .ok (.aload_n 0, 1) := by decide +kernel
theorem dL_acts_6 : decode cL_acts 6 = .ok (.iconst 1, 1) := by decide +kernel
theorem dL_acts_7 : decode cL_acts 7 = .ok (.invokevirtual 9, 3) := by decide +kernel
theorem dL_acts_10 : decode cL_acts 10 = .ok (.istore_n 3, 1) := by decide +kernel
theorem dL_acts_11 : decode cL_acts 11 = .ok (.iload_n 1, 1) := by decide +kernel
theorem dL_acts_12 : decode cL_acts 12 = .ok (.bipush 32, 2) := by decide +kernel
theorem dL_acts_14 : decode cL_acts 14 = .ok (.irem, 1) := by decide +kernel
theorem dL_acts_15 : decode cL_acts 15 = .ok (.tableswitch 463 0 19 #[93, 93, 93, 93, 93, 93, 109, 134, 134, 134, 134, 158, 158, 174, 174, 179, 184, 189, 189, 189], 93) := by decide +kernel
theorem dL_acts_108 : decode cL_acts 108 = .ok (.aload_n 0, 1) := by decide +kernel
theorem dL_acts_109 : decode cL_acts 109 = .ok (.iload_n 2, 1) := by decide +kernel
theorem dL_acts_110 : decode cL_acts 110 = .ok (.bipush 6, 2) := by decide +kernel
theorem dL_acts_112 : decode cL_acts 112 = .ok (.irem, 1) := by decide +kernel
theorem dL_acts_113 : decode cL_acts 113 = .ok (.iload_n 2, 1) := by decide +kernel
theorem dL_acts_114 : decode cL_acts 114 = .ok (.bipush 8, 2) := by decide +kernel
theorem dL_acts_116 : decode cL_acts 116 = .ok (.idiv, 1) := by decide +kernel
theorem dL_acts_117 : decode cL_acts 117 = .ok (.bipush 100, 2) := by decide +kernel
theorem dL_acts_119 : decode cL_acts 119 = .ok (.irem, 1) := by decide +kernel
theorem dL_acts_120 : decode cL_acts 120 = .ok (.invokevirtual 15, 3) := by decide +kernel
theorem dL_acts_123 : decode cL_acts 123 = .ok (.ireturn, 1) := by decide +kernel
theorem dL_acts_124 : decode cL_acts 124 = .ok (.iload_n 2, 1) := by decide +kernel
theorem dL_acts_125 : decode cL_acts 125 = .ok (.iconst 4, 1) := by decide +kernel
theorem dL_acts_126 : decode cL_acts 126 = .ok (.irem, 1) := by decide +kernel
theorem dL_acts_127 : decode cL_acts 127 = .ok (.ifCond .gt 8, 3) := by decide +kernel
theorem dL_acts_130 : decode cL_acts 130 = .ok (.iload_n 3, 1) := by decide +kernel
theorem dL_acts_131 : decode cL_acts 131 = .ok (.iconst 1, 1) := by decide +kernel
theorem dL_acts_132 : decode cL_acts 132 = .ok (.if_icmp .ge 7, 3) := by decide +kernel
theorem dL_acts_135 : decode cL_acts 135 = .ok (.iconst 0, 1) := by decide +kernel
theorem dL_acts_136 : decode cL_acts 136 = .ok (.goto 12, 3) := by decide +kernel
theorem dL_acts_139 : decode cL_acts 139 = .ok (.aload_n 0, 1) := by decide +kernel
theorem dL_acts_140 : decode cL_acts 140 = .ok (.iload_n 2, 1) := by decide +kernel
theorem dL_acts_141 : decode cL_acts 141 = .ok (.iconst 4, 1) := by decide +kernel
theorem dL_acts_142 : decode cL_acts 142 = .ok (.idiv, 1) := by decide +kernel
theorem dL_acts_143 : decode cL_acts 143 = .ok (.iload_n 3, 1) := by decide +kernel
theorem dL_acts_144 : decode cL_acts 144 = .ok (.irem, 1) := by decide +kernel
theorem dL_acts_145 : decode cL_acts 145 = .ok (.invokevirtual 19, 3) := by decide +kernel
theorem dL_acts_148 : decode cL_acts 148 = .ok (.ireturn, 1) := by decide +kernel
theorem dL_acts_149 : decode cL_acts 149 = .ok (.aload_n 0, 1) := by decide +kernel
theorem dL_acts_150 : decode cL_acts 150 = .ok (.iload_n 2, 1) := by decide +kernel
theorem dL_acts_151 : decode cL_acts 151 = .ok (.bipush 6, 2) := by decide +kernel
theorem dL_acts_153 : decode cL_acts 153 = .ok (.irem, 1) := by decide +kernel
theorem dL_acts_154 : decode cL_acts 154 = .ok (.iload_n 2, 1) := by decide +kernel
theorem dL_acts_155 : decode cL_acts 155 = .ok (.bipush 8, 2) := by decide +kernel
theorem dL_acts_157 : decode cL_acts 157 = .ok (.idiv, 1) := by decide +kernel
theorem dL_acts_158 : decode cL_acts 158 = .ok (.bipush 20, 2) := by decide +kernel
theorem dL_acts_160 : decode cL_acts 160 = .ok (.irem, 1) := by decide +kernel
theorem dL_acts_161 : decode cL_acts 161 = .ok (.iload_n 2, 1) := by decide +kernel
theorem dL_acts_162 : decode cL_acts 162 = .ok (.sipush 256, 3) := by decide +kernel
theorem dL_acts_165 : decode cL_acts 165 = .ok (.idiv, 1) := by decide +kernel
theorem dL_acts_166 : decode cL_acts 166 = .ok (.bipush 10, 2) := by decide +kernel
theorem dL_acts_168 : decode cL_acts 168 = .ok (.irem, 1) := by decide +kernel
theorem dL_acts_169 : decode cL_acts 169 = .ok (.invokevirtual 22, 3) := by decide +kernel
theorem dL_acts_172 : decode cL_acts 172 = .ok (.ireturn, 1) := by decide +kernel
theorem dL_acts_173 : decode cL_acts 173 = .ok (.aload_n 0, 1) := by decide +kernel
theorem dL_acts_174 : decode cL_acts 174 = .ok (.iload_n 2, 1) := by decide +kernel
theorem dL_acts_175 : decode cL_acts 175 = .ok (.iconst 4, 1) := by decide +kernel
theorem dL_acts_176 : decode cL_acts 176 = .ok (.irem, 1) := by decide +kernel
theorem dL_acts_177 : decode cL_acts 177 = .ok (.iconst 1, 1) := by decide +kernel
theorem dL_acts_178 : decode cL_acts 178 = .ok (.iload_n 2, 1) := by decide +kernel
theorem dL_acts_179 : decode cL_acts 179 = .ok (.iconst 4, 1) := by decide +kernel
theorem dL_acts_180 : decode cL_acts 180 = .ok (.idiv, 1) := by decide +kernel
theorem dL_acts_181 : decode cL_acts 181 = .ok (.bipush 9, 2) := by decide +kernel
theorem dL_acts_183 : decode cL_acts 183 = .ok (.irem, 1) := by decide +kernel
theorem dL_acts_184 : decode cL_acts 184 = .ok (.iadd, 1) := by decide +kernel
theorem dL_acts_185 : decode cL_acts 185 = .ok (.invokevirtual 26, 3) := by decide +kernel
theorem dL_acts_188 : decode cL_acts 188 = .ok (.ireturn, 1) := by decide +kernel
theorem dL_acts_189 : decode cL_acts 189 = .ok (.aload_n 0, 1) := by decide +kernel
theorem dL_acts_190 : decode cL_acts 190 = .ok (.invokevirtual 29, 3) := by decide +kernel
theorem dL_acts_193 : decode cL_acts 193 = .ok (.ireturn, 1) := by decide +kernel
theorem dL_acts_194 : decode cL_acts 194 = .ok (.aload_n 0, 1) := by decide +kernel
theorem dL_acts_195 : decode cL_acts 195 = .ok (.invokevirtual 33, 3) := by decide +kernel
theorem dL_acts_198 : decode cL_acts 198 = .ok (.ireturn, 1) := by decide +kernel
theorem dL_acts_199 : decode cL_acts 199 = .ok (.aload_n 0, 1) := by decide +kernel
theorem dL_acts_200 : decode cL_acts 200 = .ok (.invokevirtual 36, 3) := by decide +kernel
theorem dL_acts_203 : decode cL_acts 203 = .ok (.ireturn, 1) := by decide +kernel
theorem dL_acts_204 : decode cL_acts 204 = .ok (.aload_n 0, 1) := by decide +kernel
theorem dL_acts_205 : decode cL_acts 205 = .ok (.invokevirtual 39, 3) := by decide +kernel
theorem dL_acts_208 : decode cL_acts 208 = .ok (.istore 4, 2) := by decide +kernel
theorem dL_acts_210 : decode cL_acts 210 = .ok (.iconst 0, 1) := by decide +kernel
theorem dL_acts_211 : decode cL_acts 211 = .ok (.istore 5, 2) := by decide +kernel
theorem dL_acts_213 : decode cL_acts 213 = .ok (.iload 5, 2) := by decide +kernel
theorem dL_acts_215 : decode cL_acts 215 = .ok (.iconst 1, 1) := by decide +kernel
theorem dL_acts_216 : decode cL_acts 216 = .ok (.iload_n 2, 1) := by decide +kernel
theorem dL_acts_217 : decode cL_acts 217 = .ok (.iconst 4, 1) := by decide +kernel
theorem dL_acts_218 : decode cL_acts 218 = .ok (.irem, 1) := by decide +kernel
theorem dL_acts_219 : decode cL_acts 219 = .ok (.iadd, 1) := by decide +kernel
theorem dL_acts_220 : decode cL_acts 220 = .ok (.if_icmp .ge 242, 3) := by decide +kernel
theorem dL_acts_223 : decode cL_acts 223 = .ok (.iload_n 2, 1) := by decide +kernel
theorem dL_acts_224 : decode cL_acts 224 = .ok (.iconst 4, 1) := by decide +kernel
theorem dL_acts_225 : decode cL_acts 225 = .ok (.idiv, 1) := by decide +kernel
theorem dL_acts_226 : decode cL_acts 226 = .ok (.bipush 6, 2) := by decide +kernel
theorem dL_acts_228 : decode cL_acts 228 = .ok (.iload 5, 2) := by decide +kernel
theorem dL_acts_230 : decode cL_acts 230 = .ok (.imul, 1) := by decide +kernel
theorem dL_acts_231 : decode cL_acts 231 = .ok (.ishr, 1) := by decide +kernel
theorem dL_acts_232 : decode cL_acts 232 = .ok (.istore 6, 2) := by decide +kernel
theorem dL_acts_234 : decode cL_acts 234 = .ok (.iload 6, 2) := by decide +kernel
theorem dL_acts_236 : decode cL_acts 236 = .ok (.iconst 3, 1) := by decide +kernel
theorem dL_acts_237 : decode cL_acts 237 = .ok (.irem, 1) := by decide +kernel
theorem dL_acts_238 : decode cL_acts 238 = .ok (.istore 7, 2) := by decide +kernel
theorem dL_acts_240 : decode cL_acts 240 = .ok (.iload 5, 2) := by decide +kernel
theorem dL_acts_242 : decode cL_acts 242 = .ok (.ifCond .le 12, 3) := by decide +kernel
theorem dL_acts_245 : decode cL_acts 245 = .ok (.aload_n 0, 1) := by decide +kernel
theorem dL_acts_246 : decode cL_acts 246 = .ok (.bipush 59, 2) := by decide +kernel
theorem dL_acts_248 : decode cL_acts 248 = .ok (.invokevirtual 42, 3) := by decide +kernel
theorem dL_acts_251 : decode cL_acts 251 = .ok (.goto 4, 3) := by decide +kernel
theorem dL_acts_254 : decode cL_acts 254 = .ok (.iconst 0, 1) := by decide +kernel
theorem dL_acts_255 : decode cL_acts 255 = .ok (.istore 4, 2) := by decide +kernel
theorem dL_acts_257 : decode cL_acts 257 = .ok (.aload_n 0, 1) := by decide +kernel
theorem dL_acts_258 : decode cL_acts 258 = .ok (.iload 7, 2) := by decide +kernel
theorem dL_acts_260 : decode cL_acts 260 = .ok (.ifCond .ne 8, 3) := by decide +kernel
theorem dL_acts_263 : decode cL_acts 263 = .ok (.bipush 115, 2) := by decide +kernel
theorem dL_acts_265 : decode cL_acts 265 = .ok (.goto 16, 3) := by decide +kernel
theorem dL_acts_268 : decode cL_acts 268 = .ok (.iload 7, 2) := by decide +kernel
theorem dL_acts_270 : decode cL_acts 270 = .ok (.iconst 1, 1) := by decide +kernel
theorem dL_acts_271 : decode cL_acts 271 = .ok (.if_icmp .ne 8, 3) := by decide +kernel
theorem dL_acts_274 : decode cL_acts 274 = .ok (.bipush 102, 2) := by decide +kernel
theorem dL_acts_276 : decode cL_acts 276 = .ok (.goto 5, 3) := by decide +kernel
theorem dL_acts_279 : decode cL_acts 279 = .ok (.bipush 46, 2) := by decide +kernel
theorem dL_acts_281 : decode cL_acts 281 = .ok (.invokevirtual 42, 3) := by decide +kernel
theorem dL_acts_284 : decode cL_acts 284 = .ok (.istore 4, 2) := by decide +kernel
theorem dL_acts_286 : decode cL_acts 286 = .ok (.aload_n 0, 1) := by decide +kernel
theorem dL_acts_287 : decode cL_acts 287 = .ok (.iload 7, 2) := by decide +kernel
theorem dL_acts_289 : decode cL_acts 289 = .ok (.iconst 2, 1) := by decide +kernel
theorem dL_acts_290 : decode cL_acts 290 = .ok (.if_icmp .ge 16, 3) := by decide +kernel
theorem dL_acts_293 : decode cL_acts 293 = .ok (.bipush 48, 2) := by decide +kernel
theorem dL_acts_295 : decode cL_acts 295 = .ok (.iload 6, 2) := by decide +kernel
theorem dL_acts_297 : decode cL_acts 297 = .ok (.iconst 4, 1) := by decide +kernel
theorem dL_acts_298 : decode cL_acts 298 = .ok (.idiv, 1) := by decide +kernel
theorem dL_acts_299 : decode cL_acts 299 = .ok (.bipush 6, 2) := by decide +kernel
theorem dL_acts_301 : decode cL_acts 301 = .ok (.irem, 1) := by decide +kernel
theorem dL_acts_302 : decode cL_acts 302 = .ok (.iadd, 1) := by decide +kernel
theorem dL_acts_303 : decode cL_acts 303 = .ok (.goto 13, 3) := by decide +kernel
theorem dL_acts_306 : decode cL_acts 306 = .ok (.bipush 49, 2) := by decide +kernel
theorem dL_acts_308 : decode cL_acts 308 = .ok (.iload 6, 2) := by decide +kernel
theorem dL_acts_310 : decode cL_acts 310 = .ok (.iconst 4, 1) := by decide +kernel
theorem dL_acts_311 : decode cL_acts 311 = .ok (.idiv, 1) := by decide +kernel
theorem dL_acts_312 : decode cL_acts 312 = .ok (.bipush 9, 2) := by decide +kernel
theorem dL_acts_314 : decode cL_acts 314 = .ok (.irem, 1) := by decide +kernel
theorem dL_acts_315 : decode cL_acts 315 = .ok (.iadd, 1) := by decide +kernel
theorem dL_acts_316 : decode cL_acts 316 = .ok (.i2c, 1) := by decide +kernel
theorem dL_acts_317 : decode cL_acts 317 = .ok (.invokevirtual 42, 3) := by decide +kernel
theorem dL_acts_320 : decode cL_acts 320 = .ok (.istore 4, 2) := by decide +kernel
theorem dL_acts_322 : decode cL_acts 322 = .ok (.iload 7, 2) := by decide +kernel
theorem dL_acts_324 : decode cL_acts 324 = .ok (.iconst 2, 1) := by decide +kernel
theorem dL_acts_325 : decode cL_acts 325 = .ok (.if_icmp .ge 22, 3) := by decide +kernel
theorem dL_acts_328 : decode cL_acts 328 = .ok (.aload_n 0, 1) := by decide +kernel
theorem dL_acts_329 : decode cL_acts 329 = .ok (.iload 7, 2) := by decide +kernel
theorem dL_acts_331 : decode cL_acts 331 = .ok (.ifCond .ne 8, 3) := by decide +kernel
theorem dL_acts_334 : decode cL_acts 334 = .ok (.bipush 42, 2) := by decide +kernel
theorem dL_acts_336 : decode cL_acts 336 = .ok (.goto 5, 3) := by decide +kernel
theorem dL_acts_339 : decode cL_acts 339 = .ok (.bipush 46, 2) := by decide +kernel
theorem dL_acts_341 : decode cL_acts 341 = .ok (.invokevirtual 42, 3) := by decide +kernel
theorem dL_acts_344 : decode cL_acts 344 = .ok (.goto 5, 3) := by decide +kernel
theorem dL_acts_347 : decode cL_acts 347 = .ok (.iload 4, 2) := by decide +kernel
theorem dL_acts_349 : decode cL_acts 349 = .ok (.istore 4, 2) := by decide +kernel
theorem dL_acts_351 : decode cL_acts 351 = .ok (.iload 7, 2) := by decide +kernel
theorem dL_acts_353 : decode cL_acts 353 = .ok (.iconst 2, 1) := by decide +kernel
theorem dL_acts_354 : decode cL_acts 354 = .ok (.if_icmp .ge 22, 3) := by decide +kernel
theorem dL_acts_357 : decode cL_acts 357 = .ok (.aload_n 0, 1) := by decide +kernel
theorem dL_acts_358 : decode cL_acts 358 = .ok (.bipush 49, 2) := by decide +kernel
theorem dL_acts_360 : decode cL_acts 360 = .ok (.iload 6, 2) := by decide +kernel
theorem dL_acts_362 : decode cL_acts 362 = .ok (.bipush 16, 2) := by decide +kernel
theorem dL_acts_364 : decode cL_acts 364 = .ok (.idiv, 1) := by decide +kernel
theorem dL_acts_365 : decode cL_acts 365 = .ok (.bipush 9, 2) := by decide +kernel
theorem dL_acts_367 : decode cL_acts 367 = .ok (.irem, 1) := by decide +kernel
theorem dL_acts_368 : decode cL_acts 368 = .ok (.iadd, 1) := by decide +kernel
theorem dL_acts_369 : decode cL_acts 369 = .ok (.i2c, 1) := by decide +kernel
theorem dL_acts_370 : decode cL_acts 370 = .ok (.invokevirtual 42, 3) := by decide +kernel
theorem dL_acts_373 : decode cL_acts 373 = .ok (.goto 5, 3) := by decide +kernel
theorem dL_acts_376 : decode cL_acts 376 = .ok (.iload 4, 2) := by decide +kernel
theorem dL_acts_378 : decode cL_acts 378 = .ok (.istore 4, 2) := by decide +kernel
theorem dL_acts_380 : decode cL_acts 380 = .ok (.iload 7, 2) := by decide +kernel
theorem dL_acts_382 : decode cL_acts 382 = .ok (.ifCond .ne 22, 3) := by decide +kernel
theorem dL_acts_385 : decode cL_acts 385 = .ok (.aload_n 0, 1) := by decide +kernel
theorem dL_acts_386 : decode cL_acts 386 = .ok (.bipush 48, 2) := by decide +kernel
theorem dL_acts_388 : decode cL_acts 388 = .ok (.iload 6, 2) := by decide +kernel
theorem dL_acts_390 : decode cL_acts 390 = .ok (.bipush 64, 2) := by decide +kernel
theorem dL_acts_392 : decode cL_acts 392 = .ok (.idiv, 1) := by decide +kernel
theorem dL_acts_393 : decode cL_acts 393 = .ok (.bipush 10, 2) := by decide +kernel
theorem dL_acts_395 : decode cL_acts 395 = .ok (.irem, 1) := by decide +kernel
theorem dL_acts_396 : decode cL_acts 396 = .ok (.iadd, 1) := by decide +kernel
theorem dL_acts_397 : decode cL_acts 397 = .ok (.i2c, 1) := by decide +kernel
theorem dL_acts_398 : decode cL_acts 398 = .ok (.invokevirtual 42, 3) := by decide +kernel
theorem dL_acts_401 : decode cL_acts 401 = .ok (.goto 5, 3) := by decide +kernel
theorem dL_acts_404 : decode cL_acts 404 = .ok (.iload 4, 2) := by decide +kernel
theorem dL_acts_406 : decode cL_acts 406 = .ok (.istore 4, 2) := by decide +kernel
theorem dL_acts_408 : decode cL_acts 408 = .ok (.iload 7, 2) := by decide +kernel
theorem dL_acts_410 : decode cL_acts 410 = .ok (.iconst 1, 1) := by decide +kernel
theorem dL_acts_411 : decode cL_acts 411 = .ok (.if_icmp .ne 12, 3) := by decide +kernel
theorem dL_acts_414 : decode cL_acts 414 = .ok (.aload_n 0, 1) := by decide +kernel
theorem dL_acts_415 : decode cL_acts 415 = .ok (.bipush 61, 2) := by decide +kernel
theorem dL_acts_417 : decode cL_acts 417 = .ok (.invokevirtual 42, 3) := by decide +kernel
theorem dL_acts_420 : decode cL_acts 420 = .ok (.goto 5, 3) := by decide +kernel
theorem dL_acts_423 : decode cL_acts 423 = .ok (.iload 4, 2) := by decide +kernel
theorem dL_acts_425 : decode cL_acts 425 = .ok (.istore 4, 2) := by decide +kernel
theorem dL_acts_427 : decode cL_acts 427 = .ok (.iload 7, 2) := by decide +kernel
theorem dL_acts_429 : decode cL_acts 429 = .ok (.iconst 1, 1) := by decide +kernel
theorem dL_acts_430 : decode cL_acts 430 = .ok (.if_icmp .ne 22, 3) := by decide +kernel
theorem dL_acts_433 : decode cL_acts 433 = .ok (.aload_n 0, 1) := by decide +kernel
theorem dL_acts_434 : decode cL_acts 434 = .ok (.bipush 48, 2) := by decide +kernel
theorem dL_acts_436 : decode cL_acts 436 = .ok (.iload 6, 2) := by decide +kernel
theorem dL_acts_438 : decode cL_acts 438 = .ok (.bipush 64, 2) := by decide +kernel
theorem dL_acts_440 : decode cL_acts 440 = .ok (.idiv, 1) := by decide +kernel
theorem dL_acts_441 : decode cL_acts 441 = .ok (.bipush 10, 2) := by decide +kernel
theorem dL_acts_443 : decode cL_acts 443 = .ok (.irem, 1) := by decide +kernel
theorem dL_acts_444 : decode cL_acts 444 = .ok (.iadd, 1) := by decide +kernel
theorem dL_acts_445 : decode cL_acts 445 = .ok (.i2c, 1) := by decide +kernel
theorem dL_acts_446 : decode cL_acts 446 = .ok (.invokevirtual 42, 3) := by decide +kernel
theorem dL_acts_449 : decode cL_acts 449 = .ok (.goto 5, 3) := by decide +kernel
theorem dL_acts_452 : decode cL_acts 452 = .ok (.iload 4, 2) := by decide +kernel
theorem dL_acts_454 : decode cL_acts 454 = .ok (.istore 4, 2) := by decide +kernel
theorem dL_acts_456 : decode cL_acts 456 = .ok (.iinc 5 1, 3) := by decide +kernel
theorem dL_acts_459 : decode cL_acts 459 = .ok (.goto (-246), 3) := by decide +kernel
theorem dL_acts_462 : decode cL_acts 462 = .ok (.iload 4, 2) := by decide +kernel
theorem dL_acts_464 : decode cL_acts 464 = .ok (.iconst 1, 1) := by decide +kernel
theorem dL_acts_465 : decode cL_acts 465 = .ok (.if_icmp .ge 8, 3) := by decide +kernel
theorem dL_acts_468 : decode cL_acts 468 = .ok (.bipush (-9), 2) := by decide +kernel
theorem dL_acts_470 : decode cL_acts 470 = .ok (.goto 7, 3) := by decide +kernel
theorem dL_acts_473 : decode cL_acts 473 = .ok (.aload_n 0, 1) := by decide +kernel
theorem dL_acts_474 : decode cL_acts 474 = .ok (.invokevirtual 46, 3) := by decide +kernel
theorem dL_acts_477 : decode cL_acts 477 = .ok (.ireturn, 1) := by decide +kernel
theorem dL_acts_478 : decode cL_acts 478 = .ok (.aload_n 0, 1) := by decide +kernel
theorem dL_acts_479 : decode cL_acts 479 = .ok (.iconst 1, 1) := by decide +kernel
theorem dL_acts_480 : decode cL_acts 480 = .ok (.iload_n 2, 1) := by decide +kernel
theorem dL_acts_481 : decode cL_acts 481 = .ok (.iconst 5, 1) := by decide +kernel
theorem dL_acts_482 : decode cL_acts 482 = .ok (.irem, 1) := by decide +kernel
theorem dL_acts_483 : decode cL_acts 483 = .ok (.iadd, 1) := by decide +kernel
theorem dL_acts_484 : decode cL_acts 484 = .ok (.invokevirtual 49, 3) := by decide +kernel
theorem dL_acts_487 : decode cL_acts 487 = .ok (.ireturn, 1) := by decide +kernel
theorem dL_hangs_0 : decode cL_hangs 0 = .ok (.iconst 0, 1) := by decide +kernel
theorem dL_hangs_1 : decode cL_hangs 1 = .ok (.istore_n 1, 1) := by decide +kernel
theorem dL_hangs_2 : decode cL_hangs 2 = .ok (.iconst 0, 1) := by decide +kernel
theorem dL_hangs_3 : decode cL_hangs 3 = .ok (.istore_n 2, 1) := by decide +kernel
theorem dL_hangs_4 : decode cL_hangs 4 = .ok (.iconst 0, 1) := by decide +kernel
theorem dL_hangs_5 : decode cL_hangs 5 = .ok (.istore_n 3, 1) := by decide +kernel
theorem dL_hangs_6 : decode cL_hangs 6 = .ok (.iconst 1, 1) := by decide +kernel
theorem dL_hangs_7 : decode cL_hangs 7 = .ok (.istore 4, 2) := by decide +kernel
theorem dL_hangs_9 : decode cL_hangs 9 = .ok (.aload_n 0, 1) := by decide +kernel
theorem dL_hangs_10 : decode cL_hangs 10 = .ok (.iconst 1, 1) := by decide +kernel
theorem dL_hangs_11 : decode cL_hangs 11 = .ok (.invokevirtual 9, 3) := by decide +kernel
theorem dL_hangs_14 : decode cL_hangs 14 = .ok (.istore 5, 2) := by decide +kernel
theorem dL_hangs_16 : decode cL_hangs 16 = .ok (.iconst 0, 1) := by decide +kernel
theorem dL_hangs_17 : decode cL_hangs 17 = .ok (.istore 6, 2) := by decide +kernel
theorem dL_hangs_19 : decode cL_hangs 19 = .ok (.iload 6, 2) := by decide +kernel
theorem dL_hangs_21 : decode cL_hangs 21 = .ok (.bipush 120, 2) := by decide +kernel
theorem dL_hangs_23 : decode cL_hangs 23 = .ok (.if_icmp .ge 352, 3) := by decide +kernel
theorem dL_hangs_26 : decode cL_hangs 26 = .ok (.iload 4, 2) := by decide +kernel
theorem dL_hangs_28 : decode cL_hangs 28 = .ok (.ifCond .eq 347, 3) := by decide +kernel
theorem dL_hangs_31 : decode cL_hangs 31 = .ok (.iload 6, 2) := by decide +kernel
theorem dL_hangs_33 : decode cL_hangs 33 = .ok (.bipush 6, 2) := by decide +kernel
theorem dL_hangs_35 : decode cL_hangs 35 = .ok (.irem, 1) := by decide +kernel
theorem dL_hangs_36 : decode cL_hangs 36 = .ok (.istore 7, 2) := by decide +kernel
theorem dL_hangs_38 : decode cL_hangs 38 = .ok (.iload 6, 2) := by decide +kernel
theorem dL_hangs_40 : decode cL_hangs 40 = .ok (.bipush 6, 2) := by decide +kernel
theorem dL_hangs_42 : decode cL_hangs 42 = .ok (.idiv, 1) := by decide +kernel
theorem dL_hangs_43 : decode cL_hangs 43 = .ok (.istore 8, 2) := by decide +kernel
theorem dL_hangs_45 : decode cL_hangs 45 = .ok (.aload_n 0, 1) := by decide +kernel
theorem dL_hangs_46 : decode cL_hangs 46 = .ok (.iload 7, 2) := by decide +kernel
theorem dL_hangs_48 : decode cL_hangs 48 = .ok (.iload 8, 2) := by decide +kernel
theorem dL_hangs_50 : decode cL_hangs 50 = .ok (.iconst 1, 1) := by decide +kernel
theorem dL_hangs_51 : decode cL_hangs 51 = .ok (.invokevirtual 52, 3) := by decide +kernel
theorem dL_hangs_54 : decode cL_hangs 54 = .ok (.istore 9, 2) := by decide +kernel
theorem dL_hangs_56 : decode cL_hangs 56 = .ok (.aload_n 0, 1) := by decide +kernel
theorem dL_hangs_57 : decode cL_hangs 57 = .ok (.iload 7, 2) := by decide +kernel
theorem dL_hangs_59 : decode cL_hangs 59 = .ok (.iload 8, 2) := by decide +kernel
theorem dL_hangs_61 : decode cL_hangs 61 = .ok (.iconst 2, 1) := by decide +kernel
theorem dL_hangs_62 : decode cL_hangs 62 = .ok (.invokevirtual 52, 3) := by decide +kernel
theorem dL_hangs_65 : decode cL_hangs 65 = .ok (.istore 10, 2) := by decide +kernel
theorem dL_hangs_67 : decode cL_hangs 67 = .ok (.aload_n 0, 1) := by decide +kernel
theorem dL_hangs_68 : decode cL_hangs 68 = .ok (.iload 7, 2) := by decide +kernel
theorem dL_hangs_70 : decode cL_hangs 70 = .ok (.iload 8, 2) := by decide +kernel
theorem dL_hangs_72 : decode cL_hangs 72 = .ok (.iconst 3, 1) := by decide +kernel
theorem dL_hangs_73 : decode cL_hangs 73 = .ok (.invokevirtual 52, 3) := by decide +kernel
theorem dL_hangs_76 : decode cL_hangs 76 = .ok (.istore 11, 2) := by decide +kernel
theorem dL_hangs_78 : decode cL_hangs 78 = .ok (.aload_n 0, 1) := by decide +kernel
theorem dL_hangs_79 : decode cL_hangs 79 = .ok (.iload 7, 2) := by decide +kernel
theorem dL_hangs_81 : decode cL_hangs 81 = .ok (.iload 8, 2) := by decide +kernel
theorem dL_hangs_83 : decode cL_hangs 83 = .ok (.iconst 0, 1) := by decide +kernel
theorem dL_hangs_84 : decode cL_hangs 84 = .ok (.invokevirtual 52, 3) := by decide +kernel
theorem dL_hangs_87 : decode cL_hangs 87 = .ok (.ifCond .lt 128, 3) := by decide +kernel
theorem dL_hangs_90 : decode cL_hangs 90 = .ok (.aload_n 0, 1) := by decide +kernel
theorem dL_hangs_91 : decode cL_hangs 91 = .ok (.iload 7, 2) := by decide +kernel
theorem dL_hangs_93 : decode cL_hangs 93 = .ok (.iload 8, 2) := by decide +kernel
theorem dL_hangs_95 : decode cL_hangs 95 = .ok (.iconst 0, 1) := by decide +kernel
theorem dL_hangs_96 : decode cL_hangs 96 = .ok (.invokevirtual 52, 3) := by decide +kernel
theorem dL_hangs_99 : decode cL_hangs 99 = .ok (.bipush 10, 2) := by decide +kernel
theorem dL_hangs_101 : decode cL_hangs 101 = .ok (.if_icmp .ge 114, 3) := by decide +kernel
theorem dL_hangs_104 : decode cL_hangs 104 = .ok (.iload 9, 2) := by decide +kernel
theorem dL_hangs_106 : decode cL_hangs 106 = .ok (.bipush (-5), 2) := by decide +kernel
theorem dL_hangs_108 : decode cL_hangs 108 = .ok (.if_icmp .ne 13, 3) := by decide +kernel
theorem dL_hangs_111 : decode cL_hangs 111 = .ok (.iload 10, 2) := by decide +kernel
theorem dL_hangs_113 : decode cL_hangs 113 = .ok (.bipush (-5), 2) := by decide +kernel
theorem dL_hangs_115 : decode cL_hangs 115 = .ok (.if_icmp .ne 100, 3) := by decide +kernel
theorem dL_hangs_118 : decode cL_hangs 118 = .ok (.goto 31, 3) := by decide +kernel
theorem dL_hangs_121 : decode cL_hangs 121 = .ok (.iload 9, 2) := by decide +kernel
theorem dL_hangs_123 : decode cL_hangs 123 = .ok (.ifCond .lt 92, 3) := by decide +kernel
theorem dL_hangs_126 : decode cL_hangs 126 = .ok (.iload 9, 2) := by decide +kernel
theorem dL_hangs_128 : decode cL_hangs 128 = .ok (.iload 5, 2) := by decide +kernel
theorem dL_hangs_130 : decode cL_hangs 130 = .ok (.if_icmp .ge 85, 3) := by decide +kernel
theorem dL_hangs_133 : decode cL_hangs 133 = .ok (.iload 10, 2) := by decide +kernel
theorem dL_hangs_135 : decode cL_hangs 135 = .ok (.ifCond .lt 80, 3) := by decide +kernel
theorem dL_hangs_138 : decode cL_hangs 138 = .ok (.iload 10, 2) := by decide +kernel
theorem dL_hangs_140 : decode cL_hangs 140 = .ok (.aload_n 0, 1) := by decide +kernel
theorem dL_hangs_141 : decode cL_hangs 141 = .ok (.bipush 9, 2) := by decide +kernel
theorem dL_hangs_143 : decode cL_hangs 143 = .ok (.invokevirtual 9, 3) := by decide +kernel
theorem dL_hangs_146 : decode cL_hangs 146 = .ok (.if_icmp .gt 69, 3) := by decide +kernel
theorem dL_hangs_149 : decode cL_hangs 149 = .ok (.iload 11, 2) := by decide +kernel
theorem dL_hangs_151 : decode cL_hangs 151 = .ok (.bipush (-5), 2) := by decide +kernel
theorem dL_hangs_153 : decode cL_hangs 153 = .ok (.if_icmp .eq 44, 3) := by decide +kernel
theorem dL_hangs_156 : decode cL_hangs 156 = .ok (.aload_n 0, 1) := by decide +kernel
theorem dL_hangs_157 : decode cL_hangs 157 = .ok (.iload 11, 2) := by decide +kernel
theorem dL_hangs_159 : decode cL_hangs 159 = .ok (.iconst 0, 1) := by decide +kernel
theorem dL_hangs_160 : decode cL_hangs 160 = .ok (.invokevirtual 55, 3) := by decide +kernel
theorem dL_hangs_163 : decode cL_hangs 163 = .ok (.iload 7, 2) := by decide +kernel
theorem dL_hangs_165 : decode cL_hangs 165 = .ok (.if_icmp .ne 50, 3) := by decide +kernel
theorem dL_hangs_168 : decode cL_hangs 168 = .ok (.aload_n 0, 1) := by decide +kernel
theorem dL_hangs_169 : decode cL_hangs 169 = .ok (.iload 11, 2) := by decide +kernel
theorem dL_hangs_171 : decode cL_hangs 171 = .ok (.iconst 1, 1) := by decide +kernel
theorem dL_hangs_172 : decode cL_hangs 172 = .ok (.invokevirtual 55, 3) := by decide +kernel
theorem dL_hangs_175 : decode cL_hangs 175 = .ok (.iload 8, 2) := by decide +kernel
theorem dL_hangs_177 : decode cL_hangs 177 = .ok (.if_icmp .ne 38, 3) := by decide +kernel
theorem dL_hangs_180 : decode cL_hangs 180 = .ok (.aload_n 0, 1) := by decide +kernel
theorem dL_hangs_181 : decode cL_hangs 181 = .ok (.iload 11, 2) := by decide +kernel
theorem dL_hangs_183 : decode cL_hangs 183 = .ok (.iconst 3, 1) := by decide +kernel
theorem dL_hangs_184 : decode cL_hangs 184 = .ok (.invokevirtual 55, 3) := by decide +kernel
theorem dL_hangs_187 : decode cL_hangs 187 = .ok (.ifCond .ne 28, 3) := by decide +kernel
theorem dL_hangs_190 : decode cL_hangs 190 = .ok (.iload 8, 2) := by decide +kernel
theorem dL_hangs_192 : decode cL_hangs 192 = .ok (.bipush 19, 2) := by decide +kernel
theorem dL_hangs_194 : decode cL_hangs 194 = .ok (.if_icmp .ge 21, 3) := by decide +kernel
theorem dL_hangs_197 : decode cL_hangs 197 = .ok (.iload 8, 2) := by decide +kernel
theorem dL_hangs_199 : decode cL_hangs 199 = .ok (.bipush 19, 2) := by decide +kernel
theorem dL_hangs_201 : decode cL_hangs 201 = .ok (.if_icmp .lt 10, 3) := by decide +kernel
theorem dL_hangs_204 : decode cL_hangs 204 = .ok (.iload 9, 2) := by decide +kernel
theorem dL_hangs_206 : decode cL_hangs 206 = .ok (.bipush (-5), 2) := by decide +kernel
theorem dL_hangs_208 : decode cL_hangs 208 = .ok (.if_icmp .ne 7, 3) := by decide +kernel
theorem dL_hangs_211 : decode cL_hangs 211 = .ok (.iconst 1, 1) := by decide +kernel
theorem dL_hangs_212 : decode cL_hangs 212 = .ok (.goto 4, 3) := by decide +kernel
theorem dL_hangs_215 : decode cL_hangs 215 = .ok (.iconst 0, 1) := by decide +kernel
theorem dL_hangs_216 : decode cL_hangs 216 = .ok (.istore 4, 2) := by decide +kernel
theorem dL_hangs_218 : decode cL_hangs 218 = .ok (.iload 4, 2) := by decide +kernel
theorem dL_hangs_220 : decode cL_hangs 220 = .ok (.ifCond .eq 104, 3) := by decide +kernel
theorem dL_hangs_223 : decode cL_hangs 223 = .ok (.aload_n 0, 1) := by decide +kernel
theorem dL_hangs_224 : decode cL_hangs 224 = .ok (.iload 7, 2) := by decide +kernel
theorem dL_hangs_226 : decode cL_hangs 226 = .ok (.iload 8, 2) := by decide +kernel
theorem dL_hangs_228 : decode cL_hangs 228 = .ok (.iconst 0, 1) := by decide +kernel
theorem dL_hangs_229 : decode cL_hangs 229 = .ok (.invokevirtual 58, 3) := by decide +kernel
theorem dL_hangs_232 : decode cL_hangs 232 = .ok (.aload_n 0, 1) := by decide +kernel
theorem dL_hangs_233 : decode cL_hangs 233 = .ok (.iload 7, 2) := by decide +kernel
theorem dL_hangs_235 : decode cL_hangs 235 = .ok (.iload 8, 2) := by decide +kernel
theorem dL_hangs_237 : decode cL_hangs 237 = .ok (.iconst 1, 1) := by decide +kernel
theorem dL_hangs_238 : decode cL_hangs 238 = .ok (.invokevirtual 58, 3) := by decide +kernel
theorem dL_hangs_241 : decode cL_hangs 241 = .ok (.if_icmp .ne 83, 3) := by decide +kernel
theorem dL_hangs_244 : decode cL_hangs 244 = .ok (.iload 8, 2) := by decide +kernel
theorem dL_hangs_246 : decode cL_hangs 246 = .ok (.bipush 19, 2) := by decide +kernel
theorem dL_hangs_248 : decode cL_hangs 248 = .ok (.if_icmp .ne 18, 3) := by decide +kernel
theorem dL_hangs_251 : decode cL_hangs 251 = .ok (.aload_n 0, 1) := by decide +kernel
theorem dL_hangs_252 : decode cL_hangs 252 = .ok (.iload 7, 2) := by decide +kernel
theorem dL_hangs_254 : decode cL_hangs 254 = .ok (.iload 8, 2) := by decide +kernel
theorem dL_hangs_256 : decode cL_hangs 256 = .ok (.iconst 0, 1) := by decide +kernel
theorem dL_hangs_257 : decode cL_hangs 257 = .ok (.invokevirtual 58, 3) := by decide +kernel
theorem dL_hangs_260 : decode cL_hangs 260 = .ok (.ifCond .ne 64, 3) := by decide +kernel
theorem dL_hangs_263 : decode cL_hangs 263 = .ok (.goto 57, 3) := by decide +kernel
theorem dL_hangs_266 : decode cL_hangs 266 = .ok (.aload_n 0, 1) := by decide +kernel
theorem dL_hangs_267 : decode cL_hangs 267 = .ok (.iload 7, 2) := by decide +kernel
theorem dL_hangs_269 : decode cL_hangs 269 = .ok (.iload 8, 2) := by decide +kernel
theorem dL_hangs_271 : decode cL_hangs 271 = .ok (.iconst 0, 1) := by decide +kernel
theorem dL_hangs_272 : decode cL_hangs 272 = .ok (.invokevirtual 58, 3) := by decide +kernel
theorem dL_hangs_275 : decode cL_hangs 275 = .ok (.bipush 19, 2) := by decide +kernel
theorem dL_hangs_277 : decode cL_hangs 277 = .ok (.iload 8, 2) := by decide +kernel
theorem dL_hangs_279 : decode cL_hangs 279 = .ok (.isub, 1) := by decide +kernel
theorem dL_hangs_280 : decode cL_hangs 280 = .ok (.if_icmp .lt 44, 3) := by decide +kernel
theorem dL_hangs_283 : decode cL_hangs 283 = .ok (.aload_n 0, 1) := by decide +kernel
theorem dL_hangs_284 : decode cL_hangs 284 = .ok (.iload 7, 2) := by decide +kernel
theorem dL_hangs_286 : decode cL_hangs 286 = .ok (.iload 8, 2) := by decide +kernel
theorem dL_hangs_288 : decode cL_hangs 288 = .ok (.iconst 0, 1) := by decide +kernel
theorem dL_hangs_289 : decode cL_hangs 289 = .ok (.invokevirtual 58, 3) := by decide +kernel
theorem dL_hangs_292 : decode cL_hangs 292 = .ok (.aload_n 0, 1) := by decide +kernel
theorem dL_hangs_293 : decode cL_hangs 293 = .ok (.iload 7, 2) := by decide +kernel
theorem dL_hangs_295 : decode cL_hangs 295 = .ok (.iload 8, 2) := by decide +kernel
theorem dL_hangs_297 : decode cL_hangs 297 = .ok (.iconst 1, 1) := by decide +kernel
theorem dL_hangs_298 : decode cL_hangs 298 = .ok (.iadd, 1) := by decide +kernel
theorem dL_hangs_299 : decode cL_hangs 299 = .ok (.iconst 0, 1) := by decide +kernel
theorem dL_hangs_300 : decode cL_hangs 300 = .ok (.invokevirtual 58, 3) := by decide +kernel
theorem dL_hangs_303 : decode cL_hangs 303 = .ok (.iconst 1, 1) := by decide +kernel
theorem dL_hangs_304 : decode cL_hangs 304 = .ok (.iadd, 1) := by decide +kernel
theorem dL_hangs_305 : decode cL_hangs 305 = .ok (.aload_n 0, 1) := by decide +kernel
theorem dL_hangs_306 : decode cL_hangs 306 = .ok (.iload 7, 2) := by decide +kernel
theorem dL_hangs_308 : decode cL_hangs 308 = .ok (.iload 8, 2) := by decide +kernel
theorem dL_hangs_310 : decode cL_hangs 310 = .ok (.iconst 1, 1) := by decide +kernel
theorem dL_hangs_311 : decode cL_hangs 311 = .ok (.iadd, 1) := by decide +kernel
theorem dL_hangs_312 : decode cL_hangs 312 = .ok (.iconst 0, 1) := by decide +kernel
theorem dL_hangs_313 : decode cL_hangs 313 = .ok (.invokevirtual 52, 3) := by decide +kernel
theorem dL_hangs_316 : decode cL_hangs 316 = .ok (.iadd, 1) := by decide +kernel
theorem dL_hangs_317 : decode cL_hangs 317 = .ok (.if_icmp .gt 7, 3) := by decide +kernel
theorem dL_hangs_320 : decode cL_hangs 320 = .ok (.iconst 1, 1) := by decide +kernel
theorem dL_hangs_321 : decode cL_hangs 321 = .ok (.goto 4, 3) := by decide +kernel
theorem dL_hangs_324 : decode cL_hangs 324 = .ok (.iconst 0, 1) := by decide +kernel
theorem dL_hangs_325 : decode cL_hangs 325 = .ok (.istore 4, 2) := by decide +kernel
theorem dL_hangs_327 : decode cL_hangs 327 = .ok (.iload_n 1, 1) := by decide +kernel
theorem dL_hangs_328 : decode cL_hangs 328 = .ok (.iload 9, 2) := by decide +kernel
theorem dL_hangs_330 : decode cL_hangs 330 = .ok (.bipush (-5), 2) := by decide +kernel
theorem dL_hangs_332 : decode cL_hangs 332 = .ok (.if_icmp .ne 7, 3) := by decide +kernel
theorem dL_hangs_335 : decode cL_hangs 335 = .ok (.iconst 0, 1) := by decide +kernel
theorem dL_hangs_336 : decode cL_hangs 336 = .ok (.goto 4, 3) := by decide +kernel
theorem dL_hangs_339 : decode cL_hangs 339 = .ok (.iconst 1, 1) := by decide +kernel
theorem dL_hangs_340 : decode cL_hangs 340 = .ok (.iadd, 1) := by decide +kernel
theorem dL_hangs_341 : decode cL_hangs 341 = .ok (.istore_n 1, 1) := by decide +kernel
theorem dL_hangs_342 : decode cL_hangs 342 = .ok (.iload_n 2, 1) := by decide +kernel
theorem dL_hangs_343 : decode cL_hangs 343 = .ok (.aload_n 0, 1) := by decide +kernel
theorem dL_hangs_344 : decode cL_hangs 344 = .ok (.iload 7, 2) := by decide +kernel
theorem dL_hangs_346 : decode cL_hangs 346 = .ok (.iload 8, 2) := by decide +kernel
theorem dL_hangs_348 : decode cL_hangs 348 = .ok (.iconst 0, 1) := by decide +kernel
theorem dL_hangs_349 : decode cL_hangs 349 = .ok (.invokevirtual 52, 3) := by decide +kernel
theorem dL_hangs_352 : decode cL_hangs 352 = .ok (.iadd, 1) := by decide +kernel
theorem dL_hangs_353 : decode cL_hangs 353 = .ok (.istore_n 2, 1) := by decide +kernel
theorem dL_hangs_354 : decode cL_hangs 354 = .ok (.iload_n 3, 1) := by decide +kernel
theorem dL_hangs_355 : decode cL_hangs 355 = .ok (.iload 11, 2) := by decide +kernel
theorem dL_hangs_357 : decode cL_hangs 357 = .ok (.bipush (-5), 2) := by decide +kernel
theorem dL_hangs_359 : decode cL_hangs 359 = .ok (.if_icmp .ne 7, 3) := by decide +kernel
theorem dL_hangs_362 : decode cL_hangs 362 = .ok (.iconst 0, 1) := by decide +kernel
theorem dL_hangs_363 : decode cL_hangs 363 = .ok (.goto 4, 3) := by decide +kernel
theorem dL_hangs_366 : decode cL_hangs 366 = .ok (.iconst 1, 1) := by decide +kernel
theorem dL_hangs_367 : decode cL_hangs 367 = .ok (.iadd, 1) := by decide +kernel
theorem dL_hangs_368 : decode cL_hangs 368 = .ok (.istore_n 3, 1) := by decide +kernel
theorem dL_hangs_369 : decode cL_hangs 369 = .ok (.iinc 6 1, 3) := by decide +kernel
theorem dL_hangs_372 : decode cL_hangs 372 = .ok (.goto (-353), 3) := by decide +kernel
theorem dL_hangs_375 : decode cL_hangs 375 = .ok (.iconst 0, 1) := by decide +kernel
theorem dL_hangs_376 : decode cL_hangs 376 = .ok (.istore 6, 2) := by decide +kernel
theorem dL_hangs_378 : decode cL_hangs 378 = .ok (.iconst 0, 1) := by decide +kernel
theorem dL_hangs_379 : decode cL_hangs 379 = .ok (.istore 7, 2) := by decide +kernel
theorem dL_hangs_381 : decode cL_hangs 381 = .ok (.iconst 0, 1) := by decide +kernel
theorem dL_hangs_382 : decode cL_hangs 382 = .ok (.istore 8, 2) := by decide +kernel
theorem dL_hangs_384 : decode cL_hangs 384 = .ok (.iconst 0, 1) := by decide +kernel
theorem dL_hangs_385 : decode cL_hangs 385 = .ok (.istore 9, 2) := by decide +kernel
theorem dL_hangs_387 : decode cL_hangs 387 = .ok (.iconst 0, 1) := by decide +kernel
theorem dL_hangs_388 : decode cL_hangs 388 = .ok (.istore 10, 2) := by decide +kernel
theorem dL_hangs_390 : decode cL_hangs 390 = .ok (.iconst 0, 1) := by decide +kernel
theorem dL_hangs_391 : decode cL_hangs 391 = .ok (.istore 11, 2) := by decide +kernel
theorem dL_hangs_393 : decode cL_hangs 393 = .ok (.iconst 0, 1) := by decide +kernel
theorem dL_hangs_394 : decode cL_hangs 394 = .ok (.istore 12, 2) := by decide +kernel
theorem dL_hangs_396 : decode cL_hangs 396 = .ok (.iload 12, 2) := by decide +kernel
theorem dL_hangs_398 : decode cL_hangs 398 = .ok (.iload 5, 2) := by decide +kernel
theorem dL_hangs_400 : decode cL_hangs 400 = .ok (.if_icmp .ge 694, 3) := by decide +kernel
theorem dL_hangs_403 : decode cL_hangs 403 = .ok (.iload 12, 2) := by decide +kernel
theorem dL_hangs_405 : decode cL_hangs 405 = .ok (.bipush 8, 2) := by decide +kernel
theorem dL_hangs_407 : decode cL_hangs 407 = .ok (.if_icmp .ge 687, 3) := by decide +kernel
theorem dL_hangs_410 : decode cL_hangs 410 = .ok (.iload 4, 2) := by decide +kernel
theorem dL_hangs_412 : decode cL_hangs 412 = .ok (.ifCond .eq 682, 3) := by decide +kernel
theorem dL_hangs_415 : decode cL_hangs 415 = .ok (.aload_n 0, 1) := by decide +kernel
theorem dL_hangs_416 : decode cL_hangs 416 = .ok (.iload 12, 2) := by decide +kernel
theorem dL_hangs_418 : decode cL_hangs 418 = .ok (.iconst 3, 1) := by decide +kernel
theorem dL_hangs_419 : decode cL_hangs 419 = .ok (.invokevirtual 55, 3) := by decide +kernel
theorem dL_hangs_422 : decode cL_hangs 422 = .ok (.istore 13, 2) := by decide +kernel
theorem dL_hangs_424 : decode cL_hangs 424 = .ok (.aload_n 0, 1) := by decide +kernel
theorem dL_hangs_425 : decode cL_hangs 425 = .ok (.iload 12, 2) := by decide +kernel
theorem dL_hangs_427 : decode cL_hangs 427 = .ok (.iconst 4, 1) := by decide +kernel
theorem dL_hangs_428 : decode cL_hangs 428 = .ok (.invokevirtual 55, 3) := by decide +kernel
theorem dL_hangs_431 : decode cL_hangs 431 = .ok (.istore 14, 2) := by decide +kernel
theorem dL_hangs_433 : decode cL_hangs 433 = .ok (.aload_n 0, 1) := by decide +kernel
theorem dL_hangs_434 : decode cL_hangs 434 = .ok (.iload 12, 2) := by decide +kernel
theorem dL_hangs_436 : decode cL_hangs 436 = .ok (.bipush 8, 2) := by decide +kernel
theorem dL_hangs_438 : decode cL_hangs 438 = .ok (.invokevirtual 55, 3) := by decide +kernel
theorem dL_hangs_441 : decode cL_hangs 441 = .ok (.istore 15, 2) := by decide +kernel
theorem dL_hangs_443 : decode cL_hangs 443 = .ok (.aload_n 0, 1) := by decide +kernel
theorem dL_hangs_444 : decode cL_hangs 444 = .ok (.iload 12, 2) := by decide +kernel
theorem dL_hangs_446 : decode cL_hangs 446 = .ok (.bipush 9, 2) := by decide +kernel
theorem dL_hangs_448 : decode cL_hangs 448 = .ok (.invokevirtual 55, 3) := by decide +kernel
theorem dL_hangs_451 : decode cL_hangs 451 = .ok (.istore 16, 2) := by decide +kernel
theorem dL_hangs_453 : decode cL_hangs 453 = .ok (.aload_n 0, 1) := by decide +kernel
theorem dL_hangs_454 : decode cL_hangs 454 = .ok (.iload 12, 2) := by decide +kernel
theorem dL_hangs_456 : decode cL_hangs 456 = .ok (.invokevirtual 61, 3) := by decide +kernel
theorem dL_hangs_459 : decode cL_hangs 459 = .ok (.istore 17, 2) := by decide +kernel
theorem dL_hangs_461 : decode cL_hangs 461 = .ok (.iconst 0, 1) := by decide +kernel
theorem dL_hangs_462 : decode cL_hangs 462 = .ok (.istore 18, 2) := by decide +kernel
theorem dL_hangs_464 : decode cL_hangs 464 = .ok (.iconst 0, 1) := by decide +kernel
theorem dL_hangs_465 : decode cL_hangs 465 = .ok (.istore 19, 2) := by decide +kernel
theorem dL_hangs_467 : decode cL_hangs 467 = .ok (.iload 19, 2) := by decide +kernel
theorem dL_hangs_469 : decode cL_hangs 469 = .ok (.iload 5, 2) := by decide +kernel
theorem dL_hangs_471 : decode cL_hangs 471 = .ok (.if_icmp .ge 33, 3) := by decide +kernel
theorem dL_hangs_474 : decode cL_hangs 474 = .ok (.iload 18, 2) := by decide +kernel
theorem dL_hangs_476 : decode cL_hangs 476 = .ok (.iload 19, 2) := by decide +kernel
theorem dL_hangs_478 : decode cL_hangs 478 = .ok (.iload 12, 2) := by decide +kernel
theorem dL_hangs_480 : decode cL_hangs 480 = .ok (.if_icmp .ne 7, 3) := by decide +kernel
theorem dL_hangs_483 : decode cL_hangs 483 = .ok (.iconst 0, 1) := by decide +kernel
theorem dL_hangs_484 : decode cL_hangs 484 = .ok (.goto 11, 3) := by decide +kernel
theorem dL_hangs_487 : decode cL_hangs 487 = .ok (.aload_n 0, 1) := by decide +kernel
theorem dL_hangs_488 : decode cL_hangs 488 = .ok (.iload 12, 2) := by decide +kernel
theorem dL_hangs_490 : decode cL_hangs 490 = .ok (.iload 19, 2) := by decide +kernel
theorem dL_hangs_492 : decode cL_hangs 492 = .ok (.invokevirtual 64, 3) := by decide +kernel
theorem dL_hangs_495 : decode cL_hangs 495 = .ok (.iadd, 1) := by decide +kernel
theorem dL_hangs_496 : decode cL_hangs 496 = .ok (.istore 18, 2) := by decide +kernel
theorem dL_hangs_498 : decode cL_hangs 498 = .ok (.iinc 19 1, 3) := by decide +kernel
theorem dL_hangs_501 : decode cL_hangs 501 = .ok (.goto (-34), 3) := by decide +kernel
theorem dL_hangs_504 : decode cL_hangs 504 = .ok (.iload 13, 2) := by decide +kernel
theorem dL_hangs_506 : decode cL_hangs 506 = .ok (.ifCond .lt 347, 3) := by decide +kernel
theorem dL_hangs_509 : decode cL_hangs 509 = .ok (.iload 13, 2) := by decide +kernel
theorem dL_hangs_511 : decode cL_hangs 511 = .ok (.iconst 3, 1) := by decide +kernel
theorem dL_hangs_512 : decode cL_hangs 512 = .ok (.if_icmp .ge 341, 3) := by decide +kernel
theorem dL_hangs_515 : decode cL_hangs 515 = .ok (.iload 13, 2) := by decide +kernel
theorem dL_hangs_517 : decode cL_hangs 517 = .ok (.iconst 1, 1) := by decide +kernel
theorem dL_hangs_518 : decode cL_hangs 518 = .ok (.if_icmp .ne 7, 3) := by decide +kernel
theorem dL_hangs_521 : decode cL_hangs 521 = .ok (.iconst 1, 1) := by decide +kernel
theorem dL_hangs_522 : decode cL_hangs 522 = .ok (.goto 4, 3) := by decide +kernel
theorem dL_hangs_525 : decode cL_hangs 525 = .ok (.iconst 0, 1) := by decide +kernel
theorem dL_hangs_526 : decode cL_hangs 526 = .ok (.iload 14, 2) := by decide +kernel
theorem dL_hangs_528 : decode cL_hangs 528 = .ok (.ifCond .le 7, 3) := by decide +kernel
theorem dL_hangs_531 : decode cL_hangs 531 = .ok (.iconst 1, 1) := by decide +kernel
theorem dL_hangs_532 : decode cL_hangs 532 = .ok (.goto 4, 3) := by decide +kernel
theorem dL_hangs_535 : decode cL_hangs 535 = .ok (.iconst 0, 1) := by decide +kernel
theorem dL_hangs_536 : decode cL_hangs 536 = .ok (.if_icmp .ne 317, 3) := by decide +kernel
theorem dL_hangs_539 : decode cL_hangs 539 = .ok (.iload 13, 2) := by decide +kernel
theorem dL_hangs_541 : decode cL_hangs 541 = .ok (.iconst 1, 1) := by decide +kernel
theorem dL_hangs_542 : decode cL_hangs 542 = .ok (.if_icmp .ne 7, 3) := by decide +kernel
theorem dL_hangs_545 : decode cL_hangs 545 = .ok (.iconst 1, 1) := by decide +kernel
theorem dL_hangs_546 : decode cL_hangs 546 = .ok (.goto 4, 3) := by decide +kernel
theorem dL_hangs_549 : decode cL_hangs 549 = .ok (.iconst 0, 1) := by decide +kernel
theorem dL_hangs_550 : decode cL_hangs 550 = .ok (.aload_n 0, 1) := by decide +kernel
theorem dL_hangs_551 : decode cL_hangs 551 = .ok (.iload 12, 2) := by decide +kernel
theorem dL_hangs_553 : decode cL_hangs 553 = .ok (.iconst 1, 1) := by decide +kernel
theorem dL_hangs_554 : decode cL_hangs 554 = .ok (.invokevirtual 55, 3) := by decide +kernel
theorem dL_hangs_557 : decode cL_hangs 557 = .ok (.bipush 19, 2) := by decide +kernel
theorem dL_hangs_559 : decode cL_hangs 559 = .ok (.if_icmp .ne 7, 3) := by decide +kernel
theorem dL_hangs_562 : decode cL_hangs 562 = .ok (.iconst 1, 1) := by decide +kernel
theorem dL_hangs_563 : decode cL_hangs 563 = .ok (.goto 4, 3) := by decide +kernel
theorem dL_hangs_566 : decode cL_hangs 566 = .ok (.iconst 0, 1) := by decide +kernel
theorem dL_hangs_567 : decode cL_hangs 567 = .ok (.if_icmp .ne 286, 3) := by decide +kernel
theorem dL_hangs_570 : decode cL_hangs 570 = .ok (.aload_n 0, 1) := by decide +kernel
theorem dL_hangs_571 : decode cL_hangs 571 = .ok (.iload 12, 2) := by decide +kernel
theorem dL_hangs_573 : decode cL_hangs 573 = .ok (.iconst 2, 1) := by decide +kernel
theorem dL_hangs_574 : decode cL_hangs 574 = .ok (.invokevirtual 55, 3) := by decide +kernel
theorem dL_hangs_577 : decode cL_hangs 577 = .ok (.ifCond .lt 276, 3) := by decide +kernel
theorem dL_hangs_580 : decode cL_hangs 580 = .ok (.aload_n 0, 1) := by decide +kernel
theorem dL_hangs_581 : decode cL_hangs 581 = .ok (.iload 12, 2) := by decide +kernel
theorem dL_hangs_583 : decode cL_hangs 583 = .ok (.iconst 2, 1) := by decide +kernel
theorem dL_hangs_584 : decode cL_hangs 584 = .ok (.invokevirtual 55, 3) := by decide +kernel
theorem dL_hangs_587 : decode cL_hangs 587 = .ok (.bipush 99, 2) := by decide +kernel
theorem dL_hangs_589 : decode cL_hangs 589 = .ok (.if_icmp .gt 264, 3) := by decide +kernel
theorem dL_hangs_592 : decode cL_hangs 592 = .ok (.aload_n 0, 1) := by decide +kernel
theorem dL_hangs_593 : decode cL_hangs 593 = .ok (.iload 12, 2) := by decide +kernel
theorem dL_hangs_595 : decode cL_hangs 595 = .ok (.iconst 5, 1) := by decide +kernel
theorem dL_hangs_596 : decode cL_hangs 596 = .ok (.invokevirtual 55, 3) := by decide +kernel
theorem dL_hangs_599 : decode cL_hangs 599 = .ok (.aload_n 0, 1) := by decide +kernel
theorem dL_hangs_600 : decode cL_hangs 600 = .ok (.iload 12, 2) := by decide +kernel
theorem dL_hangs_602 : decode cL_hangs 602 = .ok (.iconst 1, 1) := by decide +kernel
theorem dL_hangs_603 : decode cL_hangs 603 = .ok (.invokevirtual 55, 3) := by decide +kernel
theorem dL_hangs_606 : decode cL_hangs 606 = .ok (.if_icmp .ne 247, 3) := by decide +kernel
theorem dL_hangs_609 : decode cL_hangs 609 = .ok (.aload_n 0, 1) := by decide +kernel
theorem dL_hangs_610 : decode cL_hangs 610 = .ok (.iload 12, 2) := by decide +kernel
theorem dL_hangs_612 : decode cL_hangs 612 = .ok (.bipush 6, 2) := by decide +kernel
theorem dL_hangs_614 : decode cL_hangs 614 = .ok (.invokevirtual 55, 3) := by decide +kernel
theorem dL_hangs_617 : decode cL_hangs 617 = .ok (.aload_n 0, 1) := by decide +kernel
theorem dL_hangs_618 : decode cL_hangs 618 = .ok (.iload 12, 2) := by decide +kernel
theorem dL_hangs_620 : decode cL_hangs 620 = .ok (.iconst 5, 1) := by decide +kernel
theorem dL_hangs_621 : decode cL_hangs 621 = .ok (.invokevirtual 55, 3) := by decide +kernel
theorem dL_hangs_624 : decode cL_hangs 624 = .ok (.if_icmp .gt 229, 3) := by decide +kernel
theorem dL_hangs_627 : decode cL_hangs 627 = .ok (.iload 18, 2) := by decide +kernel
theorem dL_hangs_629 : decode cL_hangs 629 = .ok (.aload_n 0, 1) := by decide +kernel
theorem dL_hangs_630 : decode cL_hangs 630 = .ok (.iload 12, 2) := by decide +kernel
theorem dL_hangs_632 : decode cL_hangs 632 = .ok (.bipush 6, 2) := by decide +kernel
theorem dL_hangs_634 : decode cL_hangs 634 = .ok (.invokevirtual 55, 3) := by decide +kernel
theorem dL_hangs_637 : decode cL_hangs 637 = .ok (.if_icmp .ne 216, 3) := by decide +kernel
theorem dL_hangs_640 : decode cL_hangs 640 = .ok (.aload_n 0, 1) := by decide +kernel
theorem dL_hangs_641 : decode cL_hangs 641 = .ok (.iload 12, 2) := by decide +kernel
theorem dL_hangs_643 : decode cL_hangs 643 = .ok (.iload 12, 2) := by decide +kernel
theorem dL_hangs_645 : decode cL_hangs 645 = .ok (.invokevirtual 64, 3) := by decide +kernel
theorem dL_hangs_648 : decode cL_hangs 648 = .ok (.bipush (-2), 2) := by decide +kernel
theorem dL_hangs_650 : decode cL_hangs 650 = .ok (.if_icmp .ne 203, 3) := by decide +kernel
theorem dL_hangs_653 : decode cL_hangs 653 = .ok (.iload 15, 2) := by decide +kernel
theorem dL_hangs_655 : decode cL_hangs 655 = .ok (.bipush (-5), 2) := by decide +kernel
theorem dL_hangs_657 : decode cL_hangs 657 = .ok (.if_icmp .ne 11, 3) := by decide +kernel
theorem dL_hangs_660 : decode cL_hangs 660 = .ok (.iload 16, 2) := by decide +kernel
theorem dL_hangs_662 : decode cL_hangs 662 = .ok (.ifCond .ne 191, 3) := by decide +kernel
theorem dL_hangs_665 : decode cL_hangs 665 = .ok (.goto 40, 3) := by decide +kernel
theorem dL_hangs_668 : decode cL_hangs 668 = .ok (.iload 15, 2) := by decide +kernel
theorem dL_hangs_670 : decode cL_hangs 670 = .ok (.ifCond .lt 183, 3) := by decide +kernel
theorem dL_hangs_673 : decode cL_hangs 673 = .ok (.iload 15, 2) := by decide +kernel
theorem dL_hangs_675 : decode cL_hangs 675 = .ok (.iload 12, 2) := by decide +kernel
theorem dL_hangs_677 : decode cL_hangs 677 = .ok (.if_icmp .eq 176, 3) := by decide +kernel
theorem dL_hangs_680 : decode cL_hangs 680 = .ok (.iload 16, 2) := by decide +kernel
theorem dL_hangs_682 : decode cL_hangs 682 = .ok (.ifCond .le 171, 3) := by decide +kernel
theorem dL_hangs_685 : decode cL_hangs 685 = .ok (.iload 16, 2) := by decide +kernel
theorem dL_hangs_687 : decode cL_hangs 687 = .ok (.bipush 9, 2) := by decide +kernel
theorem dL_hangs_689 : decode cL_hangs 689 = .ok (.if_icmp .gt 164, 3) := by decide +kernel
theorem dL_hangs_692 : decode cL_hangs 692 = .ok (.aload_n 0, 1) := by decide +kernel
theorem dL_hangs_693 : decode cL_hangs 693 = .ok (.iload 12, 2) := by decide +kernel
theorem dL_hangs_695 : decode cL_hangs 695 = .ok (.iload 15, 2) := by decide +kernel
theorem dL_hangs_697 : decode cL_hangs 697 = .ok (.invokevirtual 64, 3) := by decide +kernel
theorem dL_hangs_700 : decode cL_hangs 700 = .ok (.iload 16, 2) := by decide +kernel
theorem dL_hangs_702 : decode cL_hangs 702 = .ok (.if_icmp .lt 151, 3) := by decide +kernel
theorem dL_hangs_705 : decode cL_hangs 705 = .ok (.iload 13, 2) := by decide +kernel
theorem dL_hangs_707 : decode cL_hangs 707 = .ok (.ifCond .ne 52, 3) := by decide +kernel
theorem dL_hangs_710 : decode cL_hangs 710 = .ok (.iload 17, 2) := by decide +kernel
theorem dL_hangs_712 : decode cL_hangs 712 = .ok (.ifCond .lt 141, 3) := by decide +kernel
theorem dL_hangs_715 : decode cL_hangs 715 = .ok (.iload 17, 2) := by decide +kernel
theorem dL_hangs_717 : decode cL_hangs 717 = .ok (.iconst 5, 1) := by decide +kernel
theorem dL_hangs_718 : decode cL_hangs 718 = .ok (.if_icmp .ge 135, 3) := by decide +kernel
theorem dL_hangs_721 : decode cL_hangs 721 = .ok (.iload 17, 2) := by decide +kernel
theorem dL_hangs_723 : decode cL_hangs 723 = .ok (.iconst 2, 1) := by decide +kernel
theorem dL_hangs_724 : decode cL_hangs 724 = .ok (.if_icmp .gt 42, 3) := by decide +kernel
theorem dL_hangs_727 : decode cL_hangs 727 = .ok (.aload_n 0, 1) := by decide +kernel
theorem dL_hangs_728 : decode cL_hangs 728 = .ok (.iload 12, 2) := by decide +kernel
theorem dL_hangs_730 : decode cL_hangs 730 = .ok (.iload 17, 2) := by decide +kernel
theorem dL_hangs_732 : decode cL_hangs 732 = .ok (.invokevirtual 67, 3) := by decide +kernel
theorem dL_hangs_735 : decode cL_hangs 735 = .ok (.ifCond .le 118, 3) := by decide +kernel
theorem dL_hangs_738 : decode cL_hangs 738 = .ok (.aload_n 0, 1) := by decide +kernel
theorem dL_hangs_739 : decode cL_hangs 739 = .ok (.iload 12, 2) := by decide +kernel
theorem dL_hangs_741 : decode cL_hangs 741 = .ok (.iload 17, 2) := by decide +kernel
theorem dL_hangs_743 : decode cL_hangs 743 = .ok (.invokevirtual 67, 3) := by decide +kernel
theorem dL_hangs_746 : decode cL_hangs 746 = .ok (.aload_n 0, 1) := by decide +kernel
theorem dL_hangs_747 : decode cL_hangs 747 = .ok (.iload 12, 2) := by decide +kernel
theorem dL_hangs_749 : decode cL_hangs 749 = .ok (.iconst 2, 1) := by decide +kernel
theorem dL_hangs_750 : decode cL_hangs 750 = .ok (.invokevirtual 55, 3) := by decide +kernel
theorem dL_hangs_753 : decode cL_hangs 753 = .ok (.if_icmp .gt 100, 3) := by decide +kernel
theorem dL_hangs_756 : decode cL_hangs 756 = .ok (.goto 10, 3) := by decide +kernel
theorem dL_hangs_759 : decode cL_hangs 759 = .ok (.iload 17, 2) := by decide +kernel
theorem dL_hangs_761 : decode cL_hangs 761 = .ok (.bipush (-4), 2) := by decide +kernel
theorem dL_hangs_763 : decode cL_hangs 763 = .ok (.if_icmp .ne 90, 3) := by decide +kernel
theorem dL_hangs_766 : decode cL_hangs 766 = .ok (.iload 13, 2) := by decide +kernel
theorem dL_hangs_768 : decode cL_hangs 768 = .ok (.iconst 2, 1) := by decide +kernel
theorem dL_hangs_769 : decode cL_hangs 769 = .ok (.if_icmp .ne 17, 3) := by decide +kernel
theorem dL_hangs_772 : decode cL_hangs 772 = .ok (.aload_n 0, 1) := by decide +kernel
theorem dL_hangs_773 : decode cL_hangs 773 = .ok (.iload 12, 2) := by decide +kernel
theorem dL_hangs_775 : decode cL_hangs 775 = .ok (.invokevirtual 70, 3) := by decide +kernel
theorem dL_hangs_778 : decode cL_hangs 778 = .ok (.bipush (-4), 2) := by decide +kernel
theorem dL_hangs_780 : decode cL_hangs 780 = .ok (.if_icmp .ne 73, 3) := by decide +kernel
theorem dL_hangs_783 : decode cL_hangs 783 = .ok (.goto 31, 3) := by decide +kernel
theorem dL_hangs_786 : decode cL_hangs 786 = .ok (.aload_n 0, 1) := by decide +kernel
theorem dL_hangs_787 : decode cL_hangs 787 = .ok (.iload 12, 2) := by decide +kernel
theorem dL_hangs_789 : decode cL_hangs 789 = .ok (.invokevirtual 70, 3) := by decide +kernel
theorem dL_hangs_792 : decode cL_hangs 792 = .ok (.ifCond .ne 7, 3) := by decide +kernel
theorem dL_hangs_795 : decode cL_hangs 795 = .ok (.iconst 1, 1) := by decide +kernel
theorem dL_hangs_796 : decode cL_hangs 796 = .ok (.goto 4, 3) := by decide +kernel
theorem dL_hangs_799 : decode cL_hangs 799 = .ok (.iconst 0, 1) := by decide +kernel
theorem dL_hangs_800 : decode cL_hangs 800 = .ok (.iload 13, 2) := by decide +kernel
theorem dL_hangs_802 : decode cL_hangs 802 = .ok (.iconst 1, 1) := by decide +kernel
theorem dL_hangs_803 : decode cL_hangs 803 = .ok (.if_icmp .ne 7, 3) := by decide +kernel
theorem dL_hangs_806 : decode cL_hangs 806 = .ok (.iconst 1, 1) := by decide +kernel
theorem dL_hangs_807 : decode cL_hangs 807 = .ok (.goto 4, 3) := by decide +kernel
theorem dL_hangs_810 : decode cL_hangs 810 = .ok (.iconst 0, 1) := by decide +kernel
theorem dL_hangs_811 : decode cL_hangs 811 = .ok (.if_icmp .ne 42, 3) := by decide +kernel
theorem dL_hangs_814 : decode cL_hangs 814 = .ok (.iload 13, 2) := by decide +kernel
theorem dL_hangs_816 : decode cL_hangs 816 = .ok (.ifCond .ne 33, 3) := by decide +kernel
theorem dL_hangs_819 : decode cL_hangs 819 = .ok (.aload_n 0, 1) := by decide +kernel
theorem dL_hangs_820 : decode cL_hangs 820 = .ok (.iload 12, 2) := by decide +kernel
theorem dL_hangs_822 : decode cL_hangs 822 = .ok (.invokevirtual 70, 3) := by decide +kernel
theorem dL_hangs_825 : decode cL_hangs 825 = .ok (.bipush (-5), 2) := by decide +kernel
theorem dL_hangs_827 : decode cL_hangs 827 = .ok (.if_icmp .eq 22, 3) := by decide +kernel
theorem dL_hangs_830 : decode cL_hangs 830 = .ok (.aload_n 0, 1) := by decide +kernel
theorem dL_hangs_831 : decode cL_hangs 831 = .ok (.iload 12, 2) := by decide +kernel
theorem dL_hangs_833 : decode cL_hangs 833 = .ok (.invokevirtual 70, 3) := by decide +kernel
theorem dL_hangs_836 : decode cL_hangs 836 = .ok (.bipush 19, 2) := by decide +kernel
theorem dL_hangs_838 : decode cL_hangs 838 = .ok (.aload_n 0, 1) := by decide +kernel
theorem dL_hangs_839 : decode cL_hangs 839 = .ok (.iload 12, 2) := by decide +kernel
theorem dL_hangs_841 : decode cL_hangs 841 = .ok (.iconst 1, 1) := by decide +kernel
theorem dL_hangs_842 : decode cL_hangs 842 = .ok (.invokevirtual 55, 3) := by decide +kernel
theorem dL_hangs_845 : decode cL_hangs 845 = .ok (.isub, 1) := by decide +kernel
theorem dL_hangs_846 : decode cL_hangs 846 = .ok (.if_icmp .lt 7, 3) := by decide +kernel
theorem dL_hangs_849 : decode cL_hangs 849 = .ok (.iconst 1, 1) := by decide +kernel
theorem dL_hangs_850 : decode cL_hangs 850 = .ok (.goto 4, 3) := by decide +kernel
theorem dL_hangs_853 : decode cL_hangs 853 = .ok (.iconst 0, 1) := by decide +kernel
theorem dL_hangs_854 : decode cL_hangs 854 = .ok (.istore 4, 2) := by decide +kernel
theorem dL_hangs_856 : decode cL_hangs 856 = .ok (.iconst 0, 1) := by decide +kernel
theorem dL_hangs_857 : decode cL_hangs 857 = .ok (.istore 19, 2) := by decide +kernel
theorem dL_hangs_859 : decode cL_hangs 859 = .ok (.iload 19, 2) := by decide +kernel
theorem dL_hangs_861 : decode cL_hangs 861 = .ok (.iconst 3, 1) := by decide +kernel
theorem dL_hangs_862 : decode cL_hangs 862 = .ok (.if_icmp .ge 139, 3) := by decide +kernel
theorem dL_hangs_865 : decode cL_hangs 865 = .ok (.iload 4, 2) := by decide +kernel
theorem dL_hangs_867 : decode cL_hangs 867 = .ok (.ifCond .eq 134, 3) := by decide +kernel
theorem dL_hangs_870 : decode cL_hangs 870 = .ok (.iload 13, 2) := by decide +kernel
theorem dL_hangs_872 : decode cL_hangs 872 = .ok (.ifCond .ne 129, 3) := by decide +kernel
theorem dL_hangs_875 : decode cL_hangs 875 = .ok (.aload_n 0, 1) := by decide +kernel
theorem dL_hangs_876 : decode cL_hangs 876 = .ok (.iload 12, 2) := by decide +kernel
theorem dL_hangs_878 : decode cL_hangs 878 = .ok (.iload 19, 2) := by decide +kernel
theorem dL_hangs_880 : decode cL_hangs 880 = .ok (.invokevirtual 67, 3) := by decide +kernel
theorem dL_hangs_883 : decode cL_hangs 883 = .ok (.istore 20, 2) := by decide +kernel
theorem dL_hangs_885 : decode cL_hangs 885 = .ok (.iload 20, 2) := by decide +kernel
theorem dL_hangs_887 : decode cL_hangs 887 = .ok (.bipush (-5), 2) := by decide +kernel
theorem dL_hangs_889 : decode cL_hangs 889 = .ok (.if_icmp .eq 15, 3) := by decide +kernel
theorem dL_hangs_892 : decode cL_hangs 892 = .ok (.iload 20, 2) := by decide +kernel
theorem dL_hangs_894 : decode cL_hangs 894 = .ok (.ifCond .le 98, 3) := by decide +kernel
theorem dL_hangs_897 : decode cL_hangs 897 = .ok (.iload 20, 2) := by decide +kernel
theorem dL_hangs_899 : decode cL_hangs 899 = .ok (.bipush 11, 2) := by decide +kernel
theorem dL_hangs_901 : decode cL_hangs 901 = .ok (.if_icmp .ge 91, 3) := by decide +kernel
theorem dL_hangs_904 : decode cL_hangs 904 = .ok (.iload 17, 2) := by decide +kernel
theorem dL_hangs_906 : decode cL_hangs 906 = .ok (.iconst 2, 1) := by decide +kernel
theorem dL_hangs_907 : decode cL_hangs 907 = .ok (.if_icmp .gt 43, 3) := by decide +kernel
theorem dL_hangs_910 : decode cL_hangs 910 = .ok (.iload 20, 2) := by decide +kernel
theorem dL_hangs_912 : decode cL_hangs 912 = .ok (.bipush (-5), 2) := by decide +kernel
theorem dL_hangs_914 : decode cL_hangs 914 = .ok (.if_icmp .eq 36, 3) := by decide +kernel
theorem dL_hangs_917 : decode cL_hangs 917 = .ok (.iload 20, 2) := by decide +kernel
theorem dL_hangs_919 : decode cL_hangs 919 = .ok (.aload_n 0, 1) := by decide +kernel
theorem dL_hangs_920 : decode cL_hangs 920 = .ok (.iload 12, 2) := by decide +kernel
theorem dL_hangs_922 : decode cL_hangs 922 = .ok (.iload 17, 2) := by decide +kernel
theorem dL_hangs_924 : decode cL_hangs 924 = .ok (.invokevirtual 67, 3) := by decide +kernel
theorem dL_hangs_927 : decode cL_hangs 927 = .ok (.if_icmp .gt 23, 3) := by decide +kernel
theorem dL_hangs_930 : decode cL_hangs 930 = .ok (.iload 20, 2) := by decide +kernel
theorem dL_hangs_932 : decode cL_hangs 932 = .ok (.aload_n 0, 1) := by decide +kernel
theorem dL_hangs_933 : decode cL_hangs 933 = .ok (.iload 12, 2) := by decide +kernel
theorem dL_hangs_935 : decode cL_hangs 935 = .ok (.iload 17, 2) := by decide +kernel
theorem dL_hangs_937 : decode cL_hangs 937 = .ok (.invokevirtual 67, 3) := by decide +kernel
theorem dL_hangs_940 : decode cL_hangs 940 = .ok (.if_icmp .ne 52, 3) := by decide +kernel
theorem dL_hangs_943 : decode cL_hangs 943 = .ok (.iload 19, 2) := by decide +kernel
theorem dL_hangs_945 : decode cL_hangs 945 = .ok (.iload 17, 2) := by decide +kernel
theorem dL_hangs_947 : decode cL_hangs 947 = .ok (.if_icmp .lt 45, 3) := by decide +kernel
theorem dL_hangs_950 : decode cL_hangs 950 = .ok (.iload 17, 2) := by decide +kernel
theorem dL_hangs_952 : decode cL_hangs 952 = .ok (.iconst 4, 1) := by decide +kernel
theorem dL_hangs_953 : decode cL_hangs 953 = .ok (.if_icmp .ne 10, 3) := by decide +kernel
theorem dL_hangs_956 : decode cL_hangs 956 = .ok (.iload 20, 2) := by decide +kernel
theorem dL_hangs_958 : decode cL_hangs 958 = .ok (.bipush (-5), 2) := by decide +kernel
theorem dL_hangs_960 : decode cL_hangs 960 = .ok (.if_icmp .ne 32, 3) := by decide +kernel
theorem dL_hangs_963 : decode cL_hangs 963 = .ok (.iload 17, 2) := by decide +kernel
theorem dL_hangs_965 : decode cL_hangs 965 = .ok (.iconst 3, 1) := by decide +kernel
theorem dL_hangs_966 : decode cL_hangs 966 = .ok (.if_icmp .ne 22, 3) := by decide +kernel
theorem dL_hangs_969 : decode cL_hangs 969 = .ok (.iload 20, 2) := by decide +kernel
theorem dL_hangs_971 : decode cL_hangs 971 = .ok (.bipush (-5), 2) := by decide +kernel
theorem dL_hangs_973 : decode cL_hangs 973 = .ok (.if_icmp .eq 15, 3) := by decide +kernel
theorem dL_hangs_976 : decode cL_hangs 976 = .ok (.iload 20, 2) := by decide +kernel
theorem dL_hangs_978 : decode cL_hangs 978 = .ok (.aload_n 0, 1) := by decide +kernel
theorem dL_hangs_979 : decode cL_hangs 979 = .ok (.iload 12, 2) := by decide +kernel
theorem dL_hangs_981 : decode cL_hangs 981 = .ok (.iconst 2, 1) := by decide +kernel
theorem dL_hangs_982 : decode cL_hangs 982 = .ok (.invokevirtual 55, 3) := by decide +kernel
theorem dL_hangs_985 : decode cL_hangs 985 = .ok (.if_icmp .le 7, 3) := by decide +kernel
theorem dL_hangs_988 : decode cL_hangs 988 = .ok (.iconst 1, 1) := by decide +kernel
theorem dL_hangs_989 : decode cL_hangs 989 = .ok (.goto 4, 3) := by decide +kernel
theorem dL_hangs_992 : decode cL_hangs 992 = .ok (.iconst 0, 1) := by decide +kernel
theorem dL_hangs_993 : decode cL_hangs 993 = .ok (.istore 4, 2) := by decide +kernel
theorem dL_hangs_995 : decode cL_hangs 995 = .ok (.iinc 19 1, 3) := by decide +kernel
theorem dL_hangs_998 : decode cL_hangs 998 = .ok (.goto (-139), 3) := by decide +kernel
theorem dL_hangs_1001 : decode cL_hangs 1001 = .ok (.iload 6, 2) := by decide +kernel
theorem dL_hangs_1003 : decode cL_hangs 1003 = .ok (.iload 13, 2) := by decide +kernel
theorem dL_hangs_1005 : decode cL_hangs 1005 = .ok (.ifCond .ne 7, 3) := by decide +kernel
theorem dL_hangs_1008 : decode cL_hangs 1008 = .ok (.iconst 1, 1) := by decide +kernel
theorem dL_hangs_1009 : decode cL_hangs 1009 = .ok (.goto 4, 3) := by decide +kernel
theorem dL_hangs_1012 : decode cL_hangs 1012 = .ok (.iconst 0, 1) := by decide +kernel
theorem dL_hangs_1013 : decode cL_hangs 1013 = .ok (.iadd, 1) := by decide +kernel
theorem dL_hangs_1014 : decode cL_hangs 1014 = .ok (.istore 6, 2) := by decide +kernel
theorem dL_hangs_1016 : decode cL_hangs 1016 = .ok (.iload 7, 2) := by decide +kernel
theorem dL_hangs_1018 : decode cL_hangs 1018 = .ok (.iload 13, 2) := by decide +kernel
theorem dL_hangs_1020 : decode cL_hangs 1020 = .ok (.iconst 1, 1) := by decide +kernel
theorem dL_hangs_1021 : decode cL_hangs 1021 = .ok (.if_icmp .ne 7, 3) := by decide +kernel
theorem dL_hangs_1024 : decode cL_hangs 1024 = .ok (.iconst 1, 1) := by decide +kernel
theorem dL_hangs_1025 : decode cL_hangs 1025 = .ok (.goto 4, 3) := by decide +kernel
theorem dL_hangs_1028 : decode cL_hangs 1028 = .ok (.iconst 0, 1) := by decide +kernel
theorem dL_hangs_1029 : decode cL_hangs 1029 = .ok (.iadd, 1) := by decide +kernel
theorem dL_hangs_1030 : decode cL_hangs 1030 = .ok (.istore 7, 2) := by decide +kernel
theorem dL_hangs_1032 : decode cL_hangs 1032 = .ok (.iload 11, 2) := by decide +kernel
theorem dL_hangs_1034 : decode cL_hangs 1034 = .ok (.iload 14, 2) := by decide +kernel
theorem dL_hangs_1036 : decode cL_hangs 1036 = .ok (.ifCond .le 10, 3) := by decide +kernel
theorem dL_hangs_1039 : decode cL_hangs 1039 = .ok (.iconst 1, 1) := by decide +kernel
theorem dL_hangs_1040 : decode cL_hangs 1040 = .ok (.iload 14, 2) := by decide +kernel
theorem dL_hangs_1042 : decode cL_hangs 1042 = .ok (.ishl, 1) := by decide +kernel
theorem dL_hangs_1043 : decode cL_hangs 1043 = .ok (.goto 4, 3) := by decide +kernel
theorem dL_hangs_1046 : decode cL_hangs 1046 = .ok (.iconst 0, 1) := by decide +kernel
theorem dL_hangs_1047 : decode cL_hangs 1047 = .ok (.ior, 1) := by decide +kernel
theorem dL_hangs_1048 : decode cL_hangs 1048 = .ok (.istore 11, 2) := by decide +kernel
theorem dL_hangs_1050 : decode cL_hangs 1050 = .ok (.iload 8, 2) := by decide +kernel
theorem dL_hangs_1052 : decode cL_hangs 1052 = .ok (.aload_n 0, 1) := by decide +kernel
theorem dL_hangs_1053 : decode cL_hangs 1053 = .ok (.iload 12, 2) := by decide +kernel
theorem dL_hangs_1055 : decode cL_hangs 1055 = .ok (.iconst 5, 1) := by decide +kernel
theorem dL_hangs_1056 : decode cL_hangs 1056 = .ok (.invokevirtual 55, 3) := by decide +kernel
theorem dL_hangs_1059 : decode cL_hangs 1059 = .ok (.iadd, 1) := by decide +kernel
theorem dL_hangs_1060 : decode cL_hangs 1060 = .ok (.istore 8, 2) := by decide +kernel
theorem dL_hangs_1062 : decode cL_hangs 1062 = .ok (.iload 9, 2) := by decide +kernel
theorem dL_hangs_1064 : decode cL_hangs 1064 = .ok (.aload_n 0, 1) := by decide +kernel
theorem dL_hangs_1065 : decode cL_hangs 1065 = .ok (.iload 12, 2) := by decide +kernel
theorem dL_hangs_1067 : decode cL_hangs 1067 = .ok (.bipush 6, 2) := by decide +kernel
theorem dL_hangs_1069 : decode cL_hangs 1069 = .ok (.invokevirtual 55, 3) := by decide +kernel
theorem dL_hangs_1072 : decode cL_hangs 1072 = .ok (.iadd, 1) := by decide +kernel
theorem dL_hangs_1073 : decode cL_hangs 1073 = .ok (.istore 9, 2) := by decide +kernel
theorem dL_hangs_1075 : decode cL_hangs 1075 = .ok (.iload 10, 2) := by decide +kernel
theorem dL_hangs_1077 : decode cL_hangs 1077 = .ok (.aload_n 0, 1) := by decide +kernel
theorem dL_hangs_1078 : decode cL_hangs 1078 = .ok (.iload 12, 2) := by decide +kernel
theorem dL_hangs_1080 : decode cL_hangs 1080 = .ok (.bipush 7, 2) := by decide +kernel
theorem dL_hangs_1082 : decode cL_hangs 1082 = .ok (.invokevirtual 55, 3) := by decide +kernel
theorem dL_hangs_1085 : decode cL_hangs 1085 = .ok (.iadd, 1) := by decide +kernel
theorem dL_hangs_1086 : decode cL_hangs 1086 = .ok (.istore 10, 2) := by decide +kernel
theorem dL_hangs_1088 : decode cL_hangs 1088 = .ok (.iinc 12 1, 3) := by decide +kernel
theorem dL_hangs_1091 : decode cL_hangs 1091 = .ok (.goto (-695), 3) := by decide +kernel
theorem dL_hangs_1094 : decode cL_hangs 1094 = .ok (.aload_n 0, 1) := by decide +kernel
theorem dL_hangs_1095 : decode cL_hangs 1095 = .ok (.invokevirtual 73, 3) := by decide +kernel
theorem dL_hangs_1098 : decode cL_hangs 1098 = .ok (.istore 12, 2) := by decide +kernel
theorem dL_hangs_1100 : decode cL_hangs 1100 = .ok (.aload_n 0, 1) := by decide +kernel
theorem dL_hangs_1101 : decode cL_hangs 1101 = .ok (.bipush 40, 2) := by decide +kernel
theorem dL_hangs_1103 : decode cL_hangs 1103 = .ok (.iconst 0, 1) := by decide +kernel
theorem dL_hangs_1104 : decode cL_hangs 1104 = .ok (.invokevirtual 76, 3) := by decide +kernel
theorem dL_hangs_1107 : decode cL_hangs 1107 = .ok (.istore 13, 2) := by decide +kernel
theorem dL_hangs_1109 : decode cL_hangs 1109 = .ok (.iload 4, 2) := by decide +kernel
theorem dL_hangs_1111 : decode cL_hangs 1111 = .ok (.ifCond .eq 217, 3) := by decide +kernel
theorem dL_hangs_1114 : decode cL_hangs 1114 = .ok (.iload_n 1, 1) := by decide +kernel
theorem dL_hangs_1115 : decode cL_hangs 1115 = .ok (.aload_n 0, 1) := by decide +kernel
theorem dL_hangs_1116 : decode cL_hangs 1116 = .ok (.iconst 4, 1) := by decide +kernel
theorem dL_hangs_1117 : decode cL_hangs 1117 = .ok (.invokevirtual 9, 3) := by decide +kernel
theorem dL_hangs_1120 : decode cL_hangs 1120 = .ok (.if_icmp .ne 208, 3) := by decide +kernel
theorem dL_hangs_1123 : decode cL_hangs 1123 = .ok (.iload_n 2, 1) := by decide +kernel
theorem dL_hangs_1124 : decode cL_hangs 1124 = .ok (.aload_n 0, 1) := by decide +kernel
theorem dL_hangs_1125 : decode cL_hangs 1125 = .ok (.iconst 5, 1) := by decide +kernel
theorem dL_hangs_1126 : decode cL_hangs 1126 = .ok (.invokevirtual 9, 3) := by decide +kernel
theorem dL_hangs_1129 : decode cL_hangs 1129 = .ok (.if_icmp .ne 199, 3) := by decide +kernel
theorem dL_hangs_1132 : decode cL_hangs 1132 = .ok (.iload_n 3, 1) := by decide +kernel
theorem dL_hangs_1133 : decode cL_hangs 1133 = .ok (.iload 6, 2) := by decide +kernel
theorem dL_hangs_1135 : decode cL_hangs 1135 = .ok (.if_icmp .ne 193, 3) := by decide +kernel
theorem dL_hangs_1138 : decode cL_hangs 1138 = .ok (.iload 6, 2) := by decide +kernel
theorem dL_hangs_1140 : decode cL_hangs 1140 = .ok (.aload_n 0, 1) := by decide +kernel
theorem dL_hangs_1141 : decode cL_hangs 1141 = .ok (.iconst 2, 1) := by decide +kernel
theorem dL_hangs_1142 : decode cL_hangs 1142 = .ok (.invokevirtual 9, 3) := by decide +kernel
theorem dL_hangs_1145 : decode cL_hangs 1145 = .ok (.if_icmp .ne 183, 3) := by decide +kernel
theorem dL_hangs_1148 : decode cL_hangs 1148 = .ok (.iload 7, 2) := by decide +kernel
theorem dL_hangs_1150 : decode cL_hangs 1150 = .ok (.aload_n 0, 1) := by decide +kernel
theorem dL_hangs_1151 : decode cL_hangs 1151 = .ok (.iconst 3, 1) := by decide +kernel
theorem dL_hangs_1152 : decode cL_hangs 1152 = .ok (.invokevirtual 9, 3) := by decide +kernel
theorem dL_hangs_1155 : decode cL_hangs 1155 = .ok (.if_icmp .ne 173, 3) := by decide +kernel
theorem dL_hangs_1158 : decode cL_hangs 1158 = .ok (.iload 11, 2) := by decide +kernel
theorem dL_hangs_1160 : decode cL_hangs 1160 = .ok (.iconst 1, 1) := by decide +kernel
theorem dL_hangs_1161 : decode cL_hangs 1161 = .ok (.iload 7, 2) := by decide +kernel
theorem dL_hangs_1163 : decode cL_hangs 1163 = .ok (.iconst 1, 1) := by decide +kernel
theorem dL_hangs_1164 : decode cL_hangs 1164 = .ok (.iadd, 1) := by decide +kernel
theorem dL_hangs_1165 : decode cL_hangs 1165 = .ok (.ishl, 1) := by decide +kernel
theorem dL_hangs_1166 : decode cL_hangs 1166 = .ok (.iconst 2, 1) := by decide +kernel
theorem dL_hangs_1167 : decode cL_hangs 1167 = .ok (.isub, 1) := by decide +kernel
theorem dL_hangs_1168 : decode cL_hangs 1168 = .ok (.if_icmp .ne 160, 3) := by decide +kernel
theorem dL_hangs_1171 : decode cL_hangs 1171 = .ok (.iload 8, 2) := by decide +kernel
theorem dL_hangs_1173 : decode cL_hangs 1173 = .ok (.aload_n 0, 1) := by decide +kernel
theorem dL_hangs_1174 : decode cL_hangs 1174 = .ok (.bipush 6, 2) := by decide +kernel
theorem dL_hangs_1176 : decode cL_hangs 1176 = .ok (.invokevirtual 9, 3) := by decide +kernel
theorem dL_hangs_1179 : decode cL_hangs 1179 = .ok (.if_icmp .ne 149, 3) := by decide +kernel
theorem dL_hangs_1182 : decode cL_hangs 1182 = .ok (.iload 9, 2) := by decide +kernel
theorem dL_hangs_1184 : decode cL_hangs 1184 = .ok (.aload_n 0, 1) := by decide +kernel
theorem dL_hangs_1185 : decode cL_hangs 1185 = .ok (.bipush 7, 2) := by decide +kernel
theorem dL_hangs_1187 : decode cL_hangs 1187 = .ok (.invokevirtual 9, 3) := by decide +kernel
theorem dL_hangs_1190 : decode cL_hangs 1190 = .ok (.if_icmp .ne 138, 3) := by decide +kernel
theorem dL_hangs_1193 : decode cL_hangs 1193 = .ok (.iload 10, 2) := by decide +kernel
theorem dL_hangs_1195 : decode cL_hangs 1195 = .ok (.aload_n 0, 1) := by decide +kernel
theorem dL_hangs_1196 : decode cL_hangs 1196 = .ok (.bipush 8, 2) := by decide +kernel
theorem dL_hangs_1198 : decode cL_hangs 1198 = .ok (.invokevirtual 9, 3) := by decide +kernel
theorem dL_hangs_1201 : decode cL_hangs 1201 = .ok (.if_icmp .ne 127, 3) := by decide +kernel
theorem dL_hangs_1204 : decode cL_hangs 1204 = .ok (.iload 12, 2) := by decide +kernel
theorem dL_hangs_1206 : decode cL_hangs 1206 = .ok (.bipush (-5), 2) := by decide +kernel
theorem dL_hangs_1208 : decode cL_hangs 1208 = .ok (.if_icmp .ne 7, 3) := by decide +kernel
theorem dL_hangs_1211 : decode cL_hangs 1211 = .ok (.iconst 1, 1) := by decide +kernel
theorem dL_hangs_1212 : decode cL_hangs 1212 = .ok (.goto 4, 3) := by decide +kernel
theorem dL_hangs_1215 : decode cL_hangs 1215 = .ok (.iconst 0, 1) := by decide +kernel
theorem dL_hangs_1216 : decode cL_hangs 1216 = .ok (.iload 6, 2) := by decide +kernel
theorem dL_hangs_1218 : decode cL_hangs 1218 = .ok (.ifCond .ne 7, 3) := by decide +kernel
theorem dL_hangs_1221 : decode cL_hangs 1221 = .ok (.iconst 1, 1) := by decide +kernel
theorem dL_hangs_1222 : decode cL_hangs 1222 = .ok (.goto 4, 3) := by decide +kernel
theorem dL_hangs_1225 : decode cL_hangs 1225 = .ok (.iconst 0, 1) := by decide +kernel
theorem dL_hangs_1226 : decode cL_hangs 1226 = .ok (.if_icmp .ne 102, 3) := by decide +kernel
theorem dL_hangs_1229 : decode cL_hangs 1229 = .ok (.iload 12, 2) := by decide +kernel
theorem dL_hangs_1231 : decode cL_hangs 1231 = .ok (.bipush (-5), 2) := by decide +kernel
theorem dL_hangs_1233 : decode cL_hangs 1233 = .ok (.if_icmp .eq 13, 3) := by decide +kernel
theorem dL_hangs_1236 : decode cL_hangs 1236 = .ok (.aload_n 0, 1) := by decide +kernel
theorem dL_hangs_1237 : decode cL_hangs 1237 = .ok (.iload 12, 2) := by decide +kernel
theorem dL_hangs_1239 : decode cL_hangs 1239 = .ok (.iconst 3, 1) := by decide +kernel
theorem dL_hangs_1240 : decode cL_hangs 1240 = .ok (.invokevirtual 55, 3) := by decide +kernel
theorem dL_hangs_1243 : decode cL_hangs 1243 = .ok (.ifCond .ne 85, 3) := by decide +kernel
theorem dL_hangs_1246 : decode cL_hangs 1246 = .ok (.iload 13, 2) := by decide +kernel
theorem dL_hangs_1248 : decode cL_hangs 1248 = .ok (.bipush (-5), 2) := by decide +kernel
theorem dL_hangs_1250 : decode cL_hangs 1250 = .ok (.if_icmp .ne 18, 3) := by decide +kernel
theorem dL_hangs_1253 : decode cL_hangs 1253 = .ok (.aload_n 0, 1) := by decide +kernel
theorem dL_hangs_1254 : decode cL_hangs 1254 = .ok (.bipush 40, 2) := by decide +kernel
theorem dL_hangs_1256 : decode cL_hangs 1256 = .ok (.iconst 1, 1) := by decide +kernel
theorem dL_hangs_1257 : decode cL_hangs 1257 = .ok (.invokevirtual 76, 3) := by decide +kernel
theorem dL_hangs_1260 : decode cL_hangs 1260 = .ok (.bipush (-5), 2) := by decide +kernel
theorem dL_hangs_1262 : decode cL_hangs 1262 = .ok (.if_icmp .ne 66, 3) := by decide +kernel
theorem dL_hangs_1265 : decode cL_hangs 1265 = .ok (.goto 40, 3) := by decide +kernel
theorem dL_hangs_1268 : decode cL_hangs 1268 = .ok (.iload 13, 2) := by decide +kernel
theorem dL_hangs_1270 : decode cL_hangs 1270 = .ok (.ifCond .lt 58, 3) := by decide +kernel
theorem dL_hangs_1273 : decode cL_hangs 1273 = .ok (.iload 13, 2) := by decide +kernel
theorem dL_hangs_1275 : decode cL_hangs 1275 = .ok (.bipush 6, 2) := by decide +kernel
theorem dL_hangs_1277 : decode cL_hangs 1277 = .ok (.if_icmp .ge 51, 3) := by decide +kernel
theorem dL_hangs_1280 : decode cL_hangs 1280 = .ok (.aload_n 0, 1) := by decide +kernel
theorem dL_hangs_1281 : decode cL_hangs 1281 = .ok (.iload 13, 2) := by decide +kernel
theorem dL_hangs_1283 : decode cL_hangs 1283 = .ok (.iconst 0, 1) := by decide +kernel
theorem dL_hangs_1284 : decode cL_hangs 1284 = .ok (.iconst 3, 1) := by decide +kernel
theorem dL_hangs_1285 : decode cL_hangs 1285 = .ok (.invokevirtual 52, 3) := by decide +kernel
theorem dL_hangs_1288 : decode cL_hangs 1288 = .ok (.bipush (-5), 2) := by decide +kernel
theorem dL_hangs_1290 : decode cL_hangs 1290 = .ok (.if_icmp .ne 38, 3) := by decide +kernel
theorem dL_hangs_1293 : decode cL_hangs 1293 = .ok (.aload_n 0, 1) := by decide +kernel
theorem dL_hangs_1294 : decode cL_hangs 1294 = .ok (.bipush 40, 2) := by decide +kernel
theorem dL_hangs_1296 : decode cL_hangs 1296 = .ok (.iconst 1, 1) := by decide +kernel
theorem dL_hangs_1297 : decode cL_hangs 1297 = .ok (.invokevirtual 76, 3) := by decide +kernel
theorem dL_hangs_1300 : decode cL_hangs 1300 = .ok (.bipush 19, 2) := by decide +kernel
theorem dL_hangs_1302 : decode cL_hangs 1302 = .ok (.if_icmp .lt 26, 3) := by decide +kernel
theorem dL_hangs_1305 : decode cL_hangs 1305 = .ok (.aload_n 0, 1) := by decide +kernel
theorem dL_hangs_1306 : decode cL_hangs 1306 = .ok (.bipush 13, 2) := by decide +kernel
theorem dL_hangs_1308 : decode cL_hangs 1308 = .ok (.invokevirtual 9, 3) := by decide +kernel
theorem dL_hangs_1311 : decode cL_hangs 1311 = .ok (.ifCond .lt 17, 3) := by decide +kernel
theorem dL_hangs_1314 : decode cL_hangs 1314 = .ok (.aload_n 0, 1) := by decide +kernel
theorem dL_hangs_1315 : decode cL_hangs 1315 = .ok (.bipush 13, 2) := by decide +kernel
theorem dL_hangs_1317 : decode cL_hangs 1317 = .ok (.invokevirtual 9, 3) := by decide +kernel
theorem dL_hangs_1320 : decode cL_hangs 1320 = .ok (.iconst 5, 1) := by decide +kernel
theorem dL_hangs_1321 : decode cL_hangs 1321 = .ok (.if_icmp .ge 7, 3) := by decide +kernel
theorem dL_hangs_1324 : decode cL_hangs 1324 = .ok (.iconst 1, 1) := by decide +kernel
theorem dL_hangs_1325 : decode cL_hangs 1325 = .ok (.goto 4, 3) := by decide +kernel
theorem dL_hangs_1328 : decode cL_hangs 1328 = .ok (.iconst 0, 1) := by decide +kernel
theorem dL_hangs_1329 : decode cL_hangs 1329 = .ok (.ireturn, 1) := by decide +kernel
theorem dL_cell_0 : decode cL_cell 0 = .ok (.iload_n 1, 1) := by decide +kernel
theorem dL_cell_1 : decode cL_cell 1 = .ok (.aload_n 0, 1) := by decide +kernel
theorem dL_cell_2 : decode cL_cell 2 = .ok (.arraylength, 1) := by decide +kernel
theorem dL_cell_3 : decode cL_cell 3 = .ok (.if_icmp .ge 9, 3) := by decide +kernel
theorem dL_cell_6 : decode cL_cell 6 = .ok (.aload_n 0, 1) := by decide +kernel
theorem dL_cell_7 : decode cL_cell 7 = .ok (.iload_n 1, 1) := by decide +kernel
theorem dL_cell_8 : decode cL_cell 8 = .ok (.iaload, 1) := by decide +kernel
theorem dL_cell_9 : decode cL_cell 9 = .ok (.goto 13, 3) := by decide +kernel
theorem dL_cell_12 : decode cL_cell 12 = .ok (.ldc 7, 2) := by decide +kernel
theorem dL_cell_14 : decode cL_cell 14 = .ok (.iload_n 1, 1) := by decide +kernel
theorem dL_cell_15 : decode cL_cell 15 = .ok (.bipush 71, 2) := by decide +kernel
theorem dL_cell_17 : decode cL_cell 17 = .ok (.iadd, 1) := by decide +kernel
theorem dL_cell_18 : decode cL_cell 18 = .ok (.imul, 1) := by decide +kernel
theorem dL_cell_19 : decode cL_cell 19 = .ok (.bipush 107, 2) := by decide +kernel
theorem dL_cell_21 : decode cL_cell 21 = .ok (.iadd, 1) := by decide +kernel
theorem dL_cell_22 : decode cL_cell 22 = .ok (.ldc 8, 2) := by decide +kernel
theorem dL_cell_24 : decode cL_cell 24 = .ok (.iand, 1) := by decide +kernel
theorem dL_cell_25 : decode cL_cell 25 = .ok (.ireturn, 1) := by decide +kernel
theorem dL_same_0 : decode cL_same 0 = .ok (.iconst 1, 1) := by decide +kernel
theorem dL_same_1 : decode cL_same 1 = .ok (.istore_n 2, 1) := by decide +kernel
theorem dL_same_2 : decode cL_same 2 = .ok (.iconst 0, 1) := by decide +kernel
theorem dL_same_3 : decode cL_same 3 = .ok (.istore_n 3, 1) := by decide +kernel
theorem dL_same_4 : decode cL_same 4 = .ok (.iload_n 3, 1) := by decide +kernel
theorem dL_same_5 : decode cL_same 5 = .ok (.bipush 15, 2) := by decide +kernel
theorem dL_same_7 : decode cL_same 7 = .ok (.if_icmp .ge 38, 3) := by decide +kernel
theorem dL_same_10 : decode cL_same 10 = .ok (.iload_n 2, 1) := by decide +kernel
theorem dL_same_11 : decode cL_same 11 = .ok (.ifCond .eq 34, 3) := by decide +kernel
theorem dL_same_14 : decode cL_same 14 = .ok (.iload_n 3, 1) := by decide +kernel
theorem dL_same_15 : decode cL_same 15 = .ok (.bipush 14, 2) := by decide +kernel
theorem dL_same_17 : decode cL_same 17 = .ok (.if_icmp .eq 16, 3) := by decide +kernel
theorem dL_same_20 : decode cL_same 20 = .ok (.aload_n 0, 1) := by decide +kernel
theorem dL_same_21 : decode cL_same 21 = .ok (.iload_n 3, 1) := by decide +kernel
theorem dL_same_22 : decode cL_same 22 = .ok (.invokevirtual 9, 3) := by decide +kernel
theorem dL_same_25 : decode cL_same 25 = .ok (.aload_n 1, 1) := by decide +kernel
theorem dL_same_26 : decode cL_same 26 = .ok (.iload_n 3, 1) := by decide +kernel
theorem dL_same_27 : decode cL_same 27 = .ok (.invokevirtual 9, 3) := by decide +kernel
theorem dL_same_30 : decode cL_same 30 = .ok (.if_icmp .ne 7, 3) := by decide +kernel
theorem dL_same_33 : decode cL_same 33 = .ok (.iconst 1, 1) := by decide +kernel
theorem dL_same_34 : decode cL_same 34 = .ok (.goto 4, 3) := by decide +kernel
theorem dL_same_37 : decode cL_same 37 = .ok (.iconst 0, 1) := by decide +kernel
theorem dL_same_38 : decode cL_same 38 = .ok (.istore_n 2, 1) := by decide +kernel
theorem dL_same_39 : decode cL_same 39 = .ok (.iinc 3 1, 3) := by decide +kernel
theorem dL_same_42 : decode cL_same 42 = .ok (.goto (-38), 3) := by decide +kernel
theorem dL_same_45 : decode cL_same 45 = .ok (.iconst 0, 1) := by decide +kernel
theorem dL_same_46 : decode cL_same 46 = .ok (.istore_n 3, 1) := by decide +kernel
theorem dL_same_47 : decode cL_same 47 = .ok (.iload_n 3, 1) := by decide +kernel
theorem dL_same_48 : decode cL_same 48 = .ok (.bipush 8, 2) := by decide +kernel
theorem dL_same_50 : decode cL_same 50 = .ok (.if_icmp .ge 56, 3) := by decide +kernel
theorem dL_same_53 : decode cL_same 53 = .ok (.iload_n 2, 1) := by decide +kernel
theorem dL_same_54 : decode cL_same 54 = .ok (.ifCond .eq 52, 3) := by decide +kernel
theorem dL_same_57 : decode cL_same 57 = .ok (.iconst 0, 1) := by decide +kernel
theorem dL_same_58 : decode cL_same 58 = .ok (.istore 4, 2) := by decide +kernel
theorem dL_same_60 : decode cL_same 60 = .ok (.iload 4, 2) := by decide +kernel
theorem dL_same_62 : decode cL_same 62 = .ok (.bipush 10, 2) := by decide +kernel
theorem dL_same_64 : decode cL_same 64 = .ok (.if_icmp .ge 36, 3) := by decide +kernel
theorem dL_same_67 : decode cL_same 67 = .ok (.iload_n 2, 1) := by decide +kernel
theorem dL_same_68 : decode cL_same 68 = .ok (.ifCond .eq 32, 3) := by decide +kernel
theorem dL_same_71 : decode cL_same 71 = .ok (.aload_n 0, 1) := by decide +kernel
theorem dL_same_72 : decode cL_same 72 = .ok (.iload_n 3, 1) := by decide +kernel
theorem dL_same_73 : decode cL_same 73 = .ok (.iload 4, 2) := by decide +kernel
theorem dL_same_75 : decode cL_same 75 = .ok (.invokevirtual 55, 3) := by decide +kernel
theorem dL_same_78 : decode cL_same 78 = .ok (.aload_n 1, 1) := by decide +kernel
theorem dL_same_79 : decode cL_same 79 = .ok (.iload_n 3, 1) := by decide +kernel
theorem dL_same_80 : decode cL_same 80 = .ok (.iload 4, 2) := by decide +kernel
theorem dL_same_82 : decode cL_same 82 = .ok (.invokevirtual 55, 3) := by decide +kernel
theorem dL_same_85 : decode cL_same 85 = .ok (.if_icmp .ne 7, 3) := by decide +kernel
theorem dL_same_88 : decode cL_same 88 = .ok (.iconst 1, 1) := by decide +kernel
theorem dL_same_89 : decode cL_same 89 = .ok (.goto 4, 3) := by decide +kernel
theorem dL_same_92 : decode cL_same 92 = .ok (.iconst 0, 1) := by decide +kernel
theorem dL_same_93 : decode cL_same 93 = .ok (.istore_n 2, 1) := by decide +kernel
theorem dL_same_94 : decode cL_same 94 = .ok (.iinc 4 1, 3) := by decide +kernel
theorem dL_same_97 : decode cL_same 97 = .ok (.goto (-37), 3) := by decide +kernel
theorem dL_same_100 : decode cL_same 100 = .ok (.iinc 3 1, 3) := by decide +kernel
theorem dL_same_103 : decode cL_same 103 = .ok (.goto (-56), 3) := by decide +kernel
theorem dL_same_106 : decode cL_same 106 = .ok (.iconst 0, 1) := by decide +kernel
theorem dL_same_107 : decode cL_same 107 = .ok (.istore_n 3, 1) := by decide +kernel
theorem dL_same_108 : decode cL_same 108 = .ok (.iload_n 3, 1) := by decide +kernel
theorem dL_same_109 : decode cL_same 109 = .ok (.bipush 120, 2) := by decide +kernel
theorem dL_same_111 : decode cL_same 111 = .ok (.if_icmp .ge 106, 3) := by decide +kernel
theorem dL_same_114 : decode cL_same 114 = .ok (.iload_n 2, 1) := by decide +kernel
theorem dL_same_115 : decode cL_same 115 = .ok (.ifCond .eq 102, 3) := by decide +kernel
theorem dL_same_118 : decode cL_same 118 = .ok (.aload_n 0, 1) := by decide +kernel
theorem dL_same_119 : decode cL_same 119 = .ok (.iload_n 3, 1) := by decide +kernel
theorem dL_same_120 : decode cL_same 120 = .ok (.bipush 6, 2) := by decide +kernel
theorem dL_same_122 : decode cL_same 122 = .ok (.irem, 1) := by decide +kernel
theorem dL_same_123 : decode cL_same 123 = .ok (.iload_n 3, 1) := by decide +kernel
theorem dL_same_124 : decode cL_same 124 = .ok (.bipush 6, 2) := by decide +kernel
theorem dL_same_126 : decode cL_same 126 = .ok (.idiv, 1) := by decide +kernel
theorem dL_same_127 : decode cL_same 127 = .ok (.iconst 0, 1) := by decide +kernel
theorem dL_same_128 : decode cL_same 128 = .ok (.invokevirtual 52, 3) := by decide +kernel
theorem dL_same_131 : decode cL_same 131 = .ok (.aload_n 1, 1) := by decide +kernel
theorem dL_same_132 : decode cL_same 132 = .ok (.iload_n 3, 1) := by decide +kernel
theorem dL_same_133 : decode cL_same 133 = .ok (.bipush 6, 2) := by decide +kernel
theorem dL_same_135 : decode cL_same 135 = .ok (.irem, 1) := by decide +kernel
theorem dL_same_136 : decode cL_same 136 = .ok (.iload_n 3, 1) := by decide +kernel
theorem dL_same_137 : decode cL_same 137 = .ok (.bipush 6, 2) := by decide +kernel
theorem dL_same_139 : decode cL_same 139 = .ok (.idiv, 1) := by decide +kernel
theorem dL_same_140 : decode cL_same 140 = .ok (.iconst 0, 1) := by decide +kernel
theorem dL_same_141 : decode cL_same 141 = .ok (.invokevirtual 52, 3) := by decide +kernel
theorem dL_same_144 : decode cL_same 144 = .ok (.if_icmp .ne 65, 3) := by decide +kernel
theorem dL_same_147 : decode cL_same 147 = .ok (.aload_n 0, 1) := by decide +kernel
theorem dL_same_148 : decode cL_same 148 = .ok (.iload_n 3, 1) := by decide +kernel
theorem dL_same_149 : decode cL_same 149 = .ok (.bipush 6, 2) := by decide +kernel
theorem dL_same_151 : decode cL_same 151 = .ok (.irem, 1) := by decide +kernel
theorem dL_same_152 : decode cL_same 152 = .ok (.iload_n 3, 1) := by decide +kernel
theorem dL_same_153 : decode cL_same 153 = .ok (.bipush 6, 2) := by decide +kernel
theorem dL_same_155 : decode cL_same 155 = .ok (.idiv, 1) := by decide +kernel
theorem dL_same_156 : decode cL_same 156 = .ok (.iconst 1, 1) := by decide +kernel
theorem dL_same_157 : decode cL_same 157 = .ok (.invokevirtual 52, 3) := by decide +kernel
theorem dL_same_160 : decode cL_same 160 = .ok (.aload_n 1, 1) := by decide +kernel
theorem dL_same_161 : decode cL_same 161 = .ok (.iload_n 3, 1) := by decide +kernel
theorem dL_same_162 : decode cL_same 162 = .ok (.bipush 6, 2) := by decide +kernel
theorem dL_same_164 : decode cL_same 164 = .ok (.irem, 1) := by decide +kernel
theorem dL_same_165 : decode cL_same 165 = .ok (.iload_n 3, 1) := by decide +kernel
theorem dL_same_166 : decode cL_same 166 = .ok (.bipush 6, 2) := by decide +kernel
theorem dL_same_168 : decode cL_same 168 = .ok (.idiv, 1) := by decide +kernel
theorem dL_same_169 : decode cL_same 169 = .ok (.iconst 1, 1) := by decide +kernel
theorem dL_same_170 : decode cL_same 170 = .ok (.invokevirtual 52, 3) := by decide +kernel
theorem dL_same_173 : decode cL_same 173 = .ok (.if_icmp .ne 36, 3) := by decide +kernel
theorem dL_same_176 : decode cL_same 176 = .ok (.aload_n 0, 1) := by decide +kernel
theorem dL_same_177 : decode cL_same 177 = .ok (.iload_n 3, 1) := by decide +kernel
theorem dL_same_178 : decode cL_same 178 = .ok (.bipush 6, 2) := by decide +kernel
theorem dL_same_180 : decode cL_same 180 = .ok (.irem, 1) := by decide +kernel
theorem dL_same_181 : decode cL_same 181 = .ok (.iload_n 3, 1) := by decide +kernel
theorem dL_same_182 : decode cL_same 182 = .ok (.bipush 6, 2) := by decide +kernel
theorem dL_same_184 : decode cL_same 184 = .ok (.idiv, 1) := by decide +kernel
theorem dL_same_185 : decode cL_same 185 = .ok (.iconst 2, 1) := by decide +kernel
theorem dL_same_186 : decode cL_same 186 = .ok (.invokevirtual 52, 3) := by decide +kernel
theorem dL_same_189 : decode cL_same 189 = .ok (.aload_n 1, 1) := by decide +kernel
theorem dL_same_190 : decode cL_same 190 = .ok (.iload_n 3, 1) := by decide +kernel
theorem dL_same_191 : decode cL_same 191 = .ok (.bipush 6, 2) := by decide +kernel
theorem dL_same_193 : decode cL_same 193 = .ok (.irem, 1) := by decide +kernel
theorem dL_same_194 : decode cL_same 194 = .ok (.iload_n 3, 1) := by decide +kernel
theorem dL_same_195 : decode cL_same 195 = .ok (.bipush 6, 2) := by decide +kernel
theorem dL_same_197 : decode cL_same 197 = .ok (.idiv, 1) := by decide +kernel
theorem dL_same_198 : decode cL_same 198 = .ok (.iconst 2, 1) := by decide +kernel
theorem dL_same_199 : decode cL_same 199 = .ok (.invokevirtual 52, 3) := by decide +kernel
theorem dL_same_202 : decode cL_same 202 = .ok (.if_icmp .ne 7, 3) := by decide +kernel
theorem dL_same_205 : decode cL_same 205 = .ok (.iconst 1, 1) := by decide +kernel
theorem dL_same_206 : decode cL_same 206 = .ok (.goto 4, 3) := by decide +kernel
theorem dL_same_209 : decode cL_same 209 = .ok (.iconst 0, 1) := by decide +kernel
theorem dL_same_210 : decode cL_same 210 = .ok (.istore_n 2, 1) := by decide +kernel
theorem dL_same_211 : decode cL_same 211 = .ok (.iinc 3 1, 3) := by decide +kernel
theorem dL_same_214 : decode cL_same 214 = .ok (.goto (-106), 3) := by decide +kernel
theorem dL_same_217 : decode cL_same 217 = .ok (.iload_n 2, 1) := by decide +kernel
theorem dL_same_218 : decode cL_same 218 = .ok (.ifCond .eq 33, 3) := by decide +kernel
theorem dL_same_221 : decode cL_same 221 = .ok (.aload_n 0, 1) := by decide +kernel
theorem dL_same_222 : decode cL_same 222 = .ok (.iconst 0, 1) := by decide +kernel
theorem dL_same_223 : decode cL_same 223 = .ok (.invokevirtual 79, 3) := by decide +kernel
theorem dL_same_226 : decode cL_same 226 = .ok (.aload_n 1, 1) := by decide +kernel
theorem dL_same_227 : decode cL_same 227 = .ok (.iconst 0, 1) := by decide +kernel
theorem dL_same_228 : decode cL_same 228 = .ok (.invokevirtual 79, 3) := by decide +kernel
theorem dL_same_231 : decode cL_same 231 = .ok (.if_icmp .ne 20, 3) := by decide +kernel
theorem dL_same_234 : decode cL_same 234 = .ok (.aload_n 0, 1) := by decide +kernel
theorem dL_same_235 : decode cL_same 235 = .ok (.iconst 1, 1) := by decide +kernel
theorem dL_same_236 : decode cL_same 236 = .ok (.invokevirtual 79, 3) := by decide +kernel
theorem dL_same_239 : decode cL_same 239 = .ok (.aload_n 1, 1) := by decide +kernel
theorem dL_same_240 : decode cL_same 240 = .ok (.iconst 1, 1) := by decide +kernel
theorem dL_same_241 : decode cL_same 241 = .ok (.invokevirtual 79, 3) := by decide +kernel
theorem dL_same_244 : decode cL_same 244 = .ok (.if_icmp .ne 7, 3) := by decide +kernel
theorem dL_same_247 : decode cL_same 247 = .ok (.iconst 1, 1) := by decide +kernel
theorem dL_same_248 : decode cL_same 248 = .ok (.goto 4, 3) := by decide +kernel
theorem dL_same_251 : decode cL_same 251 = .ok (.iconst 0, 1) := by decide +kernel
theorem dL_same_252 : decode cL_same 252 = .ok (.ireturn, 1) := by decide +kernel
theorem dL_refuses_0 : decode cL_refuses 0 = .ok (.iload_n 1, 1) := by decide +kernel
theorem dL_refuses_1 : decode cL_refuses 1 = .ok (.iconst 2, 1) := by decide +kernel
theorem dL_refuses_2 : decode cL_refuses 2 = .ok (.irem, 1) := by decide +kernel
theorem dL_refuses_3 : decode cL_refuses 3 = .ok (.ifCond .ne 10, 3) := by decide +kernel
theorem dL_refuses_6 : decode cL_refuses 6 = .ok (.bipush 6, 2) := by decide +kernel
theorem dL_refuses_8 : decode cL_refuses 8 = .ok (.iload_n 1, 1) := by decide +kernel
theorem dL_refuses_9 : decode cL_refuses 9 = .ok (.iadd, 1) := by decide +kernel
theorem dL_refuses_10 : decode cL_refuses 10 = .ok (.goto 6, 3) := by decide +kernel
theorem dL_refuses_13 : decode cL_refuses 13 = .ok (.iconst (-1), 1) := by decide +kernel
theorem dL_refuses_14 : decode cL_refuses 14 = .ok (.iload_n 1, 1) := by decide +kernel
theorem dL_refuses_15 : decode cL_refuses 15 = .ok (.isub, 1) := by decide +kernel
theorem dL_refuses_16 : decode cL_refuses 16 = .ok (.istore_n 2, 1) := by decide +kernel
theorem dL_refuses_17 : decode cL_refuses 17 = .ok (.aload_n 0, 1) := by decide +kernel
theorem dL_refuses_18 : decode cL_refuses 18 = .ok (.iconst 1, 1) := by decide +kernel
theorem dL_refuses_19 : decode cL_refuses 19 = .ok (.invokevirtual 9, 3) := by decide +kernel
theorem dL_refuses_22 : decode cL_refuses 22 = .ok (.istore_n 3, 1) := by decide +kernel
theorem dL_refuses_23 : decode cL_refuses 23 = .ok (.iload_n 1, 1) := by decide +kernel
theorem dL_refuses_24 : decode cL_refuses 24 = .ok (.iconst 2, 1) := by decide +kernel
theorem dL_refuses_25 : decode cL_refuses 25 = .ok (.irem, 1) := by decide +kernel
theorem dL_refuses_26 : decode cL_refuses 26 = .ok (.ifCond .ne 9, 3) := by decide +kernel
theorem dL_refuses_29 : decode cL_refuses 29 = .ok (.iload_n 3, 1) := by decide +kernel
theorem dL_refuses_30 : decode cL_refuses 30 = .ok (.iload_n 1, 1) := by decide +kernel
theorem dL_refuses_31 : decode cL_refuses 31 = .ok (.iadd, 1) := by decide +kernel
theorem dL_refuses_32 : decode cL_refuses 32 = .ok (.goto 6, 3) := by decide +kernel
theorem dL_refuses_35 : decode cL_refuses 35 = .ok (.iconst (-1), 1) := by decide +kernel
theorem dL_refuses_36 : decode cL_refuses 36 = .ok (.iload_n 1, 1) := by decide +kernel
theorem dL_refuses_37 : decode cL_refuses 37 = .ok (.isub, 1) := by decide +kernel
theorem dL_refuses_38 : decode cL_refuses 38 = .ok (.istore 4, 2) := by decide +kernel
theorem dL_refuses_40 : decode cL_refuses 40 = .ok (.aload_n 0, 1) := by decide +kernel
theorem dL_refuses_41 : decode cL_refuses 41 = .ok (.iload_n 2, 1) := by decide +kernel
theorem dL_refuses_42 : decode cL_refuses 42 = .ok (.iconst 5, 1) := by decide +kernel
theorem dL_refuses_43 : decode cL_refuses 43 = .ok (.invokevirtual 15, 3) := by decide +kernel
theorem dL_refuses_46 : decode cL_refuses 46 = .ok (.iconst (-1), 1) := by decide +kernel
theorem dL_refuses_47 : decode cL_refuses 47 = .ok (.if_icmp .ne 327, 3) := by decide +kernel
theorem dL_refuses_50 : decode cL_refuses 50 = .ok (.aload_n 0, 1) := by decide +kernel
theorem dL_refuses_51 : decode cL_refuses 51 = .ok (.iconst 0, 1) := by decide +kernel
theorem dL_refuses_52 : decode cL_refuses 52 = .ok (.bipush 100, 2) := by decide +kernel
theorem dL_refuses_54 : decode cL_refuses 54 = .ok (.iload_n 1, 1) := by decide +kernel
theorem dL_refuses_55 : decode cL_refuses 55 = .ok (.iadd, 1) := by decide +kernel
theorem dL_refuses_56 : decode cL_refuses 56 = .ok (.invokevirtual 15, 3) := by decide +kernel
theorem dL_refuses_59 : decode cL_refuses 59 = .ok (.bipush (-2), 2) := by decide +kernel
theorem dL_refuses_61 : decode cL_refuses 61 = .ok (.if_icmp .ne 313, 3) := by decide +kernel
theorem dL_refuses_64 : decode cL_refuses 64 = .ok (.aload_n 0, 1) := by decide +kernel
theorem dL_refuses_65 : decode cL_refuses 65 = .ok (.iload 4, 2) := by decide +kernel
theorem dL_refuses_67 : decode cL_refuses 67 = .ok (.invokevirtual 19, 3) := by decide +kernel
theorem dL_refuses_70 : decode cL_refuses 70 = .ok (.iconst (-1), 1) := by decide +kernel
theorem dL_refuses_71 : decode cL_refuses 71 = .ok (.if_icmp .ne 303, 3) := by decide +kernel
theorem dL_refuses_74 : decode cL_refuses 74 = .ok (.aload_n 0, 1) := by decide +kernel
theorem dL_refuses_75 : decode cL_refuses 75 = .ok (.iload_n 2, 1) := by decide +kernel
theorem dL_refuses_76 : decode cL_refuses 76 = .ok (.iconst 0, 1) := by decide +kernel
theorem dL_refuses_77 : decode cL_refuses 77 = .ok (.iconst 0, 1) := by decide +kernel
theorem dL_refuses_78 : decode cL_refuses 78 = .ok (.invokevirtual 22, 3) := by decide +kernel
theorem dL_refuses_81 : decode cL_refuses 81 = .ok (.iconst (-1), 1) := by decide +kernel
theorem dL_refuses_82 : decode cL_refuses 82 = .ok (.if_icmp .ne 292, 3) := by decide +kernel
theorem dL_refuses_85 : decode cL_refuses 85 = .ok (.aload_n 0, 1) := by decide +kernel
theorem dL_refuses_86 : decode cL_refuses 86 = .ok (.iconst 0, 1) := by decide +kernel
theorem dL_refuses_87 : decode cL_refuses 87 = .ok (.bipush 20, 2) := by decide +kernel
theorem dL_refuses_89 : decode cL_refuses 89 = .ok (.iload_n 1, 1) := by decide +kernel
theorem dL_refuses_90 : decode cL_refuses 90 = .ok (.iadd, 1) := by decide +kernel
theorem dL_refuses_91 : decode cL_refuses 91 = .ok (.iconst 0, 1) := by decide +kernel
theorem dL_refuses_92 : decode cL_refuses 92 = .ok (.invokevirtual 22, 3) := by decide +kernel
theorem dL_refuses_95 : decode cL_refuses 95 = .ok (.iconst (-1), 1) := by decide +kernel
theorem dL_refuses_96 : decode cL_refuses 96 = .ok (.if_icmp .ne 278, 3) := by decide +kernel
theorem dL_refuses_99 : decode cL_refuses 99 = .ok (.aload_n 0, 1) := by decide +kernel
theorem dL_refuses_100 : decode cL_refuses 100 = .ok (.iconst 0, 1) := by decide +kernel
theorem dL_refuses_101 : decode cL_refuses 101 = .ok (.iconst 0, 1) := by decide +kernel
theorem dL_refuses_102 : decode cL_refuses 102 = .ok (.bipush 10, 2) := by decide +kernel
theorem dL_refuses_104 : decode cL_refuses 104 = .ok (.iload_n 1, 1) := by decide +kernel
theorem dL_refuses_105 : decode cL_refuses 105 = .ok (.iadd, 1) := by decide +kernel
theorem dL_refuses_106 : decode cL_refuses 106 = .ok (.invokevirtual 22, 3) := by decide +kernel
theorem dL_refuses_109 : decode cL_refuses 109 = .ok (.bipush (-2), 2) := by decide +kernel
theorem dL_refuses_111 : decode cL_refuses 111 = .ok (.if_icmp .ne 263, 3) := by decide +kernel
theorem dL_refuses_114 : decode cL_refuses 114 = .ok (.aload_n 0, 1) := by decide +kernel
theorem dL_refuses_115 : decode cL_refuses 115 = .ok (.iconst 4, 1) := by decide +kernel
theorem dL_refuses_116 : decode cL_refuses 116 = .ok (.iload_n 1, 1) := by decide +kernel
theorem dL_refuses_117 : decode cL_refuses 117 = .ok (.iadd, 1) := by decide +kernel
theorem dL_refuses_118 : decode cL_refuses 118 = .ok (.iconst 1, 1) := by decide +kernel
theorem dL_refuses_119 : decode cL_refuses 119 = .ok (.invokevirtual 26, 3) := by decide +kernel
theorem dL_refuses_122 : decode cL_refuses 122 = .ok (.iconst (-1), 1) := by decide +kernel
theorem dL_refuses_123 : decode cL_refuses 123 = .ok (.if_icmp .ne 251, 3) := by decide +kernel
theorem dL_refuses_126 : decode cL_refuses 126 = .ok (.aload_n 0, 1) := by decide +kernel
theorem dL_refuses_127 : decode cL_refuses 127 = .ok (.iconst 0, 1) := by decide +kernel
theorem dL_refuses_128 : decode cL_refuses 128 = .ok (.bipush 100, 2) := by decide +kernel
theorem dL_refuses_130 : decode cL_refuses 130 = .ok (.iload_n 1, 1) := by decide +kernel
theorem dL_refuses_131 : decode cL_refuses 131 = .ok (.iadd, 1) := by decide +kernel
theorem dL_refuses_132 : decode cL_refuses 132 = .ok (.invokevirtual 26, 3) := by decide +kernel
theorem dL_refuses_135 : decode cL_refuses 135 = .ok (.bipush (-2), 2) := by decide +kernel
theorem dL_refuses_137 : decode cL_refuses 137 = .ok (.if_icmp .ne 237, 3) := by decide +kernel
theorem dL_refuses_140 : decode cL_refuses 140 = .ok (.aload_n 0, 1) := by decide +kernel
theorem dL_refuses_141 : decode cL_refuses 141 = .ok (.iconst 1, 1) := by decide +kernel
theorem dL_refuses_142 : decode cL_refuses 142 = .ok (.iconst 0, 1) := by decide +kernel
theorem dL_refuses_143 : decode cL_refuses 143 = .ok (.invokevirtual 26, 3) := by decide +kernel
theorem dL_refuses_146 : decode cL_refuses 146 = .ok (.bipush (-2), 2) := by decide +kernel
theorem dL_refuses_148 : decode cL_refuses 148 = .ok (.if_icmp .ne 226, 3) := by decide +kernel
theorem dL_refuses_151 : decode cL_refuses 151 = .ok (.aload_n 0, 1) := by decide +kernel
theorem dL_refuses_152 : decode cL_refuses 152 = .ok (.iconst 2, 1) := by decide +kernel
theorem dL_refuses_153 : decode cL_refuses 153 = .ok (.aload_n 0, 1) := by decide +kernel
theorem dL_refuses_154 : decode cL_refuses 154 = .ok (.bipush 11, 2) := by decide +kernel
theorem dL_refuses_156 : decode cL_refuses 156 = .ok (.invokevirtual 9, 3) := by decide +kernel
theorem dL_refuses_159 : decode cL_refuses 159 = .ok (.invokevirtual 26, 3) := by decide +kernel
theorem dL_refuses_162 : decode cL_refuses 162 = .ok (.bipush (-5), 2) := by decide +kernel
theorem dL_refuses_164 : decode cL_refuses 164 = .ok (.if_icmp .ne 210, 3) := by decide +kernel
theorem dL_refuses_167 : decode cL_refuses 167 = .ok (.aload_n 0, 1) := by decide +kernel
theorem dL_refuses_168 : decode cL_refuses 168 = .ok (.iconst 0, 1) := by decide +kernel
theorem dL_refuses_169 : decode cL_refuses 169 = .ok (.invokevirtual 49, 3) := by decide +kernel
theorem dL_refuses_172 : decode cL_refuses 172 = .ok (.bipush (-2), 2) := by decide +kernel
theorem dL_refuses_174 : decode cL_refuses 174 = .ok (.if_icmp .ne 200, 3) := by decide +kernel
theorem dL_refuses_177 : decode cL_refuses 177 = .ok (.aload_n 0, 1) := by decide +kernel
theorem dL_refuses_178 : decode cL_refuses 178 = .ok (.bipush 100, 2) := by decide +kernel
theorem dL_refuses_180 : decode cL_refuses 180 = .ok (.iload_n 1, 1) := by decide +kernel
theorem dL_refuses_181 : decode cL_refuses 181 = .ok (.iadd, 1) := by decide +kernel
theorem dL_refuses_182 : decode cL_refuses 182 = .ok (.invokevirtual 49, 3) := by decide +kernel
theorem dL_refuses_185 : decode cL_refuses 185 = .ok (.bipush (-2), 2) := by decide +kernel
theorem dL_refuses_187 : decode cL_refuses 187 = .ok (.if_icmp .ne 187, 3) := by decide +kernel
theorem dL_refuses_190 : decode cL_refuses 190 = .ok (.aload_n 0, 1) := by decide +kernel
theorem dL_refuses_191 : decode cL_refuses 191 = .ok (.iconst 2, 1) := by decide +kernel
theorem dL_refuses_192 : decode cL_refuses 192 = .ok (.iload_n 1, 1) := by decide +kernel
theorem dL_refuses_193 : decode cL_refuses 193 = .ok (.iadd, 1) := by decide +kernel
theorem dL_refuses_194 : decode cL_refuses 194 = .ok (.invokevirtual 79, 3) := by decide +kernel
theorem dL_refuses_197 : decode cL_refuses 197 = .ok (.bipush (-2), 2) := by decide +kernel
theorem dL_refuses_199 : decode cL_refuses 199 = .ok (.if_icmp .ne 175, 3) := by decide +kernel
theorem dL_refuses_202 : decode cL_refuses 202 = .ok (.aload_n 0, 1) := by decide +kernel
theorem dL_refuses_203 : decode cL_refuses 203 = .ok (.iload 4, 2) := by decide +kernel
theorem dL_refuses_205 : decode cL_refuses 205 = .ok (.iconst 0, 1) := by decide +kernel
theorem dL_refuses_206 : decode cL_refuses 206 = .ok (.invokevirtual 55, 3) := by decide +kernel
theorem dL_refuses_209 : decode cL_refuses 209 = .ok (.iconst (-1), 1) := by decide +kernel
theorem dL_refuses_210 : decode cL_refuses 210 = .ok (.if_icmp .ne 164, 3) := by decide +kernel
theorem dL_refuses_213 : decode cL_refuses 213 = .ok (.aload_n 0, 1) := by decide +kernel
theorem dL_refuses_214 : decode cL_refuses 214 = .ok (.iload_n 2, 1) := by decide +kernel
theorem dL_refuses_215 : decode cL_refuses 215 = .ok (.iconst 0, 1) := by decide +kernel
theorem dL_refuses_216 : decode cL_refuses 216 = .ok (.iconst 0, 1) := by decide +kernel
theorem dL_refuses_217 : decode cL_refuses 217 = .ok (.invokevirtual 52, 3) := by decide +kernel
theorem dL_refuses_220 : decode cL_refuses 220 = .ok (.iconst (-1), 1) := by decide +kernel
theorem dL_refuses_221 : decode cL_refuses 221 = .ok (.if_icmp .ne 153, 3) := by decide +kernel
theorem dL_refuses_224 : decode cL_refuses 224 = .ok (.aload_n 0, 1) := by decide +kernel
theorem dL_refuses_225 : decode cL_refuses 225 = .ok (.iconst 0, 1) := by decide +kernel
theorem dL_refuses_226 : decode cL_refuses 226 = .ok (.iconst 0, 1) := by decide +kernel
theorem dL_refuses_227 : decode cL_refuses 227 = .ok (.iconst 4, 1) := by decide +kernel
theorem dL_refuses_228 : decode cL_refuses 228 = .ok (.iload_n 1, 1) := by decide +kernel
theorem dL_refuses_229 : decode cL_refuses 229 = .ok (.iadd, 1) := by decide +kernel
theorem dL_refuses_230 : decode cL_refuses 230 = .ok (.invokevirtual 52, 3) := by decide +kernel
theorem dL_refuses_233 : decode cL_refuses 233 = .ok (.bipush (-2), 2) := by decide +kernel
theorem dL_refuses_235 : decode cL_refuses 235 = .ok (.if_icmp .ne 139, 3) := by decide +kernel
theorem dL_refuses_238 : decode cL_refuses 238 = .ok (.aload_n 0, 1) := by decide +kernel
theorem dL_refuses_239 : decode cL_refuses 239 = .ok (.iload 4, 2) := by decide +kernel
theorem dL_refuses_241 : decode cL_refuses 241 = .ok (.iconst 0, 1) := by decide +kernel
theorem dL_refuses_242 : decode cL_refuses 242 = .ok (.invokevirtual 67, 3) := by decide +kernel
theorem dL_refuses_245 : decode cL_refuses 245 = .ok (.iconst (-1), 1) := by decide +kernel
theorem dL_refuses_246 : decode cL_refuses 246 = .ok (.if_icmp .ne 128, 3) := by decide +kernel
theorem dL_refuses_249 : decode cL_refuses 249 = .ok (.aload_n 0, 1) := by decide +kernel
theorem dL_refuses_250 : decode cL_refuses 250 = .ok (.iload 4, 2) := by decide +kernel
theorem dL_refuses_252 : decode cL_refuses 252 = .ok (.invokevirtual 61, 3) := by decide +kernel
theorem dL_refuses_255 : decode cL_refuses 255 = .ok (.iconst (-1), 1) := by decide +kernel
theorem dL_refuses_256 : decode cL_refuses 256 = .ok (.if_icmp .ne 118, 3) := by decide +kernel
theorem dL_refuses_259 : decode cL_refuses 259 = .ok (.aload_n 0, 1) := by decide +kernel
theorem dL_refuses_260 : decode cL_refuses 260 = .ok (.iload 4, 2) := by decide +kernel
theorem dL_refuses_262 : decode cL_refuses 262 = .ok (.iconst 0, 1) := by decide +kernel
theorem dL_refuses_263 : decode cL_refuses 263 = .ok (.iconst 0, 1) := by decide +kernel
theorem dL_refuses_264 : decode cL_refuses 264 = .ok (.invokevirtual 82, 3) := by decide +kernel
theorem dL_refuses_267 : decode cL_refuses 267 = .ok (.iconst (-1), 1) := by decide +kernel
theorem dL_refuses_268 : decode cL_refuses 268 = .ok (.if_icmp .ne 106, 3) := by decide +kernel
theorem dL_refuses_271 : decode cL_refuses 271 = .ok (.aload_n 0, 1) := by decide +kernel
theorem dL_refuses_272 : decode cL_refuses 272 = .ok (.iload 4, 2) := by decide +kernel
theorem dL_refuses_274 : decode cL_refuses 274 = .ok (.invokevirtual 70, 3) := by decide +kernel
theorem dL_refuses_277 : decode cL_refuses 277 = .ok (.iconst (-1), 1) := by decide +kernel
theorem dL_refuses_278 : decode cL_refuses 278 = .ok (.if_icmp .ne 96, 3) := by decide +kernel
theorem dL_refuses_281 : decode cL_refuses 281 = .ok (.aload_n 0, 1) := by decide +kernel
theorem dL_refuses_282 : decode cL_refuses 282 = .ok (.iload_n 2, 1) := by decide +kernel
theorem dL_refuses_283 : decode cL_refuses 283 = .ok (.iconst 0, 1) := by decide +kernel
theorem dL_refuses_284 : decode cL_refuses 284 = .ok (.iconst 0, 1) := by decide +kernel
theorem dL_refuses_285 : decode cL_refuses 285 = .ok (.invokevirtual 58, 3) := by decide +kernel
theorem dL_refuses_288 : decode cL_refuses 288 = .ok (.iconst (-1), 1) := by decide +kernel
theorem dL_refuses_289 : decode cL_refuses 289 = .ok (.if_icmp .ne 85, 3) := by decide +kernel
theorem dL_refuses_292 : decode cL_refuses 292 = .ok (.aload_n 0, 1) := by decide +kernel
theorem dL_refuses_293 : decode cL_refuses 293 = .ok (.iconst 0, 1) := by decide +kernel
theorem dL_refuses_294 : decode cL_refuses 294 = .ok (.iconst 0, 1) := by decide +kernel
theorem dL_refuses_295 : decode cL_refuses 295 = .ok (.iconst 2, 1) := by decide +kernel
theorem dL_refuses_296 : decode cL_refuses 296 = .ok (.iload_n 1, 1) := by decide +kernel
theorem dL_refuses_297 : decode cL_refuses 297 = .ok (.iadd, 1) := by decide +kernel
theorem dL_refuses_298 : decode cL_refuses 298 = .ok (.invokevirtual 58, 3) := by decide +kernel
theorem dL_refuses_301 : decode cL_refuses 301 = .ok (.bipush (-2), 2) := by decide +kernel
theorem dL_refuses_303 : decode cL_refuses 303 = .ok (.if_icmp .ne 71, 3) := by decide +kernel
theorem dL_refuses_306 : decode cL_refuses 306 = .ok (.aload_n 0, 1) := by decide +kernel
theorem dL_refuses_307 : decode cL_refuses 307 = .ok (.iload 4, 2) := by decide +kernel
theorem dL_refuses_309 : decode cL_refuses 309 = .ok (.iload 4, 2) := by decide +kernel
theorem dL_refuses_311 : decode cL_refuses 311 = .ok (.invokevirtual 64, 3) := by decide +kernel
theorem dL_refuses_314 : decode cL_refuses 314 = .ok (.iconst (-1), 1) := by decide +kernel
theorem dL_refuses_315 : decode cL_refuses 315 = .ok (.if_icmp .ne 59, 3) := by decide +kernel
theorem dL_refuses_318 : decode cL_refuses 318 = .ok (.aload_n 0, 1) := by decide +kernel
theorem dL_refuses_319 : decode cL_refuses 319 = .ok (.bipush 100, 2) := by decide +kernel
theorem dL_refuses_321 : decode cL_refuses 321 = .ok (.iload_n 1, 1) := by decide +kernel
theorem dL_refuses_322 : decode cL_refuses 322 = .ok (.iadd, 1) := by decide +kernel
theorem dL_refuses_323 : decode cL_refuses 323 = .ok (.iconst 0, 1) := by decide +kernel
theorem dL_refuses_324 : decode cL_refuses 324 = .ok (.invokevirtual 76, 3) := by decide +kernel
theorem dL_refuses_327 : decode cL_refuses 327 = .ok (.bipush (-2), 2) := by decide +kernel
theorem dL_refuses_329 : decode cL_refuses 329 = .ok (.if_icmp .ne 45, 3) := by decide +kernel
theorem dL_refuses_332 : decode cL_refuses 332 = .ok (.aload_n 0, 1) := by decide +kernel
theorem dL_refuses_333 : decode cL_refuses 333 = .ok (.iconst 0, 1) := by decide +kernel
theorem dL_refuses_334 : decode cL_refuses 334 = .ok (.iconst 2, 1) := by decide +kernel
theorem dL_refuses_335 : decode cL_refuses 335 = .ok (.iload_n 1, 1) := by decide +kernel
theorem dL_refuses_336 : decode cL_refuses 336 = .ok (.iadd, 1) := by decide +kernel
theorem dL_refuses_337 : decode cL_refuses 337 = .ok (.invokevirtual 76, 3) := by decide +kernel
theorem dL_refuses_340 : decode cL_refuses 340 = .ok (.bipush (-2), 2) := by decide +kernel
theorem dL_refuses_342 : decode cL_refuses 342 = .ok (.if_icmp .ne 32, 3) := by decide +kernel
theorem dL_refuses_345 : decode cL_refuses 345 = .ok (.aload_n 0, 1) := by decide +kernel
theorem dL_refuses_346 : decode cL_refuses 346 = .ok (.bipush 15, 2) := by decide +kernel
theorem dL_refuses_348 : decode cL_refuses 348 = .ok (.iload_n 1, 1) := by decide +kernel
theorem dL_refuses_349 : decode cL_refuses 349 = .ok (.iadd, 1) := by decide +kernel
theorem dL_refuses_350 : decode cL_refuses 350 = .ok (.invokevirtual 9, 3) := by decide +kernel
theorem dL_refuses_353 : decode cL_refuses 353 = .ok (.bipush (-2), 2) := by decide +kernel
theorem dL_refuses_355 : decode cL_refuses 355 = .ok (.if_icmp .ne 19, 3) := by decide +kernel
theorem dL_refuses_358 : decode cL_refuses 358 = .ok (.aload_n 0, 1) := by decide +kernel
theorem dL_refuses_359 : decode cL_refuses 359 = .ok (.iconst (-1), 1) := by decide +kernel
theorem dL_refuses_360 : decode cL_refuses 360 = .ok (.iload_n 1, 1) := by decide +kernel
theorem dL_refuses_361 : decode cL_refuses 361 = .ok (.isub, 1) := by decide +kernel
theorem dL_refuses_362 : decode cL_refuses 362 = .ok (.invokevirtual 9, 3) := by decide +kernel
theorem dL_refuses_365 : decode cL_refuses 365 = .ok (.bipush (-2), 2) := by decide +kernel
theorem dL_refuses_367 : decode cL_refuses 367 = .ok (.if_icmp .ne 7, 3) := by decide +kernel
theorem dL_refuses_370 : decode cL_refuses 370 = .ok (.iconst 1, 1) := by decide +kernel
theorem dL_refuses_371 : decode cL_refuses 371 = .ok (.goto 4, 3) := by decide +kernel
theorem dL_refuses_374 : decode cL_refuses 374 = .ok (.iconst 0, 1) := by decide +kernel
theorem dL_refuses_375 : decode cL_refuses 375 = .ok (.istore 5, 2) := by decide +kernel
theorem dL_refuses_377 : decode cL_refuses 377 = .ok (.aload_n 0, 1) := by decide +kernel
theorem dL_refuses_378 : decode cL_refuses 378 = .ok (.invokevirtual 39, 3) := by decide +kernel
theorem dL_refuses_381 : decode cL_refuses 381 = .ok (.istore 6, 2) := by decide +kernel
theorem dL_refuses_383 : decode cL_refuses 383 = .ok (.iload 5, 2) := by decide +kernel
theorem dL_refuses_385 : decode cL_refuses 385 = .ok (.ifCond .eq 96, 3) := by decide +kernel
theorem dL_refuses_388 : decode cL_refuses 388 = .ok (.iload 6, 2) := by decide +kernel
theorem dL_refuses_390 : decode cL_refuses 390 = .ok (.ifCond .lt 91, 3) := by decide +kernel
theorem dL_refuses_393 : decode cL_refuses 393 = .ok (.aload_n 0, 1) := by decide +kernel
theorem dL_refuses_394 : decode cL_refuses 394 = .ok (.invokevirtual 46, 3) := by decide +kernel
theorem dL_refuses_397 : decode cL_refuses 397 = .ok (.bipush (-100), 2) := by decide +kernel
theorem dL_refuses_399 : decode cL_refuses 399 = .ok (.if_icmp .ne 82, 3) := by decide +kernel
theorem dL_refuses_402 : decode cL_refuses 402 = .ok (.iload_n 3, 1) := by decide +kernel
theorem dL_refuses_403 : decode cL_refuses 403 = .ok (.ifCond .eq 41, 3) := by decide +kernel
theorem dL_refuses_406 : decode cL_refuses 406 = .ok (.aload_n 0, 1) := by decide +kernel
theorem dL_refuses_407 : decode cL_refuses 407 = .ok (.iconst 0, 1) := by decide +kernel
theorem dL_refuses_408 : decode cL_refuses 408 = .ok (.bipush 10, 2) := by decide +kernel
theorem dL_refuses_410 : decode cL_refuses 410 = .ok (.iload_n 1, 1) := by decide +kernel
theorem dL_refuses_411 : decode cL_refuses 411 = .ok (.iadd, 1) := by decide +kernel
theorem dL_refuses_412 : decode cL_refuses 412 = .ok (.invokevirtual 55, 3) := by decide +kernel
theorem dL_refuses_415 : decode cL_refuses 415 = .ok (.bipush (-2), 2) := by decide +kernel
theorem dL_refuses_417 : decode cL_refuses 417 = .ok (.if_icmp .ne 64, 3) := by decide +kernel
theorem dL_refuses_420 : decode cL_refuses 420 = .ok (.aload_n 0, 1) := by decide +kernel
theorem dL_refuses_421 : decode cL_refuses 421 = .ok (.iconst 0, 1) := by decide +kernel
theorem dL_refuses_422 : decode cL_refuses 422 = .ok (.iconst 3, 1) := by decide +kernel
theorem dL_refuses_423 : decode cL_refuses 423 = .ok (.iload_n 1, 1) := by decide +kernel
theorem dL_refuses_424 : decode cL_refuses 424 = .ok (.iadd, 1) := by decide +kernel
theorem dL_refuses_425 : decode cL_refuses 425 = .ok (.invokevirtual 67, 3) := by decide +kernel
theorem dL_refuses_428 : decode cL_refuses 428 = .ok (.bipush (-2), 2) := by decide +kernel
theorem dL_refuses_430 : decode cL_refuses 430 = .ok (.if_icmp .ne 51, 3) := by decide +kernel
theorem dL_refuses_433 : decode cL_refuses 433 = .ok (.aload_n 0, 1) := by decide +kernel
theorem dL_refuses_434 : decode cL_refuses 434 = .ok (.iconst 0, 1) := by decide +kernel
theorem dL_refuses_435 : decode cL_refuses 435 = .ok (.iload_n 2, 1) := by decide +kernel
theorem dL_refuses_436 : decode cL_refuses 436 = .ok (.iconst 0, 1) := by decide +kernel
theorem dL_refuses_437 : decode cL_refuses 437 = .ok (.invokevirtual 82, 3) := by decide +kernel
theorem dL_refuses_440 : decode cL_refuses 440 = .ok (.iconst (-1), 1) := by decide +kernel
theorem dL_refuses_441 : decode cL_refuses 441 = .ok (.if_icmp .ne 40, 3) := by decide +kernel
theorem dL_refuses_444 : decode cL_refuses 444 = .ok (.aload_n 0, 1) := by decide +kernel
theorem dL_refuses_445 : decode cL_refuses 445 = .ok (.iconst 5, 1) := by decide +kernel
theorem dL_refuses_446 : decode cL_refuses 446 = .ok (.bipush 19, 2) := by decide +kernel
theorem dL_refuses_448 : decode cL_refuses 448 = .ok (.iconst 1, 1) := by decide +kernel
theorem dL_refuses_449 : decode cL_refuses 449 = .ok (.invokevirtual 52, 3) := by decide +kernel
theorem dL_refuses_452 : decode cL_refuses 452 = .ok (.bipush (-5), 2) := by decide +kernel
theorem dL_refuses_454 : decode cL_refuses 454 = .ok (.if_icmp .ne 23, 3) := by decide +kernel
theorem dL_refuses_457 : decode cL_refuses 457 = .ok (.aload_n 0, 1) := by decide +kernel
theorem dL_refuses_458 : decode cL_refuses 458 = .ok (.iconst 5, 1) := by decide +kernel
theorem dL_refuses_459 : decode cL_refuses 459 = .ok (.bipush 19, 2) := by decide +kernel
theorem dL_refuses_461 : decode cL_refuses 461 = .ok (.aload_n 0, 1) := by decide +kernel
theorem dL_refuses_462 : decode cL_refuses 462 = .ok (.iconst 5, 1) := by decide +kernel
theorem dL_refuses_463 : decode cL_refuses 463 = .ok (.bipush 19, 2) := by decide +kernel
theorem dL_refuses_465 : decode cL_refuses 465 = .ok (.iconst 0, 1) := by decide +kernel
theorem dL_refuses_466 : decode cL_refuses 466 = .ok (.invokevirtual 52, 3) := by decide +kernel
theorem dL_refuses_469 : decode cL_refuses 469 = .ok (.invokevirtual 22, 3) := by decide +kernel
theorem dL_refuses_472 : decode cL_refuses 472 = .ok (.bipush (-5), 2) := by decide +kernel
theorem dL_refuses_474 : decode cL_refuses 474 = .ok (.if_icmp .ne 7, 3) := by decide +kernel
theorem dL_refuses_477 : decode cL_refuses 477 = .ok (.iconst 1, 1) := by decide +kernel
theorem dL_refuses_478 : decode cL_refuses 478 = .ok (.goto 4, 3) := by decide +kernel
theorem dL_refuses_481 : decode cL_refuses 481 = .ok (.iconst 0, 1) := by decide +kernel
theorem dL_refuses_482 : decode cL_refuses 482 = .ok (.ireturn, 1) := by decide +kernel
theorem dL_law_0 : decode cL_law 0 = .ok (.new 10, 3) := by decide +kernel
theorem dL_law_3 : decode cL_law 3 = .ok (.dup, 1) := by decide +kernel
theorem dL_law_4 : decode cL_law 4 = .ok (.invokespecial 85, 3) := by decide +kernel
theorem dL_law_7 : decode cL_law 7 = .ok (.astore_n 1, 1) := by decide +kernel
theorem dL_law_8 : decode cL_law 8 = .ok (.new 10, 3) := by decide +kernel
theorem dL_law_11 : decode cL_law 11 = .ok (.dup, 1) := by decide +kernel
theorem dL_law_12 : decode cL_law 12 = .ok (.invokespecial 85, 3) := by decide +kernel
theorem dL_law_15 : decode cL_law 15 = .ok (.astore_n 2, 1) := by decide +kernel
theorem dL_law_16 : decode cL_law 16 = .ok (.aload_n 1, 1) := by decide +kernel
theorem dL_law_17 : decode cL_law 17 = .ok (.invokevirtual 29, 3) := by decide +kernel
theorem dL_law_20 : decode cL_law 20 = .ok (.bipush (-5), 2) := by decide +kernel
theorem dL_law_22 : decode cL_law 22 = .ok (.if_icmp .ne 51, 3) := by decide +kernel
theorem dL_law_25 : decode cL_law 25 = .ok (.aload_n 1, 1) := by decide +kernel
theorem dL_law_26 : decode cL_law 26 = .ok (.invokevirtual 36, 3) := by decide +kernel
theorem dL_law_29 : decode cL_law 29 = .ok (.bipush (-5), 2) := by decide +kernel
theorem dL_law_31 : decode cL_law 31 = .ok (.if_icmp .ne 42, 3) := by decide +kernel
theorem dL_law_34 : decode cL_law 34 = .ok (.aload_n 1, 1) := by decide +kernel
theorem dL_law_35 : decode cL_law 35 = .ok (.invokevirtual 46, 3) := by decide +kernel
theorem dL_law_38 : decode cL_law 38 = .ok (.bipush (-100), 2) := by decide +kernel
theorem dL_law_40 : decode cL_law 40 = .ok (.if_icmp .ne 33, 3) := by decide +kernel
theorem dL_law_43 : decode cL_law 43 = .ok (.aload_n 1, 1) := by decide +kernel
theorem dL_law_44 : decode cL_law 44 = .ok (.iconst 0, 1) := by decide +kernel
theorem dL_law_45 : decode cL_law 45 = .ok (.invokevirtual 79, 3) := by decide +kernel
theorem dL_law_48 : decode cL_law 48 = .ok (.bipush (-5), 2) := by decide +kernel
theorem dL_law_50 : decode cL_law 50 = .ok (.if_icmp .ne 23, 3) := by decide +kernel
theorem dL_law_53 : decode cL_law 53 = .ok (.aload_n 1, 1) := by decide +kernel
theorem dL_law_54 : decode cL_law 54 = .ok (.invokevirtual 73, 3) := by decide +kernel
theorem dL_law_57 : decode cL_law 57 = .ok (.bipush (-5), 2) := by decide +kernel
theorem dL_law_59 : decode cL_law 59 = .ok (.if_icmp .ne 14, 3) := by decide +kernel
theorem dL_law_62 : decode cL_law 62 = .ok (.aload_n 1, 1) := by decide +kernel
theorem dL_law_63 : decode cL_law 63 = .ok (.invokestatic 86, 3) := by decide +kernel
theorem dL_law_66 : decode cL_law 66 = .ok (.ifCond .eq 7, 3) := by decide +kernel
theorem dL_law_69 : decode cL_law 69 = .ok (.iconst 1, 1) := by decide +kernel
theorem dL_law_70 : decode cL_law 70 = .ok (.goto 4, 3) := by decide +kernel
theorem dL_law_73 : decode cL_law 73 = .ok (.iconst 0, 1) := by decide +kernel
theorem dL_law_74 : decode cL_law 74 = .ok (.istore_n 3, 1) := by decide +kernel
theorem dL_law_75 : decode cL_law 75 = .ok (.iconst 0, 1) := by decide +kernel
theorem dL_law_76 : decode cL_law 76 = .ok (.istore 4, 2) := by decide +kernel
theorem dL_law_78 : decode cL_law 78 = .ok (.iload 4, 2) := by decide +kernel
theorem dL_law_80 : decode cL_law 80 = .ok (.bipush 40, 2) := by decide +kernel
theorem dL_law_82 : decode cL_law 82 = .ok (.if_icmp .ge 99, 3) := by decide +kernel
theorem dL_law_85 : decode cL_law 85 = .ok (.iload_n 3, 1) := by decide +kernel
theorem dL_law_86 : decode cL_law 86 = .ok (.ifCond .eq 95, 3) := by decide +kernel
theorem dL_law_89 : decode cL_law 89 = .ok (.aload_n 0, 1) := by decide +kernel
theorem dL_law_90 : decode cL_law 90 = .ok (.iload 4, 2) := by decide +kernel
theorem dL_law_92 : decode cL_law 92 = .ok (.invokestatic 92, 3) := by decide +kernel
theorem dL_law_95 : decode cL_law 95 = .ok (.istore 5, 2) := by decide +kernel
theorem dL_law_97 : decode cL_law 97 = .ok (.aload_n 1, 1) := by decide +kernel
theorem dL_law_98 : decode cL_law 98 = .ok (.iload 5, 2) := by decide +kernel
theorem dL_law_100 : decode cL_law 100 = .ok (.invokestatic 95, 3) := by decide +kernel
theorem dL_law_103 : decode cL_law 103 = .ok (.istore 6, 2) := by decide +kernel
theorem dL_law_105 : decode cL_law 105 = .ok (.iload 4, 2) := by decide +kernel
theorem dL_law_107 : decode cL_law 107 = .ok (.iconst 3, 1) := by decide +kernel
theorem dL_law_108 : decode cL_law 108 = .ok (.irem, 1) := by decide +kernel
theorem dL_law_109 : decode cL_law 109 = .ok (.ifCond .gt 15, 3) := by decide +kernel
theorem dL_law_112 : decode cL_law 112 = .ok (.aload_n 2, 1) := by decide +kernel
theorem dL_law_113 : decode cL_law 113 = .ok (.iload 5, 2) := by decide +kernel
theorem dL_law_115 : decode cL_law 115 = .ok (.ldc 99, 2) := by decide +kernel
theorem dL_law_117 : decode cL_law 117 = .ok (.irem, 1) := by decide +kernel
theorem dL_law_118 : decode cL_law 118 = .ok (.invokestatic 100, 3) := by decide +kernel
theorem dL_law_121 : decode cL_law 121 = .ok (.ifCond .eq 52, 3) := by decide +kernel
theorem dL_law_124 : decode cL_law 124 = .ok (.aload_n 2, 1) := by decide +kernel
theorem dL_law_125 : decode cL_law 125 = .ok (.iload 5, 2) := by decide +kernel
theorem dL_law_127 : decode cL_law 127 = .ok (.invokestatic 95, 3) := by decide +kernel
theorem dL_law_130 : decode cL_law 130 = .ok (.iload 6, 2) := by decide +kernel
theorem dL_law_132 : decode cL_law 132 = .ok (.if_icmp .ne 41, 3) := by decide +kernel
theorem dL_law_135 : decode cL_law 135 = .ok (.aload_n 1, 1) := by decide +kernel
theorem dL_law_136 : decode cL_law 136 = .ok (.aload_n 2, 1) := by decide +kernel
theorem dL_law_137 : decode cL_law 137 = .ok (.invokestatic 104, 3) := by decide +kernel
theorem dL_law_140 : decode cL_law 140 = .ok (.ifCond .eq 33, 3) := by decide +kernel
theorem dL_law_143 : decode cL_law 143 = .ok (.iload 4, 2) := by decide +kernel
theorem dL_law_145 : decode cL_law 145 = .ok (.bipush 6, 2) := by decide +kernel
theorem dL_law_147 : decode cL_law 147 = .ok (.irem, 1) := by decide +kernel
theorem dL_law_148 : decode cL_law 148 = .ok (.ifCond .gt 21, 3) := by decide +kernel
theorem dL_law_151 : decode cL_law 151 = .ok (.iload 4, 2) := by decide +kernel
theorem dL_law_153 : decode cL_law 153 = .ok (.iconst 4, 1) := by decide +kernel
theorem dL_law_154 : decode cL_law 154 = .ok (.irem, 1) := by decide +kernel
theorem dL_law_155 : decode cL_law 155 = .ok (.ifCond .ne 7, 3) := by decide +kernel
theorem dL_law_158 : decode cL_law 158 = .ok (.aload_n 1, 1) := by decide +kernel
theorem dL_law_159 : decode cL_law 159 = .ok (.goto 4, 3) := by decide +kernel
theorem dL_law_162 : decode cL_law 162 = .ok (.aload_n 2, 1) := by decide +kernel
theorem dL_law_163 : decode cL_law 163 = .ok (.invokestatic 86, 3) := by decide +kernel
theorem dL_law_166 : decode cL_law 166 = .ok (.ifCond .eq 7, 3) := by decide +kernel
theorem dL_law_169 : decode cL_law 169 = .ok (.iconst 1, 1) := by decide +kernel
theorem dL_law_170 : decode cL_law 170 = .ok (.goto 4, 3) := by decide +kernel
theorem dL_law_173 : decode cL_law 173 = .ok (.iconst 0, 1) := by decide +kernel
theorem dL_law_174 : decode cL_law 174 = .ok (.istore_n 3, 1) := by decide +kernel
theorem dL_law_175 : decode cL_law 175 = .ok (.iinc 4 1, 3) := by decide +kernel
theorem dL_law_178 : decode cL_law 178 = .ok (.goto (-100), 3) := by decide +kernel
theorem dL_law_181 : decode cL_law 181 = .ok (.iconst 2, 1) := by decide +kernel
theorem dL_law_182 : decode cL_law 182 = .ok (.aload_n 0, 1) := by decide +kernel
theorem dL_law_183 : decode cL_law 183 = .ok (.bipush 40, 2) := by decide +kernel
theorem dL_law_185 : decode cL_law 185 = .ok (.invokestatic 92, 3) := by decide +kernel
theorem dL_law_188 : decode cL_law 188 = .ok (.bipush 30, 2) := by decide +kernel
theorem dL_law_190 : decode cL_law 190 = .ok (.irem, 1) := by decide +kernel
theorem dL_law_191 : decode cL_law 191 = .ok (.iadd, 1) := by decide +kernel
theorem dL_law_192 : decode cL_law 192 = .ok (.istore 4, 2) := by decide +kernel
theorem dL_law_194 : decode cL_law 194 = .ok (.iconst 0, 1) := by decide +kernel
theorem dL_law_195 : decode cL_law 195 = .ok (.istore 5, 2) := by decide +kernel
theorem dL_law_197 : decode cL_law 197 = .ok (.iconst 0, 1) := by decide +kernel
theorem dL_law_198 : decode cL_law 198 = .ok (.istore 6, 2) := by decide +kernel
theorem dL_law_200 : decode cL_law 200 = .ok (.iload 6, 2) := by decide +kernel
theorem dL_law_202 : decode cL_law 202 = .ok (.iload 4, 2) := by decide +kernel
theorem dL_law_204 : decode cL_law 204 = .ok (.if_icmp .ge 23, 3) := by decide +kernel
theorem dL_law_207 : decode cL_law 207 = .ok (.iload_n 3, 1) := by decide +kernel
theorem dL_law_208 : decode cL_law 208 = .ok (.ifCond .eq 19, 3) := by decide +kernel
theorem dL_law_211 : decode cL_law 211 = .ok (.iload 5, 2) := by decide +kernel
theorem dL_law_213 : decode cL_law 213 = .ok (.aload_n 1, 1) := by decide +kernel
theorem dL_law_214 : decode cL_law 214 = .ok (.iconst 1, 1) := by decide +kernel
theorem dL_law_215 : decode cL_law 215 = .ok (.invokevirtual 49, 3) := by decide +kernel
theorem dL_law_218 : decode cL_law 218 = .ok (.iadd, 1) := by decide +kernel
theorem dL_law_219 : decode cL_law 219 = .ok (.istore 5, 2) := by decide +kernel
theorem dL_law_221 : decode cL_law 221 = .ok (.iinc 6 1, 3) := by decide +kernel
theorem dL_law_224 : decode cL_law 224 = .ok (.goto (-24), 3) := by decide +kernel
theorem dL_law_227 : decode cL_law 227 = .ok (.iload_n 3, 1) := by decide +kernel
theorem dL_law_228 : decode cL_law 228 = .ok (.ifCond .eq 18, 3) := by decide +kernel
theorem dL_law_231 : decode cL_law 231 = .ok (.aload_n 2, 1) := by decide +kernel
theorem dL_law_232 : decode cL_law 232 = .ok (.iload 4, 2) := by decide +kernel
theorem dL_law_234 : decode cL_law 234 = .ok (.invokevirtual 49, 3) := by decide +kernel
theorem dL_law_237 : decode cL_law 237 = .ok (.iload 5, 2) := by decide +kernel
theorem dL_law_239 : decode cL_law 239 = .ok (.if_icmp .ne 7, 3) := by decide +kernel
theorem dL_law_242 : decode cL_law 242 = .ok (.iconst 1, 1) := by decide +kernel
theorem dL_law_243 : decode cL_law 243 = .ok (.goto 4, 3) := by decide +kernel
theorem dL_law_246 : decode cL_law 246 = .ok (.iconst 0, 1) := by decide +kernel
theorem dL_law_247 : decode cL_law 247 = .ok (.istore_n 3, 1) := by decide +kernel
theorem dL_law_248 : decode cL_law 248 = .ok (.iconst 0, 1) := by decide +kernel
theorem dL_law_249 : decode cL_law 249 = .ok (.istore 6, 2) := by decide +kernel
theorem dL_law_251 : decode cL_law 251 = .ok (.iload 6, 2) := by decide +kernel
theorem dL_law_253 : decode cL_law 253 = .ok (.bipush 8, 2) := by decide +kernel
theorem dL_law_255 : decode cL_law 255 = .ok (.if_icmp .ge 70, 3) := by decide +kernel
theorem dL_law_258 : decode cL_law 258 = .ok (.iload_n 3, 1) := by decide +kernel
theorem dL_law_259 : decode cL_law 259 = .ok (.ifCond .eq 66, 3) := by decide +kernel
theorem dL_law_262 : decode cL_law 262 = .ok (.aload_n 1, 1) := by decide +kernel
theorem dL_law_263 : decode cL_law 263 = .ok (.iload 6, 2) := by decide +kernel
theorem dL_law_265 : decode cL_law 265 = .ok (.iconst 1, 1) := by decide +kernel
theorem dL_law_266 : decode cL_law 266 = .ok (.invokevirtual 55, 3) := by decide +kernel
theorem dL_law_269 : decode cL_law 269 = .ok (.aload_n 2, 1) := by decide +kernel
theorem dL_law_270 : decode cL_law 270 = .ok (.iload 6, 2) := by decide +kernel
theorem dL_law_272 : decode cL_law 272 = .ok (.iconst 1, 1) := by decide +kernel
theorem dL_law_273 : decode cL_law 273 = .ok (.invokevirtual 55, 3) := by decide +kernel
theorem dL_law_276 : decode cL_law 276 = .ok (.if_icmp .ne 41, 3) := by decide +kernel
theorem dL_law_279 : decode cL_law 279 = .ok (.aload_n 1, 1) := by decide +kernel
theorem dL_law_280 : decode cL_law 280 = .ok (.iload 6, 2) := by decide +kernel
theorem dL_law_282 : decode cL_law 282 = .ok (.iconst 2, 1) := by decide +kernel
theorem dL_law_283 : decode cL_law 283 = .ok (.invokevirtual 55, 3) := by decide +kernel
theorem dL_law_286 : decode cL_law 286 = .ok (.aload_n 2, 1) := by decide +kernel
theorem dL_law_287 : decode cL_law 287 = .ok (.iload 6, 2) := by decide +kernel
theorem dL_law_289 : decode cL_law 289 = .ok (.iconst 2, 1) := by decide +kernel
theorem dL_law_290 : decode cL_law 290 = .ok (.invokevirtual 55, 3) := by decide +kernel
theorem dL_law_293 : decode cL_law 293 = .ok (.if_icmp .ne 24, 3) := by decide +kernel
theorem dL_law_296 : decode cL_law 296 = .ok (.aload_n 1, 1) := by decide +kernel
theorem dL_law_297 : decode cL_law 297 = .ok (.iload 6, 2) := by decide +kernel
theorem dL_law_299 : decode cL_law 299 = .ok (.iconst 4, 1) := by decide +kernel
theorem dL_law_300 : decode cL_law 300 = .ok (.invokevirtual 55, 3) := by decide +kernel
theorem dL_law_303 : decode cL_law 303 = .ok (.aload_n 2, 1) := by decide +kernel
theorem dL_law_304 : decode cL_law 304 = .ok (.iload 6, 2) := by decide +kernel
theorem dL_law_306 : decode cL_law 306 = .ok (.iconst 4, 1) := by decide +kernel
theorem dL_law_307 : decode cL_law 307 = .ok (.invokevirtual 55, 3) := by decide +kernel
theorem dL_law_310 : decode cL_law 310 = .ok (.if_icmp .ne 7, 3) := by decide +kernel
theorem dL_law_313 : decode cL_law 313 = .ok (.iconst 1, 1) := by decide +kernel
theorem dL_law_314 : decode cL_law 314 = .ok (.goto 4, 3) := by decide +kernel
theorem dL_law_317 : decode cL_law 317 = .ok (.iconst 0, 1) := by decide +kernel
theorem dL_law_318 : decode cL_law 318 = .ok (.istore_n 3, 1) := by decide +kernel
theorem dL_law_319 : decode cL_law 319 = .ok (.iinc 6 1, 3) := by decide +kernel
theorem dL_law_322 : decode cL_law 322 = .ok (.goto (-71), 3) := by decide +kernel
theorem dL_law_325 : decode cL_law 325 = .ok (.iload_n 3, 1) := by decide +kernel
theorem dL_law_326 : decode cL_law 326 = .ok (.ifCond .eq 53, 3) := by decide +kernel
theorem dL_law_329 : decode cL_law 329 = .ok (.aload_n 1, 1) := by decide +kernel
theorem dL_law_330 : decode cL_law 330 = .ok (.iconst 0, 1) := by decide +kernel
theorem dL_law_331 : decode cL_law 331 = .ok (.invokevirtual 9, 3) := by decide +kernel
theorem dL_law_334 : decode cL_law 334 = .ok (.aload_n 2, 1) := by decide +kernel
theorem dL_law_335 : decode cL_law 335 = .ok (.iconst 0, 1) := by decide +kernel
theorem dL_law_336 : decode cL_law 336 = .ok (.invokevirtual 9, 3) := by decide +kernel
theorem dL_law_339 : decode cL_law 339 = .ok (.if_icmp .ne 40, 3) := by decide +kernel
theorem dL_law_342 : decode cL_law 342 = .ok (.aload_n 1, 1) := by decide +kernel
theorem dL_law_343 : decode cL_law 343 = .ok (.iconst 4, 1) := by decide +kernel
theorem dL_law_344 : decode cL_law 344 = .ok (.invokevirtual 9, 3) := by decide +kernel
theorem dL_law_347 : decode cL_law 347 = .ok (.aload_n 2, 1) := by decide +kernel
theorem dL_law_348 : decode cL_law 348 = .ok (.iconst 4, 1) := by decide +kernel
theorem dL_law_349 : decode cL_law 349 = .ok (.invokevirtual 9, 3) := by decide +kernel
theorem dL_law_352 : decode cL_law 352 = .ok (.if_icmp .ne 27, 3) := by decide +kernel
theorem dL_law_355 : decode cL_law 355 = .ok (.aload_n 1, 1) := by decide +kernel
theorem dL_law_356 : decode cL_law 356 = .ok (.iconst 5, 1) := by decide +kernel
theorem dL_law_357 : decode cL_law 357 = .ok (.invokevirtual 9, 3) := by decide +kernel
theorem dL_law_360 : decode cL_law 360 = .ok (.aload_n 2, 1) := by decide +kernel
theorem dL_law_361 : decode cL_law 361 = .ok (.iconst 5, 1) := by decide +kernel
theorem dL_law_362 : decode cL_law 362 = .ok (.invokevirtual 9, 3) := by decide +kernel
theorem dL_law_365 : decode cL_law 365 = .ok (.if_icmp .ne 14, 3) := by decide +kernel
theorem dL_law_368 : decode cL_law 368 = .ok (.aload_n 1, 1) := by decide +kernel
theorem dL_law_369 : decode cL_law 369 = .ok (.invokestatic 86, 3) := by decide +kernel
theorem dL_law_372 : decode cL_law 372 = .ok (.ifCond .eq 7, 3) := by decide +kernel
theorem dL_law_375 : decode cL_law 375 = .ok (.iconst 1, 1) := by decide +kernel
theorem dL_law_376 : decode cL_law 376 = .ok (.goto 4, 3) := by decide +kernel
theorem dL_law_379 : decode cL_law 379 = .ok (.iconst 0, 1) := by decide +kernel
theorem dL_law_380 : decode cL_law 380 = .ok (.ireturn, 1) := by decide +kernel
