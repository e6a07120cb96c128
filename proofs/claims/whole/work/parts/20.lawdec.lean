theorem dL_law_0 : decode code 0 = .ok (.new 8, 3) := by decide +kernel
theorem dL_law_3 : decode code 3 = .ok (.dup, 1) := by decide +kernel
theorem dL_law_4 : decode code 4 = .ok (.invokespecial 59, 3) := by decide +kernel
theorem dL_law_7 : decode code 7 = .ok (.astore_n 1, 1) := by decide +kernel
theorem dL_law_8 : decode code 8 = .ok (.new 60, 3) := by decide +kernel
theorem dL_law_11 : decode code 11 = .ok (.dup, 1) := by decide +kernel
theorem dL_law_12 : decode code 12 = .ok (.invokespecial 62, 3) := by decide +kernel
theorem dL_law_15 : decode code 15 = .ok (.astore_n 2, 1) := by decide +kernel
theorem dL_law_16 : decode code 16 = .ok (.iconst 1, 1) := by decide +kernel
theorem dL_law_17 : decode code 17 = .ok (.newarray .long, 2) := by decide +kernel
theorem dL_law_19 : decode code 19 = .ok (.astore_n 3, 1) := by decide +kernel
theorem dL_law_20 : decode code 20 = .ok (.iconst 0, 1) := by decide +kernel
theorem dL_law_21 : decode code 21 = .ok (.istore 4, 2) := by decide +kernel
theorem dL_law_23 : decode code 23 = .ok (.iload 4, 2) := by decide +kernel
theorem dL_law_25 : decode code 25 = .ok (.aload_n 0, 1) := by decide +kernel
theorem dL_law_26 : decode code 26 = .ok (.arraylength, 1) := by decide +kernel
theorem dL_law_27 : decode code 27 = .ok (.iconst 3, 1) := by decide +kernel
theorem dL_law_28 : decode code 28 = .ok (.isub, 1) := by decide +kernel
theorem dL_law_29 : decode code 29 = .ok (.if_icmp .gt 829, 3) := by decide +kernel
theorem dL_law_32 : decode code 32 = .ok (.aload_n 0, 1) := by decide +kernel
theorem dL_law_33 : decode code 33 = .ok (.iload 4, 2) := by decide +kernel
theorem dL_law_35 : decode code 35 = .ok (.iaload, 1) := by decide +kernel
theorem dL_law_36 : decode code 36 = .ok (.bipush 31, 2) := by decide +kernel
theorem dL_law_38 : decode code 38 = .ok (.iand, 1) := by decide +kernel
theorem dL_law_39 : decode code 39 = .ok (.tableswitch 813 0 16 #[81, 137, 185, 233, 244, 300, 368, 424, 472, 516, 527, 563, 619, 632, 688, 744, 757], 81) := by decide +kernel
theorem dL_law_120 : decode code 120 = .ok (.aload_n 1, 1) := by decide +kernel
theorem dL_law_121 : decode code 121 = .ok (.aload_n 0, 1) := by decide +kernel
theorem dL_law_122 : decode code 122 = .ok (.iload 4, 2) := by decide +kernel
theorem dL_law_124 : decode code 124 = .ok (.iconst 1, 1) := by decide +kernel
theorem dL_law_125 : decode code 125 = .ok (.iadd, 1) := by decide +kernel
theorem dL_law_126 : decode code 126 = .ok (.iaload, 1) := by decide +kernel
theorem dL_law_127 : decode code 127 = .ok (.aload_n 3, 1) := by decide +kernel
theorem dL_law_128 : decode code 128 = .ok (.invokestatic 63, 3) := by decide +kernel
theorem dL_law_131 : decode code 131 = .ok (.istore 5, 2) := by decide +kernel
theorem dL_law_133 : decode code 133 = .ok (.aload_n 2, 1) := by decide +kernel
theorem dL_law_134 : decode code 134 = .ok (.aload_n 0, 1) := by decide +kernel
theorem dL_law_135 : decode code 135 = .ok (.iload 4, 2) := by decide +kernel
theorem dL_law_137 : decode code 137 = .ok (.iconst 1, 1) := by decide +kernel
theorem dL_law_138 : decode code 138 = .ok (.iadd, 1) := by decide +kernel
theorem dL_law_139 : decode code 139 = .ok (.iaload, 1) := by decide +kernel
theorem dL_law_140 : decode code 140 = .ok (.invokevirtual 68, 3) := by decide +kernel
theorem dL_law_143 : decode code 143 = .ok (.istore 6, 2) := by decide +kernel
theorem dL_law_145 : decode code 145 = .ok (.aload_n 2, 1) := by decide +kernel
theorem dL_law_146 : decode code 146 = .ok (.invokevirtual 69, 3) := by decide +kernel
theorem dL_law_149 : decode code 149 = .ok (.iload 5, 2) := by decide +kernel
theorem dL_law_151 : decode code 151 = .ok (.if_icmp .eq 5, 3) := by decide +kernel
theorem dL_law_154 : decode code 154 = .ok (.iconst 0, 1) := by decide +kernel
theorem dL_law_155 : decode code 155 = .ok (.ireturn, 1) := by decide +kernel
theorem dL_law_156 : decode code 156 = .ok (.iload 5, 2) := by decide +kernel
theorem dL_law_158 : decode code 158 = .ok (.ifCond .ne 15, 3) := by decide +kernel
theorem dL_law_161 : decode code 161 = .ok (.aload_n 3, 1) := by decide +kernel
theorem dL_law_162 : decode code 162 = .ok (.iconst 0, 1) := by decide +kernel
theorem dL_law_163 : decode code 163 = .ok (.laload, 1) := by decide +kernel
theorem dL_law_164 : decode code 164 = .ok (.iload 6, 2) := by decide +kernel
theorem dL_law_166 : decode code 166 = .ok (.i2l, 1) := by decide +kernel
theorem dL_law_167 : decode code 167 = .ok (.lcmp, 1) := by decide +kernel
theorem dL_law_168 : decode code 168 = .ok (.ifCond .eq 5, 3) := by decide +kernel
theorem dL_law_171 : decode code 171 = .ok (.iconst 0, 1) := by decide +kernel
theorem dL_law_172 : decode code 172 = .ok (.ireturn, 1) := by decide +kernel
theorem dL_law_173 : decode code 173 = .ok (.goto 679, 3) := by decide +kernel
theorem dL_law_176 : decode code 176 = .ok (.aload_n 1, 1) := by decide +kernel
theorem dL_law_177 : decode code 177 = .ok (.aload_n 0, 1) := by decide +kernel
theorem dL_law_178 : decode code 178 = .ok (.iload 4, 2) := by decide +kernel
theorem dL_law_180 : decode code 180 = .ok (.iconst 1, 1) := by decide +kernel
theorem dL_law_181 : decode code 181 = .ok (.iadd, 1) := by decide +kernel
theorem dL_law_182 : decode code 182 = .ok (.iaload, 1) := by decide +kernel
theorem dL_law_183 : decode code 183 = .ok (.aload_n 0, 1) := by decide +kernel
theorem dL_law_184 : decode code 184 = .ok (.iload 4, 2) := by decide +kernel
theorem dL_law_186 : decode code 186 = .ok (.iconst 2, 1) := by decide +kernel
theorem dL_law_187 : decode code 187 = .ok (.iadd, 1) := by decide +kernel
theorem dL_law_188 : decode code 188 = .ok (.iaload, 1) := by decide +kernel
theorem dL_law_189 : decode code 189 = .ok (.invokestatic 72, 3) := by decide +kernel
theorem dL_law_192 : decode code 192 = .ok (.istore 5, 2) := by decide +kernel
theorem dL_law_194 : decode code 194 = .ok (.aload_n 2, 1) := by decide +kernel
theorem dL_law_195 : decode code 195 = .ok (.aload_n 0, 1) := by decide +kernel
theorem dL_law_196 : decode code 196 = .ok (.iload 4, 2) := by decide +kernel
theorem dL_law_198 : decode code 198 = .ok (.iconst 1, 1) := by decide +kernel
theorem dL_law_199 : decode code 199 = .ok (.iadd, 1) := by decide +kernel
theorem dL_law_200 : decode code 200 = .ok (.iaload, 1) := by decide +kernel
theorem dL_law_201 : decode code 201 = .ok (.aload_n 0, 1) := by decide +kernel
theorem dL_law_202 : decode code 202 = .ok (.iload 4, 2) := by decide +kernel
theorem dL_law_204 : decode code 204 = .ok (.iconst 2, 1) := by decide +kernel
theorem dL_law_205 : decode code 205 = .ok (.iadd, 1) := by decide +kernel
theorem dL_law_206 : decode code 206 = .ok (.iaload, 1) := by decide +kernel
theorem dL_law_207 : decode code 207 = .ok (.invokevirtual 75, 3) := by decide +kernel
theorem dL_law_210 : decode code 210 = .ok (.aload_n 2, 1) := by decide +kernel
theorem dL_law_211 : decode code 211 = .ok (.invokevirtual 69, 3) := by decide +kernel
theorem dL_law_214 : decode code 214 = .ok (.iload 5, 2) := by decide +kernel
theorem dL_law_216 : decode code 216 = .ok (.if_icmp .eq 5, 3) := by decide +kernel
theorem dL_law_219 : decode code 219 = .ok (.iconst 0, 1) := by decide +kernel
theorem dL_law_220 : decode code 220 = .ok (.ireturn, 1) := by decide +kernel
theorem dL_law_221 : decode code 221 = .ok (.goto 631, 3) := by decide +kernel
theorem dL_law_224 : decode code 224 = .ok (.aload_n 1, 1) := by decide +kernel
theorem dL_law_225 : decode code 225 = .ok (.aload_n 0, 1) := by decide +kernel
theorem dL_law_226 : decode code 226 = .ok (.iload 4, 2) := by decide +kernel
theorem dL_law_228 : decode code 228 = .ok (.iconst 1, 1) := by decide +kernel
theorem dL_law_229 : decode code 229 = .ok (.iadd, 1) := by decide +kernel
theorem dL_law_230 : decode code 230 = .ok (.iaload, 1) := by decide +kernel
theorem dL_law_231 : decode code 231 = .ok (.aload_n 0, 1) := by decide +kernel
theorem dL_law_232 : decode code 232 = .ok (.iload 4, 2) := by decide +kernel
theorem dL_law_234 : decode code 234 = .ok (.iconst 2, 1) := by decide +kernel
theorem dL_law_235 : decode code 235 = .ok (.iadd, 1) := by decide +kernel
theorem dL_law_236 : decode code 236 = .ok (.iaload, 1) := by decide +kernel
theorem dL_law_237 : decode code 237 = .ok (.invokestatic 76, 3) := by decide +kernel
theorem dL_law_240 : decode code 240 = .ok (.istore 5, 2) := by decide +kernel
theorem dL_law_242 : decode code 242 = .ok (.aload_n 2, 1) := by decide +kernel
theorem dL_law_243 : decode code 243 = .ok (.aload_n 0, 1) := by decide +kernel
theorem dL_law_244 : decode code 244 = .ok (.iload 4, 2) := by decide +kernel
theorem dL_law_246 : decode code 246 = .ok (.iconst 1, 1) := by decide +kernel
theorem dL_law_247 : decode code 247 = .ok (.iadd, 1) := by decide +kernel
theorem dL_law_248 : decode code 248 = .ok (.iaload, 1) := by decide +kernel
theorem dL_law_249 : decode code 249 = .ok (.aload_n 0, 1) := by decide +kernel
theorem dL_law_250 : decode code 250 = .ok (.iload 4, 2) := by decide +kernel
theorem dL_law_252 : decode code 252 = .ok (.iconst 2, 1) := by decide +kernel
theorem dL_law_253 : decode code 253 = .ok (.iadd, 1) := by decide +kernel
theorem dL_law_254 : decode code 254 = .ok (.iaload, 1) := by decide +kernel
theorem dL_law_255 : decode code 255 = .ok (.invokevirtual 78, 3) := by decide +kernel
theorem dL_law_258 : decode code 258 = .ok (.aload_n 2, 1) := by decide +kernel
theorem dL_law_259 : decode code 259 = .ok (.invokevirtual 69, 3) := by decide +kernel
theorem dL_law_262 : decode code 262 = .ok (.iload 5, 2) := by decide +kernel
theorem dL_law_264 : decode code 264 = .ok (.if_icmp .eq 5, 3) := by decide +kernel
theorem dL_law_267 : decode code 267 = .ok (.iconst 0, 1) := by decide +kernel
theorem dL_law_268 : decode code 268 = .ok (.ireturn, 1) := by decide +kernel
theorem dL_law_269 : decode code 269 = .ok (.goto 583, 3) := by decide +kernel
theorem dL_law_272 : decode code 272 = .ok (.aload_n 1, 1) := by decide +kernel
theorem dL_law_273 : decode code 273 = .ok (.invokevirtual 79, 3) := by decide +kernel
theorem dL_law_276 : decode code 276 = .ok (.aload_n 2, 1) := by decide +kernel
theorem dL_law_277 : decode code 277 = .ok (.invokevirtual 82, 3) := by decide +kernel
theorem dL_law_280 : decode code 280 = .ok (.goto 572, 3) := by decide +kernel
theorem dL_law_283 : decode code 283 = .ok (.aload_n 1, 1) := by decide +kernel
theorem dL_law_284 : decode code 284 = .ok (.aload_n 0, 1) := by decide +kernel
theorem dL_law_285 : decode code 285 = .ok (.iload 4, 2) := by decide +kernel
theorem dL_law_287 : decode code 287 = .ok (.iconst 1, 1) := by decide +kernel
theorem dL_law_288 : decode code 288 = .ok (.iadd, 1) := by decide +kernel
theorem dL_law_289 : decode code 289 = .ok (.iaload, 1) := by decide +kernel
theorem dL_law_290 : decode code 290 = .ok (.aload_n 3, 1) := by decide +kernel
theorem dL_law_291 : decode code 291 = .ok (.invokestatic 83, 3) := by decide +kernel
theorem dL_law_294 : decode code 294 = .ok (.istore 5, 2) := by decide +kernel
theorem dL_law_296 : decode code 296 = .ok (.aload_n 2, 1) := by decide +kernel
theorem dL_law_297 : decode code 297 = .ok (.aload_n 0, 1) := by decide +kernel
theorem dL_law_298 : decode code 298 = .ok (.iload 4, 2) := by decide +kernel
theorem dL_law_300 : decode code 300 = .ok (.iconst 1, 1) := by decide +kernel
theorem dL_law_301 : decode code 301 = .ok (.iadd, 1) := by decide +kernel
theorem dL_law_302 : decode code 302 = .ok (.iaload, 1) := by decide +kernel
theorem dL_law_303 : decode code 303 = .ok (.invokevirtual 85, 3) := by decide +kernel
theorem dL_law_306 : decode code 306 = .ok (.istore 6, 2) := by decide +kernel
theorem dL_law_308 : decode code 308 = .ok (.aload_n 2, 1) := by decide +kernel
theorem dL_law_309 : decode code 309 = .ok (.invokevirtual 69, 3) := by decide +kernel
theorem dL_law_312 : decode code 312 = .ok (.iload 5, 2) := by decide +kernel
theorem dL_law_314 : decode code 314 = .ok (.if_icmp .eq 5, 3) := by decide +kernel
theorem dL_law_317 : decode code 317 = .ok (.iconst 0, 1) := by decide +kernel
theorem dL_law_318 : decode code 318 = .ok (.ireturn, 1) := by decide +kernel
theorem dL_law_319 : decode code 319 = .ok (.iload 5, 2) := by decide +kernel
theorem dL_law_321 : decode code 321 = .ok (.ifCond .ne 15, 3) := by decide +kernel
theorem dL_law_324 : decode code 324 = .ok (.aload_n 3, 1) := by decide +kernel
theorem dL_law_325 : decode code 325 = .ok (.iconst 0, 1) := by decide +kernel
theorem dL_law_326 : decode code 326 = .ok (.laload, 1) := by decide +kernel
theorem dL_law_327 : decode code 327 = .ok (.iload 6, 2) := by decide +kernel
theorem dL_law_329 : decode code 329 = .ok (.i2l, 1) := by decide +kernel
theorem dL_law_330 : decode code 330 = .ok (.lcmp, 1) := by decide +kernel
theorem dL_law_331 : decode code 331 = .ok (.ifCond .eq 5, 3) := by decide +kernel
theorem dL_law_334 : decode code 334 = .ok (.iconst 0, 1) := by decide +kernel
theorem dL_law_335 : decode code 335 = .ok (.ireturn, 1) := by decide +kernel
theorem dL_law_336 : decode code 336 = .ok (.goto 516, 3) := by decide +kernel
theorem dL_law_339 : decode code 339 = .ok (.aload_n 1, 1) := by decide +kernel
theorem dL_law_340 : decode code 340 = .ok (.aload_n 0, 1) := by decide +kernel
theorem dL_law_341 : decode code 341 = .ok (.iload 4, 2) := by decide +kernel
theorem dL_law_343 : decode code 343 = .ok (.iconst 1, 1) := by decide +kernel
theorem dL_law_344 : decode code 344 = .ok (.iadd, 1) := by decide +kernel
theorem dL_law_345 : decode code 345 = .ok (.iaload, 1) := by decide +kernel
theorem dL_law_346 : decode code 346 = .ok (.aload_n 0, 1) := by decide +kernel
theorem dL_law_347 : decode code 347 = .ok (.iload 4, 2) := by decide +kernel
theorem dL_law_349 : decode code 349 = .ok (.iconst 2, 1) := by decide +kernel
theorem dL_law_350 : decode code 350 = .ok (.iadd, 1) := by decide +kernel
theorem dL_law_351 : decode code 351 = .ok (.iaload, 1) := by decide +kernel
theorem dL_law_352 : decode code 352 = .ok (.aload_n 3, 1) := by decide +kernel
theorem dL_law_353 : decode code 353 = .ok (.invokestatic 86, 3) := by decide +kernel
theorem dL_law_356 : decode code 356 = .ok (.istore 5, 2) := by decide +kernel
theorem dL_law_358 : decode code 358 = .ok (.aload_n 2, 1) := by decide +kernel
theorem dL_law_359 : decode code 359 = .ok (.aload_n 0, 1) := by decide +kernel
theorem dL_law_360 : decode code 360 = .ok (.iload 4, 2) := by decide +kernel
theorem dL_law_362 : decode code 362 = .ok (.iconst 1, 1) := by decide +kernel
theorem dL_law_363 : decode code 363 = .ok (.iadd, 1) := by decide +kernel
theorem dL_law_364 : decode code 364 = .ok (.iaload, 1) := by decide +kernel
theorem dL_law_365 : decode code 365 = .ok (.aload_n 0, 1) := by decide +kernel
theorem dL_law_366 : decode code 366 = .ok (.iload 4, 2) := by decide +kernel
theorem dL_law_368 : decode code 368 = .ok (.iconst 2, 1) := by decide +kernel
theorem dL_law_369 : decode code 369 = .ok (.iadd, 1) := by decide +kernel
theorem dL_law_370 : decode code 370 = .ok (.iaload, 1) := by decide +kernel
theorem dL_law_371 : decode code 371 = .ok (.invokevirtual 89, 3) := by decide +kernel
theorem dL_law_374 : decode code 374 = .ok (.istore 6, 2) := by decide +kernel
theorem dL_law_376 : decode code 376 = .ok (.aload_n 2, 1) := by decide +kernel
theorem dL_law_377 : decode code 377 = .ok (.invokevirtual 69, 3) := by decide +kernel
theorem dL_law_380 : decode code 380 = .ok (.iload 5, 2) := by decide +kernel
theorem dL_law_382 : decode code 382 = .ok (.if_icmp .eq 5, 3) := by decide +kernel
theorem dL_law_385 : decode code 385 = .ok (.iconst 0, 1) := by decide +kernel
theorem dL_law_386 : decode code 386 = .ok (.ireturn, 1) := by decide +kernel
theorem dL_law_387 : decode code 387 = .ok (.iload 5, 2) := by decide +kernel
theorem dL_law_389 : decode code 389 = .ok (.ifCond .ne 15, 3) := by decide +kernel
theorem dL_law_392 : decode code 392 = .ok (.aload_n 3, 1) := by decide +kernel
theorem dL_law_393 : decode code 393 = .ok (.iconst 0, 1) := by decide +kernel
theorem dL_law_394 : decode code 394 = .ok (.laload, 1) := by decide +kernel
theorem dL_law_395 : decode code 395 = .ok (.iload 6, 2) := by decide +kernel
theorem dL_law_397 : decode code 397 = .ok (.i2l, 1) := by decide +kernel
theorem dL_law_398 : decode code 398 = .ok (.lcmp, 1) := by decide +kernel
theorem dL_law_399 : decode code 399 = .ok (.ifCond .eq 5, 3) := by decide +kernel
theorem dL_law_402 : decode code 402 = .ok (.iconst 0, 1) := by decide +kernel
theorem dL_law_403 : decode code 403 = .ok (.ireturn, 1) := by decide +kernel
theorem dL_law_404 : decode code 404 = .ok (.goto 448, 3) := by decide +kernel
theorem dL_law_407 : decode code 407 = .ok (.aload_n 1, 1) := by decide +kernel
theorem dL_law_408 : decode code 408 = .ok (.aload_n 0, 1) := by decide +kernel
theorem dL_law_409 : decode code 409 = .ok (.iload 4, 2) := by decide +kernel
theorem dL_law_411 : decode code 411 = .ok (.iconst 1, 1) := by decide +kernel
theorem dL_law_412 : decode code 412 = .ok (.iadd, 1) := by decide +kernel
theorem dL_law_413 : decode code 413 = .ok (.iaload, 1) := by decide +kernel
theorem dL_law_414 : decode code 414 = .ok (.aload_n 3, 1) := by decide +kernel
theorem dL_law_415 : decode code 415 = .ok (.invokestatic 90, 3) := by decide +kernel
theorem dL_law_418 : decode code 418 = .ok (.istore 5, 2) := by decide +kernel
theorem dL_law_420 : decode code 420 = .ok (.aload_n 2, 1) := by decide +kernel
theorem dL_law_421 : decode code 421 = .ok (.aload_n 0, 1) := by decide +kernel
theorem dL_law_422 : decode code 422 = .ok (.iload 4, 2) := by decide +kernel
theorem dL_law_424 : decode code 424 = .ok (.iconst 1, 1) := by decide +kernel
theorem dL_law_425 : decode code 425 = .ok (.iadd, 1) := by decide +kernel
theorem dL_law_426 : decode code 426 = .ok (.iaload, 1) := by decide +kernel
theorem dL_law_427 : decode code 427 = .ok (.invokevirtual 92, 3) := by decide +kernel
theorem dL_law_430 : decode code 430 = .ok (.istore 6, 2) := by decide +kernel
theorem dL_law_432 : decode code 432 = .ok (.aload_n 2, 1) := by decide +kernel
theorem dL_law_433 : decode code 433 = .ok (.invokevirtual 69, 3) := by decide +kernel
theorem dL_law_436 : decode code 436 = .ok (.iload 5, 2) := by decide +kernel
theorem dL_law_438 : decode code 438 = .ok (.if_icmp .eq 5, 3) := by decide +kernel
theorem dL_law_441 : decode code 441 = .ok (.iconst 0, 1) := by decide +kernel
theorem dL_law_442 : decode code 442 = .ok (.ireturn, 1) := by decide +kernel
theorem dL_law_443 : decode code 443 = .ok (.iload 5, 2) := by decide +kernel
theorem dL_law_445 : decode code 445 = .ok (.ifCond .ne 15, 3) := by decide +kernel
theorem dL_law_448 : decode code 448 = .ok (.aload_n 3, 1) := by decide +kernel
theorem dL_law_449 : decode code 449 = .ok (.iconst 0, 1) := by decide +kernel
theorem dL_law_450 : decode code 450 = .ok (.laload, 1) := by decide +kernel
theorem dL_law_451 : decode code 451 = .ok (.iload 6, 2) := by decide +kernel
theorem dL_law_453 : decode code 453 = .ok (.i2l, 1) := by decide +kernel
theorem dL_law_454 : decode code 454 = .ok (.lcmp, 1) := by decide +kernel
theorem dL_law_455 : decode code 455 = .ok (.ifCond .eq 5, 3) := by decide +kernel
theorem dL_law_458 : decode code 458 = .ok (.iconst 0, 1) := by decide +kernel
theorem dL_law_459 : decode code 459 = .ok (.ireturn, 1) := by decide +kernel
theorem dL_law_460 : decode code 460 = .ok (.goto 392, 3) := by decide +kernel
theorem dL_law_463 : decode code 463 = .ok (.aload_n 1, 1) := by decide +kernel
theorem dL_law_464 : decode code 464 = .ok (.aload_n 0, 1) := by decide +kernel
theorem dL_law_465 : decode code 465 = .ok (.iload 4, 2) := by decide +kernel
theorem dL_law_467 : decode code 467 = .ok (.iconst 1, 1) := by decide +kernel
theorem dL_law_468 : decode code 468 = .ok (.iadd, 1) := by decide +kernel
theorem dL_law_469 : decode code 469 = .ok (.iaload, 1) := by decide +kernel
theorem dL_law_470 : decode code 470 = .ok (.aload_n 0, 1) := by decide +kernel
theorem dL_law_471 : decode code 471 = .ok (.iload 4, 2) := by decide +kernel
theorem dL_law_473 : decode code 473 = .ok (.iconst 2, 1) := by decide +kernel
theorem dL_law_474 : decode code 474 = .ok (.iadd, 1) := by decide +kernel
theorem dL_law_475 : decode code 475 = .ok (.iaload, 1) := by decide +kernel
theorem dL_law_476 : decode code 476 = .ok (.invokestatic 93, 3) := by decide +kernel
theorem dL_law_479 : decode code 479 = .ok (.istore 5, 2) := by decide +kernel
theorem dL_law_481 : decode code 481 = .ok (.aload_n 2, 1) := by decide +kernel
theorem dL_law_482 : decode code 482 = .ok (.aload_n 0, 1) := by decide +kernel
theorem dL_law_483 : decode code 483 = .ok (.iload 4, 2) := by decide +kernel
theorem dL_law_485 : decode code 485 = .ok (.iconst 1, 1) := by decide +kernel
theorem dL_law_486 : decode code 486 = .ok (.iadd, 1) := by decide +kernel
theorem dL_law_487 : decode code 487 = .ok (.iaload, 1) := by decide +kernel
theorem dL_law_488 : decode code 488 = .ok (.aload_n 0, 1) := by decide +kernel
theorem dL_law_489 : decode code 489 = .ok (.iload 4, 2) := by decide +kernel
theorem dL_law_491 : decode code 491 = .ok (.iconst 2, 1) := by decide +kernel
theorem dL_law_492 : decode code 492 = .ok (.iadd, 1) := by decide +kernel
theorem dL_law_493 : decode code 493 = .ok (.iaload, 1) := by decide +kernel
theorem dL_law_494 : decode code 494 = .ok (.invokevirtual 95, 3) := by decide +kernel
theorem dL_law_497 : decode code 497 = .ok (.aload_n 2, 1) := by decide +kernel
theorem dL_law_498 : decode code 498 = .ok (.invokevirtual 69, 3) := by decide +kernel
theorem dL_law_501 : decode code 501 = .ok (.iload 5, 2) := by decide +kernel
theorem dL_law_503 : decode code 503 = .ok (.if_icmp .eq 5, 3) := by decide +kernel
theorem dL_law_506 : decode code 506 = .ok (.iconst 0, 1) := by decide +kernel
theorem dL_law_507 : decode code 507 = .ok (.ireturn, 1) := by decide +kernel
theorem dL_law_508 : decode code 508 = .ok (.goto 344, 3) := by decide +kernel
theorem dL_law_511 : decode code 511 = .ok (.aload_n 1, 1) := by decide +kernel
theorem dL_law_512 : decode code 512 = .ok (.aload_n 3, 1) := by decide +kernel
theorem dL_law_513 : decode code 513 = .ok (.invokestatic 96, 3) := by decide +kernel
theorem dL_law_516 : decode code 516 = .ok (.istore 5, 2) := by decide +kernel
theorem dL_law_518 : decode code 518 = .ok (.aload_n 2, 1) := by decide +kernel
theorem dL_law_519 : decode code 519 = .ok (.invokevirtual 99, 3) := by decide +kernel
theorem dL_law_522 : decode code 522 = .ok (.istore 6, 2) := by decide +kernel
theorem dL_law_524 : decode code 524 = .ok (.aload_n 2, 1) := by decide +kernel
theorem dL_law_525 : decode code 525 = .ok (.invokevirtual 69, 3) := by decide +kernel
theorem dL_law_528 : decode code 528 = .ok (.iload 5, 2) := by decide +kernel
theorem dL_law_530 : decode code 530 = .ok (.if_icmp .eq 5, 3) := by decide +kernel
theorem dL_law_533 : decode code 533 = .ok (.iconst 0, 1) := by decide +kernel
theorem dL_law_534 : decode code 534 = .ok (.ireturn, 1) := by decide +kernel
theorem dL_law_535 : decode code 535 = .ok (.iload 5, 2) := by decide +kernel
theorem dL_law_537 : decode code 537 = .ok (.ifCond .ne 15, 3) := by decide +kernel
theorem dL_law_540 : decode code 540 = .ok (.aload_n 3, 1) := by decide +kernel
theorem dL_law_541 : decode code 541 = .ok (.iconst 0, 1) := by decide +kernel
theorem dL_law_542 : decode code 542 = .ok (.laload, 1) := by decide +kernel
theorem dL_law_543 : decode code 543 = .ok (.iload 6, 2) := by decide +kernel
theorem dL_law_545 : decode code 545 = .ok (.i2l, 1) := by decide +kernel
theorem dL_law_546 : decode code 546 = .ok (.lcmp, 1) := by decide +kernel
theorem dL_law_547 : decode code 547 = .ok (.ifCond .eq 5, 3) := by decide +kernel
theorem dL_law_550 : decode code 550 = .ok (.iconst 0, 1) := by decide +kernel
theorem dL_law_551 : decode code 551 = .ok (.ireturn, 1) := by decide +kernel
theorem dL_law_552 : decode code 552 = .ok (.goto 300, 3) := by decide +kernel
theorem dL_law_555 : decode code 555 = .ok (.aload_n 1, 1) := by decide +kernel
theorem dL_law_556 : decode code 556 = .ok (.invokevirtual 100, 3) := by decide +kernel
theorem dL_law_559 : decode code 559 = .ok (.aload_n 2, 1) := by decide +kernel
theorem dL_law_560 : decode code 560 = .ok (.invokevirtual 103, 3) := by decide +kernel
theorem dL_law_563 : decode code 563 = .ok (.goto 289, 3) := by decide +kernel
theorem dL_law_566 : decode code 566 = .ok (.aload_n 1, 1) := by decide +kernel
theorem dL_law_567 : decode code 567 = .ok (.aload_n 0, 1) := by decide +kernel
theorem dL_law_568 : decode code 568 = .ok (.iload 4, 2) := by decide +kernel
theorem dL_law_570 : decode code 570 = .ok (.iconst 1, 1) := by decide +kernel
theorem dL_law_571 : decode code 571 = .ok (.iadd, 1) := by decide +kernel
theorem dL_law_572 : decode code 572 = .ok (.iaload, 1) := by decide +kernel
theorem dL_law_573 : decode code 573 = .ok (.invokestatic 104, 3) := by decide +kernel
theorem dL_law_576 : decode code 576 = .ok (.istore 5, 2) := by decide +kernel
theorem dL_law_578 : decode code 578 = .ok (.aload_n 2, 1) := by decide +kernel
theorem dL_law_579 : decode code 579 = .ok (.aload_n 0, 1) := by decide +kernel
theorem dL_law_580 : decode code 580 = .ok (.iload 4, 2) := by decide +kernel
theorem dL_law_582 : decode code 582 = .ok (.iconst 1, 1) := by decide +kernel
theorem dL_law_583 : decode code 583 = .ok (.iadd, 1) := by decide +kernel
theorem dL_law_584 : decode code 584 = .ok (.iaload, 1) := by decide +kernel
theorem dL_law_585 : decode code 585 = .ok (.invokevirtual 107, 3) := by decide +kernel
theorem dL_law_588 : decode code 588 = .ok (.aload_n 2, 1) := by decide +kernel
theorem dL_law_589 : decode code 589 = .ok (.invokevirtual 69, 3) := by decide +kernel
theorem dL_law_592 : decode code 592 = .ok (.iload 5, 2) := by decide +kernel
theorem dL_law_594 : decode code 594 = .ok (.if_icmp .eq 5, 3) := by decide +kernel
theorem dL_law_597 : decode code 597 = .ok (.iconst 0, 1) := by decide +kernel
theorem dL_law_598 : decode code 598 = .ok (.ireturn, 1) := by decide +kernel
theorem dL_law_599 : decode code 599 = .ok (.goto 253, 3) := by decide +kernel
theorem dL_law_602 : decode code 602 = .ok (.aload_n 1, 1) := by decide +kernel
theorem dL_law_603 : decode code 603 = .ok (.aload_n 0, 1) := by decide +kernel
theorem dL_law_604 : decode code 604 = .ok (.iload 4, 2) := by decide +kernel
theorem dL_law_606 : decode code 606 = .ok (.iconst 1, 1) := by decide +kernel
theorem dL_law_607 : decode code 607 = .ok (.iadd, 1) := by decide +kernel
theorem dL_law_608 : decode code 608 = .ok (.iaload, 1) := by decide +kernel
theorem dL_law_609 : decode code 609 = .ok (.aload_n 3, 1) := by decide +kernel
theorem dL_law_610 : decode code 610 = .ok (.invokestatic 108, 3) := by decide +kernel
theorem dL_law_613 : decode code 613 = .ok (.istore 5, 2) := by decide +kernel
theorem dL_law_615 : decode code 615 = .ok (.aload_n 2, 1) := by decide +kernel
theorem dL_law_616 : decode code 616 = .ok (.aload_n 0, 1) := by decide +kernel
theorem dL_law_617 : decode code 617 = .ok (.iload 4, 2) := by decide +kernel
theorem dL_law_619 : decode code 619 = .ok (.iconst 1, 1) := by decide +kernel
theorem dL_law_620 : decode code 620 = .ok (.iadd, 1) := by decide +kernel
theorem dL_law_621 : decode code 621 = .ok (.iaload, 1) := by decide +kernel
theorem dL_law_622 : decode code 622 = .ok (.invokevirtual 110, 3) := by decide +kernel
theorem dL_law_625 : decode code 625 = .ok (.istore 6, 2) := by decide +kernel
theorem dL_law_627 : decode code 627 = .ok (.aload_n 2, 1) := by decide +kernel
theorem dL_law_628 : decode code 628 = .ok (.invokevirtual 69, 3) := by decide +kernel
theorem dL_law_631 : decode code 631 = .ok (.iload 5, 2) := by decide +kernel
theorem dL_law_633 : decode code 633 = .ok (.if_icmp .eq 5, 3) := by decide +kernel
theorem dL_law_636 : decode code 636 = .ok (.iconst 0, 1) := by decide +kernel
theorem dL_law_637 : decode code 637 = .ok (.ireturn, 1) := by decide +kernel
theorem dL_law_638 : decode code 638 = .ok (.iload 5, 2) := by decide +kernel
theorem dL_law_640 : decode code 640 = .ok (.ifCond .ne 15, 3) := by decide +kernel
theorem dL_law_643 : decode code 643 = .ok (.aload_n 3, 1) := by decide +kernel
theorem dL_law_644 : decode code 644 = .ok (.iconst 0, 1) := by decide +kernel
theorem dL_law_645 : decode code 645 = .ok (.laload, 1) := by decide +kernel
theorem dL_law_646 : decode code 646 = .ok (.iload 6, 2) := by decide +kernel
theorem dL_law_648 : decode code 648 = .ok (.i2l, 1) := by decide +kernel
theorem dL_law_649 : decode code 649 = .ok (.lcmp, 1) := by decide +kernel
theorem dL_law_650 : decode code 650 = .ok (.ifCond .eq 5, 3) := by decide +kernel
theorem dL_law_653 : decode code 653 = .ok (.iconst 0, 1) := by decide +kernel
theorem dL_law_654 : decode code 654 = .ok (.ireturn, 1) := by decide +kernel
theorem dL_law_655 : decode code 655 = .ok (.goto 197, 3) := by decide +kernel
theorem dL_law_658 : decode code 658 = .ok (.aload_n 1, 1) := by decide +kernel
theorem dL_law_659 : decode code 659 = .ok (.invokevirtual 111, 3) := by decide +kernel
theorem dL_law_662 : decode code 662 = .ok (.aload_n 2, 1) := by decide +kernel
theorem dL_law_663 : decode code 663 = .ok (.invokevirtual 114, 3) := by decide +kernel
theorem dL_law_666 : decode code 666 = .ok (.if_icmp .eq 186, 3) := by decide +kernel
theorem dL_law_669 : decode code 669 = .ok (.iconst 0, 1) := by decide +kernel
theorem dL_law_670 : decode code 670 = .ok (.ireturn, 1) := by decide +kernel
theorem dL_law_671 : decode code 671 = .ok (.aload_n 1, 1) := by decide +kernel
theorem dL_law_672 : decode code 672 = .ok (.aload_n 0, 1) := by decide +kernel
theorem dL_law_673 : decode code 673 = .ok (.iload 4, 2) := by decide +kernel
theorem dL_law_675 : decode code 675 = .ok (.iconst 1, 1) := by decide +kernel
theorem dL_law_676 : decode code 676 = .ok (.iadd, 1) := by decide +kernel
theorem dL_law_677 : decode code 677 = .ok (.iaload, 1) := by decide +kernel
theorem dL_law_678 : decode code 678 = .ok (.aload_n 3, 1) := by decide +kernel
theorem dL_law_679 : decode code 679 = .ok (.invokestatic 115, 3) := by decide +kernel
theorem dL_law_682 : decode code 682 = .ok (.istore 5, 2) := by decide +kernel
theorem dL_law_684 : decode code 684 = .ok (.aload_n 2, 1) := by decide +kernel
theorem dL_law_685 : decode code 685 = .ok (.aload_n 0, 1) := by decide +kernel
theorem dL_law_686 : decode code 686 = .ok (.iload 4, 2) := by decide +kernel
theorem dL_law_688 : decode code 688 = .ok (.iconst 1, 1) := by decide +kernel
theorem dL_law_689 : decode code 689 = .ok (.iadd, 1) := by decide +kernel
theorem dL_law_690 : decode code 690 = .ok (.iaload, 1) := by decide +kernel
theorem dL_law_691 : decode code 691 = .ok (.invokevirtual 117, 3) := by decide +kernel
theorem dL_law_694 : decode code 694 = .ok (.istore 6, 2) := by decide +kernel
theorem dL_law_696 : decode code 696 = .ok (.aload_n 2, 1) := by decide +kernel
theorem dL_law_697 : decode code 697 = .ok (.invokevirtual 69, 3) := by decide +kernel
theorem dL_law_700 : decode code 700 = .ok (.iload 5, 2) := by decide +kernel
theorem dL_law_702 : decode code 702 = .ok (.if_icmp .eq 5, 3) := by decide +kernel
theorem dL_law_705 : decode code 705 = .ok (.iconst 0, 1) := by decide +kernel
theorem dL_law_706 : decode code 706 = .ok (.ireturn, 1) := by decide +kernel
theorem dL_law_707 : decode code 707 = .ok (.iload 5, 2) := by decide +kernel
theorem dL_law_709 : decode code 709 = .ok (.ifCond .ne 15, 3) := by decide +kernel
theorem dL_law_712 : decode code 712 = .ok (.aload_n 3, 1) := by decide +kernel
theorem dL_law_713 : decode code 713 = .ok (.iconst 0, 1) := by decide +kernel
theorem dL_law_714 : decode code 714 = .ok (.laload, 1) := by decide +kernel
theorem dL_law_715 : decode code 715 = .ok (.iload 6, 2) := by decide +kernel
theorem dL_law_717 : decode code 717 = .ok (.i2l, 1) := by decide +kernel
theorem dL_law_718 : decode code 718 = .ok (.lcmp, 1) := by decide +kernel
theorem dL_law_719 : decode code 719 = .ok (.ifCond .eq 5, 3) := by decide +kernel
theorem dL_law_722 : decode code 722 = .ok (.iconst 0, 1) := by decide +kernel
theorem dL_law_723 : decode code 723 = .ok (.ireturn, 1) := by decide +kernel
theorem dL_law_724 : decode code 724 = .ok (.goto 128, 3) := by decide +kernel
theorem dL_law_727 : decode code 727 = .ok (.aload_n 1, 1) := by decide +kernel
theorem dL_law_728 : decode code 728 = .ok (.aload_n 0, 1) := by decide +kernel
theorem dL_law_729 : decode code 729 = .ok (.iload 4, 2) := by decide +kernel
theorem dL_law_731 : decode code 731 = .ok (.iconst 1, 1) := by decide +kernel
theorem dL_law_732 : decode code 732 = .ok (.iadd, 1) := by decide +kernel
theorem dL_law_733 : decode code 733 = .ok (.iaload, 1) := by decide +kernel
theorem dL_law_734 : decode code 734 = .ok (.aload_n 3, 1) := by decide +kernel
theorem dL_law_735 : decode code 735 = .ok (.invokestatic 118, 3) := by decide +kernel
theorem dL_law_738 : decode code 738 = .ok (.istore 5, 2) := by decide +kernel
theorem dL_law_740 : decode code 740 = .ok (.aload_n 2, 1) := by decide +kernel
theorem dL_law_741 : decode code 741 = .ok (.aload_n 0, 1) := by decide +kernel
theorem dL_law_742 : decode code 742 = .ok (.iload 4, 2) := by decide +kernel
theorem dL_law_744 : decode code 744 = .ok (.iconst 1, 1) := by decide +kernel
theorem dL_law_745 : decode code 745 = .ok (.iadd, 1) := by decide +kernel
theorem dL_law_746 : decode code 746 = .ok (.iaload, 1) := by decide +kernel
theorem dL_law_747 : decode code 747 = .ok (.invokevirtual 120, 3) := by decide +kernel
theorem dL_law_750 : decode code 750 = .ok (.istore 6, 2) := by decide +kernel
theorem dL_law_752 : decode code 752 = .ok (.aload_n 2, 1) := by decide +kernel
theorem dL_law_753 : decode code 753 = .ok (.invokevirtual 69, 3) := by decide +kernel
theorem dL_law_756 : decode code 756 = .ok (.iload 5, 2) := by decide +kernel
theorem dL_law_758 : decode code 758 = .ok (.if_icmp .eq 5, 3) := by decide +kernel
theorem dL_law_761 : decode code 761 = .ok (.iconst 0, 1) := by decide +kernel
theorem dL_law_762 : decode code 762 = .ok (.ireturn, 1) := by decide +kernel
theorem dL_law_763 : decode code 763 = .ok (.iload 5, 2) := by decide +kernel
theorem dL_law_765 : decode code 765 = .ok (.ifCond .ne 15, 3) := by decide +kernel
theorem dL_law_768 : decode code 768 = .ok (.aload_n 3, 1) := by decide +kernel
theorem dL_law_769 : decode code 769 = .ok (.iconst 0, 1) := by decide +kernel
theorem dL_law_770 : decode code 770 = .ok (.laload, 1) := by decide +kernel
theorem dL_law_771 : decode code 771 = .ok (.iload 6, 2) := by decide +kernel
theorem dL_law_773 : decode code 773 = .ok (.i2l, 1) := by decide +kernel
theorem dL_law_774 : decode code 774 = .ok (.lcmp, 1) := by decide +kernel
theorem dL_law_775 : decode code 775 = .ok (.ifCond .eq 5, 3) := by decide +kernel
theorem dL_law_778 : decode code 778 = .ok (.iconst 0, 1) := by decide +kernel
theorem dL_law_779 : decode code 779 = .ok (.ireturn, 1) := by decide +kernel
theorem dL_law_780 : decode code 780 = .ok (.goto 72, 3) := by decide +kernel
theorem dL_law_783 : decode code 783 = .ok (.aload_n 1, 1) := by decide +kernel
theorem dL_law_784 : decode code 784 = .ok (.invokevirtual 121, 3) := by decide +kernel
theorem dL_law_787 : decode code 787 = .ok (.aload_n 2, 1) := by decide +kernel
theorem dL_law_788 : decode code 788 = .ok (.invokevirtual 124, 3) := by decide +kernel
theorem dL_law_791 : decode code 791 = .ok (.if_icmp .eq 61, 3) := by decide +kernel
theorem dL_law_794 : decode code 794 = .ok (.iconst 0, 1) := by decide +kernel
theorem dL_law_795 : decode code 795 = .ok (.ireturn, 1) := by decide +kernel
theorem dL_law_796 : decode code 796 = .ok (.aload_n 1, 1) := by decide +kernel
theorem dL_law_797 : decode code 797 = .ok (.aload_n 0, 1) := by decide +kernel
theorem dL_law_798 : decode code 798 = .ok (.iload 4, 2) := by decide +kernel
theorem dL_law_800 : decode code 800 = .ok (.iconst 1, 1) := by decide +kernel
theorem dL_law_801 : decode code 801 = .ok (.iadd, 1) := by decide +kernel
theorem dL_law_802 : decode code 802 = .ok (.iaload, 1) := by decide +kernel
theorem dL_law_803 : decode code 803 = .ok (.aload_n 3, 1) := by decide +kernel
theorem dL_law_804 : decode code 804 = .ok (.invokestatic 125, 3) := by decide +kernel
theorem dL_law_807 : decode code 807 = .ok (.istore 5, 2) := by decide +kernel
theorem dL_law_809 : decode code 809 = .ok (.aload_n 2, 1) := by decide +kernel
theorem dL_law_810 : decode code 810 = .ok (.aload_n 0, 1) := by decide +kernel
theorem dL_law_811 : decode code 811 = .ok (.iload 4, 2) := by decide +kernel
theorem dL_law_813 : decode code 813 = .ok (.iconst 1, 1) := by decide +kernel
theorem dL_law_814 : decode code 814 = .ok (.iadd, 1) := by decide +kernel
theorem dL_law_815 : decode code 815 = .ok (.iaload, 1) := by decide +kernel
theorem dL_law_816 : decode code 816 = .ok (.invokevirtual 127, 3) := by decide +kernel
theorem dL_law_819 : decode code 819 = .ok (.istore 6, 2) := by decide +kernel
theorem dL_law_821 : decode code 821 = .ok (.aload_n 2, 1) := by decide +kernel
theorem dL_law_822 : decode code 822 = .ok (.invokevirtual 69, 3) := by decide +kernel
theorem dL_law_825 : decode code 825 = .ok (.iload 5, 2) := by decide +kernel
theorem dL_law_827 : decode code 827 = .ok (.if_icmp .eq 5, 3) := by decide +kernel
theorem dL_law_830 : decode code 830 = .ok (.iconst 0, 1) := by decide +kernel
theorem dL_law_831 : decode code 831 = .ok (.ireturn, 1) := by decide +kernel
theorem dL_law_832 : decode code 832 = .ok (.iload 5, 2) := by decide +kernel
theorem dL_law_834 : decode code 834 = .ok (.ifCond .ne 15, 3) := by decide +kernel
theorem dL_law_837 : decode code 837 = .ok (.aload_n 3, 1) := by decide +kernel
theorem dL_law_838 : decode code 838 = .ok (.iconst 0, 1) := by decide +kernel
theorem dL_law_839 : decode code 839 = .ok (.laload, 1) := by decide +kernel
theorem dL_law_840 : decode code 840 = .ok (.iload 6, 2) := by decide +kernel
theorem dL_law_842 : decode code 842 = .ok (.i2l, 1) := by decide +kernel
theorem dL_law_843 : decode code 843 = .ok (.lcmp, 1) := by decide +kernel
theorem dL_law_844 : decode code 844 = .ok (.ifCond .eq 5, 3) := by decide +kernel
theorem dL_law_847 : decode code 847 = .ok (.iconst 0, 1) := by decide +kernel
theorem dL_law_848 : decode code 848 = .ok (.ireturn, 1) := by decide +kernel
theorem dL_law_849 : decode code 849 = .ok (.goto 3, 3) := by decide +kernel
theorem dL_law_852 : decode code 852 = .ok (.iinc 4 3, 3) := by decide +kernel
theorem dL_law_855 : decode code 855 = .ok (.goto (-832), 3) := by decide +kernel
theorem dL_law_858 : decode code 858 = .ok (.iconst 1, 1) := by decide +kernel
theorem dL_law_859 : decode code 859 = .ok (.ireturn, 1) := by decide +kernel
