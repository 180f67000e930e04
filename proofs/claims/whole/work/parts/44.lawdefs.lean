theorem d_law_0 : decode code 0 = .ok (.new 8, 3) := by decide +kernel
theorem d_law_3 : decode code 3 = .ok (.dup, 1) := by decide +kernel
theorem d_law_4 : decode code 4 = .ok (.aload_n 0, 1) := by decide +kernel
theorem d_law_5 : decode code 5 = .ok (.iconst 0, 1) := by decide +kernel
theorem d_law_6 : decode code 6 = .ok (.invokestatic 69, 3) := by decide +kernel
theorem d_law_9 : decode code 9 = .ok (.invokespecial 75, 3) := by decide +kernel
theorem d_law_12 : decode code 12 = .ok (.astore_n 1, 1) := by decide +kernel
theorem d_law_13 : decode code 13 = .ok (.new 78, 3) := by decide +kernel
theorem d_law_16 : decode code 16 = .ok (.dup, 1) := by decide +kernel
theorem d_law_17 : decode code 17 = .ok (.aload_n 0, 1) := by decide +kernel
theorem d_law_18 : decode code 18 = .ok (.iconst 0, 1) := by decide +kernel
theorem d_law_19 : decode code 19 = .ok (.invokestatic 69, 3) := by decide +kernel
theorem d_law_22 : decode code 22 = .ok (.invokespecial 80, 3) := by decide +kernel
theorem d_law_25 : decode code 25 = .ok (.astore_n 2, 1) := by decide +kernel
theorem d_law_26 : decode code 26 = .ok (.iconst 1, 1) := by decide +kernel
theorem d_law_27 : decode code 27 = .ok (.newarray .long, 2) := by decide +kernel
theorem d_law_29 : decode code 29 = .ok (.astore_n 3, 1) := by decide +kernel
theorem d_law_30 : decode code 30 = .ok (.iconst 1, 1) := by decide +kernel
theorem d_law_31 : decode code 31 = .ok (.istore 4, 2) := by decide +kernel
theorem d_law_33 : decode code 33 = .ok (.iload 4, 2) := by decide +kernel
theorem d_law_35 : decode code 35 = .ok (.aload_n 0, 1) := by decide +kernel
theorem d_law_36 : decode code 36 = .ok (.arraylength, 1) := by decide +kernel
theorem d_law_37 : decode code 37 = .ok (.bipush 6, 2) := by decide +kernel
theorem d_law_39 : decode code 39 = .ok (.isub, 1) := by decide +kernel
theorem d_law_40 : decode code 40 = .ok (.if_icmp .gt 1315, 3) := by decide +kernel
theorem d_law_43 : decode code 43 = .ok (.aload_n 0, 1) := by decide +kernel
theorem d_law_44 : decode code 44 = .ok (.iload 4, 2) := by decide +kernel
theorem d_law_46 : decode code 46 = .ok (.iaload, 1) := by decide +kernel
theorem d_law_47 : decode code 47 = .ok (.bipush 31, 2) := by decide +kernel
theorem d_law_49 : decode code 49 = .ok (.iand, 1) := by decide +kernel
theorem d_law_50 : decode code 50 = .ok (.tableswitch 1299 0 19 #[94, 150, 254, 310, 323, 391, 482, 550, 618, 721, 777, 833, 889, 945, 958, 1026, 1094, 1162, 1230, 1286], 94) := by decide +kernel
theorem d_law_144 : decode code 144 = .ok (.aload_n 1, 1) := by decide +kernel
theorem d_law_145 : decode code 145 = .ok (.aload_n 0, 1) := by decide +kernel
theorem d_law_146 : decode code 146 = .ok (.iload 4, 2) := by decide +kernel
theorem d_law_148 : decode code 148 = .ok (.iconst 1, 1) := by decide +kernel
theorem d_law_149 : decode code 149 = .ok (.iadd, 1) := by decide +kernel
theorem d_law_150 : decode code 150 = .ok (.iaload, 1) := by decide +kernel
theorem d_law_151 : decode code 151 = .ok (.aload_n 3, 1) := by decide +kernel
theorem d_law_152 : decode code 152 = .ok (.invokestatic 81, 3) := by decide +kernel
theorem d_law_155 : decode code 155 = .ok (.istore 5, 2) := by decide +kernel
theorem d_law_157 : decode code 157 = .ok (.aload_n 2, 1) := by decide +kernel
theorem d_law_158 : decode code 158 = .ok (.aload_n 0, 1) := by decide +kernel
theorem d_law_159 : decode code 159 = .ok (.iload 4, 2) := by decide +kernel
theorem d_law_161 : decode code 161 = .ok (.iconst 1, 1) := by decide +kernel
theorem d_law_162 : decode code 162 = .ok (.iadd, 1) := by decide +kernel
theorem d_law_163 : decode code 163 = .ok (.iaload, 1) := by decide +kernel
theorem d_law_164 : decode code 164 = .ok (.invokevirtual 84, 3) := by decide +kernel
theorem d_law_167 : decode code 167 = .ok (.istore 6, 2) := by decide +kernel
theorem d_law_169 : decode code 169 = .ok (.aload_n 2, 1) := by decide +kernel
theorem d_law_170 : decode code 170 = .ok (.invokevirtual 85, 3) := by decide +kernel
theorem d_law_173 : decode code 173 = .ok (.iload 5, 2) := by decide +kernel
theorem d_law_175 : decode code 175 = .ok (.if_icmp .eq 5, 3) := by decide +kernel
theorem d_law_178 : decode code 178 = .ok (.iconst 0, 1) := by decide +kernel
theorem d_law_179 : decode code 179 = .ok (.ireturn, 1) := by decide +kernel
theorem d_law_180 : decode code 180 = .ok (.iload 5, 2) := by decide +kernel
theorem d_law_182 : decode code 182 = .ok (.ifCond .ne 15, 3) := by decide +kernel
theorem d_law_185 : decode code 185 = .ok (.aload_n 3, 1) := by decide +kernel
theorem d_law_186 : decode code 186 = .ok (.iconst 0, 1) := by decide +kernel
theorem d_law_187 : decode code 187 = .ok (.laload, 1) := by decide +kernel
theorem d_law_188 : decode code 188 = .ok (.iload 6, 2) := by decide +kernel
theorem d_law_190 : decode code 190 = .ok (.i2l, 1) := by decide +kernel
theorem d_law_191 : decode code 191 = .ok (.lcmp, 1) := by decide +kernel
theorem d_law_192 : decode code 192 = .ok (.ifCond .eq 5, 3) := by decide +kernel
theorem d_law_195 : decode code 195 = .ok (.iconst 0, 1) := by decide +kernel
theorem d_law_196 : decode code 196 = .ok (.ireturn, 1) := by decide +kernel
theorem d_law_197 : decode code 197 = .ok (.goto 1152, 3) := by decide +kernel
theorem d_law_200 : decode code 200 = .ok (.aload_n 1, 1) := by decide +kernel
theorem d_law_201 : decode code 201 = .ok (.aload_n 0, 1) := by decide +kernel
theorem d_law_202 : decode code 202 = .ok (.iload 4, 2) := by decide +kernel
theorem d_law_204 : decode code 204 = .ok (.iconst 1, 1) := by decide +kernel
theorem d_law_205 : decode code 205 = .ok (.iadd, 1) := by decide +kernel
theorem d_law_206 : decode code 206 = .ok (.iaload, 1) := by decide +kernel
theorem d_law_207 : decode code 207 = .ok (.aload_n 0, 1) := by decide +kernel
theorem d_law_208 : decode code 208 = .ok (.iload 4, 2) := by decide +kernel
theorem d_law_210 : decode code 210 = .ok (.iconst 2, 1) := by decide +kernel
theorem d_law_211 : decode code 211 = .ok (.iadd, 1) := by decide +kernel
theorem d_law_212 : decode code 212 = .ok (.iaload, 1) := by decide +kernel
theorem d_law_213 : decode code 213 = .ok (.aload_n 0, 1) := by decide +kernel
theorem d_law_214 : decode code 214 = .ok (.iload 4, 2) := by decide +kernel
theorem d_law_216 : decode code 216 = .ok (.iconst 3, 1) := by decide +kernel
theorem d_law_217 : decode code 217 = .ok (.iadd, 1) := by decide +kernel
theorem d_law_218 : decode code 218 = .ok (.iaload, 1) := by decide +kernel
theorem d_law_219 : decode code 219 = .ok (.aload_n 0, 1) := by decide +kernel
theorem d_law_220 : decode code 220 = .ok (.iload 4, 2) := by decide +kernel
theorem d_law_222 : decode code 222 = .ok (.iconst 4, 1) := by decide +kernel
theorem d_law_223 : decode code 223 = .ok (.iadd, 1) := by decide +kernel
theorem d_law_224 : decode code 224 = .ok (.iaload, 1) := by decide +kernel
theorem d_law_225 : decode code 225 = .ok (.aload_n 0, 1) := by decide +kernel
theorem d_law_226 : decode code 226 = .ok (.iload 4, 2) := by decide +kernel
theorem d_law_228 : decode code 228 = .ok (.iconst 5, 1) := by decide +kernel
theorem d_law_229 : decode code 229 = .ok (.iadd, 1) := by decide +kernel
theorem d_law_230 : decode code 230 = .ok (.iaload, 1) := by decide +kernel
theorem d_law_231 : decode code 231 = .ok (.aload_n 3, 1) := by decide +kernel
theorem d_law_232 : decode code 232 = .ok (.invokestatic 89, 3) := by decide +kernel
theorem d_law_235 : decode code 235 = .ok (.istore 5, 2) := by decide +kernel
theorem d_law_237 : decode code 237 = .ok (.aload_n 2, 1) := by decide +kernel
theorem d_law_238 : decode code 238 = .ok (.aload_n 0, 1) := by decide +kernel
theorem d_law_239 : decode code 239 = .ok (.iload 4, 2) := by decide +kernel
theorem d_law_241 : decode code 241 = .ok (.iconst 1, 1) := by decide +kernel
theorem d_law_242 : decode code 242 = .ok (.iadd, 1) := by decide +kernel
theorem d_law_243 : decode code 243 = .ok (.iaload, 1) := by decide +kernel
theorem d_law_244 : decode code 244 = .ok (.aload_n 0, 1) := by decide +kernel
theorem d_law_245 : decode code 245 = .ok (.iload 4, 2) := by decide +kernel
theorem d_law_247 : decode code 247 = .ok (.iconst 2, 1) := by decide +kernel
theorem d_law_248 : decode code 248 = .ok (.iadd, 1) := by decide +kernel
theorem d_law_249 : decode code 249 = .ok (.iaload, 1) := by decide +kernel
theorem d_law_250 : decode code 250 = .ok (.aload_n 0, 1) := by decide +kernel
theorem d_law_251 : decode code 251 = .ok (.iload 4, 2) := by decide +kernel
theorem d_law_253 : decode code 253 = .ok (.iconst 3, 1) := by decide +kernel
theorem d_law_254 : decode code 254 = .ok (.iadd, 1) := by decide +kernel
theorem d_law_255 : decode code 255 = .ok (.iaload, 1) := by decide +kernel
theorem d_law_256 : decode code 256 = .ok (.aload_n 0, 1) := by decide +kernel
theorem d_law_257 : decode code 257 = .ok (.iload 4, 2) := by decide +kernel
theorem d_law_259 : decode code 259 = .ok (.iconst 4, 1) := by decide +kernel
theorem d_law_260 : decode code 260 = .ok (.iadd, 1) := by decide +kernel
theorem d_law_261 : decode code 261 = .ok (.iaload, 1) := by decide +kernel
theorem d_law_262 : decode code 262 = .ok (.aload_n 0, 1) := by decide +kernel
theorem d_law_263 : decode code 263 = .ok (.iload 4, 2) := by decide +kernel
theorem d_law_265 : decode code 265 = .ok (.iconst 5, 1) := by decide +kernel
theorem d_law_266 : decode code 266 = .ok (.iadd, 1) := by decide +kernel
theorem d_law_267 : decode code 267 = .ok (.iaload, 1) := by decide +kernel
theorem d_law_268 : decode code 268 = .ok (.invokevirtual 92, 3) := by decide +kernel
theorem d_law_271 : decode code 271 = .ok (.istore 6, 2) := by decide +kernel
theorem d_law_273 : decode code 273 = .ok (.aload_n 2, 1) := by decide +kernel
theorem d_law_274 : decode code 274 = .ok (.invokevirtual 85, 3) := by decide +kernel
theorem d_law_277 : decode code 277 = .ok (.iload 5, 2) := by decide +kernel
theorem d_law_279 : decode code 279 = .ok (.if_icmp .eq 5, 3) := by decide +kernel
theorem d_law_282 : decode code 282 = .ok (.iconst 0, 1) := by decide +kernel
theorem d_law_283 : decode code 283 = .ok (.ireturn, 1) := by decide +kernel
theorem d_law_284 : decode code 284 = .ok (.iload 5, 2) := by decide +kernel
theorem d_law_286 : decode code 286 = .ok (.ifCond .ne 15, 3) := by decide +kernel
theorem d_law_289 : decode code 289 = .ok (.aload_n 3, 1) := by decide +kernel
theorem d_law_290 : decode code 290 = .ok (.iconst 0, 1) := by decide +kernel
theorem d_law_291 : decode code 291 = .ok (.laload, 1) := by decide +kernel
theorem d_law_292 : decode code 292 = .ok (.iload 6, 2) := by decide +kernel
theorem d_law_294 : decode code 294 = .ok (.i2l, 1) := by decide +kernel
theorem d_law_295 : decode code 295 = .ok (.lcmp, 1) := by decide +kernel
theorem d_law_296 : decode code 296 = .ok (.ifCond .eq 5, 3) := by decide +kernel
theorem d_law_299 : decode code 299 = .ok (.iconst 0, 1) := by decide +kernel
theorem d_law_300 : decode code 300 = .ok (.ireturn, 1) := by decide +kernel
theorem d_law_301 : decode code 301 = .ok (.goto 1048, 3) := by decide +kernel
theorem d_law_304 : decode code 304 = .ok (.aload_n 1, 1) := by decide +kernel
theorem d_law_305 : decode code 305 = .ok (.aload_n 0, 1) := by decide +kernel
theorem d_law_306 : decode code 306 = .ok (.iload 4, 2) := by decide +kernel
theorem d_law_308 : decode code 308 = .ok (.iconst 1, 1) := by decide +kernel
theorem d_law_309 : decode code 309 = .ok (.iadd, 1) := by decide +kernel
theorem d_law_310 : decode code 310 = .ok (.iaload, 1) := by decide +kernel
theorem d_law_311 : decode code 311 = .ok (.aload_n 3, 1) := by decide +kernel
theorem d_law_312 : decode code 312 = .ok (.invokestatic 93, 3) := by decide +kernel
theorem d_law_315 : decode code 315 = .ok (.istore 5, 2) := by decide +kernel
theorem d_law_317 : decode code 317 = .ok (.aload_n 2, 1) := by decide +kernel
theorem d_law_318 : decode code 318 = .ok (.aload_n 0, 1) := by decide +kernel
theorem d_law_319 : decode code 319 = .ok (.iload 4, 2) := by decide +kernel
theorem d_law_321 : decode code 321 = .ok (.iconst 1, 1) := by decide +kernel
theorem d_law_322 : decode code 322 = .ok (.iadd, 1) := by decide +kernel
theorem d_law_323 : decode code 323 = .ok (.iaload, 1) := by decide +kernel
theorem d_law_324 : decode code 324 = .ok (.invokevirtual 95, 3) := by decide +kernel
theorem d_law_327 : decode code 327 = .ok (.istore 6, 2) := by decide +kernel
theorem d_law_329 : decode code 329 = .ok (.aload_n 2, 1) := by decide +kernel
theorem d_law_330 : decode code 330 = .ok (.invokevirtual 85, 3) := by decide +kernel
theorem d_law_333 : decode code 333 = .ok (.iload 5, 2) := by decide +kernel
theorem d_law_335 : decode code 335 = .ok (.if_icmp .eq 5, 3) := by decide +kernel
theorem d_law_338 : decode code 338 = .ok (.iconst 0, 1) := by decide +kernel
theorem d_law_339 : decode code 339 = .ok (.ireturn, 1) := by decide +kernel
theorem d_law_340 : decode code 340 = .ok (.iload 5, 2) := by decide +kernel
theorem d_law_342 : decode code 342 = .ok (.ifCond .ne 15, 3) := by decide +kernel
theorem d_law_345 : decode code 345 = .ok (.aload_n 3, 1) := by decide +kernel
theorem d_law_346 : decode code 346 = .ok (.iconst 0, 1) := by decide +kernel
theorem d_law_347 : decode code 347 = .ok (.laload, 1) := by decide +kernel
theorem d_law_348 : decode code 348 = .ok (.iload 6, 2) := by decide +kernel
theorem d_law_350 : decode code 350 = .ok (.i2l, 1) := by decide +kernel
theorem d_law_351 : decode code 351 = .ok (.lcmp, 1) := by decide +kernel
theorem d_law_352 : decode code 352 = .ok (.ifCond .eq 5, 3) := by decide +kernel
theorem d_law_355 : decode code 355 = .ok (.iconst 0, 1) := by decide +kernel
theorem d_law_356 : decode code 356 = .ok (.ireturn, 1) := by decide +kernel
theorem d_law_357 : decode code 357 = .ok (.goto 992, 3) := by decide +kernel
theorem d_law_360 : decode code 360 = .ok (.aload_n 1, 1) := by decide +kernel
theorem d_law_361 : decode code 361 = .ok (.invokevirtual 96, 3) := by decide +kernel
theorem d_law_364 : decode code 364 = .ok (.aload_n 2, 1) := by decide +kernel
theorem d_law_365 : decode code 365 = .ok (.invokevirtual 99, 3) := by decide +kernel
theorem d_law_368 : decode code 368 = .ok (.if_icmp .eq 981, 3) := by decide +kernel
theorem d_law_371 : decode code 371 = .ok (.iconst 0, 1) := by decide +kernel
theorem d_law_372 : decode code 372 = .ok (.ireturn, 1) := by decide +kernel
theorem d_law_373 : decode code 373 = .ok (.aload_n 1, 1) := by decide +kernel
theorem d_law_374 : decode code 374 = .ok (.aload_n 0, 1) := by decide +kernel
theorem d_law_375 : decode code 375 = .ok (.iload 4, 2) := by decide +kernel
theorem d_law_377 : decode code 377 = .ok (.iconst 1, 1) := by decide +kernel
theorem d_law_378 : decode code 378 = .ok (.iadd, 1) := by decide +kernel
theorem d_law_379 : decode code 379 = .ok (.iaload, 1) := by decide +kernel
theorem d_law_380 : decode code 380 = .ok (.aload_n 0, 1) := by decide +kernel
theorem d_law_381 : decode code 381 = .ok (.iload 4, 2) := by decide +kernel
theorem d_law_383 : decode code 383 = .ok (.iconst 2, 1) := by decide +kernel
theorem d_law_384 : decode code 384 = .ok (.iadd, 1) := by decide +kernel
theorem d_law_385 : decode code 385 = .ok (.iaload, 1) := by decide +kernel
theorem d_law_386 : decode code 386 = .ok (.aload_n 3, 1) := by decide +kernel
theorem d_law_387 : decode code 387 = .ok (.invokestatic 100, 3) := by decide +kernel
theorem d_law_390 : decode code 390 = .ok (.istore 5, 2) := by decide +kernel
theorem d_law_392 : decode code 392 = .ok (.aload_n 2, 1) := by decide +kernel
theorem d_law_393 : decode code 393 = .ok (.aload_n 0, 1) := by decide +kernel
theorem d_law_394 : decode code 394 = .ok (.iload 4, 2) := by decide +kernel
theorem d_law_396 : decode code 396 = .ok (.iconst 1, 1) := by decide +kernel
theorem d_law_397 : decode code 397 = .ok (.iadd, 1) := by decide +kernel
theorem d_law_398 : decode code 398 = .ok (.iaload, 1) := by decide +kernel
theorem d_law_399 : decode code 399 = .ok (.aload_n 0, 1) := by decide +kernel
theorem d_law_400 : decode code 400 = .ok (.iload 4, 2) := by decide +kernel
theorem d_law_402 : decode code 402 = .ok (.iconst 2, 1) := by decide +kernel
theorem d_law_403 : decode code 403 = .ok (.iadd, 1) := by decide +kernel
theorem d_law_404 : decode code 404 = .ok (.iaload, 1) := by decide +kernel
theorem d_law_405 : decode code 405 = .ok (.invokevirtual 103, 3) := by decide +kernel
theorem d_law_408 : decode code 408 = .ok (.istore 6, 2) := by decide +kernel
theorem d_law_410 : decode code 410 = .ok (.aload_n 2, 1) := by decide +kernel
theorem d_law_411 : decode code 411 = .ok (.invokevirtual 85, 3) := by decide +kernel
theorem d_law_414 : decode code 414 = .ok (.iload 5, 2) := by decide +kernel
theorem d_law_416 : decode code 416 = .ok (.if_icmp .eq 5, 3) := by decide +kernel
theorem d_law_419 : decode code 419 = .ok (.iconst 0, 1) := by decide +kernel
theorem d_law_420 : decode code 420 = .ok (.ireturn, 1) := by decide +kernel
theorem d_law_421 : decode code 421 = .ok (.iload 5, 2) := by decide +kernel
theorem d_law_423 : decode code 423 = .ok (.ifCond .ne 15, 3) := by decide +kernel
theorem d_law_426 : decode code 426 = .ok (.aload_n 3, 1) := by decide +kernel
theorem d_law_427 : decode code 427 = .ok (.iconst 0, 1) := by decide +kernel
theorem d_law_428 : decode code 428 = .ok (.laload, 1) := by decide +kernel
theorem d_law_429 : decode code 429 = .ok (.iload 6, 2) := by decide +kernel
theorem d_law_431 : decode code 431 = .ok (.i2l, 1) := by decide +kernel
theorem d_law_432 : decode code 432 = .ok (.lcmp, 1) := by decide +kernel
theorem d_law_433 : decode code 433 = .ok (.ifCond .eq 5, 3) := by decide +kernel
theorem d_law_436 : decode code 436 = .ok (.iconst 0, 1) := by decide +kernel
theorem d_law_437 : decode code 437 = .ok (.ireturn, 1) := by decide +kernel
theorem d_law_438 : decode code 438 = .ok (.goto 911, 3) := by decide +kernel
theorem d_law_441 : decode code 441 = .ok (.aload_n 1, 1) := by decide +kernel
theorem d_law_442 : decode code 442 = .ok (.aload_n 0, 1) := by decide +kernel
theorem d_law_443 : decode code 443 = .ok (.iload 4, 2) := by decide +kernel
theorem d_law_445 : decode code 445 = .ok (.iconst 1, 1) := by decide +kernel
theorem d_law_446 : decode code 446 = .ok (.iadd, 1) := by decide +kernel
theorem d_law_447 : decode code 447 = .ok (.iaload, 1) := by decide +kernel
theorem d_law_448 : decode code 448 = .ok (.aload_n 0, 1) := by decide +kernel
theorem d_law_449 : decode code 449 = .ok (.iload 4, 2) := by decide +kernel
theorem d_law_451 : decode code 451 = .ok (.iconst 2, 1) := by decide +kernel
theorem d_law_452 : decode code 452 = .ok (.iadd, 1) := by decide +kernel
theorem d_law_453 : decode code 453 = .ok (.iaload, 1) := by decide +kernel
theorem d_law_454 : decode code 454 = .ok (.ifCond .eq 7, 3) := by decide +kernel
theorem d_law_457 : decode code 457 = .ok (.iconst 1, 1) := by decide +kernel
theorem d_law_458 : decode code 458 = .ok (.goto 4, 3) := by decide +kernel
theorem d_law_461 : decode code 461 = .ok (.iconst 0, 1) := by decide +kernel
theorem d_law_462 : decode code 462 = .ok (.aload_n 3, 1) := by decide +kernel
theorem d_law_463 : decode code 463 = .ok (.invokestatic 104, 3) := by decide +kernel
theorem d_law_466 : decode code 466 = .ok (.istore 5, 2) := by decide +kernel
theorem d_law_468 : decode code 468 = .ok (.aload_n 2, 1) := by decide +kernel
theorem d_law_469 : decode code 469 = .ok (.aload_n 0, 1) := by decide +kernel
theorem d_law_470 : decode code 470 = .ok (.iload 4, 2) := by decide +kernel
theorem d_law_472 : decode code 472 = .ok (.iconst 1, 1) := by decide +kernel
theorem d_law_473 : decode code 473 = .ok (.iadd, 1) := by decide +kernel
theorem d_law_474 : decode code 474 = .ok (.iaload, 1) := by decide +kernel
theorem d_law_475 : decode code 475 = .ok (.aload_n 0, 1) := by decide +kernel
theorem d_law_476 : decode code 476 = .ok (.iload 4, 2) := by decide +kernel
theorem d_law_478 : decode code 478 = .ok (.iconst 2, 1) := by decide +kernel
theorem d_law_479 : decode code 479 = .ok (.iadd, 1) := by decide +kernel
theorem d_law_480 : decode code 480 = .ok (.iaload, 1) := by decide +kernel
theorem d_law_481 : decode code 481 = .ok (.ifCond .eq 7, 3) := by decide +kernel
theorem d_law_484 : decode code 484 = .ok (.iconst 1, 1) := by decide +kernel
theorem d_law_485 : decode code 485 = .ok (.goto 4, 3) := by decide +kernel
theorem d_law_488 : decode code 488 = .ok (.iconst 0, 1) := by decide +kernel
theorem d_law_489 : decode code 489 = .ok (.invokevirtual 107, 3) := by decide +kernel
theorem d_law_492 : decode code 492 = .ok (.istore 6, 2) := by decide +kernel
theorem d_law_494 : decode code 494 = .ok (.aload_n 2, 1) := by decide +kernel
theorem d_law_495 : decode code 495 = .ok (.invokevirtual 85, 3) := by decide +kernel
theorem d_law_498 : decode code 498 = .ok (.iload 5, 2) := by decide +kernel
theorem d_law_500 : decode code 500 = .ok (.if_icmp .eq 5, 3) := by decide +kernel
theorem d_law_503 : decode code 503 = .ok (.iconst 0, 1) := by decide +kernel
theorem d_law_504 : decode code 504 = .ok (.ireturn, 1) := by decide +kernel
theorem d_law_505 : decode code 505 = .ok (.iload 5, 2) := by decide +kernel
theorem d_law_507 : decode code 507 = .ok (.ifCond .ne 22, 3) := by decide +kernel
theorem d_law_510 : decode code 510 = .ok (.aload_n 3, 1) := by decide +kernel
theorem d_law_511 : decode code 511 = .ok (.iconst 0, 1) := by decide +kernel
theorem d_law_512 : decode code 512 = .ok (.laload, 1) := by decide +kernel
theorem d_law_513 : decode code 513 = .ok (.iload 6, 2) := by decide +kernel
theorem d_law_515 : decode code 515 = .ok (.ifCond .eq 7, 3) := by decide +kernel
theorem d_law_518 : decode code 518 = .ok (.lconst 1, 1) := by decide +kernel
theorem d_law_519 : decode code 519 = .ok (.goto 4, 3) := by decide +kernel
theorem d_law_522 : decode code 522 = .ok (.lconst 0, 1) := by decide +kernel
theorem d_law_523 : decode code 523 = .ok (.lcmp, 1) := by decide +kernel
theorem d_law_524 : decode code 524 = .ok (.ifCond .eq 5, 3) := by decide +kernel
theorem d_law_527 : decode code 527 = .ok (.iconst 0, 1) := by decide +kernel
theorem d_law_528 : decode code 528 = .ok (.ireturn, 1) := by decide +kernel
theorem d_law_529 : decode code 529 = .ok (.goto 820, 3) := by decide +kernel
theorem d_law_532 : decode code 532 = .ok (.aload_n 1, 1) := by decide +kernel
theorem d_law_533 : decode code 533 = .ok (.aload_n 0, 1) := by decide +kernel
theorem d_law_534 : decode code 534 = .ok (.iload 4, 2) := by decide +kernel
theorem d_law_536 : decode code 536 = .ok (.iconst 1, 1) := by decide +kernel
theorem d_law_537 : decode code 537 = .ok (.iadd, 1) := by decide +kernel
theorem d_law_538 : decode code 538 = .ok (.iaload, 1) := by decide +kernel
theorem d_law_539 : decode code 539 = .ok (.aload_n 0, 1) := by decide +kernel
theorem d_law_540 : decode code 540 = .ok (.iload 4, 2) := by decide +kernel
theorem d_law_542 : decode code 542 = .ok (.iconst 2, 1) := by decide +kernel
theorem d_law_543 : decode code 543 = .ok (.iadd, 1) := by decide +kernel
theorem d_law_544 : decode code 544 = .ok (.iaload, 1) := by decide +kernel
theorem d_law_545 : decode code 545 = .ok (.aload_n 3, 1) := by decide +kernel
theorem d_law_546 : decode code 546 = .ok (.invokestatic 108, 3) := by decide +kernel
theorem d_law_549 : decode code 549 = .ok (.istore 5, 2) := by decide +kernel
theorem d_law_551 : decode code 551 = .ok (.aload_n 2, 1) := by decide +kernel
theorem d_law_552 : decode code 552 = .ok (.aload_n 0, 1) := by decide +kernel
theorem d_law_553 : decode code 553 = .ok (.iload 4, 2) := by decide +kernel
theorem d_law_555 : decode code 555 = .ok (.iconst 1, 1) := by decide +kernel
theorem d_law_556 : decode code 556 = .ok (.iadd, 1) := by decide +kernel
theorem d_law_557 : decode code 557 = .ok (.iaload, 1) := by decide +kernel
theorem d_law_558 : decode code 558 = .ok (.aload_n 0, 1) := by decide +kernel
theorem d_law_559 : decode code 559 = .ok (.iload 4, 2) := by decide +kernel
theorem d_law_561 : decode code 561 = .ok (.iconst 2, 1) := by decide +kernel
theorem d_law_562 : decode code 562 = .ok (.iadd, 1) := by decide +kernel
theorem d_law_563 : decode code 563 = .ok (.iaload, 1) := by decide +kernel
theorem d_law_564 : decode code 564 = .ok (.invokevirtual 110, 3) := by decide +kernel
theorem d_law_567 : decode code 567 = .ok (.istore 6, 2) := by decide +kernel
theorem d_law_569 : decode code 569 = .ok (.aload_n 2, 1) := by decide +kernel
theorem d_law_570 : decode code 570 = .ok (.invokevirtual 85, 3) := by decide +kernel
theorem d_law_573 : decode code 573 = .ok (.iload 5, 2) := by decide +kernel
theorem d_law_575 : decode code 575 = .ok (.if_icmp .eq 5, 3) := by decide +kernel
theorem d_law_578 : decode code 578 = .ok (.iconst 0, 1) := by decide +kernel
theorem d_law_579 : decode code 579 = .ok (.ireturn, 1) := by decide +kernel
theorem d_law_580 : decode code 580 = .ok (.iload 5, 2) := by decide +kernel
theorem d_law_582 : decode code 582 = .ok (.ifCond .ne 15, 3) := by decide +kernel
theorem d_law_585 : decode code 585 = .ok (.aload_n 3, 1) := by decide +kernel
theorem d_law_586 : decode code 586 = .ok (.iconst 0, 1) := by decide +kernel
theorem d_law_587 : decode code 587 = .ok (.laload, 1) := by decide +kernel
theorem d_law_588 : decode code 588 = .ok (.iload 6, 2) := by decide +kernel
theorem d_law_590 : decode code 590 = .ok (.i2l, 1) := by decide +kernel
theorem d_law_591 : decode code 591 = .ok (.lcmp, 1) := by decide +kernel
theorem d_law_592 : decode code 592 = .ok (.ifCond .eq 5, 3) := by decide +kernel
theorem d_law_595 : decode code 595 = .ok (.iconst 0, 1) := by decide +kernel
theorem d_law_596 : decode code 596 = .ok (.ireturn, 1) := by decide +kernel
theorem d_law_597 : decode code 597 = .ok (.goto 752, 3) := by decide +kernel
theorem d_law_600 : decode code 600 = .ok (.aload_n 1, 1) := by decide +kernel
theorem d_law_601 : decode code 601 = .ok (.aload_n 0, 1) := by decide +kernel
theorem d_law_602 : decode code 602 = .ok (.iload 4, 2) := by decide +kernel
theorem d_law_604 : decode code 604 = .ok (.iconst 1, 1) := by decide +kernel
theorem d_law_605 : decode code 605 = .ok (.iadd, 1) := by decide +kernel
theorem d_law_606 : decode code 606 = .ok (.iaload, 1) := by decide +kernel
theorem d_law_607 : decode code 607 = .ok (.aload_n 0, 1) := by decide +kernel
theorem d_law_608 : decode code 608 = .ok (.iload 4, 2) := by decide +kernel
theorem d_law_610 : decode code 610 = .ok (.iconst 2, 1) := by decide +kernel
theorem d_law_611 : decode code 611 = .ok (.iadd, 1) := by decide +kernel
theorem d_law_612 : decode code 612 = .ok (.iaload, 1) := by decide +kernel
theorem d_law_613 : decode code 613 = .ok (.aload_n 3, 1) := by decide +kernel
theorem d_law_614 : decode code 614 = .ok (.invokestatic 111, 3) := by decide +kernel
theorem d_law_617 : decode code 617 = .ok (.istore 5, 2) := by decide +kernel
theorem d_law_619 : decode code 619 = .ok (.aload_n 2, 1) := by decide +kernel
theorem d_law_620 : decode code 620 = .ok (.aload_n 0, 1) := by decide +kernel
theorem d_law_621 : decode code 621 = .ok (.iload 4, 2) := by decide +kernel
theorem d_law_623 : decode code 623 = .ok (.iconst 1, 1) := by decide +kernel
theorem d_law_624 : decode code 624 = .ok (.iadd, 1) := by decide +kernel
theorem d_law_625 : decode code 625 = .ok (.iaload, 1) := by decide +kernel
theorem d_law_626 : decode code 626 = .ok (.aload_n 0, 1) := by decide +kernel
theorem d_law_627 : decode code 627 = .ok (.iload 4, 2) := by decide +kernel
theorem d_law_629 : decode code 629 = .ok (.iconst 2, 1) := by decide +kernel
theorem d_law_630 : decode code 630 = .ok (.iadd, 1) := by decide +kernel
theorem d_law_631 : decode code 631 = .ok (.iaload, 1) := by decide +kernel
theorem d_law_632 : decode code 632 = .ok (.invokevirtual 113, 3) := by decide +kernel
theorem d_law_635 : decode code 635 = .ok (.istore 6, 2) := by decide +kernel
theorem d_law_637 : decode code 637 = .ok (.aload_n 2, 1) := by decide +kernel
theorem d_law_638 : decode code 638 = .ok (.invokevirtual 85, 3) := by decide +kernel
theorem d_law_641 : decode code 641 = .ok (.iload 5, 2) := by decide +kernel
theorem d_law_643 : decode code 643 = .ok (.if_icmp .eq 5, 3) := by decide +kernel
theorem d_law_646 : decode code 646 = .ok (.iconst 0, 1) := by decide +kernel
theorem d_law_647 : decode code 647 = .ok (.ireturn, 1) := by decide +kernel
theorem d_law_648 : decode code 648 = .ok (.iload 5, 2) := by decide +kernel
theorem d_law_650 : decode code 650 = .ok (.ifCond .ne 15, 3) := by decide +kernel
theorem d_law_653 : decode code 653 = .ok (.aload_n 3, 1) := by decide +kernel
theorem d_law_654 : decode code 654 = .ok (.iconst 0, 1) := by decide +kernel
theorem d_law_655 : decode code 655 = .ok (.laload, 1) := by decide +kernel
theorem d_law_656 : decode code 656 = .ok (.iload 6, 2) := by decide +kernel
theorem d_law_658 : decode code 658 = .ok (.i2l, 1) := by decide +kernel
theorem d_law_659 : decode code 659 = .ok (.lcmp, 1) := by decide +kernel
theorem d_law_660 : decode code 660 = .ok (.ifCond .eq 5, 3) := by decide +kernel
theorem d_law_663 : decode code 663 = .ok (.iconst 0, 1) := by decide +kernel
theorem d_law_664 : decode code 664 = .ok (.ireturn, 1) := by decide +kernel
theorem d_law_665 : decode code 665 = .ok (.goto 684, 3) := by decide +kernel
theorem d_law_668 : decode code 668 = .ok (.aload_n 1, 1) := by decide +kernel
theorem d_law_669 : decode code 669 = .ok (.aload_n 0, 1) := by decide +kernel
theorem d_law_670 : decode code 670 = .ok (.iload 4, 2) := by decide +kernel
theorem d_law_672 : decode code 672 = .ok (.iconst 1, 1) := by decide +kernel
theorem d_law_673 : decode code 673 = .ok (.iadd, 1) := by decide +kernel
theorem d_law_674 : decode code 674 = .ok (.iaload, 1) := by decide +kernel
theorem d_law_675 : decode code 675 = .ok (.aload_n 0, 1) := by decide +kernel
theorem d_law_676 : decode code 676 = .ok (.iload 4, 2) := by decide +kernel
theorem d_law_678 : decode code 678 = .ok (.iconst 2, 1) := by decide +kernel
theorem d_law_679 : decode code 679 = .ok (.iadd, 1) := by decide +kernel
theorem d_law_680 : decode code 680 = .ok (.iaload, 1) := by decide +kernel
theorem d_law_681 : decode code 681 = .ok (.aload_n 0, 1) := by decide +kernel
theorem d_law_682 : decode code 682 = .ok (.iload 4, 2) := by decide +kernel
theorem d_law_684 : decode code 684 = .ok (.iconst 3, 1) := by decide +kernel
theorem d_law_685 : decode code 685 = .ok (.iadd, 1) := by decide +kernel
theorem d_law_686 : decode code 686 = .ok (.iaload, 1) := by decide +kernel
theorem d_law_687 : decode code 687 = .ok (.ifCond .eq 7, 3) := by decide +kernel
theorem d_law_690 : decode code 690 = .ok (.iconst 1, 1) := by decide +kernel
theorem d_law_691 : decode code 691 = .ok (.goto 4, 3) := by decide +kernel
theorem d_law_694 : decode code 694 = .ok (.iconst 0, 1) := by decide +kernel
theorem d_law_695 : decode code 695 = .ok (.aload_n 3, 1) := by decide +kernel
theorem d_law_696 : decode code 696 = .ok (.invokestatic 114, 3) := by decide +kernel
theorem d_law_699 : decode code 699 = .ok (.istore 5, 2) := by decide +kernel
theorem d_law_701 : decode code 701 = .ok (.aload_n 2, 1) := by decide +kernel
theorem d_law_702 : decode code 702 = .ok (.aload_n 0, 1) := by decide +kernel
theorem d_law_703 : decode code 703 = .ok (.iload 4, 2) := by decide +kernel
theorem d_law_705 : decode code 705 = .ok (.iconst 1, 1) := by decide +kernel
theorem d_law_706 : decode code 706 = .ok (.iadd, 1) := by decide +kernel
theorem d_law_707 : decode code 707 = .ok (.iaload, 1) := by decide +kernel
theorem d_law_708 : decode code 708 = .ok (.aload_n 0, 1) := by decide +kernel
theorem d_law_709 : decode code 709 = .ok (.iload 4, 2) := by decide +kernel
theorem d_law_711 : decode code 711 = .ok (.iconst 2, 1) := by decide +kernel
theorem d_law_712 : decode code 712 = .ok (.iadd, 1) := by decide +kernel
theorem d_law_713 : decode code 713 = .ok (.iaload, 1) := by decide +kernel
theorem d_law_714 : decode code 714 = .ok (.aload_n 0, 1) := by decide +kernel
theorem d_law_715 : decode code 715 = .ok (.iload 4, 2) := by decide +kernel
theorem d_law_717 : decode code 717 = .ok (.iconst 3, 1) := by decide +kernel
theorem d_law_718 : decode code 718 = .ok (.iadd, 1) := by decide +kernel
theorem d_law_719 : decode code 719 = .ok (.iaload, 1) := by decide +kernel
theorem d_law_720 : decode code 720 = .ok (.ifCond .eq 7, 3) := by decide +kernel
theorem d_law_723 : decode code 723 = .ok (.iconst 1, 1) := by decide +kernel
theorem d_law_724 : decode code 724 = .ok (.goto 4, 3) := by decide +kernel
theorem d_law_727 : decode code 727 = .ok (.iconst 0, 1) := by decide +kernel
theorem d_law_728 : decode code 728 = .ok (.invokevirtual 117, 3) := by decide +kernel
theorem d_law_731 : decode code 731 = .ok (.istore 6, 2) := by decide +kernel
theorem d_law_733 : decode code 733 = .ok (.aload_n 2, 1) := by decide +kernel
theorem d_law_734 : decode code 734 = .ok (.invokevirtual 85, 3) := by decide +kernel
theorem d_law_737 : decode code 737 = .ok (.iload 5, 2) := by decide +kernel
theorem d_law_739 : decode code 739 = .ok (.if_icmp .eq 5, 3) := by decide +kernel
theorem d_law_742 : decode code 742 = .ok (.iconst 0, 1) := by decide +kernel
theorem d_law_743 : decode code 743 = .ok (.ireturn, 1) := by decide +kernel
theorem d_law_744 : decode code 744 = .ok (.iload 5, 2) := by decide +kernel
theorem d_law_746 : decode code 746 = .ok (.ifCond .ne 22, 3) := by decide +kernel
theorem d_law_749 : decode code 749 = .ok (.aload_n 3, 1) := by decide +kernel
theorem d_law_750 : decode code 750 = .ok (.iconst 0, 1) := by decide +kernel
theorem d_law_751 : decode code 751 = .ok (.laload, 1) := by decide +kernel
theorem d_law_752 : decode code 752 = .ok (.iload 6, 2) := by decide +kernel
theorem d_law_754 : decode code 754 = .ok (.ifCond .eq 7, 3) := by decide +kernel
theorem d_law_757 : decode code 757 = .ok (.lconst 1, 1) := by decide +kernel
theorem d_law_758 : decode code 758 = .ok (.goto 4, 3) := by decide +kernel
theorem d_law_761 : decode code 761 = .ok (.lconst 0, 1) := by decide +kernel
theorem d_law_762 : decode code 762 = .ok (.lcmp, 1) := by decide +kernel
theorem d_law_763 : decode code 763 = .ok (.ifCond .eq 5, 3) := by decide +kernel
theorem d_law_766 : decode code 766 = .ok (.iconst 0, 1) := by decide +kernel
theorem d_law_767 : decode code 767 = .ok (.ireturn, 1) := by decide +kernel
theorem d_law_768 : decode code 768 = .ok (.goto 581, 3) := by decide +kernel
theorem d_law_771 : decode code 771 = .ok (.aload_n 1, 1) := by decide +kernel
theorem d_law_772 : decode code 772 = .ok (.aload_n 0, 1) := by decide +kernel
theorem d_law_773 : decode code 773 = .ok (.iload 4, 2) := by decide +kernel
theorem d_law_775 : decode code 775 = .ok (.iconst 1, 1) := by decide +kernel
theorem d_law_776 : decode code 776 = .ok (.iadd, 1) := by decide +kernel
theorem d_law_777 : decode code 777 = .ok (.iaload, 1) := by decide +kernel
theorem d_law_778 : decode code 778 = .ok (.aload_n 3, 1) := by decide +kernel
theorem d_law_779 : decode code 779 = .ok (.invokestatic 118, 3) := by decide +kernel
theorem d_law_782 : decode code 782 = .ok (.istore 5, 2) := by decide +kernel
theorem d_law_784 : decode code 784 = .ok (.aload_n 2, 1) := by decide +kernel
theorem d_law_785 : decode code 785 = .ok (.aload_n 0, 1) := by decide +kernel
theorem d_law_786 : decode code 786 = .ok (.iload 4, 2) := by decide +kernel
theorem d_law_788 : decode code 788 = .ok (.iconst 1, 1) := by decide +kernel
theorem d_law_789 : decode code 789 = .ok (.iadd, 1) := by decide +kernel
theorem d_law_790 : decode code 790 = .ok (.iaload, 1) := by decide +kernel
theorem d_law_791 : decode code 791 = .ok (.invokevirtual 120, 3) := by decide +kernel
theorem d_law_794 : decode code 794 = .ok (.istore 6, 2) := by decide +kernel
theorem d_law_796 : decode code 796 = .ok (.aload_n 2, 1) := by decide +kernel
theorem d_law_797 : decode code 797 = .ok (.invokevirtual 85, 3) := by decide +kernel
theorem d_law_800 : decode code 800 = .ok (.iload 5, 2) := by decide +kernel
theorem d_law_802 : decode code 802 = .ok (.if_icmp .eq 5, 3) := by decide +kernel
theorem d_law_805 : decode code 805 = .ok (.iconst 0, 1) := by decide +kernel
theorem d_law_806 : decode code 806 = .ok (.ireturn, 1) := by decide +kernel
theorem d_law_807 : decode code 807 = .ok (.iload 5, 2) := by decide +kernel
theorem d_law_809 : decode code 809 = .ok (.ifCond .ne 15, 3) := by decide +kernel
theorem d_law_812 : decode code 812 = .ok (.aload_n 3, 1) := by decide +kernel
theorem d_law_813 : decode code 813 = .ok (.iconst 0, 1) := by decide +kernel
theorem d_law_814 : decode code 814 = .ok (.laload, 1) := by decide +kernel
theorem d_law_815 : decode code 815 = .ok (.iload 6, 2) := by decide +kernel
theorem d_law_817 : decode code 817 = .ok (.i2l, 1) := by decide +kernel
theorem d_law_818 : decode code 818 = .ok (.lcmp, 1) := by decide +kernel
theorem d_law_819 : decode code 819 = .ok (.ifCond .eq 5, 3) := by decide +kernel
theorem d_law_822 : decode code 822 = .ok (.iconst 0, 1) := by decide +kernel
theorem d_law_823 : decode code 823 = .ok (.ireturn, 1) := by decide +kernel
theorem d_law_824 : decode code 824 = .ok (.goto 525, 3) := by decide +kernel
theorem d_law_827 : decode code 827 = .ok (.aload_n 1, 1) := by decide +kernel
theorem d_law_828 : decode code 828 = .ok (.aload_n 0, 1) := by decide +kernel
theorem d_law_829 : decode code 829 = .ok (.iload 4, 2) := by decide +kernel
theorem d_law_831 : decode code 831 = .ok (.iconst 1, 1) := by decide +kernel
theorem d_law_832 : decode code 832 = .ok (.iadd, 1) := by decide +kernel
theorem d_law_833 : decode code 833 = .ok (.iaload, 1) := by decide +kernel
theorem d_law_834 : decode code 834 = .ok (.aload_n 3, 1) := by decide +kernel
theorem d_law_835 : decode code 835 = .ok (.invokestatic 121, 3) := by decide +kernel
theorem d_law_838 : decode code 838 = .ok (.istore 5, 2) := by decide +kernel
theorem d_law_840 : decode code 840 = .ok (.aload_n 2, 1) := by decide +kernel
theorem d_law_841 : decode code 841 = .ok (.aload_n 0, 1) := by decide +kernel
theorem d_law_842 : decode code 842 = .ok (.iload 4, 2) := by decide +kernel
theorem d_law_844 : decode code 844 = .ok (.iconst 1, 1) := by decide +kernel
theorem d_law_845 : decode code 845 = .ok (.iadd, 1) := by decide +kernel
theorem d_law_846 : decode code 846 = .ok (.iaload, 1) := by decide +kernel
theorem d_law_847 : decode code 847 = .ok (.invokevirtual 123, 3) := by decide +kernel
theorem d_law_850 : decode code 850 = .ok (.istore 6, 2) := by decide +kernel
theorem d_law_852 : decode code 852 = .ok (.aload_n 2, 1) := by decide +kernel
theorem d_law_853 : decode code 853 = .ok (.invokevirtual 85, 3) := by decide +kernel
theorem d_law_856 : decode code 856 = .ok (.iload 5, 2) := by decide +kernel
theorem d_law_858 : decode code 858 = .ok (.if_icmp .eq 5, 3) := by decide +kernel
theorem d_law_861 : decode code 861 = .ok (.iconst 0, 1) := by decide +kernel
theorem d_law_862 : decode code 862 = .ok (.ireturn, 1) := by decide +kernel
theorem d_law_863 : decode code 863 = .ok (.iload 5, 2) := by decide +kernel
theorem d_law_865 : decode code 865 = .ok (.ifCond .ne 15, 3) := by decide +kernel
theorem d_law_868 : decode code 868 = .ok (.aload_n 3, 1) := by decide +kernel
theorem d_law_869 : decode code 869 = .ok (.iconst 0, 1) := by decide +kernel
theorem d_law_870 : decode code 870 = .ok (.laload, 1) := by decide +kernel
theorem d_law_871 : decode code 871 = .ok (.iload 6, 2) := by decide +kernel
theorem d_law_873 : decode code 873 = .ok (.i2l, 1) := by decide +kernel
theorem d_law_874 : decode code 874 = .ok (.lcmp, 1) := by decide +kernel
theorem d_law_875 : decode code 875 = .ok (.ifCond .eq 5, 3) := by decide +kernel
theorem d_law_878 : decode code 878 = .ok (.iconst 0, 1) := by decide +kernel
theorem d_law_879 : decode code 879 = .ok (.ireturn, 1) := by decide +kernel
theorem d_law_880 : decode code 880 = .ok (.goto 469, 3) := by decide +kernel
theorem d_law_883 : decode code 883 = .ok (.aload_n 1, 1) := by decide +kernel
theorem d_law_884 : decode code 884 = .ok (.aload_n 0, 1) := by decide +kernel
theorem d_law_885 : decode code 885 = .ok (.iload 4, 2) := by decide +kernel
theorem d_law_887 : decode code 887 = .ok (.iconst 1, 1) := by decide +kernel
theorem d_law_888 : decode code 888 = .ok (.iadd, 1) := by decide +kernel
theorem d_law_889 : decode code 889 = .ok (.iaload, 1) := by decide +kernel
theorem d_law_890 : decode code 890 = .ok (.aload_n 3, 1) := by decide +kernel
theorem d_law_891 : decode code 891 = .ok (.invokestatic 124, 3) := by decide +kernel
theorem d_law_894 : decode code 894 = .ok (.istore 5, 2) := by decide +kernel
theorem d_law_896 : decode code 896 = .ok (.aload_n 2, 1) := by decide +kernel
theorem d_law_897 : decode code 897 = .ok (.aload_n 0, 1) := by decide +kernel
theorem d_law_898 : decode code 898 = .ok (.iload 4, 2) := by decide +kernel
theorem d_law_900 : decode code 900 = .ok (.iconst 1, 1) := by decide +kernel
theorem d_law_901 : decode code 901 = .ok (.iadd, 1) := by decide +kernel
theorem d_law_902 : decode code 902 = .ok (.iaload, 1) := by decide +kernel
theorem d_law_903 : decode code 903 = .ok (.invokevirtual 126, 3) := by decide +kernel
theorem d_law_906 : decode code 906 = .ok (.istore 6, 2) := by decide +kernel
theorem d_law_908 : decode code 908 = .ok (.aload_n 2, 1) := by decide +kernel
theorem d_law_909 : decode code 909 = .ok (.invokevirtual 85, 3) := by decide +kernel
theorem d_law_912 : decode code 912 = .ok (.iload 5, 2) := by decide +kernel
theorem d_law_914 : decode code 914 = .ok (.if_icmp .eq 5, 3) := by decide +kernel
theorem d_law_917 : decode code 917 = .ok (.iconst 0, 1) := by decide +kernel
theorem d_law_918 : decode code 918 = .ok (.ireturn, 1) := by decide +kernel
theorem d_law_919 : decode code 919 = .ok (.iload 5, 2) := by decide +kernel
theorem d_law_921 : decode code 921 = .ok (.ifCond .ne 15, 3) := by decide +kernel
theorem d_law_924 : decode code 924 = .ok (.aload_n 3, 1) := by decide +kernel
theorem d_law_925 : decode code 925 = .ok (.iconst 0, 1) := by decide +kernel
theorem d_law_926 : decode code 926 = .ok (.laload, 1) := by decide +kernel
theorem d_law_927 : decode code 927 = .ok (.iload 6, 2) := by decide +kernel
theorem d_law_929 : decode code 929 = .ok (.i2l, 1) := by decide +kernel
theorem d_law_930 : decode code 930 = .ok (.lcmp, 1) := by decide +kernel
theorem d_law_931 : decode code 931 = .ok (.ifCond .eq 5, 3) := by decide +kernel
theorem d_law_934 : decode code 934 = .ok (.iconst 0, 1) := by decide +kernel
theorem d_law_935 : decode code 935 = .ok (.ireturn, 1) := by decide +kernel
theorem d_law_936 : decode code 936 = .ok (.goto 413, 3) := by decide +kernel
theorem d_law_939 : decode code 939 = .ok (.aload_n 1, 1) := by decide +kernel
theorem d_law_940 : decode code 940 = .ok (.aload_n 0, 1) := by decide +kernel
theorem d_law_941 : decode code 941 = .ok (.iload 4, 2) := by decide +kernel
theorem d_law_943 : decode code 943 = .ok (.iconst 1, 1) := by decide +kernel
theorem d_law_944 : decode code 944 = .ok (.iadd, 1) := by decide +kernel
theorem d_law_945 : decode code 945 = .ok (.iaload, 1) := by decide +kernel
theorem d_law_946 : decode code 946 = .ok (.aload_n 3, 1) := by decide +kernel
theorem d_law_947 : decode code 947 = .ok (.invokestatic 127, 3) := by decide +kernel
theorem d_law_950 : decode code 950 = .ok (.istore 5, 2) := by decide +kernel
theorem d_law_952 : decode code 952 = .ok (.aload_n 2, 1) := by decide +kernel
theorem d_law_953 : decode code 953 = .ok (.aload_n 0, 1) := by decide +kernel
theorem d_law_954 : decode code 954 = .ok (.iload 4, 2) := by decide +kernel
theorem d_law_956 : decode code 956 = .ok (.iconst 1, 1) := by decide +kernel
theorem d_law_957 : decode code 957 = .ok (.iadd, 1) := by decide +kernel
theorem d_law_958 : decode code 958 = .ok (.iaload, 1) := by decide +kernel
theorem d_law_959 : decode code 959 = .ok (.invokevirtual 129, 3) := by decide +kernel
theorem d_law_962 : decode code 962 = .ok (.istore 6, 2) := by decide +kernel
theorem d_law_964 : decode code 964 = .ok (.aload_n 2, 1) := by decide +kernel
theorem d_law_965 : decode code 965 = .ok (.invokevirtual 85, 3) := by decide +kernel
theorem d_law_968 : decode code 968 = .ok (.iload 5, 2) := by decide +kernel
theorem d_law_970 : decode code 970 = .ok (.if_icmp .eq 5, 3) := by decide +kernel
theorem d_law_973 : decode code 973 = .ok (.iconst 0, 1) := by decide +kernel
theorem d_law_974 : decode code 974 = .ok (.ireturn, 1) := by decide +kernel
theorem d_law_975 : decode code 975 = .ok (.iload 5, 2) := by decide +kernel
theorem d_law_977 : decode code 977 = .ok (.ifCond .ne 15, 3) := by decide +kernel
theorem d_law_980 : decode code 980 = .ok (.aload_n 3, 1) := by decide +kernel
theorem d_law_981 : decode code 981 = .ok (.iconst 0, 1) := by decide +kernel
theorem d_law_982 : decode code 982 = .ok (.laload, 1) := by decide +kernel
theorem d_law_983 : decode code 983 = .ok (.iload 6, 2) := by decide +kernel
theorem d_law_985 : decode code 985 = .ok (.i2l, 1) := by decide +kernel
theorem d_law_986 : decode code 986 = .ok (.lcmp, 1) := by decide +kernel
theorem d_law_987 : decode code 987 = .ok (.ifCond .eq 5, 3) := by decide +kernel
theorem d_law_990 : decode code 990 = .ok (.iconst 0, 1) := by decide +kernel
theorem d_law_991 : decode code 991 = .ok (.ireturn, 1) := by decide +kernel
theorem d_law_992 : decode code 992 = .ok (.goto 357, 3) := by decide +kernel
theorem d_law_995 : decode code 995 = .ok (.aload_n 1, 1) := by decide +kernel
theorem d_law_996 : decode code 996 = .ok (.invokevirtual 130, 3) := by decide +kernel
theorem d_law_999 : decode code 999 = .ok (.aload_n 2, 1) := by decide +kernel
theorem d_law_1000 : decode code 1000 = .ok (.invokevirtual 133, 3) := by decide +kernel
theorem d_law_1003 : decode code 1003 = .ok (.if_icmp .eq 346, 3) := by decide +kernel
theorem d_law_1006 : decode code 1006 = .ok (.iconst 0, 1) := by decide +kernel
theorem d_law_1007 : decode code 1007 = .ok (.ireturn, 1) := by decide +kernel
theorem d_law_1008 : decode code 1008 = .ok (.aload_n 1, 1) := by decide +kernel
theorem d_law_1009 : decode code 1009 = .ok (.aload_n 0, 1) := by decide +kernel
theorem d_law_1010 : decode code 1010 = .ok (.iload 4, 2) := by decide +kernel
theorem d_law_1012 : decode code 1012 = .ok (.iconst 1, 1) := by decide +kernel
theorem d_law_1013 : decode code 1013 = .ok (.iadd, 1) := by decide +kernel
theorem d_law_1014 : decode code 1014 = .ok (.iaload, 1) := by decide +kernel
theorem d_law_1015 : decode code 1015 = .ok (.aload_n 0, 1) := by decide +kernel
theorem d_law_1016 : decode code 1016 = .ok (.iload 4, 2) := by decide +kernel
theorem d_law_1018 : decode code 1018 = .ok (.iconst 2, 1) := by decide +kernel
theorem d_law_1019 : decode code 1019 = .ok (.iadd, 1) := by decide +kernel
theorem d_law_1020 : decode code 1020 = .ok (.iaload, 1) := by decide +kernel
theorem d_law_1021 : decode code 1021 = .ok (.aload_n 3, 1) := by decide +kernel
theorem d_law_1022 : decode code 1022 = .ok (.invokestatic 134, 3) := by decide +kernel
theorem d_law_1025 : decode code 1025 = .ok (.istore 5, 2) := by decide +kernel
theorem d_law_1027 : decode code 1027 = .ok (.aload_n 2, 1) := by decide +kernel
theorem d_law_1028 : decode code 1028 = .ok (.aload_n 0, 1) := by decide +kernel
theorem d_law_1029 : decode code 1029 = .ok (.iload 4, 2) := by decide +kernel
theorem d_law_1031 : decode code 1031 = .ok (.iconst 1, 1) := by decide +kernel
theorem d_law_1032 : decode code 1032 = .ok (.iadd, 1) := by decide +kernel
theorem d_law_1033 : decode code 1033 = .ok (.iaload, 1) := by decide +kernel
theorem d_law_1034 : decode code 1034 = .ok (.aload_n 0, 1) := by decide +kernel
theorem d_law_1035 : decode code 1035 = .ok (.iload 4, 2) := by decide +kernel
theorem d_law_1037 : decode code 1037 = .ok (.iconst 2, 1) := by decide +kernel
theorem d_law_1038 : decode code 1038 = .ok (.iadd, 1) := by decide +kernel
theorem d_law_1039 : decode code 1039 = .ok (.iaload, 1) := by decide +kernel
theorem d_law_1040 : decode code 1040 = .ok (.invokevirtual 136, 3) := by decide +kernel
theorem d_law_1043 : decode code 1043 = .ok (.istore 6, 2) := by decide +kernel
theorem d_law_1045 : decode code 1045 = .ok (.aload_n 2, 1) := by decide +kernel
theorem d_law_1046 : decode code 1046 = .ok (.invokevirtual 85, 3) := by decide +kernel
theorem d_law_1049 : decode code 1049 = .ok (.iload 5, 2) := by decide +kernel
theorem d_law_1051 : decode code 1051 = .ok (.if_icmp .eq 5, 3) := by decide +kernel
theorem d_law_1054 : decode code 1054 = .ok (.iconst 0, 1) := by decide +kernel
theorem d_law_1055 : decode code 1055 = .ok (.ireturn, 1) := by decide +kernel
theorem d_law_1056 : decode code 1056 = .ok (.iload 5, 2) := by decide +kernel
theorem d_law_1058 : decode code 1058 = .ok (.ifCond .ne 15, 3) := by decide +kernel
theorem d_law_1061 : decode code 1061 = .ok (.aload_n 3, 1) := by decide +kernel
theorem d_law_1062 : decode code 1062 = .ok (.iconst 0, 1) := by decide +kernel
theorem d_law_1063 : decode code 1063 = .ok (.laload, 1) := by decide +kernel
theorem d_law_1064 : decode code 1064 = .ok (.iload 6, 2) := by decide +kernel
theorem d_law_1066 : decode code 1066 = .ok (.i2l, 1) := by decide +kernel
theorem d_law_1067 : decode code 1067 = .ok (.lcmp, 1) := by decide +kernel
theorem d_law_1068 : decode code 1068 = .ok (.ifCond .eq 5, 3) := by decide +kernel
theorem d_law_1071 : decode code 1071 = .ok (.iconst 0, 1) := by decide +kernel
theorem d_law_1072 : decode code 1072 = .ok (.ireturn, 1) := by decide +kernel
theorem d_law_1073 : decode code 1073 = .ok (.goto 276, 3) := by decide +kernel
theorem d_law_1076 : decode code 1076 = .ok (.aload_n 1, 1) := by decide +kernel
theorem d_law_1077 : decode code 1077 = .ok (.aload_n 0, 1) := by decide +kernel
theorem d_law_1078 : decode code 1078 = .ok (.iload 4, 2) := by decide +kernel
theorem d_law_1080 : decode code 1080 = .ok (.iconst 1, 1) := by decide +kernel
theorem d_law_1081 : decode code 1081 = .ok (.iadd, 1) := by decide +kernel
theorem d_law_1082 : decode code 1082 = .ok (.iaload, 1) := by decide +kernel
theorem d_law_1083 : decode code 1083 = .ok (.aload_n 0, 1) := by decide +kernel
theorem d_law_1084 : decode code 1084 = .ok (.iload 4, 2) := by decide +kernel
theorem d_law_1086 : decode code 1086 = .ok (.iconst 2, 1) := by decide +kernel
theorem d_law_1087 : decode code 1087 = .ok (.iadd, 1) := by decide +kernel
theorem d_law_1088 : decode code 1088 = .ok (.iaload, 1) := by decide +kernel
theorem d_law_1089 : decode code 1089 = .ok (.aload_n 3, 1) := by decide +kernel
theorem d_law_1090 : decode code 1090 = .ok (.invokestatic 137, 3) := by decide +kernel
theorem d_law_1093 : decode code 1093 = .ok (.istore 5, 2) := by decide +kernel
theorem d_law_1095 : decode code 1095 = .ok (.aload_n 2, 1) := by decide +kernel
theorem d_law_1096 : decode code 1096 = .ok (.aload_n 0, 1) := by decide +kernel
theorem d_law_1097 : decode code 1097 = .ok (.iload 4, 2) := by decide +kernel
theorem d_law_1099 : decode code 1099 = .ok (.iconst 1, 1) := by decide +kernel
theorem d_law_1100 : decode code 1100 = .ok (.iadd, 1) := by decide +kernel
theorem d_law_1101 : decode code 1101 = .ok (.iaload, 1) := by decide +kernel
theorem d_law_1102 : decode code 1102 = .ok (.aload_n 0, 1) := by decide +kernel
theorem d_law_1103 : decode code 1103 = .ok (.iload 4, 2) := by decide +kernel
theorem d_law_1105 : decode code 1105 = .ok (.iconst 2, 1) := by decide +kernel
theorem d_law_1106 : decode code 1106 = .ok (.iadd, 1) := by decide +kernel
theorem d_law_1107 : decode code 1107 = .ok (.iaload, 1) := by decide +kernel
theorem d_law_1108 : decode code 1108 = .ok (.invokevirtual 139, 3) := by decide +kernel
theorem d_law_1111 : decode code 1111 = .ok (.istore 6, 2) := by decide +kernel
theorem d_law_1113 : decode code 1113 = .ok (.aload_n 2, 1) := by decide +kernel
theorem d_law_1114 : decode code 1114 = .ok (.invokevirtual 85, 3) := by decide +kernel
theorem d_law_1117 : decode code 1117 = .ok (.iload 5, 2) := by decide +kernel
theorem d_law_1119 : decode code 1119 = .ok (.if_icmp .eq 5, 3) := by decide +kernel
theorem d_law_1122 : decode code 1122 = .ok (.iconst 0, 1) := by decide +kernel
theorem d_law_1123 : decode code 1123 = .ok (.ireturn, 1) := by decide +kernel
theorem d_law_1124 : decode code 1124 = .ok (.iload 5, 2) := by decide +kernel
theorem d_law_1126 : decode code 1126 = .ok (.ifCond .ne 15, 3) := by decide +kernel
theorem d_law_1129 : decode code 1129 = .ok (.aload_n 3, 1) := by decide +kernel
theorem d_law_1130 : decode code 1130 = .ok (.iconst 0, 1) := by decide +kernel
theorem d_law_1131 : decode code 1131 = .ok (.laload, 1) := by decide +kernel
theorem d_law_1132 : decode code 1132 = .ok (.iload 6, 2) := by decide +kernel
theorem d_law_1134 : decode code 1134 = .ok (.i2l, 1) := by decide +kernel
theorem d_law_1135 : decode code 1135 = .ok (.lcmp, 1) := by decide +kernel
theorem d_law_1136 : decode code 1136 = .ok (.ifCond .eq 5, 3) := by decide +kernel
theorem d_law_1139 : decode code 1139 = .ok (.iconst 0, 1) := by decide +kernel
theorem d_law_1140 : decode code 1140 = .ok (.ireturn, 1) := by decide +kernel
theorem d_law_1141 : decode code 1141 = .ok (.goto 208, 3) := by decide +kernel
theorem d_law_1144 : decode code 1144 = .ok (.aload_n 1, 1) := by decide +kernel
theorem d_law_1145 : decode code 1145 = .ok (.aload_n 0, 1) := by decide +kernel
theorem d_law_1146 : decode code 1146 = .ok (.iload 4, 2) := by decide +kernel
theorem d_law_1148 : decode code 1148 = .ok (.iconst 1, 1) := by decide +kernel
theorem d_law_1149 : decode code 1149 = .ok (.iadd, 1) := by decide +kernel
theorem d_law_1150 : decode code 1150 = .ok (.iaload, 1) := by decide +kernel
theorem d_law_1151 : decode code 1151 = .ok (.aload_n 0, 1) := by decide +kernel
theorem d_law_1152 : decode code 1152 = .ok (.iload 4, 2) := by decide +kernel
theorem d_law_1154 : decode code 1154 = .ok (.iconst 2, 1) := by decide +kernel
theorem d_law_1155 : decode code 1155 = .ok (.iadd, 1) := by decide +kernel
theorem d_law_1156 : decode code 1156 = .ok (.iaload, 1) := by decide +kernel
theorem d_law_1157 : decode code 1157 = .ok (.aload_n 3, 1) := by decide +kernel
theorem d_law_1158 : decode code 1158 = .ok (.invokestatic 140, 3) := by decide +kernel
theorem d_law_1161 : decode code 1161 = .ok (.istore 5, 2) := by decide +kernel
theorem d_law_1163 : decode code 1163 = .ok (.aload_n 2, 1) := by decide +kernel
theorem d_law_1164 : decode code 1164 = .ok (.aload_n 0, 1) := by decide +kernel
theorem d_law_1165 : decode code 1165 = .ok (.iload 4, 2) := by decide +kernel
theorem d_law_1167 : decode code 1167 = .ok (.iconst 1, 1) := by decide +kernel
theorem d_law_1168 : decode code 1168 = .ok (.iadd, 1) := by decide +kernel
theorem d_law_1169 : decode code 1169 = .ok (.iaload, 1) := by decide +kernel
theorem d_law_1170 : decode code 1170 = .ok (.aload_n 0, 1) := by decide +kernel
theorem d_law_1171 : decode code 1171 = .ok (.iload 4, 2) := by decide +kernel
theorem d_law_1173 : decode code 1173 = .ok (.iconst 2, 1) := by decide +kernel
theorem d_law_1174 : decode code 1174 = .ok (.iadd, 1) := by decide +kernel
theorem d_law_1175 : decode code 1175 = .ok (.iaload, 1) := by decide +kernel
theorem d_law_1176 : decode code 1176 = .ok (.invokevirtual 142, 3) := by decide +kernel
theorem d_law_1179 : decode code 1179 = .ok (.istore 6, 2) := by decide +kernel
theorem d_law_1181 : decode code 1181 = .ok (.aload_n 2, 1) := by decide +kernel
theorem d_law_1182 : decode code 1182 = .ok (.invokevirtual 85, 3) := by decide +kernel
theorem d_law_1185 : decode code 1185 = .ok (.iload 5, 2) := by decide +kernel
theorem d_law_1187 : decode code 1187 = .ok (.if_icmp .eq 5, 3) := by decide +kernel
theorem d_law_1190 : decode code 1190 = .ok (.iconst 0, 1) := by decide +kernel
theorem d_law_1191 : decode code 1191 = .ok (.ireturn, 1) := by decide +kernel
theorem d_law_1192 : decode code 1192 = .ok (.iload 5, 2) := by decide +kernel
theorem d_law_1194 : decode code 1194 = .ok (.ifCond .ne 15, 3) := by decide +kernel
theorem d_law_1197 : decode code 1197 = .ok (.aload_n 3, 1) := by decide +kernel
theorem d_law_1198 : decode code 1198 = .ok (.iconst 0, 1) := by decide +kernel
theorem d_law_1199 : decode code 1199 = .ok (.laload, 1) := by decide +kernel
theorem d_law_1200 : decode code 1200 = .ok (.iload 6, 2) := by decide +kernel
theorem d_law_1202 : decode code 1202 = .ok (.i2l, 1) := by decide +kernel
theorem d_law_1203 : decode code 1203 = .ok (.lcmp, 1) := by decide +kernel
theorem d_law_1204 : decode code 1204 = .ok (.ifCond .eq 5, 3) := by decide +kernel
theorem d_law_1207 : decode code 1207 = .ok (.iconst 0, 1) := by decide +kernel
theorem d_law_1208 : decode code 1208 = .ok (.ireturn, 1) := by decide +kernel
theorem d_law_1209 : decode code 1209 = .ok (.goto 140, 3) := by decide +kernel
theorem d_law_1212 : decode code 1212 = .ok (.aload_n 1, 1) := by decide +kernel
theorem d_law_1213 : decode code 1213 = .ok (.aload_n 0, 1) := by decide +kernel
theorem d_law_1214 : decode code 1214 = .ok (.iload 4, 2) := by decide +kernel
theorem d_law_1216 : decode code 1216 = .ok (.iconst 1, 1) := by decide +kernel
theorem d_law_1217 : decode code 1217 = .ok (.iadd, 1) := by decide +kernel
theorem d_law_1218 : decode code 1218 = .ok (.iaload, 1) := by decide +kernel
theorem d_law_1219 : decode code 1219 = .ok (.aload_n 0, 1) := by decide +kernel
theorem d_law_1220 : decode code 1220 = .ok (.iload 4, 2) := by decide +kernel
theorem d_law_1222 : decode code 1222 = .ok (.iconst 2, 1) := by decide +kernel
theorem d_law_1223 : decode code 1223 = .ok (.iadd, 1) := by decide +kernel
theorem d_law_1224 : decode code 1224 = .ok (.iaload, 1) := by decide +kernel
theorem d_law_1225 : decode code 1225 = .ok (.aload_n 3, 1) := by decide +kernel
theorem d_law_1226 : decode code 1226 = .ok (.invokestatic 143, 3) := by decide +kernel
theorem d_law_1229 : decode code 1229 = .ok (.istore 5, 2) := by decide +kernel
theorem d_law_1231 : decode code 1231 = .ok (.aload_n 2, 1) := by decide +kernel
theorem d_law_1232 : decode code 1232 = .ok (.aload_n 0, 1) := by decide +kernel
theorem d_law_1233 : decode code 1233 = .ok (.iload 4, 2) := by decide +kernel
theorem d_law_1235 : decode code 1235 = .ok (.iconst 1, 1) := by decide +kernel
theorem d_law_1236 : decode code 1236 = .ok (.iadd, 1) := by decide +kernel
theorem d_law_1237 : decode code 1237 = .ok (.iaload, 1) := by decide +kernel
theorem d_law_1238 : decode code 1238 = .ok (.aload_n 0, 1) := by decide +kernel
theorem d_law_1239 : decode code 1239 = .ok (.iload 4, 2) := by decide +kernel
theorem d_law_1241 : decode code 1241 = .ok (.iconst 2, 1) := by decide +kernel
theorem d_law_1242 : decode code 1242 = .ok (.iadd, 1) := by decide +kernel
theorem d_law_1243 : decode code 1243 = .ok (.iaload, 1) := by decide +kernel
theorem d_law_1244 : decode code 1244 = .ok (.invokevirtual 145, 3) := by decide +kernel
theorem d_law_1247 : decode code 1247 = .ok (.istore 6, 2) := by decide +kernel
theorem d_law_1249 : decode code 1249 = .ok (.aload_n 2, 1) := by decide +kernel
theorem d_law_1250 : decode code 1250 = .ok (.invokevirtual 85, 3) := by decide +kernel
theorem d_law_1253 : decode code 1253 = .ok (.iload 5, 2) := by decide +kernel
theorem d_law_1255 : decode code 1255 = .ok (.if_icmp .eq 5, 3) := by decide +kernel
theorem d_law_1258 : decode code 1258 = .ok (.iconst 0, 1) := by decide +kernel
theorem d_law_1259 : decode code 1259 = .ok (.ireturn, 1) := by decide +kernel
theorem d_law_1260 : decode code 1260 = .ok (.iload 5, 2) := by decide +kernel
theorem d_law_1262 : decode code 1262 = .ok (.ifCond .ne 15, 3) := by decide +kernel
theorem d_law_1265 : decode code 1265 = .ok (.aload_n 3, 1) := by decide +kernel
theorem d_law_1266 : decode code 1266 = .ok (.iconst 0, 1) := by decide +kernel
theorem d_law_1267 : decode code 1267 = .ok (.laload, 1) := by decide +kernel
theorem d_law_1268 : decode code 1268 = .ok (.iload 6, 2) := by decide +kernel
theorem d_law_1270 : decode code 1270 = .ok (.i2l, 1) := by decide +kernel
theorem d_law_1271 : decode code 1271 = .ok (.lcmp, 1) := by decide +kernel
theorem d_law_1272 : decode code 1272 = .ok (.ifCond .eq 5, 3) := by decide +kernel
theorem d_law_1275 : decode code 1275 = .ok (.iconst 0, 1) := by decide +kernel
theorem d_law_1276 : decode code 1276 = .ok (.ireturn, 1) := by decide +kernel
theorem d_law_1277 : decode code 1277 = .ok (.goto 72, 3) := by decide +kernel
theorem d_law_1280 : decode code 1280 = .ok (.aload_n 1, 1) := by decide +kernel
theorem d_law_1281 : decode code 1281 = .ok (.aload_n 0, 1) := by decide +kernel
theorem d_law_1282 : decode code 1282 = .ok (.iload 4, 2) := by decide +kernel
theorem d_law_1284 : decode code 1284 = .ok (.iconst 1, 1) := by decide +kernel
theorem d_law_1285 : decode code 1285 = .ok (.iadd, 1) := by decide +kernel
theorem d_law_1286 : decode code 1286 = .ok (.iaload, 1) := by decide +kernel
theorem d_law_1287 : decode code 1287 = .ok (.aload_n 3, 1) := by decide +kernel
theorem d_law_1288 : decode code 1288 = .ok (.invokestatic 146, 3) := by decide +kernel
theorem d_law_1291 : decode code 1291 = .ok (.istore 5, 2) := by decide +kernel
theorem d_law_1293 : decode code 1293 = .ok (.aload_n 2, 1) := by decide +kernel
theorem d_law_1294 : decode code 1294 = .ok (.aload_n 0, 1) := by decide +kernel
theorem d_law_1295 : decode code 1295 = .ok (.iload 4, 2) := by decide +kernel
theorem d_law_1297 : decode code 1297 = .ok (.iconst 1, 1) := by decide +kernel
theorem d_law_1298 : decode code 1298 = .ok (.iadd, 1) := by decide +kernel
theorem d_law_1299 : decode code 1299 = .ok (.iaload, 1) := by decide +kernel
theorem d_law_1300 : decode code 1300 = .ok (.invokevirtual 148, 3) := by decide +kernel
theorem d_law_1303 : decode code 1303 = .ok (.istore 6, 2) := by decide +kernel
theorem d_law_1305 : decode code 1305 = .ok (.aload_n 2, 1) := by decide +kernel
theorem d_law_1306 : decode code 1306 = .ok (.invokevirtual 85, 3) := by decide +kernel
theorem d_law_1309 : decode code 1309 = .ok (.iload 5, 2) := by decide +kernel
theorem d_law_1311 : decode code 1311 = .ok (.if_icmp .eq 5, 3) := by decide +kernel
theorem d_law_1314 : decode code 1314 = .ok (.iconst 0, 1) := by decide +kernel
theorem d_law_1315 : decode code 1315 = .ok (.ireturn, 1) := by decide +kernel
theorem d_law_1316 : decode code 1316 = .ok (.iload 5, 2) := by decide +kernel
theorem d_law_1318 : decode code 1318 = .ok (.ifCond .ne 15, 3) := by decide +kernel
theorem d_law_1321 : decode code 1321 = .ok (.aload_n 3, 1) := by decide +kernel
theorem d_law_1322 : decode code 1322 = .ok (.iconst 0, 1) := by decide +kernel
theorem d_law_1323 : decode code 1323 = .ok (.laload, 1) := by decide +kernel
theorem d_law_1324 : decode code 1324 = .ok (.iload 6, 2) := by decide +kernel
theorem d_law_1326 : decode code 1326 = .ok (.i2l, 1) := by decide +kernel
theorem d_law_1327 : decode code 1327 = .ok (.lcmp, 1) := by decide +kernel
theorem d_law_1328 : decode code 1328 = .ok (.ifCond .eq 5, 3) := by decide +kernel
theorem d_law_1331 : decode code 1331 = .ok (.iconst 0, 1) := by decide +kernel
theorem d_law_1332 : decode code 1332 = .ok (.ireturn, 1) := by decide +kernel
theorem d_law_1333 : decode code 1333 = .ok (.goto 16, 3) := by decide +kernel
theorem d_law_1336 : decode code 1336 = .ok (.aload_n 1, 1) := by decide +kernel
theorem d_law_1337 : decode code 1337 = .ok (.invokevirtual 149, 3) := by decide +kernel
theorem d_law_1340 : decode code 1340 = .ok (.aload_n 2, 1) := by decide +kernel
theorem d_law_1341 : decode code 1341 = .ok (.invokevirtual 152, 3) := by decide +kernel
theorem d_law_1344 : decode code 1344 = .ok (.if_icmp .eq 5, 3) := by decide +kernel
theorem d_law_1347 : decode code 1347 = .ok (.iconst 0, 1) := by decide +kernel
theorem d_law_1348 : decode code 1348 = .ok (.ireturn, 1) := by decide +kernel
theorem d_law_1349 : decode code 1349 = .ok (.iinc 4 6, 3) := by decide +kernel
theorem d_law_1352 : decode code 1352 = .ok (.goto (-1319), 3) := by decide +kernel
theorem d_law_1355 : decode code 1355 = .ok (.iconst 1, 1) := by decide +kernel
theorem d_law_1356 : decode code 1356 = .ok (.ireturn, 1) := by decide +kernel
def sim_unit (F : Nat) (Rl : (Nat → St) → Nat → St → Prop) : Prop := ∀ (x : Nat → St) (n : Nat) (y : St) (a1 : Int32), Rl x n y → ∃ (o1 : Nat × Int32 × St) (o2 : Int32 × St), m_AM_unit F (x 0) (x 1) a1 = some o1 ∧ m_MD_unit F y a1 = some o2 ∧ (o1.1 = 0 ∨ o1.1 = 1 ∨ o1.1 = 2) ∧ o2.2 0 0 = nI o1.1 ∧ (o1.1 = 0 → o1.2.1 = o2.1) ∧ Rl (up x 1 (o1.2.2)) n o2.2
def sim_say (F : Nat) (Rl : (Nat → St) → Nat → St → Prop) : Prop := ∀ (x : Nat → St) (n : Nat) (y : St) (a1 a2 a3 a4 a5 : Int32), Rl x n y → ∃ (o1 : Nat × Int32 × St) (o2 : Int32 × St), m_AM_say F (x 0) (x 1) a1 a2 a3 a4 a5 = some o1 ∧ m_MD_say F y a1 a2 a3 a4 a5 = some o2 ∧ (o1.1 = 0 ∨ o1.1 = 1 ∨ o1.1 = 2) ∧ o2.2 0 0 = nI o1.1 ∧ (o1.1 = 0 → o1.2.1 = o2.1) ∧ Rl (up x 1 (o1.2.2)) n o2.2
def sim_cutText (F : Nat) (Rl : (Nat → St) → Nat → St → Prop) : Prop := ∀ (x : Nat → St) (n : Nat) (y : St) (a1 : Int32), Rl x n y → ∃ (o1 : Nat × Int32 × St) (o2 : Int32 × St), m_AM_cutText F (x 0) (x 1) a1 = some o1 ∧ m_MD_cutText F y a1 = some o2 ∧ (o1.1 = 0 ∨ o1.1 = 1) ∧ o2.2 0 0 = nI o1.1 ∧ (o1.1 = 0 → o1.2.1 = o2.1) ∧ Rl (up x 1 (o1.2.2)) n o2.2
def sim_signal (F : Nat) (Rl : (Nat → St) → Nat → St → Prop) : Prop := ∀ (x : Nat → St) (n : Nat) (y : St) (a1 a2 : Int32), Rl x n y → ∃ (o1 : Nat × Int32 × St) (o2 : Int32 × St), m_AM_signal F (x 0) (x 2) n a1 a2 = some o1 ∧ m_MD_signal F y a1 a2 = some o2 ∧ (o1.1 = 0 ∨ o1.1 = 1) ∧ o2.2 0 0 = nI o1.1 ∧ (o1.1 = 0 → o1.2.1 = o2.1) ∧ Rl (up x 2 (o1.2.2)) n o2.2
def sim_fault (F : Nat) (Rl : (Nat → St) → Nat → St → Prop) : Prop := ∀ (x : Nat → St) (n : Nat) (y : St) (a1 a2 : Int32), Rl x n y → ∃ (o1 : Nat × Int32 × St) (o2 : Int32 × St), m_AM_fault F (x 0) (x 2) n a1 a2 = some o1 ∧ m_MD_fault F y a1 a2 = some o2 ∧ (o1.1 = 0 ∨ o1.1 = 1) ∧ o2.2 0 0 = nI o1.1 ∧ (o1.1 = 0 → o1.2.1 = o2.1) ∧ Rl (up x 2 (o1.2.2)) n o2.2
def sim_disable (F : Nat) (Rl : (Nat → St) → Nat → St → Prop) : Prop := ∀ (x : Nat → St) (n : Nat) (y : St) (a1 a2 : Int32), Rl x n y → ∃ (o1 : Nat × Int32 × St) (o2 : Int32 × St), m_AM_disable F (x 0) (x 2) n a1 a2 = some o1 ∧ m_MD_disable F y a1 a2 = some o2 ∧ (o1.1 = 0 ∨ o1.1 = 1) ∧ o2.2 0 0 = nI o1.1 ∧ (o1.1 = 0 → o1.2.1 = o2.1) ∧ Rl (up x 2 (o1.2.2)) n o2.2
def sim_loop (F : Nat) (Rl : (Nat → St) → Nat → St → Prop) : Prop := ∀ (x : Nat → St) (n : Nat) (y : St) (a1 a2 : Int32), Rl x n y → (∃ (j : Nat) (o1 : Nat × Int32 × St × St) (o2 : Int32 × St), j < 8 ∧ a1 = nI j ∧ m_AM_loop F (x 0) (x (10 + j)) (x 2) n j a2 = some o1 ∧ m_MD_loop F y a1 a2 = some o2 ∧ (o1.1 = 0 ∨ o1.1 = 1 ∨ o1.1 = 2) ∧ o2.2 0 0 = nI o1.1 ∧ (o1.1 = 0 → o1.2.1 = o2.1) ∧ Rl (up (up x 2 (o1.2.2.2)) (10 + j) (o1.2.2.1)) n o2.2) ∨ (∃ (o1 : Nat × Int32) (o2 : Int32 × St), m_AM_loop_x F a1 a2 = some o1 ∧ m_MD_loop F y a1 a2 = some o2 ∧ (o1.1 = 0 ∨ o1.1 = 1 ∨ o1.1 = 2) ∧ o2.2 0 0 = nI o1.1 ∧ (o1.1 = 0 → o1.2 = o2.1) ∧ Rl x n o2.2)
def sim_cut (F : Nat) (Rl : (Nat → St) → Nat → St → Prop) : Prop := ∀ (x : Nat → St) (n : Nat) (y : St) (a1 a2 a3 : Int32), Rl x n y → (∃ (j : Nat) (o1 : Nat × Int32 × St × St) (o2 : Int32 × St), j < 8 ∧ a1 = nI j ∧ m_AM_cut F (x 0) (x (10 + j)) (x 2) n j a2 a3 = some o1 ∧ m_MD_cut F y a1 a2 a3 = some o2 ∧ (o1.1 = 0 ∨ o1.1 = 1) ∧ o2.2 0 0 = nI o1.1 ∧ (o1.1 = 0 → o1.2.1 = o2.1) ∧ Rl (up (up x 2 (o1.2.2.2)) (10 + j) (o1.2.2.1)) n o2.2) ∨ (∃ (o1 : Nat × Int32) (o2 : Int32 × St), m_AM_cut_x F a1 a2 a3 = some o1 ∧ m_MD_cut F y a1 a2 a3 = some o2 ∧ (o1.1 = 0 ∨ o1.1 = 1) ∧ o2.2 0 0 = nI o1.1 ∧ (o1.1 = 0 → o1.2 = o2.1) ∧ Rl x n o2.2)
def sim_heard (F : Nat) (Rl : (Nat → St) → Nat → St → Prop) : Prop := ∀ (x : Nat → St) (n : Nat) (y : St) (a1 : Int32), Rl x n y → (∃ (j : Nat) (o1 : Nat × Int32) (o2 : Int32 × St), j < 8 ∧ a1 = nI j ∧ m_AM_heard F (x 0) (x (10 + j)) j = some o1 ∧ m_MD_heard F y a1 = some o2 ∧ (o1.1 = 0 ∨ o1.1 = 1) ∧ o2.2 0 0 = nI o1.1 ∧ (o1.1 = 0 → o1.2 = o2.1) ∧ Rl (up (up x 2 (x 2)) (10 + j) (x (10 + j))) n o2.2) ∨ (∃ (o1 : Nat × Int32) (o2 : Int32 × St), m_AM_heard_x F a1 = some o1 ∧ m_MD_heard F y a1 = some o2 ∧ (o1.1 = 0 ∨ o1.1 = 1) ∧ o2.2 0 0 = nI o1.1 ∧ (o1.1 = 0 → o1.2 = o2.1) ∧ Rl x n o2.2)
def sim_unreachable (F : Nat) (Rl : (Nat → St) → Nat → St → Prop) : Prop := ∀ (x : Nat → St) (n : Nat) (y : St) (a1 : Int32), Rl x n y → ∃ (o1 : Nat × Int32) (o2 : Int32 × St), m_AM_unreachable F (x 0) (x 2) n a1 = some o1 ∧ m_MD_unreachable F y a1 = some o2 ∧ (o1.1 = 0 ∨ o1.1 = 1) ∧ o2.2 0 0 = nI o1.1 ∧ (o1.1 = 0 → o1.2 = o2.1) ∧ Rl x n o2.2
def sim_ticks (F : Nat) (Rl : (Nat → St) → Nat → St → Prop) : Prop := ∀ (x : Nat → St) (n : Nat) (y : St) (a1 : Int32), Rl x n y → ∃ (o1 : Nat × Int32 × St × St × St × St) (o2 : Int32 × St), m_AM_ticks F (x 0) (x 4) (x 5) (x 2) n (x 7) (x 6) a1 = some o1 ∧ m_MD_ticks F y a1 = some o2 ∧ (o1.1 = 0 ∨ o1.1 = 1 ∨ o1.1 = 2) ∧ o2.2 0 0 = nI o1.1 ∧ (o1.1 = 0 → o1.2.1 = o2.1) ∧ Rl (up (up (up (up x 0 (o1.2.2.1)) 4 (o1.2.2.2.1)) 7 (o1.2.2.2.2.1)) 6 (o1.2.2.2.2.2)) n o2.2
def sim_person (F : Nat) (Rl : (Nat → St) → Nat → St → Prop) : Prop := ∀ (x : Nat → St) (n : Nat) (y : St) (a1 : Int32), Rl x n y → ∃ (o1 : Nat × Int32 × St) (o2 : Int32 × St), m_AM_person F (x 0) (x 5) (x 7) a1 = some o1 ∧ m_MD_person F y a1 = some o2 ∧ (o1.1 = 0 ∨ o1.1 = 1) ∧ o2.2 0 0 = nI o1.1 ∧ (o1.1 = 0 → o1.2.1 = o2.1) ∧ Rl (up x 7 (o1.2.2)) n o2.2
def sim_act (F : Nat) (Rl : (Nat → St) → Nat → St → Prop) : Prop := ∀ (x : Nat → St) (n : Nat) (y : St) (a1 a2 : Int32), Rl x n y → ∃ (o1 : Nat × Int32) (o2 : Int32 × St), m_AM_act F (x 0) (x 5) (x 7) a1 a2 = some o1 ∧ m_MD_act F y a1 a2 = some o2 ∧ (o1.1 = 0 ∨ o1.1 = 1) ∧ o2.2 0 0 = nI o1.1 ∧ (o1.1 = 0 → o1.2 = o2.1) ∧ Rl x n o2.2
def sim_zone (F : Nat) (Rl : (Nat → St) → Nat → St → Prop) : Prop := ∀ (x : Nat → St) (n : Nat) (y : St) (a1 a2 : Int32), Rl x n y → ∃ (o1 : Nat × Int32 × St × St) (o2 : Int32 × St), m_AM_zone F (x 0) (x 5) (x 2) n (x 7) (x 6) a1 a2 = some o1 ∧ m_MD_zone F y a1 a2 = some o2 ∧ (o1.1 = 0 ∨ o1.1 = 1) ∧ o2.2 0 0 = nI o1.1 ∧ (o1.1 = 0 → o1.2.1 = o2.1) ∧ Rl (up (up x 7 (o1.2.2.1)) 6 (o1.2.2.2)) n o2.2
def sim_row (F : Nat) (Rl : (Nat → St) → Nat → St → Prop) : Prop := ∀ (x : Nat → St) (n : Nat) (y : St) (a1 a2 : Int32), Rl x n y → ∃ (o1 : Nat × Int32 × St × St) (o2 : Int32 × St), m_AM_row F (x 0) (x 5) (x 2) n (x 7) (x 6) a1 a2 = some o1 ∧ m_MD_row F y a1 a2 = some o2 ∧ (o1.1 = 0 ∨ o1.1 = 1) ∧ o2.2 0 0 = nI o1.1 ∧ (o1.1 = 0 → o1.2.1 = o2.1) ∧ Rl (up (up x 7 (o1.2.2.1)) 6 (o1.2.2.2)) n o2.2
def sim_event (F : Nat) (Rl : (Nat → St) → Nat → St → Prop) : Prop := ∀ (x : Nat → St) (n : Nat) (y : St) (a1 a2 : Int32), Rl x n y → ∃ (o1 : Nat × Int32) (o2 : Int32 × St), m_AM_event F (x 0) (x 4) a1 a2 = some o1 ∧ m_MD_event F y a1 a2 = some o2 ∧ (o1.1 = 0 ∨ o1.1 = 1) ∧ o2.2 0 0 = nI o1.1 ∧ (o1.1 = 0 → o1.2 = o2.1) ∧ Rl x n o2.2
def sim_ranked (F : Nat) (Rl : (Nat → St) → Nat → St → Prop) : Prop := ∀ (x : Nat → St) (n : Nat) (y : St) (a1 : Int32), Rl x n y → ∃ (o1 : Nat × Int32) (o2 : Int32 × St), m_AM_ranked F (x 0) (x 5) (x 7) a1 = some o1 ∧ m_MD_ranked F y a1 = some o2 ∧ (o1.1 = 0 ∨ o1.1 = 1) ∧ o2.2 0 0 = nI o1.1 ∧ (o1.1 = 0 → o1.2 = o2.1) ∧ Rl x n o2.2
