/-! THE LAW: its instructions -/
theorem d_law_0 : decode code 0 = .ok (.new 8, 3) := by decide +kernel
theorem d_law_3 : decode code 3 = .ok (.dup, 1) := by decide +kernel
theorem d_law_4 : decode code 4 = .ok (.aload_n 0, 1) := by decide +kernel
theorem d_law_5 : decode code 5 = .ok (.iconst 0, 1) := by decide +kernel
theorem d_law_6 : decode code 6 = .ok (.invokestatic 46, 3) := by decide +kernel
theorem d_law_9 : decode code 9 = .ok (.aload_n 0, 1) := by decide +kernel
theorem d_law_10 : decode code 10 = .ok (.iconst 1, 1) := by decide +kernel
theorem d_law_11 : decode code 11 = .ok (.invokestatic 46, 3) := by decide +kernel
theorem d_law_14 : decode code 14 = .ok (.aload_n 0, 1) := by decide +kernel
theorem d_law_15 : decode code 15 = .ok (.iconst 2, 1) := by decide +kernel
theorem d_law_16 : decode code 16 = .ok (.invokestatic 46, 3) := by decide +kernel
theorem d_law_19 : decode code 19 = .ok (.aload_n 0, 1) := by decide +kernel
theorem d_law_20 : decode code 20 = .ok (.iconst 3, 1) := by decide +kernel
theorem d_law_21 : decode code 21 = .ok (.invokestatic 46, 3) := by decide +kernel
theorem d_law_24 : decode code 24 = .ok (.invokespecial 52, 3) := by decide +kernel
theorem d_law_27 : decode code 27 = .ok (.astore_n 1, 1) := by decide +kernel
theorem d_law_28 : decode code 28 = .ok (.new 55, 3) := by decide +kernel
theorem d_law_31 : decode code 31 = .ok (.dup, 1) := by decide +kernel
theorem d_law_32 : decode code 32 = .ok (.aload_n 0, 1) := by decide +kernel
theorem d_law_33 : decode code 33 = .ok (.iconst 0, 1) := by decide +kernel
theorem d_law_34 : decode code 34 = .ok (.invokestatic 46, 3) := by decide +kernel
theorem d_law_37 : decode code 37 = .ok (.aload_n 0, 1) := by decide +kernel
theorem d_law_38 : decode code 38 = .ok (.iconst 1, 1) := by decide +kernel
theorem d_law_39 : decode code 39 = .ok (.invokestatic 46, 3) := by decide +kernel
theorem d_law_42 : decode code 42 = .ok (.aload_n 0, 1) := by decide +kernel
theorem d_law_43 : decode code 43 = .ok (.iconst 2, 1) := by decide +kernel
theorem d_law_44 : decode code 44 = .ok (.invokestatic 46, 3) := by decide +kernel
theorem d_law_47 : decode code 47 = .ok (.aload_n 0, 1) := by decide +kernel
theorem d_law_48 : decode code 48 = .ok (.iconst 3, 1) := by decide +kernel
theorem d_law_49 : decode code 49 = .ok (.invokestatic 46, 3) := by decide +kernel
theorem d_law_52 : decode code 52 = .ok (.invokespecial 57, 3) := by decide +kernel
theorem d_law_55 : decode code 55 = .ok (.astore_n 2, 1) := by decide +kernel
theorem d_law_56 : decode code 56 = .ok (.iconst 1, 1) := by decide +kernel
theorem d_law_57 : decode code 57 = .ok (.newarray .long, 2) := by decide +kernel
theorem d_law_59 : decode code 59 = .ok (.astore_n 3, 1) := by decide +kernel
theorem d_law_60 : decode code 60 = .ok (.iconst 4, 1) := by decide +kernel
theorem d_law_61 : decode code 61 = .ok (.istore 4, 2) := by decide +kernel
theorem d_law_63 : decode code 63 = .ok (.iload 4, 2) := by decide +kernel
theorem d_law_65 : decode code 65 = .ok (.aload_n 0, 1) := by decide +kernel
theorem d_law_66 : decode code 66 = .ok (.arraylength, 1) := by decide +kernel
theorem d_law_67 : decode code 67 = .ok (.iconst 4, 1) := by decide +kernel
theorem d_law_68 : decode code 68 = .ok (.isub, 1) := by decide +kernel
theorem d_law_69 : decode code 69 = .ok (.if_icmp .gt 860, 3) := by decide +kernel
theorem d_law_72 : decode code 72 = .ok (.aload_n 0, 1) := by decide +kernel
theorem d_law_73 : decode code 73 = .ok (.iload 4, 2) := by decide +kernel
theorem d_law_75 : decode code 75 = .ok (.iaload, 1) := by decide +kernel
theorem d_law_76 : decode code 76 = .ok (.bipush 15, 2) := by decide +kernel
theorem d_law_78 : decode code 78 = .ok (.iand, 1) := by decide +kernel
theorem d_law_79 : decode code 79 = .ok (.tableswitch 844 0 14 #[73, 142, 238, 306, 350, 418, 471, 496, 509, 534, 614, 682, 738, 794, 819], 73) := by decide +kernel
theorem d_law_152 : decode code 152 = .ok (.aload_n 1, 1) := by decide +kernel
theorem d_law_153 : decode code 153 = .ok (.aload_n 0, 1) := by decide +kernel
theorem d_law_154 : decode code 154 = .ok (.iload 4, 2) := by decide +kernel
theorem d_law_156 : decode code 156 = .ok (.iconst 1, 1) := by decide +kernel
theorem d_law_157 : decode code 157 = .ok (.iadd, 1) := by decide +kernel
theorem d_law_158 : decode code 158 = .ok (.iaload, 1) := by decide +kernel
theorem d_law_159 : decode code 159 = .ok (.ifCond .eq 7, 3) := by decide +kernel
theorem d_law_162 : decode code 162 = .ok (.iconst 1, 1) := by decide +kernel
theorem d_law_163 : decode code 163 = .ok (.goto 4, 3) := by decide +kernel
theorem d_law_166 : decode code 166 = .ok (.iconst 0, 1) := by decide +kernel
theorem d_law_167 : decode code 167 = .ok (.aload_n 0, 1) := by decide +kernel
theorem d_law_168 : decode code 168 = .ok (.iload 4, 2) := by decide +kernel
theorem d_law_170 : decode code 170 = .ok (.iconst 2, 1) := by decide +kernel
theorem d_law_171 : decode code 171 = .ok (.iadd, 1) := by decide +kernel
theorem d_law_172 : decode code 172 = .ok (.iaload, 1) := by decide +kernel
theorem d_law_173 : decode code 173 = .ok (.ifCond .eq 7, 3) := by decide +kernel
theorem d_law_176 : decode code 176 = .ok (.iconst 1, 1) := by decide +kernel
theorem d_law_177 : decode code 177 = .ok (.goto 4, 3) := by decide +kernel
theorem d_law_180 : decode code 180 = .ok (.iconst 0, 1) := by decide +kernel
theorem d_law_181 : decode code 181 = .ok (.invokevirtual 58, 3) := by decide +kernel
theorem d_law_184 : decode code 184 = .ok (.aload_n 2, 1) := by decide +kernel
theorem d_law_185 : decode code 185 = .ok (.aload_n 0, 1) := by decide +kernel
theorem d_law_186 : decode code 186 = .ok (.iload 4, 2) := by decide +kernel
theorem d_law_188 : decode code 188 = .ok (.iconst 1, 1) := by decide +kernel
theorem d_law_189 : decode code 189 = .ok (.iadd, 1) := by decide +kernel
theorem d_law_190 : decode code 190 = .ok (.iaload, 1) := by decide +kernel
theorem d_law_191 : decode code 191 = .ok (.ifCond .eq 7, 3) := by decide +kernel
theorem d_law_194 : decode code 194 = .ok (.iconst 1, 1) := by decide +kernel
theorem d_law_195 : decode code 195 = .ok (.goto 4, 3) := by decide +kernel
theorem d_law_198 : decode code 198 = .ok (.iconst 0, 1) := by decide +kernel
theorem d_law_199 : decode code 199 = .ok (.aload_n 0, 1) := by decide +kernel
theorem d_law_200 : decode code 200 = .ok (.iload 4, 2) := by decide +kernel
theorem d_law_202 : decode code 202 = .ok (.iconst 2, 1) := by decide +kernel
theorem d_law_203 : decode code 203 = .ok (.iadd, 1) := by decide +kernel
theorem d_law_204 : decode code 204 = .ok (.iaload, 1) := by decide +kernel
theorem d_law_205 : decode code 205 = .ok (.ifCond .eq 7, 3) := by decide +kernel
theorem d_law_208 : decode code 208 = .ok (.iconst 1, 1) := by decide +kernel
theorem d_law_209 : decode code 209 = .ok (.goto 4, 3) := by decide +kernel
theorem d_law_212 : decode code 212 = .ok (.iconst 0, 1) := by decide +kernel
theorem d_law_213 : decode code 213 = .ok (.invokevirtual 62, 3) := by decide +kernel
theorem d_law_216 : decode code 216 = .ok (.if_icmp .eq 707, 3) := by decide +kernel
theorem d_law_219 : decode code 219 = .ok (.iconst 0, 1) := by decide +kernel
theorem d_law_220 : decode code 220 = .ok (.ireturn, 1) := by decide +kernel
theorem d_law_221 : decode code 221 = .ok (.aload_n 1, 1) := by decide +kernel
theorem d_law_222 : decode code 222 = .ok (.aload_n 0, 1) := by decide +kernel
theorem d_law_223 : decode code 223 = .ok (.iload 4, 2) := by decide +kernel
theorem d_law_225 : decode code 225 = .ok (.iconst 1, 1) := by decide +kernel
theorem d_law_226 : decode code 226 = .ok (.iadd, 1) := by decide +kernel
theorem d_law_227 : decode code 227 = .ok (.iaload, 1) := by decide +kernel
theorem d_law_228 : decode code 228 = .ok (.aload_n 0, 1) := by decide +kernel
theorem d_law_229 : decode code 229 = .ok (.iload 4, 2) := by decide +kernel
theorem d_law_231 : decode code 231 = .ok (.iconst 2, 1) := by decide +kernel
theorem d_law_232 : decode code 232 = .ok (.iadd, 1) := by decide +kernel
theorem d_law_233 : decode code 233 = .ok (.iaload, 1) := by decide +kernel
theorem d_law_234 : decode code 234 = .ok (.aload_n 0, 1) := by decide +kernel
theorem d_law_235 : decode code 235 = .ok (.iload 4, 2) := by decide +kernel
theorem d_law_237 : decode code 237 = .ok (.iconst 3, 1) := by decide +kernel
theorem d_law_238 : decode code 238 = .ok (.iadd, 1) := by decide +kernel
theorem d_law_239 : decode code 239 = .ok (.iaload, 1) := by decide +kernel
theorem d_law_240 : decode code 240 = .ok (.ifCond .eq 7, 3) := by decide +kernel
theorem d_law_243 : decode code 243 = .ok (.iconst 1, 1) := by decide +kernel
theorem d_law_244 : decode code 244 = .ok (.goto 4, 3) := by decide +kernel
theorem d_law_247 : decode code 247 = .ok (.iconst 0, 1) := by decide +kernel
theorem d_law_248 : decode code 248 = .ok (.aload_n 3, 1) := by decide +kernel
theorem d_law_249 : decode code 249 = .ok (.invokestatic 63, 3) := by decide +kernel
theorem d_law_252 : decode code 252 = .ok (.istore 5, 2) := by decide +kernel
theorem d_law_254 : decode code 254 = .ok (.aload_n 2, 1) := by decide +kernel
theorem d_law_255 : decode code 255 = .ok (.aload_n 0, 1) := by decide +kernel
theorem d_law_256 : decode code 256 = .ok (.iload 4, 2) := by decide +kernel
theorem d_law_258 : decode code 258 = .ok (.iconst 1, 1) := by decide +kernel
theorem d_law_259 : decode code 259 = .ok (.iadd, 1) := by decide +kernel
theorem d_law_260 : decode code 260 = .ok (.iaload, 1) := by decide +kernel
theorem d_law_261 : decode code 261 = .ok (.aload_n 0, 1) := by decide +kernel
theorem d_law_262 : decode code 262 = .ok (.iload 4, 2) := by decide +kernel
theorem d_law_264 : decode code 264 = .ok (.iconst 2, 1) := by decide +kernel
theorem d_law_265 : decode code 265 = .ok (.iadd, 1) := by decide +kernel
theorem d_law_266 : decode code 266 = .ok (.iaload, 1) := by decide +kernel
theorem d_law_267 : decode code 267 = .ok (.aload_n 0, 1) := by decide +kernel
theorem d_law_268 : decode code 268 = .ok (.iload 4, 2) := by decide +kernel
theorem d_law_270 : decode code 270 = .ok (.iconst 3, 1) := by decide +kernel
theorem d_law_271 : decode code 271 = .ok (.iadd, 1) := by decide +kernel
theorem d_law_272 : decode code 272 = .ok (.iaload, 1) := by decide +kernel
theorem d_law_273 : decode code 273 = .ok (.ifCond .eq 7, 3) := by decide +kernel
theorem d_law_276 : decode code 276 = .ok (.iconst 1, 1) := by decide +kernel
theorem d_law_277 : decode code 277 = .ok (.goto 4, 3) := by decide +kernel
theorem d_law_280 : decode code 280 = .ok (.iconst 0, 1) := by decide +kernel
theorem d_law_281 : decode code 281 = .ok (.invokevirtual 66, 3) := by decide +kernel
theorem d_law_284 : decode code 284 = .ok (.istore 6, 2) := by decide +kernel
theorem d_law_286 : decode code 286 = .ok (.aload_n 2, 1) := by decide +kernel
theorem d_law_287 : decode code 287 = .ok (.invokevirtual 67, 3) := by decide +kernel
theorem d_law_290 : decode code 290 = .ok (.iload 5, 2) := by decide +kernel
theorem d_law_292 : decode code 292 = .ok (.if_icmp .eq 5, 3) := by decide +kernel
theorem d_law_295 : decode code 295 = .ok (.iconst 0, 1) := by decide +kernel
theorem d_law_296 : decode code 296 = .ok (.ireturn, 1) := by decide +kernel
theorem d_law_297 : decode code 297 = .ok (.iload 5, 2) := by decide +kernel
theorem d_law_299 : decode code 299 = .ok (.ifCond .ne 15, 3) := by decide +kernel
theorem d_law_302 : decode code 302 = .ok (.aload_n 3, 1) := by decide +kernel
theorem d_law_303 : decode code 303 = .ok (.iconst 0, 1) := by decide +kernel
theorem d_law_304 : decode code 304 = .ok (.laload, 1) := by decide +kernel
theorem d_law_305 : decode code 305 = .ok (.iload 6, 2) := by decide +kernel
theorem d_law_307 : decode code 307 = .ok (.i2l, 1) := by decide +kernel
theorem d_law_308 : decode code 308 = .ok (.lcmp, 1) := by decide +kernel
theorem d_law_309 : decode code 309 = .ok (.ifCond .eq 5, 3) := by decide +kernel
theorem d_law_312 : decode code 312 = .ok (.iconst 0, 1) := by decide +kernel
theorem d_law_313 : decode code 313 = .ok (.ireturn, 1) := by decide +kernel
theorem d_law_314 : decode code 314 = .ok (.goto 609, 3) := by decide +kernel
theorem d_law_317 : decode code 317 = .ok (.aload_n 1, 1) := by decide +kernel
theorem d_law_318 : decode code 318 = .ok (.aload_n 0, 1) := by decide +kernel
theorem d_law_319 : decode code 319 = .ok (.iload 4, 2) := by decide +kernel
theorem d_law_321 : decode code 321 = .ok (.iconst 1, 1) := by decide +kernel
theorem d_law_322 : decode code 322 = .ok (.iadd, 1) := by decide +kernel
theorem d_law_323 : decode code 323 = .ok (.iaload, 1) := by decide +kernel
theorem d_law_324 : decode code 324 = .ok (.aload_n 0, 1) := by decide +kernel
theorem d_law_325 : decode code 325 = .ok (.iload 4, 2) := by decide +kernel
theorem d_law_327 : decode code 327 = .ok (.iconst 2, 1) := by decide +kernel
theorem d_law_328 : decode code 328 = .ok (.iadd, 1) := by decide +kernel
theorem d_law_329 : decode code 329 = .ok (.iaload, 1) := by decide +kernel
theorem d_law_330 : decode code 330 = .ok (.aload_n 3, 1) := by decide +kernel
theorem d_law_331 : decode code 331 = .ok (.invokestatic 70, 3) := by decide +kernel
theorem d_law_334 : decode code 334 = .ok (.istore 5, 2) := by decide +kernel
theorem d_law_336 : decode code 336 = .ok (.aload_n 2, 1) := by decide +kernel
theorem d_law_337 : decode code 337 = .ok (.aload_n 0, 1) := by decide +kernel
theorem d_law_338 : decode code 338 = .ok (.iload 4, 2) := by decide +kernel
theorem d_law_340 : decode code 340 = .ok (.iconst 1, 1) := by decide +kernel
theorem d_law_341 : decode code 341 = .ok (.iadd, 1) := by decide +kernel
theorem d_law_342 : decode code 342 = .ok (.iaload, 1) := by decide +kernel
theorem d_law_343 : decode code 343 = .ok (.aload_n 0, 1) := by decide +kernel
theorem d_law_344 : decode code 344 = .ok (.iload 4, 2) := by decide +kernel
theorem d_law_346 : decode code 346 = .ok (.iconst 2, 1) := by decide +kernel
theorem d_law_347 : decode code 347 = .ok (.iadd, 1) := by decide +kernel
theorem d_law_348 : decode code 348 = .ok (.iaload, 1) := by decide +kernel
theorem d_law_349 : decode code 349 = .ok (.invokevirtual 73, 3) := by decide +kernel
theorem d_law_352 : decode code 352 = .ok (.istore 6, 2) := by decide +kernel
theorem d_law_354 : decode code 354 = .ok (.aload_n 2, 1) := by decide +kernel
theorem d_law_355 : decode code 355 = .ok (.invokevirtual 67, 3) := by decide +kernel
theorem d_law_358 : decode code 358 = .ok (.iload 5, 2) := by decide +kernel
theorem d_law_360 : decode code 360 = .ok (.if_icmp .eq 5, 3) := by decide +kernel
theorem d_law_363 : decode code 363 = .ok (.iconst 0, 1) := by decide +kernel
theorem d_law_364 : decode code 364 = .ok (.ireturn, 1) := by decide +kernel
theorem d_law_365 : decode code 365 = .ok (.iload 5, 2) := by decide +kernel
theorem d_law_367 : decode code 367 = .ok (.ifCond .ne 15, 3) := by decide +kernel
theorem d_law_370 : decode code 370 = .ok (.aload_n 3, 1) := by decide +kernel
theorem d_law_371 : decode code 371 = .ok (.iconst 0, 1) := by decide +kernel
theorem d_law_372 : decode code 372 = .ok (.laload, 1) := by decide +kernel
theorem d_law_373 : decode code 373 = .ok (.iload 6, 2) := by decide +kernel
theorem d_law_375 : decode code 375 = .ok (.i2l, 1) := by decide +kernel
theorem d_law_376 : decode code 376 = .ok (.lcmp, 1) := by decide +kernel
theorem d_law_377 : decode code 377 = .ok (.ifCond .eq 5, 3) := by decide +kernel
theorem d_law_380 : decode code 380 = .ok (.iconst 0, 1) := by decide +kernel
theorem d_law_381 : decode code 381 = .ok (.ireturn, 1) := by decide +kernel
theorem d_law_382 : decode code 382 = .ok (.goto 541, 3) := by decide +kernel
theorem d_law_385 : decode code 385 = .ok (.aload_n 1, 1) := by decide +kernel
theorem d_law_386 : decode code 386 = .ok (.aload_n 3, 1) := by decide +kernel
theorem d_law_387 : decode code 387 = .ok (.invokestatic 74, 3) := by decide +kernel
theorem d_law_390 : decode code 390 = .ok (.istore 5, 2) := by decide +kernel
theorem d_law_392 : decode code 392 = .ok (.aload_n 2, 1) := by decide +kernel
theorem d_law_393 : decode code 393 = .ok (.invokevirtual 77, 3) := by decide +kernel
theorem d_law_396 : decode code 396 = .ok (.istore 6, 2) := by decide +kernel
theorem d_law_398 : decode code 398 = .ok (.aload_n 2, 1) := by decide +kernel
theorem d_law_399 : decode code 399 = .ok (.invokevirtual 67, 3) := by decide +kernel
theorem d_law_402 : decode code 402 = .ok (.iload 5, 2) := by decide +kernel
theorem d_law_404 : decode code 404 = .ok (.if_icmp .eq 5, 3) := by decide +kernel
theorem d_law_407 : decode code 407 = .ok (.iconst 0, 1) := by decide +kernel
theorem d_law_408 : decode code 408 = .ok (.ireturn, 1) := by decide +kernel
theorem d_law_409 : decode code 409 = .ok (.iload 5, 2) := by decide +kernel
theorem d_law_411 : decode code 411 = .ok (.ifCond .ne 15, 3) := by decide +kernel
theorem d_law_414 : decode code 414 = .ok (.aload_n 3, 1) := by decide +kernel
theorem d_law_415 : decode code 415 = .ok (.iconst 0, 1) := by decide +kernel
theorem d_law_416 : decode code 416 = .ok (.laload, 1) := by decide +kernel
theorem d_law_417 : decode code 417 = .ok (.iload 6, 2) := by decide +kernel
theorem d_law_419 : decode code 419 = .ok (.i2l, 1) := by decide +kernel
theorem d_law_420 : decode code 420 = .ok (.lcmp, 1) := by decide +kernel
theorem d_law_421 : decode code 421 = .ok (.ifCond .eq 5, 3) := by decide +kernel
theorem d_law_424 : decode code 424 = .ok (.iconst 0, 1) := by decide +kernel
theorem d_law_425 : decode code 425 = .ok (.ireturn, 1) := by decide +kernel
theorem d_law_426 : decode code 426 = .ok (.goto 497, 3) := by decide +kernel
theorem d_law_429 : decode code 429 = .ok (.aload_n 1, 1) := by decide +kernel
theorem d_law_430 : decode code 430 = .ok (.aload_n 0, 1) := by decide +kernel
theorem d_law_431 : decode code 431 = .ok (.iload 4, 2) := by decide +kernel
theorem d_law_433 : decode code 433 = .ok (.iconst 1, 1) := by decide +kernel
theorem d_law_434 : decode code 434 = .ok (.iadd, 1) := by decide +kernel
theorem d_law_435 : decode code 435 = .ok (.iaload, 1) := by decide +kernel
theorem d_law_436 : decode code 436 = .ok (.aload_n 0, 1) := by decide +kernel
theorem d_law_437 : decode code 437 = .ok (.iload 4, 2) := by decide +kernel
theorem d_law_439 : decode code 439 = .ok (.iconst 2, 1) := by decide +kernel
theorem d_law_440 : decode code 440 = .ok (.iadd, 1) := by decide +kernel
theorem d_law_441 : decode code 441 = .ok (.iaload, 1) := by decide +kernel
theorem d_law_442 : decode code 442 = .ok (.aload_n 3, 1) := by decide +kernel
theorem d_law_443 : decode code 443 = .ok (.invokestatic 78, 3) := by decide +kernel
theorem d_law_446 : decode code 446 = .ok (.istore 5, 2) := by decide +kernel
theorem d_law_448 : decode code 448 = .ok (.aload_n 2, 1) := by decide +kernel
theorem d_law_449 : decode code 449 = .ok (.aload_n 0, 1) := by decide +kernel
theorem d_law_450 : decode code 450 = .ok (.iload 4, 2) := by decide +kernel
theorem d_law_452 : decode code 452 = .ok (.iconst 1, 1) := by decide +kernel
theorem d_law_453 : decode code 453 = .ok (.iadd, 1) := by decide +kernel
theorem d_law_454 : decode code 454 = .ok (.iaload, 1) := by decide +kernel
theorem d_law_455 : decode code 455 = .ok (.aload_n 0, 1) := by decide +kernel
theorem d_law_456 : decode code 456 = .ok (.iload 4, 2) := by decide +kernel
theorem d_law_458 : decode code 458 = .ok (.iconst 2, 1) := by decide +kernel
theorem d_law_459 : decode code 459 = .ok (.iadd, 1) := by decide +kernel
theorem d_law_460 : decode code 460 = .ok (.iaload, 1) := by decide +kernel
theorem d_law_461 : decode code 461 = .ok (.invokevirtual 80, 3) := by decide +kernel
theorem d_law_464 : decode code 464 = .ok (.istore 6, 2) := by decide +kernel
theorem d_law_466 : decode code 466 = .ok (.aload_n 2, 1) := by decide +kernel
theorem d_law_467 : decode code 467 = .ok (.invokevirtual 67, 3) := by decide +kernel
theorem d_law_470 : decode code 470 = .ok (.iload 5, 2) := by decide +kernel
theorem d_law_472 : decode code 472 = .ok (.if_icmp .eq 5, 3) := by decide +kernel
theorem d_law_475 : decode code 475 = .ok (.iconst 0, 1) := by decide +kernel
theorem d_law_476 : decode code 476 = .ok (.ireturn, 1) := by decide +kernel
theorem d_law_477 : decode code 477 = .ok (.iload 5, 2) := by decide +kernel
theorem d_law_479 : decode code 479 = .ok (.ifCond .ne 15, 3) := by decide +kernel
theorem d_law_482 : decode code 482 = .ok (.aload_n 3, 1) := by decide +kernel
theorem d_law_483 : decode code 483 = .ok (.iconst 0, 1) := by decide +kernel
theorem d_law_484 : decode code 484 = .ok (.laload, 1) := by decide +kernel
theorem d_law_485 : decode code 485 = .ok (.iload 6, 2) := by decide +kernel
theorem d_law_487 : decode code 487 = .ok (.i2l, 1) := by decide +kernel
theorem d_law_488 : decode code 488 = .ok (.lcmp, 1) := by decide +kernel
theorem d_law_489 : decode code 489 = .ok (.ifCond .eq 5, 3) := by decide +kernel
theorem d_law_492 : decode code 492 = .ok (.iconst 0, 1) := by decide +kernel
theorem d_law_493 : decode code 493 = .ok (.ireturn, 1) := by decide +kernel
theorem d_law_494 : decode code 494 = .ok (.goto 429, 3) := by decide +kernel
