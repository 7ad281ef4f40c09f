theorem dL_law_0 : decode cL_law 0 = .ok (.new 8, 3) := by decide +kernel
theorem dL_law_3 : decode cL_law 3 = .ok (.dup, 1) := by decide +kernel
theorem dL_law_4 : decode cL_law 4 = .ok (.invokespecial 108, 3) := by decide +kernel
theorem dL_law_7 : decode cL_law 7 = .ok (.astore_n 1, 1) := by decide +kernel
theorem dL_law_8 : decode cL_law 8 = .ok (.new 109, 3) := by decide +kernel
theorem dL_law_11 : decode cL_law 11 = .ok (.dup, 1) := by decide +kernel
theorem dL_law_12 : decode cL_law 12 = .ok (.invokespecial 111, 3) := by decide +kernel
theorem dL_law_15 : decode cL_law 15 = .ok (.astore_n 2, 1) := by decide +kernel
theorem dL_law_16 : decode cL_law 16 = .ok (.iconst 1, 1) := by decide +kernel
theorem dL_law_17 : decode cL_law 17 = .ok (.newarray .long, 2) := by decide +kernel
theorem dL_law_19 : decode cL_law 19 = .ok (.astore_n 3, 1) := by decide +kernel
theorem dL_law_20 : decode cL_law 20 = .ok (.iconst 0, 1) := by decide +kernel
theorem dL_law_21 : decode cL_law 21 = .ok (.istore 4, 2) := by decide +kernel
theorem dL_law_23 : decode cL_law 23 = .ok (.iload 4, 2) := by decide +kernel
theorem dL_law_25 : decode cL_law 25 = .ok (.aload_n 0, 1) := by decide +kernel
theorem dL_law_26 : decode cL_law 26 = .ok (.arraylength, 1) := by decide +kernel
theorem dL_law_27 : decode cL_law 27 = .ok (.iconst 4, 1) := by decide +kernel
theorem dL_law_28 : decode cL_law 28 = .ok (.isub, 1) := by decide +kernel
theorem dL_law_29 : decode cL_law 29 = .ok (.if_icmp .gt 1750, 3) := by decide +kernel
theorem dL_law_32 : decode cL_law 32 = .ok (.aload_n 0, 1) := by decide +kernel
theorem dL_law_33 : decode cL_law 33 = .ok (.iload 4, 2) := by decide +kernel
theorem dL_law_35 : decode cL_law 35 = .ok (.iaload, 1) := by decide +kernel
theorem dL_law_36 : decode cL_law 36 = .ok (.bipush 31, 2) := by decide +kernel
theorem dL_law_38 : decode cL_law 38 = .ok (.iand, 1) := by decide +kernel
theorem dL_law_39 : decode cL_law 39 = .ok (.tableswitch 1734 0 30 #[137, 205, 273, 341, 385, 441, 520, 564, 608, 664, 677, 721, 765, 821, 877, 945, 1001, 1044, 1088, 1132, 1176, 1232, 1288, 1331, 1374, 1417, 1473, 1541, 1608, 1664, 1720], 137) := by decide +kernel
theorem dL_law_176 : decode cL_law 176 = .ok (.aload_n 1, 1) := by decide +kernel
theorem dL_law_177 : decode cL_law 177 = .ok (.aload_n 0, 1) := by decide +kernel
theorem dL_law_178 : decode cL_law 178 = .ok (.iload 4, 2) := by decide +kernel
theorem dL_law_180 : decode cL_law 180 = .ok (.iconst 1, 1) := by decide +kernel
theorem dL_law_181 : decode cL_law 181 = .ok (.iadd, 1) := by decide +kernel
theorem dL_law_182 : decode cL_law 182 = .ok (.iaload, 1) := by decide +kernel
theorem dL_law_183 : decode cL_law 183 = .ok (.aload_n 0, 1) := by decide +kernel
theorem dL_law_184 : decode cL_law 184 = .ok (.iload 4, 2) := by decide +kernel
theorem dL_law_186 : decode cL_law 186 = .ok (.iconst 2, 1) := by decide +kernel
theorem dL_law_187 : decode cL_law 187 = .ok (.iadd, 1) := by decide +kernel
theorem dL_law_188 : decode cL_law 188 = .ok (.iaload, 1) := by decide +kernel
theorem dL_law_189 : decode cL_law 189 = .ok (.aload_n 3, 1) := by decide +kernel
theorem dL_law_190 : decode cL_law 190 = .ok (.invokestatic 112, 3) := by decide +kernel
theorem dL_law_193 : decode cL_law 193 = .ok (.istore 5, 2) := by decide +kernel
theorem dL_law_195 : decode cL_law 195 = .ok (.aload_n 2, 1) := by decide +kernel
theorem dL_law_196 : decode cL_law 196 = .ok (.aload_n 0, 1) := by decide +kernel
theorem dL_law_197 : decode cL_law 197 = .ok (.iload 4, 2) := by decide +kernel
theorem dL_law_199 : decode cL_law 199 = .ok (.iconst 1, 1) := by decide +kernel
theorem dL_law_200 : decode cL_law 200 = .ok (.iadd, 1) := by decide +kernel
theorem dL_law_201 : decode cL_law 201 = .ok (.iaload, 1) := by decide +kernel
theorem dL_law_202 : decode cL_law 202 = .ok (.aload_n 0, 1) := by decide +kernel
theorem dL_law_203 : decode cL_law 203 = .ok (.iload 4, 2) := by decide +kernel
theorem dL_law_205 : decode cL_law 205 = .ok (.iconst 2, 1) := by decide +kernel
theorem dL_law_206 : decode cL_law 206 = .ok (.iadd, 1) := by decide +kernel
theorem dL_law_207 : decode cL_law 207 = .ok (.iaload, 1) := by decide +kernel
theorem dL_law_208 : decode cL_law 208 = .ok (.invokevirtual 117, 3) := by decide +kernel
theorem dL_law_211 : decode cL_law 211 = .ok (.istore 6, 2) := by decide +kernel
theorem dL_law_213 : decode cL_law 213 = .ok (.aload_n 2, 1) := by decide +kernel
theorem dL_law_214 : decode cL_law 214 = .ok (.invokevirtual 118, 3) := by decide +kernel
theorem dL_law_217 : decode cL_law 217 = .ok (.iload 5, 2) := by decide +kernel
theorem dL_law_219 : decode cL_law 219 = .ok (.if_icmp .eq 5, 3) := by decide +kernel
theorem dL_law_222 : decode cL_law 222 = .ok (.iconst 0, 1) := by decide +kernel
theorem dL_law_223 : decode cL_law 223 = .ok (.ireturn, 1) := by decide +kernel
theorem dL_law_224 : decode cL_law 224 = .ok (.iload 5, 2) := by decide +kernel
theorem dL_law_226 : decode cL_law 226 = .ok (.ifCond .ne 15, 3) := by decide +kernel
theorem dL_law_229 : decode cL_law 229 = .ok (.aload_n 3, 1) := by decide +kernel
theorem dL_law_230 : decode cL_law 230 = .ok (.iconst 0, 1) := by decide +kernel
theorem dL_law_231 : decode cL_law 231 = .ok (.laload, 1) := by decide +kernel
theorem dL_law_232 : decode cL_law 232 = .ok (.iload 6, 2) := by decide +kernel
theorem dL_law_234 : decode cL_law 234 = .ok (.i2l, 1) := by decide +kernel
theorem dL_law_235 : decode cL_law 235 = .ok (.lcmp, 1) := by decide +kernel
theorem dL_law_236 : decode cL_law 236 = .ok (.ifCond .eq 5, 3) := by decide +kernel
theorem dL_law_239 : decode cL_law 239 = .ok (.iconst 0, 1) := by decide +kernel
theorem dL_law_240 : decode cL_law 240 = .ok (.ireturn, 1) := by decide +kernel
theorem dL_law_241 : decode cL_law 241 = .ok (.goto 1532, 3) := by decide +kernel
theorem dL_law_244 : decode cL_law 244 = .ok (.aload_n 1, 1) := by decide +kernel
theorem dL_law_245 : decode cL_law 245 = .ok (.aload_n 0, 1) := by decide +kernel
theorem dL_law_246 : decode cL_law 246 = .ok (.iload 4, 2) := by decide +kernel
theorem dL_law_248 : decode cL_law 248 = .ok (.iconst 1, 1) := by decide +kernel
theorem dL_law_249 : decode cL_law 249 = .ok (.iadd, 1) := by decide +kernel
theorem dL_law_250 : decode cL_law 250 = .ok (.iaload, 1) := by decide +kernel
theorem dL_law_251 : decode cL_law 251 = .ok (.aload_n 0, 1) := by decide +kernel
theorem dL_law_252 : decode cL_law 252 = .ok (.iload 4, 2) := by decide +kernel
theorem dL_law_254 : decode cL_law 254 = .ok (.iconst 2, 1) := by decide +kernel
theorem dL_law_255 : decode cL_law 255 = .ok (.iadd, 1) := by decide +kernel
theorem dL_law_256 : decode cL_law 256 = .ok (.iaload, 1) := by decide +kernel
theorem dL_law_257 : decode cL_law 257 = .ok (.aload_n 3, 1) := by decide +kernel
theorem dL_law_258 : decode cL_law 258 = .ok (.invokestatic 121, 3) := by decide +kernel
theorem dL_law_261 : decode cL_law 261 = .ok (.istore 5, 2) := by decide +kernel
theorem dL_law_263 : decode cL_law 263 = .ok (.aload_n 2, 1) := by decide +kernel
theorem dL_law_264 : decode cL_law 264 = .ok (.aload_n 0, 1) := by decide +kernel
theorem dL_law_265 : decode cL_law 265 = .ok (.iload 4, 2) := by decide +kernel
theorem dL_law_267 : decode cL_law 267 = .ok (.iconst 1, 1) := by decide +kernel
theorem dL_law_268 : decode cL_law 268 = .ok (.iadd, 1) := by decide +kernel
theorem dL_law_269 : decode cL_law 269 = .ok (.iaload, 1) := by decide +kernel
theorem dL_law_270 : decode cL_law 270 = .ok (.aload_n 0, 1) := by decide +kernel
theorem dL_law_271 : decode cL_law 271 = .ok (.iload 4, 2) := by decide +kernel
theorem dL_law_273 : decode cL_law 273 = .ok (.iconst 2, 1) := by decide +kernel
theorem dL_law_274 : decode cL_law 274 = .ok (.iadd, 1) := by decide +kernel
theorem dL_law_275 : decode cL_law 275 = .ok (.iaload, 1) := by decide +kernel
theorem dL_law_276 : decode cL_law 276 = .ok (.invokevirtual 123, 3) := by decide +kernel
theorem dL_law_279 : decode cL_law 279 = .ok (.istore 6, 2) := by decide +kernel
theorem dL_law_281 : decode cL_law 281 = .ok (.aload_n 2, 1) := by decide +kernel
theorem dL_law_282 : decode cL_law 282 = .ok (.invokevirtual 118, 3) := by decide +kernel
theorem dL_law_285 : decode cL_law 285 = .ok (.iload 5, 2) := by decide +kernel
theorem dL_law_287 : decode cL_law 287 = .ok (.if_icmp .eq 5, 3) := by decide +kernel
theorem dL_law_290 : decode cL_law 290 = .ok (.iconst 0, 1) := by decide +kernel
theorem dL_law_291 : decode cL_law 291 = .ok (.ireturn, 1) := by decide +kernel
theorem dL_law_292 : decode cL_law 292 = .ok (.iload 5, 2) := by decide +kernel
theorem dL_law_294 : decode cL_law 294 = .ok (.ifCond .ne 15, 3) := by decide +kernel
theorem dL_law_297 : decode cL_law 297 = .ok (.aload_n 3, 1) := by decide +kernel
theorem dL_law_298 : decode cL_law 298 = .ok (.iconst 0, 1) := by decide +kernel
theorem dL_law_299 : decode cL_law 299 = .ok (.laload, 1) := by decide +kernel
theorem dL_law_300 : decode cL_law 300 = .ok (.iload 6, 2) := by decide +kernel
theorem dL_law_302 : decode cL_law 302 = .ok (.i2l, 1) := by decide +kernel
theorem dL_law_303 : decode cL_law 303 = .ok (.lcmp, 1) := by decide +kernel
theorem dL_law_304 : decode cL_law 304 = .ok (.ifCond .eq 5, 3) := by decide +kernel
theorem dL_law_307 : decode cL_law 307 = .ok (.iconst 0, 1) := by decide +kernel
theorem dL_law_308 : decode cL_law 308 = .ok (.ireturn, 1) := by decide +kernel
theorem dL_law_309 : decode cL_law 309 = .ok (.goto 1464, 3) := by decide +kernel
theorem dL_law_312 : decode cL_law 312 = .ok (.aload_n 1, 1) := by decide +kernel
theorem dL_law_313 : decode cL_law 313 = .ok (.aload_n 0, 1) := by decide +kernel
theorem dL_law_314 : decode cL_law 314 = .ok (.iload 4, 2) := by decide +kernel
theorem dL_law_316 : decode cL_law 316 = .ok (.iconst 1, 1) := by decide +kernel
theorem dL_law_317 : decode cL_law 317 = .ok (.iadd, 1) := by decide +kernel
theorem dL_law_318 : decode cL_law 318 = .ok (.iaload, 1) := by decide +kernel
theorem dL_law_319 : decode cL_law 319 = .ok (.aload_n 0, 1) := by decide +kernel
theorem dL_law_320 : decode cL_law 320 = .ok (.iload 4, 2) := by decide +kernel
theorem dL_law_322 : decode cL_law 322 = .ok (.iconst 2, 1) := by decide +kernel
theorem dL_law_323 : decode cL_law 323 = .ok (.iadd, 1) := by decide +kernel
theorem dL_law_324 : decode cL_law 324 = .ok (.iaload, 1) := by decide +kernel
theorem dL_law_325 : decode cL_law 325 = .ok (.aload_n 3, 1) := by decide +kernel
theorem dL_law_326 : decode cL_law 326 = .ok (.invokestatic 124, 3) := by decide +kernel
theorem dL_law_329 : decode cL_law 329 = .ok (.istore 5, 2) := by decide +kernel
theorem dL_law_331 : decode cL_law 331 = .ok (.aload_n 2, 1) := by decide +kernel
theorem dL_law_332 : decode cL_law 332 = .ok (.aload_n 0, 1) := by decide +kernel
theorem dL_law_333 : decode cL_law 333 = .ok (.iload 4, 2) := by decide +kernel
theorem dL_law_335 : decode cL_law 335 = .ok (.iconst 1, 1) := by decide +kernel
theorem dL_law_336 : decode cL_law 336 = .ok (.iadd, 1) := by decide +kernel
theorem dL_law_337 : decode cL_law 337 = .ok (.iaload, 1) := by decide +kernel
theorem dL_law_338 : decode cL_law 338 = .ok (.aload_n 0, 1) := by decide +kernel
theorem dL_law_339 : decode cL_law 339 = .ok (.iload 4, 2) := by decide +kernel
theorem dL_law_341 : decode cL_law 341 = .ok (.iconst 2, 1) := by decide +kernel
theorem dL_law_342 : decode cL_law 342 = .ok (.iadd, 1) := by decide +kernel
theorem dL_law_343 : decode cL_law 343 = .ok (.iaload, 1) := by decide +kernel
theorem dL_law_344 : decode cL_law 344 = .ok (.invokevirtual 126, 3) := by decide +kernel
theorem dL_law_347 : decode cL_law 347 = .ok (.istore 6, 2) := by decide +kernel
theorem dL_law_349 : decode cL_law 349 = .ok (.aload_n 2, 1) := by decide +kernel
theorem dL_law_350 : decode cL_law 350 = .ok (.invokevirtual 118, 3) := by decide +kernel
theorem dL_law_353 : decode cL_law 353 = .ok (.iload 5, 2) := by decide +kernel
theorem dL_law_355 : decode cL_law 355 = .ok (.if_icmp .eq 5, 3) := by decide +kernel
theorem dL_law_358 : decode cL_law 358 = .ok (.iconst 0, 1) := by decide +kernel
theorem dL_law_359 : decode cL_law 359 = .ok (.ireturn, 1) := by decide +kernel
theorem dL_law_360 : decode cL_law 360 = .ok (.iload 5, 2) := by decide +kernel
theorem dL_law_362 : decode cL_law 362 = .ok (.ifCond .ne 15, 3) := by decide +kernel
theorem dL_law_365 : decode cL_law 365 = .ok (.aload_n 3, 1) := by decide +kernel
theorem dL_law_366 : decode cL_law 366 = .ok (.iconst 0, 1) := by decide +kernel
theorem dL_law_367 : decode cL_law 367 = .ok (.laload, 1) := by decide +kernel
theorem dL_law_368 : decode cL_law 368 = .ok (.iload 6, 2) := by decide +kernel
theorem dL_law_370 : decode cL_law 370 = .ok (.i2l, 1) := by decide +kernel
theorem dL_law_371 : decode cL_law 371 = .ok (.lcmp, 1) := by decide +kernel
theorem dL_law_372 : decode cL_law 372 = .ok (.ifCond .eq 5, 3) := by decide +kernel
theorem dL_law_375 : decode cL_law 375 = .ok (.iconst 0, 1) := by decide +kernel
theorem dL_law_376 : decode cL_law 376 = .ok (.ireturn, 1) := by decide +kernel
theorem dL_law_377 : decode cL_law 377 = .ok (.goto 1396, 3) := by decide +kernel
theorem dL_law_380 : decode cL_law 380 = .ok (.aload_n 1, 1) := by decide +kernel
theorem dL_law_381 : decode cL_law 381 = .ok (.aload_n 3, 1) := by decide +kernel
theorem dL_law_382 : decode cL_law 382 = .ok (.invokestatic 127, 3) := by decide +kernel
theorem dL_law_385 : decode cL_law 385 = .ok (.istore 5, 2) := by decide +kernel
theorem dL_law_387 : decode cL_law 387 = .ok (.aload_n 2, 1) := by decide +kernel
theorem dL_law_388 : decode cL_law 388 = .ok (.invokevirtual 130, 3) := by decide +kernel
theorem dL_law_391 : decode cL_law 391 = .ok (.istore 6, 2) := by decide +kernel
theorem dL_law_393 : decode cL_law 393 = .ok (.aload_n 2, 1) := by decide +kernel
theorem dL_law_394 : decode cL_law 394 = .ok (.invokevirtual 118, 3) := by decide +kernel
theorem dL_law_397 : decode cL_law 397 = .ok (.iload 5, 2) := by decide +kernel
theorem dL_law_399 : decode cL_law 399 = .ok (.if_icmp .eq 5, 3) := by decide +kernel
theorem dL_law_402 : decode cL_law 402 = .ok (.iconst 0, 1) := by decide +kernel
theorem dL_law_403 : decode cL_law 403 = .ok (.ireturn, 1) := by decide +kernel
theorem dL_law_404 : decode cL_law 404 = .ok (.iload 5, 2) := by decide +kernel
theorem dL_law_406 : decode cL_law 406 = .ok (.ifCond .ne 15, 3) := by decide +kernel
theorem dL_law_409 : decode cL_law 409 = .ok (.aload_n 3, 1) := by decide +kernel
theorem dL_law_410 : decode cL_law 410 = .ok (.iconst 0, 1) := by decide +kernel
theorem dL_law_411 : decode cL_law 411 = .ok (.laload, 1) := by decide +kernel
theorem dL_law_412 : decode cL_law 412 = .ok (.iload 6, 2) := by decide +kernel
theorem dL_law_414 : decode cL_law 414 = .ok (.i2l, 1) := by decide +kernel
theorem dL_law_415 : decode cL_law 415 = .ok (.lcmp, 1) := by decide +kernel
theorem dL_law_416 : decode cL_law 416 = .ok (.ifCond .eq 5, 3) := by decide +kernel
theorem dL_law_419 : decode cL_law 419 = .ok (.iconst 0, 1) := by decide +kernel
theorem dL_law_420 : decode cL_law 420 = .ok (.ireturn, 1) := by decide +kernel
theorem dL_law_421 : decode cL_law 421 = .ok (.goto 1352, 3) := by decide +kernel
theorem dL_law_424 : decode cL_law 424 = .ok (.aload_n 1, 1) := by decide +kernel
theorem dL_law_425 : decode cL_law 425 = .ok (.aload_n 0, 1) := by decide +kernel
theorem dL_law_426 : decode cL_law 426 = .ok (.iload 4, 2) := by decide +kernel
theorem dL_law_428 : decode cL_law 428 = .ok (.iconst 1, 1) := by decide +kernel
theorem dL_law_429 : decode cL_law 429 = .ok (.iadd, 1) := by decide +kernel
theorem dL_law_430 : decode cL_law 430 = .ok (.iaload, 1) := by decide +kernel
theorem dL_law_431 : decode cL_law 431 = .ok (.aload_n 3, 1) := by decide +kernel
theorem dL_law_432 : decode cL_law 432 = .ok (.invokestatic 131, 3) := by decide +kernel
theorem dL_law_435 : decode cL_law 435 = .ok (.istore 5, 2) := by decide +kernel
theorem dL_law_437 : decode cL_law 437 = .ok (.aload_n 2, 1) := by decide +kernel
theorem dL_law_438 : decode cL_law 438 = .ok (.aload_n 0, 1) := by decide +kernel
theorem dL_law_439 : decode cL_law 439 = .ok (.iload 4, 2) := by decide +kernel
theorem dL_law_441 : decode cL_law 441 = .ok (.iconst 1, 1) := by decide +kernel
theorem dL_law_442 : decode cL_law 442 = .ok (.iadd, 1) := by decide +kernel
theorem dL_law_443 : decode cL_law 443 = .ok (.iaload, 1) := by decide +kernel
theorem dL_law_444 : decode cL_law 444 = .ok (.invokevirtual 134, 3) := by decide +kernel
theorem dL_law_447 : decode cL_law 447 = .ok (.istore 6, 2) := by decide +kernel
theorem dL_law_449 : decode cL_law 449 = .ok (.aload_n 2, 1) := by decide +kernel
theorem dL_law_450 : decode cL_law 450 = .ok (.invokevirtual 118, 3) := by decide +kernel
theorem dL_law_453 : decode cL_law 453 = .ok (.iload 5, 2) := by decide +kernel
theorem dL_law_455 : decode cL_law 455 = .ok (.if_icmp .eq 5, 3) := by decide +kernel
theorem dL_law_458 : decode cL_law 458 = .ok (.iconst 0, 1) := by decide +kernel
theorem dL_law_459 : decode cL_law 459 = .ok (.ireturn, 1) := by decide +kernel
theorem dL_law_460 : decode cL_law 460 = .ok (.iload 5, 2) := by decide +kernel
theorem dL_law_462 : decode cL_law 462 = .ok (.ifCond .ne 15, 3) := by decide +kernel
theorem dL_law_465 : decode cL_law 465 = .ok (.aload_n 3, 1) := by decide +kernel
theorem dL_law_466 : decode cL_law 466 = .ok (.iconst 0, 1) := by decide +kernel
theorem dL_law_467 : decode cL_law 467 = .ok (.laload, 1) := by decide +kernel
theorem dL_law_468 : decode cL_law 468 = .ok (.iload 6, 2) := by decide +kernel
theorem dL_law_470 : decode cL_law 470 = .ok (.i2l, 1) := by decide +kernel
theorem dL_law_471 : decode cL_law 471 = .ok (.lcmp, 1) := by decide +kernel
theorem dL_law_472 : decode cL_law 472 = .ok (.ifCond .eq 5, 3) := by decide +kernel
theorem dL_law_475 : decode cL_law 475 = .ok (.iconst 0, 1) := by decide +kernel
theorem dL_law_476 : decode cL_law 476 = .ok (.ireturn, 1) := by decide +kernel
theorem dL_law_477 : decode cL_law 477 = .ok (.goto 1296, 3) := by decide +kernel
theorem dL_law_480 : decode cL_law 480 = .ok (.aload_n 1, 1) := by decide +kernel
theorem dL_law_481 : decode cL_law 481 = .ok (.aload_n 0, 1) := by decide +kernel
theorem dL_law_482 : decode cL_law 482 = .ok (.iload 4, 2) := by decide +kernel
theorem dL_law_484 : decode cL_law 484 = .ok (.iconst 1, 1) := by decide +kernel
theorem dL_law_485 : decode cL_law 485 = .ok (.iadd, 1) := by decide +kernel
theorem dL_law_486 : decode cL_law 486 = .ok (.iaload, 1) := by decide +kernel
theorem dL_law_487 : decode cL_law 487 = .ok (.aload_n 0, 1) := by decide +kernel
theorem dL_law_488 : decode cL_law 488 = .ok (.iload 4, 2) := by decide +kernel
theorem dL_law_490 : decode cL_law 490 = .ok (.iconst 2, 1) := by decide +kernel
theorem dL_law_491 : decode cL_law 491 = .ok (.iadd, 1) := by decide +kernel
theorem dL_law_492 : decode cL_law 492 = .ok (.iaload, 1) := by decide +kernel
theorem dL_law_493 : decode cL_law 493 = .ok (.aload_n 0, 1) := by decide +kernel
theorem dL_law_494 : decode cL_law 494 = .ok (.iload 4, 2) := by decide +kernel
theorem dL_law_496 : decode cL_law 496 = .ok (.iconst 3, 1) := by decide +kernel
theorem dL_law_497 : decode cL_law 497 = .ok (.iadd, 1) := by decide +kernel
theorem dL_law_498 : decode cL_law 498 = .ok (.iaload, 1) := by decide +kernel
theorem dL_law_499 : decode cL_law 499 = .ok (.aload_n 3, 1) := by decide +kernel
theorem dL_law_500 : decode cL_law 500 = .ok (.invokestatic 135, 3) := by decide +kernel
theorem dL_law_503 : decode cL_law 503 = .ok (.istore 5, 2) := by decide +kernel
theorem dL_law_505 : decode cL_law 505 = .ok (.aload_n 2, 1) := by decide +kernel
theorem dL_law_506 : decode cL_law 506 = .ok (.aload_n 0, 1) := by decide +kernel
theorem dL_law_507 : decode cL_law 507 = .ok (.iload 4, 2) := by decide +kernel
theorem dL_law_509 : decode cL_law 509 = .ok (.iconst 1, 1) := by decide +kernel
theorem dL_law_510 : decode cL_law 510 = .ok (.iadd, 1) := by decide +kernel
theorem dL_law_511 : decode cL_law 511 = .ok (.iaload, 1) := by decide +kernel
theorem dL_law_512 : decode cL_law 512 = .ok (.aload_n 0, 1) := by decide +kernel
theorem dL_law_513 : decode cL_law 513 = .ok (.iload 4, 2) := by decide +kernel
theorem dL_law_515 : decode cL_law 515 = .ok (.iconst 2, 1) := by decide +kernel
theorem dL_law_516 : decode cL_law 516 = .ok (.iadd, 1) := by decide +kernel
theorem dL_law_517 : decode cL_law 517 = .ok (.iaload, 1) := by decide +kernel
theorem dL_law_518 : decode cL_law 518 = .ok (.aload_n 0, 1) := by decide +kernel
theorem dL_law_519 : decode cL_law 519 = .ok (.iload 4, 2) := by decide +kernel
theorem dL_law_521 : decode cL_law 521 = .ok (.iconst 3, 1) := by decide +kernel
theorem dL_law_522 : decode cL_law 522 = .ok (.iadd, 1) := by decide +kernel
theorem dL_law_523 : decode cL_law 523 = .ok (.iaload, 1) := by decide +kernel
theorem dL_law_524 : decode cL_law 524 = .ok (.invokevirtual 138, 3) := by decide +kernel
theorem dL_law_527 : decode cL_law 527 = .ok (.lstore 6, 2) := by decide +kernel
theorem dL_law_529 : decode cL_law 529 = .ok (.aload_n 2, 1) := by decide +kernel
theorem dL_law_530 : decode cL_law 530 = .ok (.invokevirtual 118, 3) := by decide +kernel
theorem dL_law_533 : decode cL_law 533 = .ok (.iload 5, 2) := by decide +kernel
theorem dL_law_535 : decode cL_law 535 = .ok (.if_icmp .eq 5, 3) := by decide +kernel
theorem dL_law_538 : decode cL_law 538 = .ok (.iconst 0, 1) := by decide +kernel
theorem dL_law_539 : decode cL_law 539 = .ok (.ireturn, 1) := by decide +kernel
theorem dL_law_540 : decode cL_law 540 = .ok (.iload 5, 2) := by decide +kernel
theorem dL_law_542 : decode cL_law 542 = .ok (.ifCond .ne 14, 3) := by decide +kernel
theorem dL_law_545 : decode cL_law 545 = .ok (.aload_n 3, 1) := by decide +kernel
theorem dL_law_546 : decode cL_law 546 = .ok (.iconst 0, 1) := by decide +kernel
theorem dL_law_547 : decode cL_law 547 = .ok (.laload, 1) := by decide +kernel
theorem dL_law_548 : decode cL_law 548 = .ok (.lload 6, 2) := by decide +kernel
theorem dL_law_550 : decode cL_law 550 = .ok (.lcmp, 1) := by decide +kernel
theorem dL_law_551 : decode cL_law 551 = .ok (.ifCond .eq 5, 3) := by decide +kernel
theorem dL_law_554 : decode cL_law 554 = .ok (.iconst 0, 1) := by decide +kernel
theorem dL_law_555 : decode cL_law 555 = .ok (.ireturn, 1) := by decide +kernel
theorem dL_law_556 : decode cL_law 556 = .ok (.goto 1217, 3) := by decide +kernel
theorem dL_law_559 : decode cL_law 559 = .ok (.aload_n 1, 1) := by decide +kernel
theorem dL_law_560 : decode cL_law 560 = .ok (.aload_n 3, 1) := by decide +kernel
theorem dL_law_561 : decode cL_law 561 = .ok (.invokestatic 139, 3) := by decide +kernel
theorem dL_law_564 : decode cL_law 564 = .ok (.istore 5, 2) := by decide +kernel
theorem dL_law_566 : decode cL_law 566 = .ok (.aload_n 2, 1) := by decide +kernel
theorem dL_law_567 : decode cL_law 567 = .ok (.invokevirtual 141, 3) := by decide +kernel
theorem dL_law_570 : decode cL_law 570 = .ok (.istore 6, 2) := by decide +kernel
theorem dL_law_572 : decode cL_law 572 = .ok (.aload_n 2, 1) := by decide +kernel
theorem dL_law_573 : decode cL_law 573 = .ok (.invokevirtual 118, 3) := by decide +kernel
theorem dL_law_576 : decode cL_law 576 = .ok (.iload 5, 2) := by decide +kernel
theorem dL_law_578 : decode cL_law 578 = .ok (.if_icmp .eq 5, 3) := by decide +kernel
theorem dL_law_581 : decode cL_law 581 = .ok (.iconst 0, 1) := by decide +kernel
theorem dL_law_582 : decode cL_law 582 = .ok (.ireturn, 1) := by decide +kernel
theorem dL_law_583 : decode cL_law 583 = .ok (.iload 5, 2) := by decide +kernel
theorem dL_law_585 : decode cL_law 585 = .ok (.ifCond .ne 15, 3) := by decide +kernel
theorem dL_law_588 : decode cL_law 588 = .ok (.aload_n 3, 1) := by decide +kernel
theorem dL_law_589 : decode cL_law 589 = .ok (.iconst 0, 1) := by decide +kernel
theorem dL_law_590 : decode cL_law 590 = .ok (.laload, 1) := by decide +kernel
theorem dL_law_591 : decode cL_law 591 = .ok (.iload 6, 2) := by decide +kernel
theorem dL_law_593 : decode cL_law 593 = .ok (.i2l, 1) := by decide +kernel
theorem dL_law_594 : decode cL_law 594 = .ok (.lcmp, 1) := by decide +kernel
theorem dL_law_595 : decode cL_law 595 = .ok (.ifCond .eq 5, 3) := by decide +kernel
theorem dL_law_598 : decode cL_law 598 = .ok (.iconst 0, 1) := by decide +kernel
theorem dL_law_599 : decode cL_law 599 = .ok (.ireturn, 1) := by decide +kernel
theorem dL_law_600 : decode cL_law 600 = .ok (.goto 1173, 3) := by decide +kernel
theorem dL_law_603 : decode cL_law 603 = .ok (.aload_n 1, 1) := by decide +kernel
theorem dL_law_604 : decode cL_law 604 = .ok (.aload_n 3, 1) := by decide +kernel
theorem dL_law_605 : decode cL_law 605 = .ok (.invokestatic 142, 3) := by decide +kernel
theorem dL_law_608 : decode cL_law 608 = .ok (.istore 5, 2) := by decide +kernel
theorem dL_law_610 : decode cL_law 610 = .ok (.aload_n 2, 1) := by decide +kernel
theorem dL_law_611 : decode cL_law 611 = .ok (.invokevirtual 144, 3) := by decide +kernel
theorem dL_law_614 : decode cL_law 614 = .ok (.istore 6, 2) := by decide +kernel
theorem dL_law_616 : decode cL_law 616 = .ok (.aload_n 2, 1) := by decide +kernel
theorem dL_law_617 : decode cL_law 617 = .ok (.invokevirtual 118, 3) := by decide +kernel
theorem dL_law_620 : decode cL_law 620 = .ok (.iload 5, 2) := by decide +kernel
theorem dL_law_622 : decode cL_law 622 = .ok (.if_icmp .eq 5, 3) := by decide +kernel
theorem dL_law_625 : decode cL_law 625 = .ok (.iconst 0, 1) := by decide +kernel
theorem dL_law_626 : decode cL_law 626 = .ok (.ireturn, 1) := by decide +kernel
theorem dL_law_627 : decode cL_law 627 = .ok (.iload 5, 2) := by decide +kernel
theorem dL_law_629 : decode cL_law 629 = .ok (.ifCond .ne 15, 3) := by decide +kernel
theorem dL_law_632 : decode cL_law 632 = .ok (.aload_n 3, 1) := by decide +kernel
theorem dL_law_633 : decode cL_law 633 = .ok (.iconst 0, 1) := by decide +kernel
theorem dL_law_634 : decode cL_law 634 = .ok (.laload, 1) := by decide +kernel
theorem dL_law_635 : decode cL_law 635 = .ok (.iload 6, 2) := by decide +kernel
theorem dL_law_637 : decode cL_law 637 = .ok (.i2l, 1) := by decide +kernel
theorem dL_law_638 : decode cL_law 638 = .ok (.lcmp, 1) := by decide +kernel
theorem dL_law_639 : decode cL_law 639 = .ok (.ifCond .eq 5, 3) := by decide +kernel
theorem dL_law_642 : decode cL_law 642 = .ok (.iconst 0, 1) := by decide +kernel
theorem dL_law_643 : decode cL_law 643 = .ok (.ireturn, 1) := by decide +kernel
theorem dL_law_644 : decode cL_law 644 = .ok (.goto 1129, 3) := by decide +kernel
theorem dL_law_647 : decode cL_law 647 = .ok (.aload_n 1, 1) := by decide +kernel
theorem dL_law_648 : decode cL_law 648 = .ok (.aload_n 0, 1) := by decide +kernel
theorem dL_law_649 : decode cL_law 649 = .ok (.iload 4, 2) := by decide +kernel
theorem dL_law_651 : decode cL_law 651 = .ok (.iconst 1, 1) := by decide +kernel
theorem dL_law_652 : decode cL_law 652 = .ok (.iadd, 1) := by decide +kernel
theorem dL_law_653 : decode cL_law 653 = .ok (.iaload, 1) := by decide +kernel
theorem dL_law_654 : decode cL_law 654 = .ok (.aload_n 3, 1) := by decide +kernel
theorem dL_law_655 : decode cL_law 655 = .ok (.invokestatic 145, 3) := by decide +kernel
theorem dL_law_658 : decode cL_law 658 = .ok (.istore 5, 2) := by decide +kernel
theorem dL_law_660 : decode cL_law 660 = .ok (.aload_n 2, 1) := by decide +kernel
theorem dL_law_661 : decode cL_law 661 = .ok (.aload_n 0, 1) := by decide +kernel
theorem dL_law_662 : decode cL_law 662 = .ok (.iload 4, 2) := by decide +kernel
theorem dL_law_664 : decode cL_law 664 = .ok (.iconst 1, 1) := by decide +kernel
theorem dL_law_665 : decode cL_law 665 = .ok (.iadd, 1) := by decide +kernel
theorem dL_law_666 : decode cL_law 666 = .ok (.iaload, 1) := by decide +kernel
theorem dL_law_667 : decode cL_law 667 = .ok (.invokevirtual 147, 3) := by decide +kernel
theorem dL_law_670 : decode cL_law 670 = .ok (.istore 6, 2) := by decide +kernel
theorem dL_law_672 : decode cL_law 672 = .ok (.aload_n 2, 1) := by decide +kernel
theorem dL_law_673 : decode cL_law 673 = .ok (.invokevirtual 118, 3) := by decide +kernel
theorem dL_law_676 : decode cL_law 676 = .ok (.iload 5, 2) := by decide +kernel
theorem dL_law_678 : decode cL_law 678 = .ok (.if_icmp .eq 5, 3) := by decide +kernel
theorem dL_law_681 : decode cL_law 681 = .ok (.iconst 0, 1) := by decide +kernel
theorem dL_law_682 : decode cL_law 682 = .ok (.ireturn, 1) := by decide +kernel
theorem dL_law_683 : decode cL_law 683 = .ok (.iload 5, 2) := by decide +kernel
theorem dL_law_685 : decode cL_law 685 = .ok (.ifCond .ne 15, 3) := by decide +kernel
theorem dL_law_688 : decode cL_law 688 = .ok (.aload_n 3, 1) := by decide +kernel
theorem dL_law_689 : decode cL_law 689 = .ok (.iconst 0, 1) := by decide +kernel
theorem dL_law_690 : decode cL_law 690 = .ok (.laload, 1) := by decide +kernel
theorem dL_law_691 : decode cL_law 691 = .ok (.iload 6, 2) := by decide +kernel
theorem dL_law_693 : decode cL_law 693 = .ok (.i2l, 1) := by decide +kernel
theorem dL_law_694 : decode cL_law 694 = .ok (.lcmp, 1) := by decide +kernel
theorem dL_law_695 : decode cL_law 695 = .ok (.ifCond .eq 5, 3) := by decide +kernel
theorem dL_law_698 : decode cL_law 698 = .ok (.iconst 0, 1) := by decide +kernel
theorem dL_law_699 : decode cL_law 699 = .ok (.ireturn, 1) := by decide +kernel
theorem dL_law_700 : decode cL_law 700 = .ok (.goto 1073, 3) := by decide +kernel
theorem dL_law_703 : decode cL_law 703 = .ok (.aload_n 1, 1) := by decide +kernel
theorem dL_law_704 : decode cL_law 704 = .ok (.invokevirtual 148, 3) := by decide +kernel
theorem dL_law_707 : decode cL_law 707 = .ok (.aload_n 2, 1) := by decide +kernel
theorem dL_law_708 : decode cL_law 708 = .ok (.invokevirtual 151, 3) := by decide +kernel
theorem dL_law_711 : decode cL_law 711 = .ok (.if_icmp .eq 1062, 3) := by decide +kernel
theorem dL_law_714 : decode cL_law 714 = .ok (.iconst 0, 1) := by decide +kernel
theorem dL_law_715 : decode cL_law 715 = .ok (.ireturn, 1) := by decide +kernel
theorem dL_law_716 : decode cL_law 716 = .ok (.aload_n 1, 1) := by decide +kernel
theorem dL_law_717 : decode cL_law 717 = .ok (.aload_n 3, 1) := by decide +kernel
theorem dL_law_718 : decode cL_law 718 = .ok (.invokestatic 152, 3) := by decide +kernel
theorem dL_law_721 : decode cL_law 721 = .ok (.istore 5, 2) := by decide +kernel
theorem dL_law_723 : decode cL_law 723 = .ok (.aload_n 2, 1) := by decide +kernel
theorem dL_law_724 : decode cL_law 724 = .ok (.invokevirtual 154, 3) := by decide +kernel
theorem dL_law_727 : decode cL_law 727 = .ok (.istore 6, 2) := by decide +kernel
theorem dL_law_729 : decode cL_law 729 = .ok (.aload_n 2, 1) := by decide +kernel
theorem dL_law_730 : decode cL_law 730 = .ok (.invokevirtual 118, 3) := by decide +kernel
theorem dL_law_733 : decode cL_law 733 = .ok (.iload 5, 2) := by decide +kernel
theorem dL_law_735 : decode cL_law 735 = .ok (.if_icmp .eq 5, 3) := by decide +kernel
theorem dL_law_738 : decode cL_law 738 = .ok (.iconst 0, 1) := by decide +kernel
theorem dL_law_739 : decode cL_law 739 = .ok (.ireturn, 1) := by decide +kernel
theorem dL_law_740 : decode cL_law 740 = .ok (.iload 5, 2) := by decide +kernel
theorem dL_law_742 : decode cL_law 742 = .ok (.ifCond .ne 15, 3) := by decide +kernel
theorem dL_law_745 : decode cL_law 745 = .ok (.aload_n 3, 1) := by decide +kernel
theorem dL_law_746 : decode cL_law 746 = .ok (.iconst 0, 1) := by decide +kernel
theorem dL_law_747 : decode cL_law 747 = .ok (.laload, 1) := by decide +kernel
theorem dL_law_748 : decode cL_law 748 = .ok (.iload 6, 2) := by decide +kernel
theorem dL_law_750 : decode cL_law 750 = .ok (.i2l, 1) := by decide +kernel
theorem dL_law_751 : decode cL_law 751 = .ok (.lcmp, 1) := by decide +kernel
theorem dL_law_752 : decode cL_law 752 = .ok (.ifCond .eq 5, 3) := by decide +kernel
theorem dL_law_755 : decode cL_law 755 = .ok (.iconst 0, 1) := by decide +kernel
theorem dL_law_756 : decode cL_law 756 = .ok (.ireturn, 1) := by decide +kernel
theorem dL_law_757 : decode cL_law 757 = .ok (.goto 1016, 3) := by decide +kernel
theorem dL_law_760 : decode cL_law 760 = .ok (.aload_n 1, 1) := by decide +kernel
theorem dL_law_761 : decode cL_law 761 = .ok (.aload_n 3, 1) := by decide +kernel
theorem dL_law_762 : decode cL_law 762 = .ok (.invokestatic 155, 3) := by decide +kernel
theorem dL_law_765 : decode cL_law 765 = .ok (.istore 5, 2) := by decide +kernel
theorem dL_law_767 : decode cL_law 767 = .ok (.aload_n 2, 1) := by decide +kernel
theorem dL_law_768 : decode cL_law 768 = .ok (.invokevirtual 157, 3) := by decide +kernel
theorem dL_law_771 : decode cL_law 771 = .ok (.istore 6, 2) := by decide +kernel
theorem dL_law_773 : decode cL_law 773 = .ok (.aload_n 2, 1) := by decide +kernel
theorem dL_law_774 : decode cL_law 774 = .ok (.invokevirtual 118, 3) := by decide +kernel
theorem dL_law_777 : decode cL_law 777 = .ok (.iload 5, 2) := by decide +kernel
theorem dL_law_779 : decode cL_law 779 = .ok (.if_icmp .eq 5, 3) := by decide +kernel
theorem dL_law_782 : decode cL_law 782 = .ok (.iconst 0, 1) := by decide +kernel
theorem dL_law_783 : decode cL_law 783 = .ok (.ireturn, 1) := by decide +kernel
theorem dL_law_784 : decode cL_law 784 = .ok (.iload 5, 2) := by decide +kernel
theorem dL_law_786 : decode cL_law 786 = .ok (.ifCond .ne 15, 3) := by decide +kernel
theorem dL_law_789 : decode cL_law 789 = .ok (.aload_n 3, 1) := by decide +kernel
theorem dL_law_790 : decode cL_law 790 = .ok (.iconst 0, 1) := by decide +kernel
theorem dL_law_791 : decode cL_law 791 = .ok (.laload, 1) := by decide +kernel
theorem dL_law_792 : decode cL_law 792 = .ok (.iload 6, 2) := by decide +kernel
theorem dL_law_794 : decode cL_law 794 = .ok (.i2l, 1) := by decide +kernel
theorem dL_law_795 : decode cL_law 795 = .ok (.lcmp, 1) := by decide +kernel
theorem dL_law_796 : decode cL_law 796 = .ok (.ifCond .eq 5, 3) := by decide +kernel
theorem dL_law_799 : decode cL_law 799 = .ok (.iconst 0, 1) := by decide +kernel
theorem dL_law_800 : decode cL_law 800 = .ok (.ireturn, 1) := by decide +kernel
theorem dL_law_801 : decode cL_law 801 = .ok (.goto 972, 3) := by decide +kernel
theorem dL_law_804 : decode cL_law 804 = .ok (.aload_n 1, 1) := by decide +kernel
theorem dL_law_805 : decode cL_law 805 = .ok (.aload_n 0, 1) := by decide +kernel
theorem dL_law_806 : decode cL_law 806 = .ok (.iload 4, 2) := by decide +kernel
theorem dL_law_808 : decode cL_law 808 = .ok (.iconst 1, 1) := by decide +kernel
theorem dL_law_809 : decode cL_law 809 = .ok (.iadd, 1) := by decide +kernel
theorem dL_law_810 : decode cL_law 810 = .ok (.iaload, 1) := by decide +kernel
theorem dL_law_811 : decode cL_law 811 = .ok (.aload_n 3, 1) := by decide +kernel
theorem dL_law_812 : decode cL_law 812 = .ok (.invokestatic 158, 3) := by decide +kernel
theorem dL_law_815 : decode cL_law 815 = .ok (.istore 5, 2) := by decide +kernel
theorem dL_law_817 : decode cL_law 817 = .ok (.aload_n 2, 1) := by decide +kernel
theorem dL_law_818 : decode cL_law 818 = .ok (.aload_n 0, 1) := by decide +kernel
theorem dL_law_819 : decode cL_law 819 = .ok (.iload 4, 2) := by decide +kernel
theorem dL_law_821 : decode cL_law 821 = .ok (.iconst 1, 1) := by decide +kernel
theorem dL_law_822 : decode cL_law 822 = .ok (.iadd, 1) := by decide +kernel
theorem dL_law_823 : decode cL_law 823 = .ok (.iaload, 1) := by decide +kernel
theorem dL_law_824 : decode cL_law 824 = .ok (.invokevirtual 160, 3) := by decide +kernel
theorem dL_law_827 : decode cL_law 827 = .ok (.istore 6, 2) := by decide +kernel
theorem dL_law_829 : decode cL_law 829 = .ok (.aload_n 2, 1) := by decide +kernel
theorem dL_law_830 : decode cL_law 830 = .ok (.invokevirtual 118, 3) := by decide +kernel
theorem dL_law_833 : decode cL_law 833 = .ok (.iload 5, 2) := by decide +kernel
theorem dL_law_835 : decode cL_law 835 = .ok (.if_icmp .eq 5, 3) := by decide +kernel
theorem dL_law_838 : decode cL_law 838 = .ok (.iconst 0, 1) := by decide +kernel
theorem dL_law_839 : decode cL_law 839 = .ok (.ireturn, 1) := by decide +kernel
theorem dL_law_840 : decode cL_law 840 = .ok (.iload 5, 2) := by decide +kernel
theorem dL_law_842 : decode cL_law 842 = .ok (.ifCond .ne 15, 3) := by decide +kernel
theorem dL_law_845 : decode cL_law 845 = .ok (.aload_n 3, 1) := by decide +kernel
theorem dL_law_846 : decode cL_law 846 = .ok (.iconst 0, 1) := by decide +kernel
theorem dL_law_847 : decode cL_law 847 = .ok (.laload, 1) := by decide +kernel
theorem dL_law_848 : decode cL_law 848 = .ok (.iload 6, 2) := by decide +kernel
theorem dL_law_850 : decode cL_law 850 = .ok (.i2l, 1) := by decide +kernel
theorem dL_law_851 : decode cL_law 851 = .ok (.lcmp, 1) := by decide +kernel
theorem dL_law_852 : decode cL_law 852 = .ok (.ifCond .eq 5, 3) := by decide +kernel
theorem dL_law_855 : decode cL_law 855 = .ok (.iconst 0, 1) := by decide +kernel
theorem dL_law_856 : decode cL_law 856 = .ok (.ireturn, 1) := by decide +kernel
theorem dL_law_857 : decode cL_law 857 = .ok (.goto 916, 3) := by decide +kernel
theorem dL_law_860 : decode cL_law 860 = .ok (.aload_n 1, 1) := by decide +kernel
theorem dL_law_861 : decode cL_law 861 = .ok (.aload_n 0, 1) := by decide +kernel
theorem dL_law_862 : decode cL_law 862 = .ok (.iload 4, 2) := by decide +kernel
theorem dL_law_864 : decode cL_law 864 = .ok (.iconst 1, 1) := by decide +kernel
theorem dL_law_865 : decode cL_law 865 = .ok (.iadd, 1) := by decide +kernel
theorem dL_law_866 : decode cL_law 866 = .ok (.iaload, 1) := by decide +kernel
theorem dL_law_867 : decode cL_law 867 = .ok (.aload_n 3, 1) := by decide +kernel
theorem dL_law_868 : decode cL_law 868 = .ok (.invokestatic 161, 3) := by decide +kernel
theorem dL_law_871 : decode cL_law 871 = .ok (.istore 5, 2) := by decide +kernel
theorem dL_law_873 : decode cL_law 873 = .ok (.aload_n 2, 1) := by decide +kernel
theorem dL_law_874 : decode cL_law 874 = .ok (.aload_n 0, 1) := by decide +kernel
theorem dL_law_875 : decode cL_law 875 = .ok (.iload 4, 2) := by decide +kernel
theorem dL_law_877 : decode cL_law 877 = .ok (.iconst 1, 1) := by decide +kernel
theorem dL_law_878 : decode cL_law 878 = .ok (.iadd, 1) := by decide +kernel
theorem dL_law_879 : decode cL_law 879 = .ok (.iaload, 1) := by decide +kernel
theorem dL_law_880 : decode cL_law 880 = .ok (.invokevirtual 163, 3) := by decide +kernel
theorem dL_law_883 : decode cL_law 883 = .ok (.istore 6, 2) := by decide +kernel
theorem dL_law_885 : decode cL_law 885 = .ok (.aload_n 2, 1) := by decide +kernel
theorem dL_law_886 : decode cL_law 886 = .ok (.invokevirtual 118, 3) := by decide +kernel
theorem dL_law_889 : decode cL_law 889 = .ok (.iload 5, 2) := by decide +kernel
theorem dL_law_891 : decode cL_law 891 = .ok (.if_icmp .eq 5, 3) := by decide +kernel
theorem dL_law_894 : decode cL_law 894 = .ok (.iconst 0, 1) := by decide +kernel
theorem dL_law_895 : decode cL_law 895 = .ok (.ireturn, 1) := by decide +kernel
theorem dL_law_896 : decode cL_law 896 = .ok (.iload 5, 2) := by decide +kernel
theorem dL_law_898 : decode cL_law 898 = .ok (.ifCond .ne 15, 3) := by decide +kernel
theorem dL_law_901 : decode cL_law 901 = .ok (.aload_n 3, 1) := by decide +kernel
theorem dL_law_902 : decode cL_law 902 = .ok (.iconst 0, 1) := by decide +kernel
theorem dL_law_903 : decode cL_law 903 = .ok (.laload, 1) := by decide +kernel
theorem dL_law_904 : decode cL_law 904 = .ok (.iload 6, 2) := by decide +kernel
theorem dL_law_906 : decode cL_law 906 = .ok (.i2l, 1) := by decide +kernel
theorem dL_law_907 : decode cL_law 907 = .ok (.lcmp, 1) := by decide +kernel
theorem dL_law_908 : decode cL_law 908 = .ok (.ifCond .eq 5, 3) := by decide +kernel
theorem dL_law_911 : decode cL_law 911 = .ok (.iconst 0, 1) := by decide +kernel
theorem dL_law_912 : decode cL_law 912 = .ok (.ireturn, 1) := by decide +kernel
theorem dL_law_913 : decode cL_law 913 = .ok (.goto 860, 3) := by decide +kernel
theorem dL_law_916 : decode cL_law 916 = .ok (.aload_n 1, 1) := by decide +kernel
theorem dL_law_917 : decode cL_law 917 = .ok (.aload_n 0, 1) := by decide +kernel
theorem dL_law_918 : decode cL_law 918 = .ok (.iload 4, 2) := by decide +kernel
theorem dL_law_920 : decode cL_law 920 = .ok (.iconst 1, 1) := by decide +kernel
theorem dL_law_921 : decode cL_law 921 = .ok (.iadd, 1) := by decide +kernel
theorem dL_law_922 : decode cL_law 922 = .ok (.iaload, 1) := by decide +kernel
theorem dL_law_923 : decode cL_law 923 = .ok (.aload_n 0, 1) := by decide +kernel
theorem dL_law_924 : decode cL_law 924 = .ok (.iload 4, 2) := by decide +kernel
theorem dL_law_926 : decode cL_law 926 = .ok (.iconst 2, 1) := by decide +kernel
theorem dL_law_927 : decode cL_law 927 = .ok (.iadd, 1) := by decide +kernel
theorem dL_law_928 : decode cL_law 928 = .ok (.iaload, 1) := by decide +kernel
theorem dL_law_929 : decode cL_law 929 = .ok (.aload_n 3, 1) := by decide +kernel
theorem dL_law_930 : decode cL_law 930 = .ok (.invokestatic 164, 3) := by decide +kernel
theorem dL_law_933 : decode cL_law 933 = .ok (.istore 5, 2) := by decide +kernel
theorem dL_law_935 : decode cL_law 935 = .ok (.aload_n 2, 1) := by decide +kernel
theorem dL_law_936 : decode cL_law 936 = .ok (.aload_n 0, 1) := by decide +kernel
theorem dL_law_937 : decode cL_law 937 = .ok (.iload 4, 2) := by decide +kernel
theorem dL_law_939 : decode cL_law 939 = .ok (.iconst 1, 1) := by decide +kernel
theorem dL_law_940 : decode cL_law 940 = .ok (.iadd, 1) := by decide +kernel
theorem dL_law_941 : decode cL_law 941 = .ok (.iaload, 1) := by decide +kernel
theorem dL_law_942 : decode cL_law 942 = .ok (.aload_n 0, 1) := by decide +kernel
theorem dL_law_943 : decode cL_law 943 = .ok (.iload 4, 2) := by decide +kernel
theorem dL_law_945 : decode cL_law 945 = .ok (.iconst 2, 1) := by decide +kernel
theorem dL_law_946 : decode cL_law 946 = .ok (.iadd, 1) := by decide +kernel
theorem dL_law_947 : decode cL_law 947 = .ok (.iaload, 1) := by decide +kernel
theorem dL_law_948 : decode cL_law 948 = .ok (.invokevirtual 166, 3) := by decide +kernel
theorem dL_law_951 : decode cL_law 951 = .ok (.istore 6, 2) := by decide +kernel
theorem dL_law_953 : decode cL_law 953 = .ok (.aload_n 2, 1) := by decide +kernel
theorem dL_law_954 : decode cL_law 954 = .ok (.invokevirtual 118, 3) := by decide +kernel
theorem dL_law_957 : decode cL_law 957 = .ok (.iload 5, 2) := by decide +kernel
theorem dL_law_959 : decode cL_law 959 = .ok (.if_icmp .eq 5, 3) := by decide +kernel
theorem dL_law_962 : decode cL_law 962 = .ok (.iconst 0, 1) := by decide +kernel
theorem dL_law_963 : decode cL_law 963 = .ok (.ireturn, 1) := by decide +kernel
theorem dL_law_964 : decode cL_law 964 = .ok (.iload 5, 2) := by decide +kernel
theorem dL_law_966 : decode cL_law 966 = .ok (.ifCond .ne 15, 3) := by decide +kernel
theorem dL_law_969 : decode cL_law 969 = .ok (.aload_n 3, 1) := by decide +kernel
theorem dL_law_970 : decode cL_law 970 = .ok (.iconst 0, 1) := by decide +kernel
theorem dL_law_971 : decode cL_law 971 = .ok (.laload, 1) := by decide +kernel
theorem dL_law_972 : decode cL_law 972 = .ok (.iload 6, 2) := by decide +kernel
theorem dL_law_974 : decode cL_law 974 = .ok (.i2l, 1) := by decide +kernel
theorem dL_law_975 : decode cL_law 975 = .ok (.lcmp, 1) := by decide +kernel
theorem dL_law_976 : decode cL_law 976 = .ok (.ifCond .eq 5, 3) := by decide +kernel
theorem dL_law_979 : decode cL_law 979 = .ok (.iconst 0, 1) := by decide +kernel
theorem dL_law_980 : decode cL_law 980 = .ok (.ireturn, 1) := by decide +kernel
theorem dL_law_981 : decode cL_law 981 = .ok (.goto 792, 3) := by decide +kernel
theorem dL_law_984 : decode cL_law 984 = .ok (.aload_n 1, 1) := by decide +kernel
theorem dL_law_985 : decode cL_law 985 = .ok (.aload_n 0, 1) := by decide +kernel
theorem dL_law_986 : decode cL_law 986 = .ok (.iload 4, 2) := by decide +kernel
theorem dL_law_988 : decode cL_law 988 = .ok (.iconst 1, 1) := by decide +kernel
theorem dL_law_989 : decode cL_law 989 = .ok (.iadd, 1) := by decide +kernel
theorem dL_law_990 : decode cL_law 990 = .ok (.iaload, 1) := by decide +kernel
theorem dL_law_991 : decode cL_law 991 = .ok (.aload_n 3, 1) := by decide +kernel
theorem dL_law_992 : decode cL_law 992 = .ok (.invokestatic 167, 3) := by decide +kernel
theorem dL_law_995 : decode cL_law 995 = .ok (.istore 5, 2) := by decide +kernel
theorem dL_law_997 : decode cL_law 997 = .ok (.aload_n 2, 1) := by decide +kernel
theorem dL_law_998 : decode cL_law 998 = .ok (.aload_n 0, 1) := by decide +kernel
theorem dL_law_999 : decode cL_law 999 = .ok (.iload 4, 2) := by decide +kernel
theorem dL_law_1001 : decode cL_law 1001 = .ok (.iconst 1, 1) := by decide +kernel
theorem dL_law_1002 : decode cL_law 1002 = .ok (.iadd, 1) := by decide +kernel
theorem dL_law_1003 : decode cL_law 1003 = .ok (.iaload, 1) := by decide +kernel
theorem dL_law_1004 : decode cL_law 1004 = .ok (.invokevirtual 169, 3) := by decide +kernel
theorem dL_law_1007 : decode cL_law 1007 = .ok (.istore 6, 2) := by decide +kernel
theorem dL_law_1009 : decode cL_law 1009 = .ok (.aload_n 2, 1) := by decide +kernel
theorem dL_law_1010 : decode cL_law 1010 = .ok (.invokevirtual 118, 3) := by decide +kernel
theorem dL_law_1013 : decode cL_law 1013 = .ok (.iload 5, 2) := by decide +kernel
theorem dL_law_1015 : decode cL_law 1015 = .ok (.if_icmp .eq 5, 3) := by decide +kernel
theorem dL_law_1018 : decode cL_law 1018 = .ok (.iconst 0, 1) := by decide +kernel
theorem dL_law_1019 : decode cL_law 1019 = .ok (.ireturn, 1) := by decide +kernel
theorem dL_law_1020 : decode cL_law 1020 = .ok (.iload 5, 2) := by decide +kernel
theorem dL_law_1022 : decode cL_law 1022 = .ok (.ifCond .ne 15, 3) := by decide +kernel
theorem dL_law_1025 : decode cL_law 1025 = .ok (.aload_n 3, 1) := by decide +kernel
theorem dL_law_1026 : decode cL_law 1026 = .ok (.iconst 0, 1) := by decide +kernel
theorem dL_law_1027 : decode cL_law 1027 = .ok (.laload, 1) := by decide +kernel
theorem dL_law_1028 : decode cL_law 1028 = .ok (.iload 6, 2) := by decide +kernel
theorem dL_law_1030 : decode cL_law 1030 = .ok (.i2l, 1) := by decide +kernel
theorem dL_law_1031 : decode cL_law 1031 = .ok (.lcmp, 1) := by decide +kernel
theorem dL_law_1032 : decode cL_law 1032 = .ok (.ifCond .eq 5, 3) := by decide +kernel
theorem dL_law_1035 : decode cL_law 1035 = .ok (.iconst 0, 1) := by decide +kernel
theorem dL_law_1036 : decode cL_law 1036 = .ok (.ireturn, 1) := by decide +kernel
theorem dL_law_1037 : decode cL_law 1037 = .ok (.goto 736, 3) := by decide +kernel
theorem dL_law_1040 : decode cL_law 1040 = .ok (.aload_n 1, 1) := by decide +kernel
theorem dL_law_1041 : decode cL_law 1041 = .ok (.aload_n 3, 1) := by decide +kernel
theorem dL_law_1042 : decode cL_law 1042 = .ok (.invokestatic 170, 3) := by decide +kernel
theorem dL_law_1045 : decode cL_law 1045 = .ok (.istore 5, 2) := by decide +kernel
theorem dL_law_1047 : decode cL_law 1047 = .ok (.aload_n 2, 1) := by decide +kernel
theorem dL_law_1048 : decode cL_law 1048 = .ok (.invokevirtual 172, 3) := by decide +kernel
theorem dL_law_1051 : decode cL_law 1051 = .ok (.lstore 6, 2) := by decide +kernel
theorem dL_law_1053 : decode cL_law 1053 = .ok (.aload_n 2, 1) := by decide +kernel
theorem dL_law_1054 : decode cL_law 1054 = .ok (.invokevirtual 118, 3) := by decide +kernel
theorem dL_law_1057 : decode cL_law 1057 = .ok (.iload 5, 2) := by decide +kernel
theorem dL_law_1059 : decode cL_law 1059 = .ok (.if_icmp .eq 5, 3) := by decide +kernel
theorem dL_law_1062 : decode cL_law 1062 = .ok (.iconst 0, 1) := by decide +kernel
theorem dL_law_1063 : decode cL_law 1063 = .ok (.ireturn, 1) := by decide +kernel
theorem dL_law_1064 : decode cL_law 1064 = .ok (.iload 5, 2) := by decide +kernel
theorem dL_law_1066 : decode cL_law 1066 = .ok (.ifCond .ne 14, 3) := by decide +kernel
theorem dL_law_1069 : decode cL_law 1069 = .ok (.aload_n 3, 1) := by decide +kernel
theorem dL_law_1070 : decode cL_law 1070 = .ok (.iconst 0, 1) := by decide +kernel
theorem dL_law_1071 : decode cL_law 1071 = .ok (.laload, 1) := by decide +kernel
theorem dL_law_1072 : decode cL_law 1072 = .ok (.lload 6, 2) := by decide +kernel
theorem dL_law_1074 : decode cL_law 1074 = .ok (.lcmp, 1) := by decide +kernel
theorem dL_law_1075 : decode cL_law 1075 = .ok (.ifCond .eq 5, 3) := by decide +kernel
theorem dL_law_1078 : decode cL_law 1078 = .ok (.iconst 0, 1) := by decide +kernel
theorem dL_law_1079 : decode cL_law 1079 = .ok (.ireturn, 1) := by decide +kernel
theorem dL_law_1080 : decode cL_law 1080 = .ok (.goto 693, 3) := by decide +kernel
theorem dL_law_1083 : decode cL_law 1083 = .ok (.aload_n 1, 1) := by decide +kernel
theorem dL_law_1084 : decode cL_law 1084 = .ok (.aload_n 3, 1) := by decide +kernel
theorem dL_law_1085 : decode cL_law 1085 = .ok (.invokestatic 173, 3) := by decide +kernel
theorem dL_law_1088 : decode cL_law 1088 = .ok (.istore 5, 2) := by decide +kernel
theorem dL_law_1090 : decode cL_law 1090 = .ok (.aload_n 2, 1) := by decide +kernel
theorem dL_law_1091 : decode cL_law 1091 = .ok (.invokevirtual 175, 3) := by decide +kernel
theorem dL_law_1094 : decode cL_law 1094 = .ok (.istore 6, 2) := by decide +kernel
theorem dL_law_1096 : decode cL_law 1096 = .ok (.aload_n 2, 1) := by decide +kernel
theorem dL_law_1097 : decode cL_law 1097 = .ok (.invokevirtual 118, 3) := by decide +kernel
theorem dL_law_1100 : decode cL_law 1100 = .ok (.iload 5, 2) := by decide +kernel
theorem dL_law_1102 : decode cL_law 1102 = .ok (.if_icmp .eq 5, 3) := by decide +kernel
theorem dL_law_1105 : decode cL_law 1105 = .ok (.iconst 0, 1) := by decide +kernel
theorem dL_law_1106 : decode cL_law 1106 = .ok (.ireturn, 1) := by decide +kernel
theorem dL_law_1107 : decode cL_law 1107 = .ok (.iload 5, 2) := by decide +kernel
theorem dL_law_1109 : decode cL_law 1109 = .ok (.ifCond .ne 15, 3) := by decide +kernel
theorem dL_law_1112 : decode cL_law 1112 = .ok (.aload_n 3, 1) := by decide +kernel
theorem dL_law_1113 : decode cL_law 1113 = .ok (.iconst 0, 1) := by decide +kernel
theorem dL_law_1114 : decode cL_law 1114 = .ok (.laload, 1) := by decide +kernel
theorem dL_law_1115 : decode cL_law 1115 = .ok (.iload 6, 2) := by decide +kernel
theorem dL_law_1117 : decode cL_law 1117 = .ok (.i2l, 1) := by decide +kernel
theorem dL_law_1118 : decode cL_law 1118 = .ok (.lcmp, 1) := by decide +kernel
theorem dL_law_1119 : decode cL_law 1119 = .ok (.ifCond .eq 5, 3) := by decide +kernel
theorem dL_law_1122 : decode cL_law 1122 = .ok (.iconst 0, 1) := by decide +kernel
theorem dL_law_1123 : decode cL_law 1123 = .ok (.ireturn, 1) := by decide +kernel
theorem dL_law_1124 : decode cL_law 1124 = .ok (.goto 649, 3) := by decide +kernel
theorem dL_law_1127 : decode cL_law 1127 = .ok (.aload_n 1, 1) := by decide +kernel
theorem dL_law_1128 : decode cL_law 1128 = .ok (.aload_n 3, 1) := by decide +kernel
theorem dL_law_1129 : decode cL_law 1129 = .ok (.invokestatic 176, 3) := by decide +kernel
theorem dL_law_1132 : decode cL_law 1132 = .ok (.istore 5, 2) := by decide +kernel
theorem dL_law_1134 : decode cL_law 1134 = .ok (.aload_n 2, 1) := by decide +kernel
theorem dL_law_1135 : decode cL_law 1135 = .ok (.invokevirtual 178, 3) := by decide +kernel
theorem dL_law_1138 : decode cL_law 1138 = .ok (.istore 6, 2) := by decide +kernel
theorem dL_law_1140 : decode cL_law 1140 = .ok (.aload_n 2, 1) := by decide +kernel
theorem dL_law_1141 : decode cL_law 1141 = .ok (.invokevirtual 118, 3) := by decide +kernel
theorem dL_law_1144 : decode cL_law 1144 = .ok (.iload 5, 2) := by decide +kernel
theorem dL_law_1146 : decode cL_law 1146 = .ok (.if_icmp .eq 5, 3) := by decide +kernel
theorem dL_law_1149 : decode cL_law 1149 = .ok (.iconst 0, 1) := by decide +kernel
theorem dL_law_1150 : decode cL_law 1150 = .ok (.ireturn, 1) := by decide +kernel
theorem dL_law_1151 : decode cL_law 1151 = .ok (.iload 5, 2) := by decide +kernel
theorem dL_law_1153 : decode cL_law 1153 = .ok (.ifCond .ne 15, 3) := by decide +kernel
theorem dL_law_1156 : decode cL_law 1156 = .ok (.aload_n 3, 1) := by decide +kernel
theorem dL_law_1157 : decode cL_law 1157 = .ok (.iconst 0, 1) := by decide +kernel
theorem dL_law_1158 : decode cL_law 1158 = .ok (.laload, 1) := by decide +kernel
theorem dL_law_1159 : decode cL_law 1159 = .ok (.iload 6, 2) := by decide +kernel
theorem dL_law_1161 : decode cL_law 1161 = .ok (.i2l, 1) := by decide +kernel
theorem dL_law_1162 : decode cL_law 1162 = .ok (.lcmp, 1) := by decide +kernel
theorem dL_law_1163 : decode cL_law 1163 = .ok (.ifCond .eq 5, 3) := by decide +kernel
theorem dL_law_1166 : decode cL_law 1166 = .ok (.iconst 0, 1) := by decide +kernel
theorem dL_law_1167 : decode cL_law 1167 = .ok (.ireturn, 1) := by decide +kernel
theorem dL_law_1168 : decode cL_law 1168 = .ok (.goto 605, 3) := by decide +kernel
theorem dL_law_1171 : decode cL_law 1171 = .ok (.aload_n 1, 1) := by decide +kernel
theorem dL_law_1172 : decode cL_law 1172 = .ok (.aload_n 3, 1) := by decide +kernel
theorem dL_law_1173 : decode cL_law 1173 = .ok (.invokestatic 179, 3) := by decide +kernel
theorem dL_law_1176 : decode cL_law 1176 = .ok (.istore 5, 2) := by decide +kernel
theorem dL_law_1178 : decode cL_law 1178 = .ok (.aload_n 2, 1) := by decide +kernel
theorem dL_law_1179 : decode cL_law 1179 = .ok (.invokevirtual 181, 3) := by decide +kernel
theorem dL_law_1182 : decode cL_law 1182 = .ok (.istore 6, 2) := by decide +kernel
theorem dL_law_1184 : decode cL_law 1184 = .ok (.aload_n 2, 1) := by decide +kernel
theorem dL_law_1185 : decode cL_law 1185 = .ok (.invokevirtual 118, 3) := by decide +kernel
theorem dL_law_1188 : decode cL_law 1188 = .ok (.iload 5, 2) := by decide +kernel
theorem dL_law_1190 : decode cL_law 1190 = .ok (.if_icmp .eq 5, 3) := by decide +kernel
theorem dL_law_1193 : decode cL_law 1193 = .ok (.iconst 0, 1) := by decide +kernel
theorem dL_law_1194 : decode cL_law 1194 = .ok (.ireturn, 1) := by decide +kernel
theorem dL_law_1195 : decode cL_law 1195 = .ok (.iload 5, 2) := by decide +kernel
theorem dL_law_1197 : decode cL_law 1197 = .ok (.ifCond .ne 15, 3) := by decide +kernel
theorem dL_law_1200 : decode cL_law 1200 = .ok (.aload_n 3, 1) := by decide +kernel
theorem dL_law_1201 : decode cL_law 1201 = .ok (.iconst 0, 1) := by decide +kernel
theorem dL_law_1202 : decode cL_law 1202 = .ok (.laload, 1) := by decide +kernel
theorem dL_law_1203 : decode cL_law 1203 = .ok (.iload 6, 2) := by decide +kernel
theorem dL_law_1205 : decode cL_law 1205 = .ok (.i2l, 1) := by decide +kernel
theorem dL_law_1206 : decode cL_law 1206 = .ok (.lcmp, 1) := by decide +kernel
theorem dL_law_1207 : decode cL_law 1207 = .ok (.ifCond .eq 5, 3) := by decide +kernel
theorem dL_law_1210 : decode cL_law 1210 = .ok (.iconst 0, 1) := by decide +kernel
theorem dL_law_1211 : decode cL_law 1211 = .ok (.ireturn, 1) := by decide +kernel
theorem dL_law_1212 : decode cL_law 1212 = .ok (.goto 561, 3) := by decide +kernel
theorem dL_law_1215 : decode cL_law 1215 = .ok (.aload_n 1, 1) := by decide +kernel
theorem dL_law_1216 : decode cL_law 1216 = .ok (.aload_n 0, 1) := by decide +kernel
theorem dL_law_1217 : decode cL_law 1217 = .ok (.iload 4, 2) := by decide +kernel
theorem dL_law_1219 : decode cL_law 1219 = .ok (.iconst 1, 1) := by decide +kernel
theorem dL_law_1220 : decode cL_law 1220 = .ok (.iadd, 1) := by decide +kernel
theorem dL_law_1221 : decode cL_law 1221 = .ok (.iaload, 1) := by decide +kernel
theorem dL_law_1222 : decode cL_law 1222 = .ok (.aload_n 3, 1) := by decide +kernel
theorem dL_law_1223 : decode cL_law 1223 = .ok (.invokestatic 182, 3) := by decide +kernel
theorem dL_law_1226 : decode cL_law 1226 = .ok (.istore 5, 2) := by decide +kernel
theorem dL_law_1228 : decode cL_law 1228 = .ok (.aload_n 2, 1) := by decide +kernel
theorem dL_law_1229 : decode cL_law 1229 = .ok (.aload_n 0, 1) := by decide +kernel
theorem dL_law_1230 : decode cL_law 1230 = .ok (.iload 4, 2) := by decide +kernel
theorem dL_law_1232 : decode cL_law 1232 = .ok (.iconst 1, 1) := by decide +kernel
theorem dL_law_1233 : decode cL_law 1233 = .ok (.iadd, 1) := by decide +kernel
theorem dL_law_1234 : decode cL_law 1234 = .ok (.iaload, 1) := by decide +kernel
theorem dL_law_1235 : decode cL_law 1235 = .ok (.invokevirtual 184, 3) := by decide +kernel
theorem dL_law_1238 : decode cL_law 1238 = .ok (.istore 6, 2) := by decide +kernel
theorem dL_law_1240 : decode cL_law 1240 = .ok (.aload_n 2, 1) := by decide +kernel
theorem dL_law_1241 : decode cL_law 1241 = .ok (.invokevirtual 118, 3) := by decide +kernel
theorem dL_law_1244 : decode cL_law 1244 = .ok (.iload 5, 2) := by decide +kernel
theorem dL_law_1246 : decode cL_law 1246 = .ok (.if_icmp .eq 5, 3) := by decide +kernel
theorem dL_law_1249 : decode cL_law 1249 = .ok (.iconst 0, 1) := by decide +kernel
theorem dL_law_1250 : decode cL_law 1250 = .ok (.ireturn, 1) := by decide +kernel
theorem dL_law_1251 : decode cL_law 1251 = .ok (.iload 5, 2) := by decide +kernel
theorem dL_law_1253 : decode cL_law 1253 = .ok (.ifCond .ne 15, 3) := by decide +kernel
theorem dL_law_1256 : decode cL_law 1256 = .ok (.aload_n 3, 1) := by decide +kernel
theorem dL_law_1257 : decode cL_law 1257 = .ok (.iconst 0, 1) := by decide +kernel
theorem dL_law_1258 : decode cL_law 1258 = .ok (.laload, 1) := by decide +kernel
theorem dL_law_1259 : decode cL_law 1259 = .ok (.iload 6, 2) := by decide +kernel
theorem dL_law_1261 : decode cL_law 1261 = .ok (.i2l, 1) := by decide +kernel
theorem dL_law_1262 : decode cL_law 1262 = .ok (.lcmp, 1) := by decide +kernel
theorem dL_law_1263 : decode cL_law 1263 = .ok (.ifCond .eq 5, 3) := by decide +kernel
theorem dL_law_1266 : decode cL_law 1266 = .ok (.iconst 0, 1) := by decide +kernel
theorem dL_law_1267 : decode cL_law 1267 = .ok (.ireturn, 1) := by decide +kernel
theorem dL_law_1268 : decode cL_law 1268 = .ok (.goto 505, 3) := by decide +kernel
theorem dL_law_1271 : decode cL_law 1271 = .ok (.aload_n 1, 1) := by decide +kernel
theorem dL_law_1272 : decode cL_law 1272 = .ok (.aload_n 0, 1) := by decide +kernel
theorem dL_law_1273 : decode cL_law 1273 = .ok (.iload 4, 2) := by decide +kernel
theorem dL_law_1275 : decode cL_law 1275 = .ok (.iconst 1, 1) := by decide +kernel
theorem dL_law_1276 : decode cL_law 1276 = .ok (.iadd, 1) := by decide +kernel
theorem dL_law_1277 : decode cL_law 1277 = .ok (.iaload, 1) := by decide +kernel
theorem dL_law_1278 : decode cL_law 1278 = .ok (.aload_n 3, 1) := by decide +kernel
theorem dL_law_1279 : decode cL_law 1279 = .ok (.invokestatic 185, 3) := by decide +kernel
theorem dL_law_1282 : decode cL_law 1282 = .ok (.istore 5, 2) := by decide +kernel
theorem dL_law_1284 : decode cL_law 1284 = .ok (.aload_n 2, 1) := by decide +kernel
theorem dL_law_1285 : decode cL_law 1285 = .ok (.aload_n 0, 1) := by decide +kernel
theorem dL_law_1286 : decode cL_law 1286 = .ok (.iload 4, 2) := by decide +kernel
theorem dL_law_1288 : decode cL_law 1288 = .ok (.iconst 1, 1) := by decide +kernel
theorem dL_law_1289 : decode cL_law 1289 = .ok (.iadd, 1) := by decide +kernel
theorem dL_law_1290 : decode cL_law 1290 = .ok (.iaload, 1) := by decide +kernel
theorem dL_law_1291 : decode cL_law 1291 = .ok (.invokevirtual 187, 3) := by decide +kernel
theorem dL_law_1294 : decode cL_law 1294 = .ok (.istore 6, 2) := by decide +kernel
theorem dL_law_1296 : decode cL_law 1296 = .ok (.aload_n 2, 1) := by decide +kernel
theorem dL_law_1297 : decode cL_law 1297 = .ok (.invokevirtual 118, 3) := by decide +kernel
theorem dL_law_1300 : decode cL_law 1300 = .ok (.iload 5, 2) := by decide +kernel
theorem dL_law_1302 : decode cL_law 1302 = .ok (.if_icmp .eq 5, 3) := by decide +kernel
theorem dL_law_1305 : decode cL_law 1305 = .ok (.iconst 0, 1) := by decide +kernel
theorem dL_law_1306 : decode cL_law 1306 = .ok (.ireturn, 1) := by decide +kernel
theorem dL_law_1307 : decode cL_law 1307 = .ok (.iload 5, 2) := by decide +kernel
theorem dL_law_1309 : decode cL_law 1309 = .ok (.ifCond .ne 15, 3) := by decide +kernel
theorem dL_law_1312 : decode cL_law 1312 = .ok (.aload_n 3, 1) := by decide +kernel
theorem dL_law_1313 : decode cL_law 1313 = .ok (.iconst 0, 1) := by decide +kernel
theorem dL_law_1314 : decode cL_law 1314 = .ok (.laload, 1) := by decide +kernel
theorem dL_law_1315 : decode cL_law 1315 = .ok (.iload 6, 2) := by decide +kernel
theorem dL_law_1317 : decode cL_law 1317 = .ok (.i2l, 1) := by decide +kernel
theorem dL_law_1318 : decode cL_law 1318 = .ok (.lcmp, 1) := by decide +kernel
theorem dL_law_1319 : decode cL_law 1319 = .ok (.ifCond .eq 5, 3) := by decide +kernel
theorem dL_law_1322 : decode cL_law 1322 = .ok (.iconst 0, 1) := by decide +kernel
theorem dL_law_1323 : decode cL_law 1323 = .ok (.ireturn, 1) := by decide +kernel
theorem dL_law_1324 : decode cL_law 1324 = .ok (.goto 449, 3) := by decide +kernel
theorem dL_law_1327 : decode cL_law 1327 = .ok (.aload_n 1, 1) := by decide +kernel
theorem dL_law_1328 : decode cL_law 1328 = .ok (.aload_n 3, 1) := by decide +kernel
theorem dL_law_1329 : decode cL_law 1329 = .ok (.invokestatic 188, 3) := by decide +kernel
theorem dL_law_1332 : decode cL_law 1332 = .ok (.istore 5, 2) := by decide +kernel
theorem dL_law_1334 : decode cL_law 1334 = .ok (.aload_n 2, 1) := by decide +kernel
theorem dL_law_1335 : decode cL_law 1335 = .ok (.invokevirtual 190, 3) := by decide +kernel
theorem dL_law_1338 : decode cL_law 1338 = .ok (.lstore 6, 2) := by decide +kernel
theorem dL_law_1340 : decode cL_law 1340 = .ok (.aload_n 2, 1) := by decide +kernel
theorem dL_law_1341 : decode cL_law 1341 = .ok (.invokevirtual 118, 3) := by decide +kernel
theorem dL_law_1344 : decode cL_law 1344 = .ok (.iload 5, 2) := by decide +kernel
theorem dL_law_1346 : decode cL_law 1346 = .ok (.if_icmp .eq 5, 3) := by decide +kernel
theorem dL_law_1349 : decode cL_law 1349 = .ok (.iconst 0, 1) := by decide +kernel
theorem dL_law_1350 : decode cL_law 1350 = .ok (.ireturn, 1) := by decide +kernel
theorem dL_law_1351 : decode cL_law 1351 = .ok (.iload 5, 2) := by decide +kernel
theorem dL_law_1353 : decode cL_law 1353 = .ok (.ifCond .ne 14, 3) := by decide +kernel
theorem dL_law_1356 : decode cL_law 1356 = .ok (.aload_n 3, 1) := by decide +kernel
theorem dL_law_1357 : decode cL_law 1357 = .ok (.iconst 0, 1) := by decide +kernel
theorem dL_law_1358 : decode cL_law 1358 = .ok (.laload, 1) := by decide +kernel
theorem dL_law_1359 : decode cL_law 1359 = .ok (.lload 6, 2) := by decide +kernel
theorem dL_law_1361 : decode cL_law 1361 = .ok (.lcmp, 1) := by decide +kernel
theorem dL_law_1362 : decode cL_law 1362 = .ok (.ifCond .eq 5, 3) := by decide +kernel
theorem dL_law_1365 : decode cL_law 1365 = .ok (.iconst 0, 1) := by decide +kernel
theorem dL_law_1366 : decode cL_law 1366 = .ok (.ireturn, 1) := by decide +kernel
theorem dL_law_1367 : decode cL_law 1367 = .ok (.goto 406, 3) := by decide +kernel
theorem dL_law_1370 : decode cL_law 1370 = .ok (.aload_n 1, 1) := by decide +kernel
theorem dL_law_1371 : decode cL_law 1371 = .ok (.aload_n 3, 1) := by decide +kernel
theorem dL_law_1372 : decode cL_law 1372 = .ok (.invokestatic 191, 3) := by decide +kernel
theorem dL_law_1375 : decode cL_law 1375 = .ok (.istore 5, 2) := by decide +kernel
theorem dL_law_1377 : decode cL_law 1377 = .ok (.aload_n 2, 1) := by decide +kernel
theorem dL_law_1378 : decode cL_law 1378 = .ok (.invokevirtual 193, 3) := by decide +kernel
theorem dL_law_1381 : decode cL_law 1381 = .ok (.lstore 6, 2) := by decide +kernel
theorem dL_law_1383 : decode cL_law 1383 = .ok (.aload_n 2, 1) := by decide +kernel
theorem dL_law_1384 : decode cL_law 1384 = .ok (.invokevirtual 118, 3) := by decide +kernel
theorem dL_law_1387 : decode cL_law 1387 = .ok (.iload 5, 2) := by decide +kernel
theorem dL_law_1389 : decode cL_law 1389 = .ok (.if_icmp .eq 5, 3) := by decide +kernel
theorem dL_law_1392 : decode cL_law 1392 = .ok (.iconst 0, 1) := by decide +kernel
theorem dL_law_1393 : decode cL_law 1393 = .ok (.ireturn, 1) := by decide +kernel
theorem dL_law_1394 : decode cL_law 1394 = .ok (.iload 5, 2) := by decide +kernel
theorem dL_law_1396 : decode cL_law 1396 = .ok (.ifCond .ne 14, 3) := by decide +kernel
theorem dL_law_1399 : decode cL_law 1399 = .ok (.aload_n 3, 1) := by decide +kernel
theorem dL_law_1400 : decode cL_law 1400 = .ok (.iconst 0, 1) := by decide +kernel
theorem dL_law_1401 : decode cL_law 1401 = .ok (.laload, 1) := by decide +kernel
theorem dL_law_1402 : decode cL_law 1402 = .ok (.lload 6, 2) := by decide +kernel
theorem dL_law_1404 : decode cL_law 1404 = .ok (.lcmp, 1) := by decide +kernel
theorem dL_law_1405 : decode cL_law 1405 = .ok (.ifCond .eq 5, 3) := by decide +kernel
theorem dL_law_1408 : decode cL_law 1408 = .ok (.iconst 0, 1) := by decide +kernel
theorem dL_law_1409 : decode cL_law 1409 = .ok (.ireturn, 1) := by decide +kernel
theorem dL_law_1410 : decode cL_law 1410 = .ok (.goto 363, 3) := by decide +kernel
theorem dL_law_1413 : decode cL_law 1413 = .ok (.aload_n 1, 1) := by decide +kernel
theorem dL_law_1414 : decode cL_law 1414 = .ok (.aload_n 3, 1) := by decide +kernel
theorem dL_law_1415 : decode cL_law 1415 = .ok (.invokestatic 194, 3) := by decide +kernel
theorem dL_law_1418 : decode cL_law 1418 = .ok (.istore 5, 2) := by decide +kernel
theorem dL_law_1420 : decode cL_law 1420 = .ok (.aload_n 2, 1) := by decide +kernel
theorem dL_law_1421 : decode cL_law 1421 = .ok (.invokevirtual 196, 3) := by decide +kernel
theorem dL_law_1424 : decode cL_law 1424 = .ok (.lstore 6, 2) := by decide +kernel
theorem dL_law_1426 : decode cL_law 1426 = .ok (.aload_n 2, 1) := by decide +kernel
theorem dL_law_1427 : decode cL_law 1427 = .ok (.invokevirtual 118, 3) := by decide +kernel
theorem dL_law_1430 : decode cL_law 1430 = .ok (.iload 5, 2) := by decide +kernel
theorem dL_law_1432 : decode cL_law 1432 = .ok (.if_icmp .eq 5, 3) := by decide +kernel
theorem dL_law_1435 : decode cL_law 1435 = .ok (.iconst 0, 1) := by decide +kernel
theorem dL_law_1436 : decode cL_law 1436 = .ok (.ireturn, 1) := by decide +kernel
theorem dL_law_1437 : decode cL_law 1437 = .ok (.iload 5, 2) := by decide +kernel
theorem dL_law_1439 : decode cL_law 1439 = .ok (.ifCond .ne 14, 3) := by decide +kernel
theorem dL_law_1442 : decode cL_law 1442 = .ok (.aload_n 3, 1) := by decide +kernel
theorem dL_law_1443 : decode cL_law 1443 = .ok (.iconst 0, 1) := by decide +kernel
theorem dL_law_1444 : decode cL_law 1444 = .ok (.laload, 1) := by decide +kernel
theorem dL_law_1445 : decode cL_law 1445 = .ok (.lload 6, 2) := by decide +kernel
theorem dL_law_1447 : decode cL_law 1447 = .ok (.lcmp, 1) := by decide +kernel
theorem dL_law_1448 : decode cL_law 1448 = .ok (.ifCond .eq 5, 3) := by decide +kernel
theorem dL_law_1451 : decode cL_law 1451 = .ok (.iconst 0, 1) := by decide +kernel
theorem dL_law_1452 : decode cL_law 1452 = .ok (.ireturn, 1) := by decide +kernel
theorem dL_law_1453 : decode cL_law 1453 = .ok (.goto 320, 3) := by decide +kernel
theorem dL_law_1456 : decode cL_law 1456 = .ok (.aload_n 1, 1) := by decide +kernel
theorem dL_law_1457 : decode cL_law 1457 = .ok (.aload_n 0, 1) := by decide +kernel
theorem dL_law_1458 : decode cL_law 1458 = .ok (.iload 4, 2) := by decide +kernel
theorem dL_law_1460 : decode cL_law 1460 = .ok (.iconst 1, 1) := by decide +kernel
theorem dL_law_1461 : decode cL_law 1461 = .ok (.iadd, 1) := by decide +kernel
theorem dL_law_1462 : decode cL_law 1462 = .ok (.iaload, 1) := by decide +kernel
theorem dL_law_1463 : decode cL_law 1463 = .ok (.aload_n 3, 1) := by decide +kernel
theorem dL_law_1464 : decode cL_law 1464 = .ok (.invokestatic 197, 3) := by decide +kernel
theorem dL_law_1467 : decode cL_law 1467 = .ok (.istore 5, 2) := by decide +kernel
theorem dL_law_1469 : decode cL_law 1469 = .ok (.aload_n 2, 1) := by decide +kernel
theorem dL_law_1470 : decode cL_law 1470 = .ok (.aload_n 0, 1) := by decide +kernel
theorem dL_law_1471 : decode cL_law 1471 = .ok (.iload 4, 2) := by decide +kernel
theorem dL_law_1473 : decode cL_law 1473 = .ok (.iconst 1, 1) := by decide +kernel
theorem dL_law_1474 : decode cL_law 1474 = .ok (.iadd, 1) := by decide +kernel
theorem dL_law_1475 : decode cL_law 1475 = .ok (.iaload, 1) := by decide +kernel
theorem dL_law_1476 : decode cL_law 1476 = .ok (.invokevirtual 199, 3) := by decide +kernel
theorem dL_law_1479 : decode cL_law 1479 = .ok (.istore 6, 2) := by decide +kernel
theorem dL_law_1481 : decode cL_law 1481 = .ok (.aload_n 2, 1) := by decide +kernel
theorem dL_law_1482 : decode cL_law 1482 = .ok (.invokevirtual 118, 3) := by decide +kernel
theorem dL_law_1485 : decode cL_law 1485 = .ok (.iload 5, 2) := by decide +kernel
theorem dL_law_1487 : decode cL_law 1487 = .ok (.if_icmp .eq 5, 3) := by decide +kernel
theorem dL_law_1490 : decode cL_law 1490 = .ok (.iconst 0, 1) := by decide +kernel
theorem dL_law_1491 : decode cL_law 1491 = .ok (.ireturn, 1) := by decide +kernel
theorem dL_law_1492 : decode cL_law 1492 = .ok (.iload 5, 2) := by decide +kernel
theorem dL_law_1494 : decode cL_law 1494 = .ok (.ifCond .ne 15, 3) := by decide +kernel
theorem dL_law_1497 : decode cL_law 1497 = .ok (.aload_n 3, 1) := by decide +kernel
theorem dL_law_1498 : decode cL_law 1498 = .ok (.iconst 0, 1) := by decide +kernel
theorem dL_law_1499 : decode cL_law 1499 = .ok (.laload, 1) := by decide +kernel
theorem dL_law_1500 : decode cL_law 1500 = .ok (.iload 6, 2) := by decide +kernel
theorem dL_law_1502 : decode cL_law 1502 = .ok (.i2l, 1) := by decide +kernel
theorem dL_law_1503 : decode cL_law 1503 = .ok (.lcmp, 1) := by decide +kernel
theorem dL_law_1504 : decode cL_law 1504 = .ok (.ifCond .eq 5, 3) := by decide +kernel
theorem dL_law_1507 : decode cL_law 1507 = .ok (.iconst 0, 1) := by decide +kernel
theorem dL_law_1508 : decode cL_law 1508 = .ok (.ireturn, 1) := by decide +kernel
theorem dL_law_1509 : decode cL_law 1509 = .ok (.goto 264, 3) := by decide +kernel
theorem dL_law_1512 : decode cL_law 1512 = .ok (.aload_n 1, 1) := by decide +kernel
theorem dL_law_1513 : decode cL_law 1513 = .ok (.aload_n 0, 1) := by decide +kernel
theorem dL_law_1514 : decode cL_law 1514 = .ok (.iload 4, 2) := by decide +kernel
theorem dL_law_1516 : decode cL_law 1516 = .ok (.iconst 1, 1) := by decide +kernel
theorem dL_law_1517 : decode cL_law 1517 = .ok (.iadd, 1) := by decide +kernel
theorem dL_law_1518 : decode cL_law 1518 = .ok (.iaload, 1) := by decide +kernel
theorem dL_law_1519 : decode cL_law 1519 = .ok (.aload_n 0, 1) := by decide +kernel
theorem dL_law_1520 : decode cL_law 1520 = .ok (.iload 4, 2) := by decide +kernel
theorem dL_law_1522 : decode cL_law 1522 = .ok (.iconst 2, 1) := by decide +kernel
theorem dL_law_1523 : decode cL_law 1523 = .ok (.iadd, 1) := by decide +kernel
theorem dL_law_1524 : decode cL_law 1524 = .ok (.iaload, 1) := by decide +kernel
theorem dL_law_1525 : decode cL_law 1525 = .ok (.aload_n 3, 1) := by decide +kernel
theorem dL_law_1526 : decode cL_law 1526 = .ok (.invokestatic 200, 3) := by decide +kernel
theorem dL_law_1529 : decode cL_law 1529 = .ok (.istore 5, 2) := by decide +kernel
theorem dL_law_1531 : decode cL_law 1531 = .ok (.aload_n 2, 1) := by decide +kernel
theorem dL_law_1532 : decode cL_law 1532 = .ok (.aload_n 0, 1) := by decide +kernel
theorem dL_law_1533 : decode cL_law 1533 = .ok (.iload 4, 2) := by decide +kernel
theorem dL_law_1535 : decode cL_law 1535 = .ok (.iconst 1, 1) := by decide +kernel
theorem dL_law_1536 : decode cL_law 1536 = .ok (.iadd, 1) := by decide +kernel
theorem dL_law_1537 : decode cL_law 1537 = .ok (.iaload, 1) := by decide +kernel
theorem dL_law_1538 : decode cL_law 1538 = .ok (.aload_n 0, 1) := by decide +kernel
theorem dL_law_1539 : decode cL_law 1539 = .ok (.iload 4, 2) := by decide +kernel
theorem dL_law_1541 : decode cL_law 1541 = .ok (.iconst 2, 1) := by decide +kernel
theorem dL_law_1542 : decode cL_law 1542 = .ok (.iadd, 1) := by decide +kernel
theorem dL_law_1543 : decode cL_law 1543 = .ok (.iaload, 1) := by decide +kernel
theorem dL_law_1544 : decode cL_law 1544 = .ok (.invokevirtual 202, 3) := by decide +kernel
theorem dL_law_1547 : decode cL_law 1547 = .ok (.istore 6, 2) := by decide +kernel
theorem dL_law_1549 : decode cL_law 1549 = .ok (.aload_n 2, 1) := by decide +kernel
theorem dL_law_1550 : decode cL_law 1550 = .ok (.invokevirtual 118, 3) := by decide +kernel
theorem dL_law_1553 : decode cL_law 1553 = .ok (.iload 5, 2) := by decide +kernel
theorem dL_law_1555 : decode cL_law 1555 = .ok (.if_icmp .eq 5, 3) := by decide +kernel
theorem dL_law_1558 : decode cL_law 1558 = .ok (.iconst 0, 1) := by decide +kernel
theorem dL_law_1559 : decode cL_law 1559 = .ok (.ireturn, 1) := by decide +kernel
theorem dL_law_1560 : decode cL_law 1560 = .ok (.iload 5, 2) := by decide +kernel
theorem dL_law_1562 : decode cL_law 1562 = .ok (.ifCond .ne 15, 3) := by decide +kernel
theorem dL_law_1565 : decode cL_law 1565 = .ok (.aload_n 3, 1) := by decide +kernel
theorem dL_law_1566 : decode cL_law 1566 = .ok (.iconst 0, 1) := by decide +kernel
theorem dL_law_1567 : decode cL_law 1567 = .ok (.laload, 1) := by decide +kernel
theorem dL_law_1568 : decode cL_law 1568 = .ok (.iload 6, 2) := by decide +kernel
theorem dL_law_1570 : decode cL_law 1570 = .ok (.i2l, 1) := by decide +kernel
theorem dL_law_1571 : decode cL_law 1571 = .ok (.lcmp, 1) := by decide +kernel
theorem dL_law_1572 : decode cL_law 1572 = .ok (.ifCond .eq 5, 3) := by decide +kernel
theorem dL_law_1575 : decode cL_law 1575 = .ok (.iconst 0, 1) := by decide +kernel
theorem dL_law_1576 : decode cL_law 1576 = .ok (.ireturn, 1) := by decide +kernel
theorem dL_law_1577 : decode cL_law 1577 = .ok (.goto 196, 3) := by decide +kernel
theorem dL_law_1580 : decode cL_law 1580 = .ok (.aload_n 1, 1) := by decide +kernel
theorem dL_law_1581 : decode cL_law 1581 = .ok (.aload_n 0, 1) := by decide +kernel
theorem dL_law_1582 : decode cL_law 1582 = .ok (.iload 4, 2) := by decide +kernel
theorem dL_law_1584 : decode cL_law 1584 = .ok (.iconst 1, 1) := by decide +kernel
theorem dL_law_1585 : decode cL_law 1585 = .ok (.iadd, 1) := by decide +kernel
theorem dL_law_1586 : decode cL_law 1586 = .ok (.iaload, 1) := by decide +kernel
theorem dL_law_1587 : decode cL_law 1587 = .ok (.aload_n 0, 1) := by decide +kernel
theorem dL_law_1588 : decode cL_law 1588 = .ok (.iload 4, 2) := by decide +kernel
theorem dL_law_1590 : decode cL_law 1590 = .ok (.iconst 2, 1) := by decide +kernel
theorem dL_law_1591 : decode cL_law 1591 = .ok (.iadd, 1) := by decide +kernel
theorem dL_law_1592 : decode cL_law 1592 = .ok (.iaload, 1) := by decide +kernel
theorem dL_law_1593 : decode cL_law 1593 = .ok (.aload_n 3, 1) := by decide +kernel
theorem dL_law_1594 : decode cL_law 1594 = .ok (.invokestatic 203, 3) := by decide +kernel
theorem dL_law_1597 : decode cL_law 1597 = .ok (.istore 5, 2) := by decide +kernel
theorem dL_law_1599 : decode cL_law 1599 = .ok (.aload_n 2, 1) := by decide +kernel
theorem dL_law_1600 : decode cL_law 1600 = .ok (.aload_n 0, 1) := by decide +kernel
theorem dL_law_1601 : decode cL_law 1601 = .ok (.iload 4, 2) := by decide +kernel
theorem dL_law_1603 : decode cL_law 1603 = .ok (.iconst 1, 1) := by decide +kernel
theorem dL_law_1604 : decode cL_law 1604 = .ok (.iadd, 1) := by decide +kernel
theorem dL_law_1605 : decode cL_law 1605 = .ok (.iaload, 1) := by decide +kernel
theorem dL_law_1606 : decode cL_law 1606 = .ok (.aload_n 0, 1) := by decide +kernel
theorem dL_law_1607 : decode cL_law 1607 = .ok (.iload 4, 2) := by decide +kernel
theorem dL_law_1609 : decode cL_law 1609 = .ok (.iconst 2, 1) := by decide +kernel
theorem dL_law_1610 : decode cL_law 1610 = .ok (.iadd, 1) := by decide +kernel
theorem dL_law_1611 : decode cL_law 1611 = .ok (.iaload, 1) := by decide +kernel
theorem dL_law_1612 : decode cL_law 1612 = .ok (.invokevirtual 205, 3) := by decide +kernel
theorem dL_law_1615 : decode cL_law 1615 = .ok (.lstore 6, 2) := by decide +kernel
theorem dL_law_1617 : decode cL_law 1617 = .ok (.aload_n 2, 1) := by decide +kernel
theorem dL_law_1618 : decode cL_law 1618 = .ok (.invokevirtual 118, 3) := by decide +kernel
theorem dL_law_1621 : decode cL_law 1621 = .ok (.iload 5, 2) := by decide +kernel
theorem dL_law_1623 : decode cL_law 1623 = .ok (.if_icmp .eq 5, 3) := by decide +kernel
theorem dL_law_1626 : decode cL_law 1626 = .ok (.iconst 0, 1) := by decide +kernel
theorem dL_law_1627 : decode cL_law 1627 = .ok (.ireturn, 1) := by decide +kernel
theorem dL_law_1628 : decode cL_law 1628 = .ok (.iload 5, 2) := by decide +kernel
theorem dL_law_1630 : decode cL_law 1630 = .ok (.ifCond .ne 14, 3) := by decide +kernel
theorem dL_law_1633 : decode cL_law 1633 = .ok (.aload_n 3, 1) := by decide +kernel
theorem dL_law_1634 : decode cL_law 1634 = .ok (.iconst 0, 1) := by decide +kernel
theorem dL_law_1635 : decode cL_law 1635 = .ok (.laload, 1) := by decide +kernel
theorem dL_law_1636 : decode cL_law 1636 = .ok (.lload 6, 2) := by decide +kernel
theorem dL_law_1638 : decode cL_law 1638 = .ok (.lcmp, 1) := by decide +kernel
theorem dL_law_1639 : decode cL_law 1639 = .ok (.ifCond .eq 5, 3) := by decide +kernel
theorem dL_law_1642 : decode cL_law 1642 = .ok (.iconst 0, 1) := by decide +kernel
theorem dL_law_1643 : decode cL_law 1643 = .ok (.ireturn, 1) := by decide +kernel
theorem dL_law_1644 : decode cL_law 1644 = .ok (.goto 129, 3) := by decide +kernel
theorem dL_law_1647 : decode cL_law 1647 = .ok (.aload_n 1, 1) := by decide +kernel
theorem dL_law_1648 : decode cL_law 1648 = .ok (.aload_n 0, 1) := by decide +kernel
theorem dL_law_1649 : decode cL_law 1649 = .ok (.iload 4, 2) := by decide +kernel
theorem dL_law_1651 : decode cL_law 1651 = .ok (.iconst 1, 1) := by decide +kernel
theorem dL_law_1652 : decode cL_law 1652 = .ok (.iadd, 1) := by decide +kernel
theorem dL_law_1653 : decode cL_law 1653 = .ok (.iaload, 1) := by decide +kernel
theorem dL_law_1654 : decode cL_law 1654 = .ok (.aload_n 3, 1) := by decide +kernel
theorem dL_law_1655 : decode cL_law 1655 = .ok (.invokestatic 206, 3) := by decide +kernel
theorem dL_law_1658 : decode cL_law 1658 = .ok (.istore 5, 2) := by decide +kernel
theorem dL_law_1660 : decode cL_law 1660 = .ok (.aload_n 2, 1) := by decide +kernel
theorem dL_law_1661 : decode cL_law 1661 = .ok (.aload_n 0, 1) := by decide +kernel
theorem dL_law_1662 : decode cL_law 1662 = .ok (.iload 4, 2) := by decide +kernel
theorem dL_law_1664 : decode cL_law 1664 = .ok (.iconst 1, 1) := by decide +kernel
theorem dL_law_1665 : decode cL_law 1665 = .ok (.iadd, 1) := by decide +kernel
theorem dL_law_1666 : decode cL_law 1666 = .ok (.iaload, 1) := by decide +kernel
theorem dL_law_1667 : decode cL_law 1667 = .ok (.invokevirtual 208, 3) := by decide +kernel
theorem dL_law_1670 : decode cL_law 1670 = .ok (.istore 6, 2) := by decide +kernel
theorem dL_law_1672 : decode cL_law 1672 = .ok (.aload_n 2, 1) := by decide +kernel
theorem dL_law_1673 : decode cL_law 1673 = .ok (.invokevirtual 118, 3) := by decide +kernel
theorem dL_law_1676 : decode cL_law 1676 = .ok (.iload 5, 2) := by decide +kernel
theorem dL_law_1678 : decode cL_law 1678 = .ok (.if_icmp .eq 5, 3) := by decide +kernel
theorem dL_law_1681 : decode cL_law 1681 = .ok (.iconst 0, 1) := by decide +kernel
theorem dL_law_1682 : decode cL_law 1682 = .ok (.ireturn, 1) := by decide +kernel
theorem dL_law_1683 : decode cL_law 1683 = .ok (.iload 5, 2) := by decide +kernel
theorem dL_law_1685 : decode cL_law 1685 = .ok (.ifCond .ne 15, 3) := by decide +kernel
theorem dL_law_1688 : decode cL_law 1688 = .ok (.aload_n 3, 1) := by decide +kernel
theorem dL_law_1689 : decode cL_law 1689 = .ok (.iconst 0, 1) := by decide +kernel
theorem dL_law_1690 : decode cL_law 1690 = .ok (.laload, 1) := by decide +kernel
theorem dL_law_1691 : decode cL_law 1691 = .ok (.iload 6, 2) := by decide +kernel
theorem dL_law_1693 : decode cL_law 1693 = .ok (.i2l, 1) := by decide +kernel
theorem dL_law_1694 : decode cL_law 1694 = .ok (.lcmp, 1) := by decide +kernel
theorem dL_law_1695 : decode cL_law 1695 = .ok (.ifCond .eq 5, 3) := by decide +kernel
theorem dL_law_1698 : decode cL_law 1698 = .ok (.iconst 0, 1) := by decide +kernel
theorem dL_law_1699 : decode cL_law 1699 = .ok (.ireturn, 1) := by decide +kernel
theorem dL_law_1700 : decode cL_law 1700 = .ok (.goto 73, 3) := by decide +kernel
theorem dL_law_1703 : decode cL_law 1703 = .ok (.aload_n 1, 1) := by decide +kernel
theorem dL_law_1704 : decode cL_law 1704 = .ok (.aload_n 0, 1) := by decide +kernel
theorem dL_law_1705 : decode cL_law 1705 = .ok (.iload 4, 2) := by decide +kernel
theorem dL_law_1707 : decode cL_law 1707 = .ok (.iconst 1, 1) := by decide +kernel
theorem dL_law_1708 : decode cL_law 1708 = .ok (.iadd, 1) := by decide +kernel
theorem dL_law_1709 : decode cL_law 1709 = .ok (.iaload, 1) := by decide +kernel
theorem dL_law_1710 : decode cL_law 1710 = .ok (.aload_n 3, 1) := by decide +kernel
theorem dL_law_1711 : decode cL_law 1711 = .ok (.invokestatic 209, 3) := by decide +kernel
theorem dL_law_1714 : decode cL_law 1714 = .ok (.istore 5, 2) := by decide +kernel
theorem dL_law_1716 : decode cL_law 1716 = .ok (.aload_n 2, 1) := by decide +kernel
theorem dL_law_1717 : decode cL_law 1717 = .ok (.aload_n 0, 1) := by decide +kernel
theorem dL_law_1718 : decode cL_law 1718 = .ok (.iload 4, 2) := by decide +kernel
theorem dL_law_1720 : decode cL_law 1720 = .ok (.iconst 1, 1) := by decide +kernel
theorem dL_law_1721 : decode cL_law 1721 = .ok (.iadd, 1) := by decide +kernel
theorem dL_law_1722 : decode cL_law 1722 = .ok (.iaload, 1) := by decide +kernel
theorem dL_law_1723 : decode cL_law 1723 = .ok (.invokevirtual 211, 3) := by decide +kernel
theorem dL_law_1726 : decode cL_law 1726 = .ok (.istore 6, 2) := by decide +kernel
theorem dL_law_1728 : decode cL_law 1728 = .ok (.aload_n 2, 1) := by decide +kernel
theorem dL_law_1729 : decode cL_law 1729 = .ok (.invokevirtual 118, 3) := by decide +kernel
theorem dL_law_1732 : decode cL_law 1732 = .ok (.iload 5, 2) := by decide +kernel
theorem dL_law_1734 : decode cL_law 1734 = .ok (.if_icmp .eq 5, 3) := by decide +kernel
theorem dL_law_1737 : decode cL_law 1737 = .ok (.iconst 0, 1) := by decide +kernel
theorem dL_law_1738 : decode cL_law 1738 = .ok (.ireturn, 1) := by decide +kernel
theorem dL_law_1739 : decode cL_law 1739 = .ok (.iload 5, 2) := by decide +kernel
theorem dL_law_1741 : decode cL_law 1741 = .ok (.ifCond .ne 15, 3) := by decide +kernel
theorem dL_law_1744 : decode cL_law 1744 = .ok (.aload_n 3, 1) := by decide +kernel
theorem dL_law_1745 : decode cL_law 1745 = .ok (.iconst 0, 1) := by decide +kernel
theorem dL_law_1746 : decode cL_law 1746 = .ok (.laload, 1) := by decide +kernel
theorem dL_law_1747 : decode cL_law 1747 = .ok (.iload 6, 2) := by decide +kernel
theorem dL_law_1749 : decode cL_law 1749 = .ok (.i2l, 1) := by decide +kernel
theorem dL_law_1750 : decode cL_law 1750 = .ok (.lcmp, 1) := by decide +kernel
theorem dL_law_1751 : decode cL_law 1751 = .ok (.ifCond .eq 5, 3) := by decide +kernel
theorem dL_law_1754 : decode cL_law 1754 = .ok (.iconst 0, 1) := by decide +kernel
theorem dL_law_1755 : decode cL_law 1755 = .ok (.ireturn, 1) := by decide +kernel
theorem dL_law_1756 : decode cL_law 1756 = .ok (.goto 17, 3) := by decide +kernel
theorem dL_law_1759 : decode cL_law 1759 = .ok (.aload_n 1, 1) := by decide +kernel
theorem dL_law_1760 : decode cL_law 1760 = .ok (.invokevirtual 212, 3) := by decide +kernel
theorem dL_law_1763 : decode cL_law 1763 = .ok (.aload_n 2, 1) := by decide +kernel
theorem dL_law_1764 : decode cL_law 1764 = .ok (.invokevirtual 215, 3) := by decide +kernel
theorem dL_law_1767 : decode cL_law 1767 = .ok (.lcmp, 1) := by decide +kernel
theorem dL_law_1768 : decode cL_law 1768 = .ok (.ifCond .eq 5, 3) := by decide +kernel
theorem dL_law_1771 : decode cL_law 1771 = .ok (.iconst 0, 1) := by decide +kernel
theorem dL_law_1772 : decode cL_law 1772 = .ok (.ireturn, 1) := by decide +kernel
theorem dL_law_1773 : decode cL_law 1773 = .ok (.iinc 4 4, 3) := by decide +kernel
theorem dL_law_1776 : decode cL_law 1776 = .ok (.goto (-1753), 3) := by decide +kernel
theorem dL_law_1779 : decode cL_law 1779 = .ok (.iconst 1, 1) := by decide +kernel
theorem dL_law_1780 : decode cL_law 1780 = .ok (.ireturn, 1) := by decide +kernel
theorem cw_L_212 {R : Room} {s : State} {args : Array Value} (hts : ∀ w ∈ TB, w.before args s = true) (hR : rm_X9_fingerprint.frames + 1 ≤ R.frames ∧ 8 + (4 + 11) + rm_X9_fingerprint.locals ≤ R.locals) : CallW R s args RL RX9 212 yX9_fingerprint cX9_fingerprint 4 (some .long) (Cond.code yX9_fingerprint cX9_fingerprint 4 (some .long) :: TB) rm_X9_fingerprint 0 0 0 := cwV 0 hts (gV tb334 tb335 tb336 tb47 tb337) rfl rfl rfl ⟨rfl, by decide, by decide, by decide +kernel⟩ hR
theorem cw_L_215 {R : Room} {s : State} {args : Array Value} (hts : ∀ w ∈ TB, w.before args s = true) (hR : rm_X10_fingerprint.frames + 1 ≤ R.frames ∧ 8 + (4 + 11) + rm_X10_fingerprint.locals ≤ R.locals) : CallW R s args RL RX10 215 yX10_fingerprint cX10_fingerprint 4 (some .long) (Cond.code yX10_fingerprint cX10_fingerprint 4 (some .long) :: TB) rm_X10_fingerprint 0 0 0 := cwV 0 hts (gV tb1234 tb1235 tb1236 tb57 tb1237) rfl rfl rfl ⟨rfl, by decide, by decide, by decide +kernel⟩ hR
theorem cw_L_209 {R : Room} {s : State} {args : Array Value} (hts : ∀ w ∈ TB, w.before args s = true) (hR : rm_L_leastStart.frames + 1 ≤ R.frames ∧ 8 + (4 + 11) + rm_L_leastStart.locals ≤ R.locals) : vx_CSW R s args RL 209 yL_leastStart cL_leastStart 4 (some .int) [(0, 9, 12, 15), (0, 9, 15, 17)] (Cond.codeWith yL_leastStart cL_leastStart 4 (some .int) [(0, 9, 12, 15), (0, 9, 15, 17)] :: TB) rm_L_leastStart 2 12 3 := vx_cwSW 3 hts (gSx tb942 tb943 tb46 tb944) rfl rfl rfl ⟨by decide, by decide, by decide +kernel⟩ hR
theorem cw_L_211 {R : Room} {s : State} {args : Array Value} (hts : ∀ w ∈ TB, w.before args s = true) (hR : rm_X10_leastStart.frames + 1 ≤ R.frames ∧ 8 + (4 + 11) + rm_X10_leastStart.locals ≤ R.locals) : CallW R s args RL RX10 211 yX10_leastStart cX10_leastStart 4 (some .int) (Cond.code yX10_leastStart cX10_leastStart 4 (some .int) :: TB) rm_X10_leastStart 0 0 1 := cwV 1 hts (gV tb1230 tb1231 tb1232 tb57 tb1233) rfl rfl rfl ⟨rfl, by decide, by decide, by decide +kernel⟩ hR
theorem cw_L_118 {R : Room} {s : State} {args : Array Value} (hts : ∀ w ∈ TB, w.before args s = true) (hR : rm_X10_thrown.frames + 1 ≤ R.frames ∧ 8 + (1 + 11) + rm_X10_thrown.locals ≤ R.locals) : CallW R s args RL RX10 118 yX10_thrown cX10_thrown 1 (some .int) (Cond.code yX10_thrown cX10_thrown 1 (some .int) :: TB) rm_X10_thrown 0 0 0 := cwV 0 hts (gV tb992 tb993 tb994 tb57 tb995) rfl rfl rfl ⟨rfl, by decide, by decide, by decide +kernel⟩ hR
theorem cw_L_206 {R : Room} {s : State} {args : Array Value} (hts : ∀ w ∈ TB, w.before args s = true) (hR : rm_L_bestMode.frames + 1 ≤ R.frames ∧ 8 + (4 + 11) + rm_L_bestMode.locals ≤ R.locals) : vx_CSW R s args RL 206 yL_bestMode cL_bestMode 4 (some .int) [(0, 9, 12, 15), (0, 9, 15, 17)] (Cond.codeWith yL_bestMode cL_bestMode 4 (some .int) [(0, 9, 12, 15), (0, 9, 15, 17)] :: TB) rm_L_bestMode 2 12 3 := vx_cwSW 3 hts (gSx tb935 tb936 tb46 tb937) rfl rfl rfl ⟨by decide, by decide, by decide +kernel⟩ hR
theorem cw_L_208 {R : Room} {s : State} {args : Array Value} (hts : ∀ w ∈ TB, w.before args s = true) (hR : rm_X10_bestMode.frames + 1 ≤ R.frames ∧ 8 + (8 + 11) + rm_X10_bestMode.locals ≤ R.locals) : CallW R s args RL RX10 208 yX10_bestMode cX10_bestMode 8 (some .int) (Cond.code yX10_bestMode cX10_bestMode 8 (some .int) :: TB) rm_X10_bestMode 0 0 1 := cwV 1 hts (gV tb1223 tb1224 tb1225 tb57 tb1226) rfl rfl rfl ⟨rfl, by decide, by decide, by decide +kernel⟩ hR
theorem cw_L_203 {R : Room} {s : State} {args : Array Value} (hts : ∀ w ∈ TB, w.before args s = true) (hR : rm_L_trialScore.frames + 1 ≤ R.frames ∧ 8 + (5 + 11) + rm_L_trialScore.locals ≤ R.locals) : vx_CSW R s args RL 203 yL_trialScore cL_trialScore 5 (some .int) [(0, 9, 12, 15), (0, 9, 16, 17)] (Cond.codeWith yL_trialScore cL_trialScore 5 (some .int) [(0, 9, 12, 15), (0, 9, 16, 17)] :: TB) rm_L_trialScore 3 18 4 := vx_cwSW 4 hts (gSx tb925 tb926 tb46 tb927) rfl rfl rfl ⟨by decide, by decide, by decide +kernel⟩ hR
theorem cw_L_205 {R : Room} {s : State} {args : Array Value} (hts : ∀ w ∈ TB, w.before args s = true) (hR : rm_X10_trialScore.frames + 1 ≤ R.frames ∧ 8 + (3 + 11) + rm_X10_trialScore.locals ≤ R.locals) : CallW R s args RL RX10 205 yX10_trialScore cX10_trialScore 3 (some .long) (Cond.code yX10_trialScore cX10_trialScore 3 (some .long) :: TB) rm_X10_trialScore 0 0 2 := cwV 2 hts (gV tb1216 tb1217 tb1218 tb57 tb1219) rfl rfl rfl ⟨rfl, by decide, by decide, by decide +kernel⟩ hR
theorem cw_L_200 {R : Room} {s : State} {args : Array Value} (hts : ∀ w ∈ TB, w.before args s = true) (hR : rm_L_forecast.frames + 1 ≤ R.frames ∧ 8 + (5 + 11) + rm_L_forecast.locals ≤ R.locals) : vx_CSW R s args RL 200 yL_forecast cL_forecast 5 (some .int) [(0, 10, 13, 15), (0, 10, 17, 13), (0, 10, 21, 17)] (Cond.codeWith yL_forecast cL_forecast 5 (some .int) [(0, 10, 13, 15), (0, 10, 17, 13), (0, 10, 21, 17)] :: TB) rm_L_forecast 3 18 4 := vx_cwSW 4 hts (gSx tb892 tb893 tb46 tb894) rfl rfl rfl ⟨by decide, by decide, by decide +kernel⟩ hR
theorem cw_L_202 {R : Room} {s : State} {args : Array Value} (hts : ∀ w ∈ TB, w.before args s = true) (hR : rm_X10_forecast.frames + 1 ≤ R.frames ∧ 8 + (5 + 11) + rm_X10_forecast.locals ≤ R.locals) : CallW R s args RL RX10 202 yX10_forecast cX10_forecast 5 (some .int) (Cond.code yX10_forecast cX10_forecast 5 (some .int) :: TB) rm_X10_forecast 0 0 2 := cwV 2 hts (gV tb1212 tb1213 tb1214 tb57 tb1215) rfl rfl rfl ⟨rfl, by decide, by decide, by decide +kernel⟩ hR
theorem cw_L_197 {R : Room} {s : State} {args : Array Value} (hts : ∀ w ∈ TB, w.before args s = true) (hR : rm_L_timeLine.frames + 1 ≤ R.frames ∧ 8 + (4 + 11) + rm_L_timeLine.locals ≤ R.locals) : vx_CSW R s args RL 197 yL_timeLine cL_timeLine 4 (some .int) [(0, 9, 12, 13), (0, 9, 15, 17)] (Cond.codeWith yL_timeLine cL_timeLine 4 (some .int) [(0, 9, 12, 13), (0, 9, 15, 17)] :: TB) rm_L_timeLine 2 12 3 := vx_cwSW 3 hts (gSx tb881 tb882 tb46 tb883) rfl rfl rfl ⟨by decide, by decide, by decide +kernel⟩ hR
theorem cw_L_199 {R : Room} {s : State} {args : Array Value} (hts : ∀ w ∈ TB, w.before args s = true) (hR : rm_X10_timeLine.frames + 1 ≤ R.frames ∧ 8 + (2 + 11) + rm_X10_timeLine.locals ≤ R.locals) : CallW R s args RL RX10 199 yX10_timeLine cX10_timeLine 2 (some .int) (Cond.code yX10_timeLine cX10_timeLine 2 (some .int) :: TB) rm_X10_timeLine 0 0 1 := cwV 1 hts (gV tb1208 tb1209 tb1210 tb57 tb1211) rfl rfl rfl ⟨rfl, by decide, by decide, by decide +kernel⟩ hR
theorem cw_L_194 {R : Room} {s : State} {args : Array Value} (hts : ∀ w ∈ TB, w.before args s = true) (hR : rm_L_score.frames + 1 ≤ R.frames ∧ 8 + (3 + 11) + rm_L_score.locals ≤ R.locals) : vx_CSW R s args RL 194 yL_score cL_score 3 (some .int) [(0, 7, 10, 17)] (Cond.codeWith yL_score cL_score 3 (some .int) [(0, 7, 10, 17)] :: TB) rm_L_score 1 6 2 := vx_cwSW 2 hts (gSx tb867 tb868 tb46 tb869) rfl rfl rfl ⟨by decide, by decide, by decide +kernel⟩ hR
theorem cw_L_196 {R : Room} {s : State} {args : Array Value} (hts : ∀ w ∈ TB, w.before args s = true) (hR : rm_X10_score.frames + 1 ≤ R.frames ∧ 8 + (1 + 11) + rm_X10_score.locals ≤ R.locals) : CallW R s args RL RX10 196 yX10_score cX10_score 1 (some .long) (Cond.code yX10_score cX10_score 1 (some .long) :: TB) rm_X10_score 0 0 0 := cwV 0 hts (gV tb1201 tb1202 tb1203 tb57 tb1204) rfl rfl rfl ⟨rfl, by decide, by decide, by decide +kernel⟩ hR
theorem cw_L_191 {R : Room} {s : State} {args : Array Value} (hts : ∀ w ∈ TB, w.before args s = true) (hR : rm_L_quality.frames + 1 ≤ R.frames ∧ 8 + (3 + 11) + rm_L_quality.locals ≤ R.locals) : vx_CSW R s args RL 191 yL_quality cL_quality 3 (some .int) [(0, 7, 10, 17)] (Cond.codeWith yL_quality cL_quality 3 (some .int) [(0, 7, 10, 17)] :: TB) rm_L_quality 1 6 2 := vx_cwSW 2 hts (gSx tb860 tb861 tb46 tb862) rfl rfl rfl ⟨by decide, by decide, by decide +kernel⟩ hR
theorem cw_L_193 {R : Room} {s : State} {args : Array Value} (hts : ∀ w ∈ TB, w.before args s = true) (hR : rm_X10_quality.frames + 1 ≤ R.frames ∧ 8 + (1 + 11) + rm_X10_quality.locals ≤ R.locals) : CallW R s args RL RX10 193 yX10_quality cX10_quality 1 (some .long) (Cond.code yX10_quality cX10_quality 1 (some .long) :: TB) rm_X10_quality 0 0 0 := cwV 0 hts (gV tb1197 tb1198 tb1199 tb57 tb1200) rfl rfl rfl ⟨rfl, by decide, by decide, by decide +kernel⟩ hR
theorem cw_L_188 {R : Room} {s : State} {args : Array Value} (hts : ∀ w ∈ TB, w.before args s = true) (hR : rm_L_wasted.frames + 1 ≤ R.frames ∧ 8 + (3 + 11) + rm_L_wasted.locals ≤ R.locals) : vx_CSW R s args RL 188 yL_wasted cL_wasted 3 (some .int) [(0, 7, 10, 17)] (Cond.codeWith yL_wasted cL_wasted 3 (some .int) [(0, 7, 10, 17)] :: TB) rm_L_wasted 1 6 2 := vx_cwSW 2 hts (gSx tb853 tb854 tb46 tb855) rfl rfl rfl ⟨by decide, by decide, by decide +kernel⟩ hR
theorem cw_L_190 {R : Room} {s : State} {args : Array Value} (hts : ∀ w ∈ TB, w.before args s = true) (hR : rm_X10_wasted.frames + 1 ≤ R.frames ∧ 8 + (1 + 11) + rm_X10_wasted.locals ≤ R.locals) : CallW R s args RL RX10 190 yX10_wasted cX10_wasted 1 (some .long) (Cond.code yX10_wasted cX10_wasted 1 (some .long) :: TB) rm_X10_wasted 0 0 0 := cwV 0 hts (gV tb1193 tb1194 tb1195 tb57 tb1196) rfl rfl rfl ⟨rfl, by decide, by decide, by decide +kernel⟩ hR
theorem cw_L_185 {R : Room} {s : State} {args : Array Value} (hts : ∀ w ∈ TB, w.before args s = true) (hR : rm_L_count.frames + 1 ≤ R.frames ∧ 8 + (4 + 11) + rm_L_count.locals ≤ R.locals) : vx_CSW R s args RL 185 yL_count cL_count 4 (some .int) [(0, 9, 12, 13), (0, 9, 15, 17)] (Cond.codeWith yL_count cL_count 4 (some .int) [(0, 9, 12, 13), (0, 9, 15, 17)] :: TB) rm_L_count 2 12 3 := vx_cwSW 3 hts (gSx tb846 tb847 tb46 tb848) rfl rfl rfl ⟨by decide, by decide, by decide +kernel⟩ hR
theorem cw_L_187 {R : Room} {s : State} {args : Array Value} (hts : ∀ w ∈ TB, w.before args s = true) (hR : rm_X10_count.frames + 1 ≤ R.frames ∧ 8 + (2 + 11) + rm_X10_count.locals ≤ R.locals) : CallW R s args RL RX10 187 yX10_count cX10_count 2 (some .int) (Cond.code yX10_count cX10_count 2 (some .int) :: TB) rm_X10_count 0 0 1 := cwV 1 hts (gV tb1186 tb1187 tb1188 tb57 tb1189) rfl rfl rfl ⟨rfl, by decide, by decide, by decide +kernel⟩ hR
theorem cw_L_182 {R : Room} {s : State} {args : Array Value} (hts : ∀ w ∈ TB, w.before args s = true) (hR : rm_L_spent.frames + 1 ≤ R.frames ∧ 8 + (4 + 11) + rm_L_spent.locals ≤ R.locals) : vx_CSW R s args RL 182 yL_spent cL_spent 4 (some .int) [(0, 9, 12, 13), (0, 9, 15, 17)] (Cond.codeWith yL_spent cL_spent 4 (some .int) [(0, 9, 12, 13), (0, 9, 15, 17)] :: TB) rm_L_spent 2 12 3 := vx_cwSW 3 hts (gSx tb839 tb840 tb46 tb841) rfl rfl rfl ⟨by decide, by decide, by decide +kernel⟩ hR
theorem cw_L_184 {R : Room} {s : State} {args : Array Value} (hts : ∀ w ∈ TB, w.before args s = true) (hR : rm_X10_spent.frames + 1 ≤ R.frames ∧ 8 + (2 + 11) + rm_X10_spent.locals ≤ R.locals) : CallW R s args RL RX10 184 yX10_spent cX10_spent 2 (some .int) (Cond.code yX10_spent cX10_spent 2 (some .int) :: TB) rm_X10_spent 0 0 1 := cwV 1 hts (gV tb1182 tb1183 tb1184 tb57 tb1185) rfl rfl rfl ⟨rfl, by decide, by decide, by decide +kernel⟩ hR
theorem cw_L_179 {R : Room} {s : State} {args : Array Value} (hts : ∀ w ∈ TB, w.before args s = true) (hR : rm_L_latency.frames + 1 ≤ R.frames ∧ 8 + (3 + 11) + rm_L_latency.locals ≤ R.locals) : vx_CSW R s args RL 179 yL_latency cL_latency 3 (some .int) [(0, 8, 11, 17)] (Cond.codeWith yL_latency cL_latency 3 (some .int) [(0, 8, 11, 17)] :: TB) rm_L_latency 1 6 2 := vx_cwSW 2 hts (gSx tb830 tb831 tb46 tb832) rfl rfl rfl ⟨by decide, by decide, by decide +kernel⟩ hR
theorem cw_L_181 {R : Room} {s : State} {args : Array Value} (hts : ∀ w ∈ TB, w.before args s = true) (hR : rm_X10_latency.frames + 1 ≤ R.frames ∧ 8 + (1 + 11) + rm_X10_latency.locals ≤ R.locals) : CallW R s args RL RX10 181 yX10_latency cX10_latency 1 (some .int) (Cond.code yX10_latency cX10_latency 1 (some .int) :: TB) rm_X10_latency 0 0 0 := cwV 0 hts (gV tb1178 tb1179 tb1180 tb57 tb1181) rfl rfl rfl ⟨rfl, by decide, by decide, by decide +kernel⟩ hR
theorem cw_L_176 {R : Room} {s : State} {args : Array Value} (hts : ∀ w ∈ TB, w.before args s = true) (hR : rm_L_nextRung.frames + 1 ≤ R.frames ∧ 8 + (3 + 11) + rm_L_nextRung.locals ≤ R.locals) : vx_CSW R s args RL 176 yL_nextRung cL_nextRung 3 (some .int) [(0, 8, 11, 17)] (Cond.codeWith yL_nextRung cL_nextRung 3 (some .int) [(0, 8, 11, 17)] :: TB) rm_L_nextRung 1 6 2 := vx_cwSW 2 hts (gSx tb822 tb823 tb46 tb824) rfl rfl rfl ⟨by decide, by decide, by decide +kernel⟩ hR
theorem cw_L_178 {R : Room} {s : State} {args : Array Value} (hts : ∀ w ∈ TB, w.before args s = true) (hR : rm_X10_nextRung.frames + 1 ≤ R.frames ∧ 8 + (1 + 11) + rm_X10_nextRung.locals ≤ R.locals) : CallW R s args RL RX10 178 yX10_nextRung cX10_nextRung 1 (some .int) (Cond.code yX10_nextRung cX10_nextRung 1 (some .int) :: TB) rm_X10_nextRung 0 0 0 := cwV 0 hts (gV tb1174 tb1175 tb1176 tb57 tb1177) rfl rfl rfl ⟨rfl, by decide, by decide, by decide +kernel⟩ hR
theorem cw_L_173 {R : Room} {s : State} {args : Array Value} (hts : ∀ w ∈ TB, w.before args s = true) (hR : rm_L_estimate.frames + 1 ≤ R.frames ∧ 8 + (3 + 11) + rm_L_estimate.locals ≤ R.locals) : vx_CSW R s args RL 173 yL_estimate cL_estimate 3 (some .int) [(0, 8, 11, 17)] (Cond.codeWith yL_estimate cL_estimate 3 (some .int) [(0, 8, 11, 17)] :: TB) rm_L_estimate 1 6 2 := vx_cwSW 2 hts (gSx tb815 tb816 tb46 tb817) rfl rfl rfl ⟨by decide, by decide, by decide +kernel⟩ hR
theorem cw_L_175 {R : Room} {s : State} {args : Array Value} (hts : ∀ w ∈ TB, w.before args s = true) (hR : rm_X10_estimate.frames + 1 ≤ R.frames ∧ 8 + (1 + 11) + rm_X10_estimate.locals ≤ R.locals) : CallW R s args RL RX10 175 yX10_estimate cX10_estimate 1 (some .int) (Cond.code yX10_estimate cX10_estimate 1 (some .int) :: TB) rm_X10_estimate 0 0 0 := cwV 0 hts (gV tb1170 tb1171 tb1172 tb57 tb1173) rfl rfl rfl ⟨rfl, by decide, by decide, by decide +kernel⟩ hR
theorem cw_L_170 {R : Room} {s : State} {args : Array Value} (hts : ∀ w ∈ TB, w.before args s = true) (hR : rm_L_received.frames + 1 ≤ R.frames ∧ 8 + (3 + 11) + rm_L_received.locals ≤ R.locals) : vx_CSW R s args RL 170 yL_received cL_received 3 (some .int) [(0, 7, 10, 17)] (Cond.codeWith yL_received cL_received 3 (some .int) [(0, 7, 10, 17)] :: TB) rm_L_received 1 6 2 := vx_cwSW 2 hts (gSx tb808 tb809 tb46 tb810) rfl rfl rfl ⟨by decide, by decide, by decide +kernel⟩ hR
theorem cw_L_172 {R : Room} {s : State} {args : Array Value} (hts : ∀ w ∈ TB, w.before args s = true) (hR : rm_X10_received.frames + 1 ≤ R.frames ∧ 8 + (1 + 11) + rm_X10_received.locals ≤ R.locals) : CallW R s args RL RX10 172 yX10_received cX10_received 1 (some .long) (Cond.code yX10_received cX10_received 1 (some .long) :: TB) rm_X10_received 0 0 0 := cwV 0 hts (gV tb1166 tb1167 tb1168 tb57 tb1169) rfl rfl rfl ⟨rfl, by decide, by decide, by decide +kernel⟩ hR
theorem cw_L_167 {R : Room} {s : State} {args : Array Value} (hts : ∀ w ∈ TB, w.before args s = true) (hR : rm_L_download.frames + 1 ≤ R.frames ∧ 8 + (4 + 11) + rm_L_download.locals ≤ R.locals) : vx_CSW R s args RL 167 yL_download cL_download 4 (some .int) [(0, 9, 12, 13), (0, 9, 15, 17)] (Cond.codeWith yL_download cL_download 4 (some .int) [(0, 9, 12, 13), (0, 9, 15, 17)] :: TB) rm_L_download 2 12 3 := vx_cwSW 3 hts (gSx tb801 tb802 tb46 tb803) rfl rfl rfl ⟨by decide, by decide, by decide +kernel⟩ hR
theorem cw_L_169 {R : Room} {s : State} {args : Array Value} (hts : ∀ w ∈ TB, w.before args s = true) (hR : rm_X10_download.frames + 1 ≤ R.frames ∧ 8 + (2 + 11) + rm_X10_download.locals ≤ R.locals) : CallW R s args RL RX10 169 yX10_download cX10_download 2 (some .int) (Cond.code yX10_download cX10_download 2 (some .int) :: TB) rm_X10_download 0 0 1 := cwV 1 hts (gV tb1159 tb1160 tb1161 tb57 tb1162) rfl rfl rfl ⟨rfl, by decide, by decide, by decide +kernel⟩ hR
theorem cw_L_164 {R : Room} {s : State} {args : Array Value} (hts : ∀ w ∈ TB, w.before args s = true) (hR : rm_L_rungOf.frames + 1 ≤ R.frames ∧ 8 + (5 + 11) + rm_L_rungOf.locals ≤ R.locals) : vx_CSW R s args RL 164 yL_rungOf cL_rungOf 5 (some .int) [(0, 10, 13, 13), (0, 10, 17, 17)] (Cond.codeWith yL_rungOf cL_rungOf 5 (some .int) [(0, 10, 13, 13), (0, 10, 17, 17)] :: TB) rm_L_rungOf 3 18 4 := vx_cwSW 4 hts (gSx tb790 tb791 tb46 tb792) rfl rfl rfl ⟨by decide, by decide, by decide +kernel⟩ hR
theorem cw_L_166 {R : Room} {s : State} {args : Array Value} (hts : ∀ w ∈ TB, w.before args s = true) (hR : rm_X10_rungOf.frames + 1 ≤ R.frames ∧ 8 + (3 + 11) + rm_X10_rungOf.locals ≤ R.locals) : CallW R s args RL RX10 166 yX10_rungOf cX10_rungOf 3 (some .int) (Cond.code yX10_rungOf cX10_rungOf 3 (some .int) :: TB) rm_X10_rungOf 0 0 2 := cwV 2 hts (gV tb1155 tb1156 tb1157 tb57 tb1158) rfl rfl rfl ⟨rfl, by decide, by decide, by decide +kernel⟩ hR
theorem cw_L_161 {R : Room} {s : State} {args : Array Value} (hts : ∀ w ∈ TB, w.before args s = true) (hR : rm_L_downloaded.frames + 1 ≤ R.frames ∧ 8 + (4 + 11) + rm_L_downloaded.locals ≤ R.locals) : vx_CSW R s args RL 161 yL_downloaded cL_downloaded 4 (some .int) [(0, 9, 12, 13), (0, 9, 15, 17)] (Cond.codeWith yL_downloaded cL_downloaded 4 (some .int) [(0, 9, 12, 13), (0, 9, 15, 17)] :: TB) rm_L_downloaded 2 12 3 := vx_cwSW 3 hts (gSx tb782 tb783 tb46 tb784) rfl rfl rfl ⟨by decide, by decide, by decide +kernel⟩ hR
theorem cw_L_163 {R : Room} {s : State} {args : Array Value} (hts : ∀ w ∈ TB, w.before args s = true) (hR : rm_X10_downloaded.frames + 1 ≤ R.frames ∧ 8 + (2 + 11) + rm_X10_downloaded.locals ≤ R.locals) : CallW R s args RL RX10 163 yX10_downloaded cX10_downloaded 2 (some .int) (Cond.code yX10_downloaded cX10_downloaded 2 (some .int) :: TB) rm_X10_downloaded 0 0 1 := cwV 1 hts (gV tb1151 tb1152 tb1153 tb57 tb1154) rfl rfl rfl ⟨rfl, by decide, by decide, by decide +kernel⟩ hR
theorem cw_L_158 {R : Room} {s : State} {args : Array Value} (hts : ∀ w ∈ TB, w.before args s = true) (hR : rm_L_buffer.frames + 1 ≤ R.frames ∧ 8 + (4 + 11) + rm_L_buffer.locals ≤ R.locals) : vx_CSW R s args RL 158 yL_buffer cL_buffer 4 (some .int) [(0, 9, 12, 13), (0, 9, 15, 17)] (Cond.codeWith yL_buffer cL_buffer 4 (some .int) [(0, 9, 12, 13), (0, 9, 15, 17)] :: TB) rm_L_buffer 2 12 3 := vx_cwSW 3 hts (gSx tb775 tb776 tb46 tb777) rfl rfl rfl ⟨by decide, by decide, by decide +kernel⟩ hR
theorem cw_L_160 {R : Room} {s : State} {args : Array Value} (hts : ∀ w ∈ TB, w.before args s = true) (hR : rm_X10_buffer.frames + 1 ≤ R.frames ∧ 8 + (2 + 11) + rm_X10_buffer.locals ≤ R.locals) : CallW R s args RL RX10 160 yX10_buffer cX10_buffer 2 (some .int) (Cond.code yX10_buffer cX10_buffer 2 (some .int) :: TB) rm_X10_buffer 0 0 1 := cwV 1 hts (gV tb1144 tb1145 tb1146 tb57 tb1147) rfl rfl rfl ⟨rfl, by decide, by decide, by decide +kernel⟩ hR
theorem cw_L_155 {R : Room} {s : State} {args : Array Value} (hts : ∀ w ∈ TB, w.before args s = true) (hR : rm_L_position.frames + 1 ≤ R.frames ∧ 8 + (3 + 11) + rm_L_position.locals ≤ R.locals) : vx_CSW R s args RL 155 yL_position cL_position 3 (some .int) [(0, 8, 11, 17)] (Cond.codeWith yL_position cL_position 3 (some .int) [(0, 8, 11, 17)] :: TB) rm_L_position 1 6 2 := vx_cwSW 2 hts (gSx tb768 tb769 tb46 tb770) rfl rfl rfl ⟨by decide, by decide, by decide +kernel⟩ hR
theorem cw_L_157 {R : Room} {s : State} {args : Array Value} (hts : ∀ w ∈ TB, w.before args s = true) (hR : rm_X10_position.frames + 1 ≤ R.frames ∧ 8 + (1 + 11) + rm_X10_position.locals ≤ R.locals) : CallW R s args RL RX10 157 yX10_position cX10_position 1 (some .int) (Cond.code yX10_position cX10_position 1 (some .int) :: TB) rm_X10_position 0 0 0 := cwV 0 hts (gV tb1140 tb1141 tb1142 tb57 tb1143) rfl rfl rfl ⟨rfl, by decide, by decide, by decide +kernel⟩ hR
theorem cw_L_152 {R : Room} {s : State} {args : Array Value} (hts : ∀ w ∈ TB, w.before args s = true) (hR : rm_L_time.frames + 1 ≤ R.frames ∧ 8 + (3 + 11) + rm_L_time.locals ≤ R.locals) : vx_CSW R s args RL 152 yL_time cL_time 3 (some .int) [(0, 8, 11, 17)] (Cond.codeWith yL_time cL_time 3 (some .int) [(0, 8, 11, 17)] :: TB) rm_L_time 1 6 2 := vx_cwSW 2 hts (gSx tb761 tb762 tb46 tb763) rfl rfl rfl ⟨by decide, by decide, by decide +kernel⟩ hR
theorem cw_L_154 {R : Room} {s : State} {args : Array Value} (hts : ∀ w ∈ TB, w.before args s = true) (hR : rm_X10_time.frames + 1 ≤ R.frames ∧ 8 + (1 + 11) + rm_X10_time.locals ≤ R.locals) : CallW R s args RL RX10 154 yX10_time cX10_time 1 (some .int) (Cond.code yX10_time cX10_time 1 (some .int) :: TB) rm_X10_time 0 0 0 := cwV 0 hts (gV tb1133 tb1134 tb1135 tb57 tb1136) rfl rfl rfl ⟨rfl, by decide, by decide, by decide +kernel⟩ hR
theorem cw_L_148 {R : Room} {s : State} {args : Array Value} (hts : ∀ w ∈ TB, w.before args s = true) (hR : rm_X9_state.frames + 1 ≤ R.frames ∧ 8 + (1 + 11) + rm_X9_state.locals ≤ R.locals) : CallW R s args RL RX9 148 yX9_state cX9_state 1 (some .int) (Cond.code yX9_state cX9_state 1 (some .int) :: TB) rm_X9_state 0 0 0 := cwV 0 hts (gV tb330 tb331 tb332 tb47 tb333) rfl rfl rfl ⟨rfl, by decide, by decide, by decide +kernel⟩ hR
theorem cw_L_151 {R : Room} {s : State} {args : Array Value} (hts : ∀ w ∈ TB, w.before args s = true) (hR : rm_X10_state.frames + 1 ≤ R.frames ∧ 8 + (1 + 11) + rm_X10_state.locals ≤ R.locals) : CallW R s args RL RX10 151 yX10_state cX10_state 1 (some .int) (Cond.code yX10_state cX10_state 1 (some .int) :: TB) rm_X10_state 0 0 0 := cwV 0 hts (gV tb1129 tb1130 tb1131 tb57 tb1132) rfl rfl rfl ⟨rfl, by decide, by decide, by decide +kernel⟩ hR
theorem cw_L_145 {R : Room} {s : State} {args : Array Value} (hts : ∀ w ∈ TB, w.before args s = true) (hR : rm_L_run.frames + 1 ≤ R.frames ∧ 8 + (4 + 11) + rm_L_run.locals ≤ R.locals) : vx_CSW R s args RL 145 yL_run cL_run 4 (some .int) [(0, 9, 12, 15), (0, 9, 15, 17)] (Cond.codeWith yL_run cL_run 4 (some .int) [(0, 9, 12, 15), (0, 9, 15, 17)] :: TB) rm_L_run 3 18 3 := vx_cwSW 3 hts (gSx tb626 tb627 tb46 tb628) rfl rfl rfl ⟨by decide, by decide, by decide +kernel⟩ hR
theorem cw_L_147 {R : Room} {s : State} {args : Array Value} (hts : ∀ w ∈ TB, w.before args s = true) (hR : rm_X10_run.frames + 1 ≤ R.frames ∧ 8 + (2 + 11) + rm_X10_run.locals ≤ R.locals) : CallW R s args RL RX10 147 yX10_run cX10_run 2 (some .int) (Cond.code yX10_run cX10_run 2 (some .int) :: TB) rm_X10_run 0 0 1 := cwV 1 hts (gV tb1065 tb1066 tb1067 tb57 tb1068) rfl rfl rfl ⟨rfl, by decide, by decide, by decide +kernel⟩ hR
theorem cw_L_142 {R : Room} {s : State} {args : Array Value} (hts : ∀ w ∈ TB, w.before args s = true) (hR : rm_L_stop.frames + 1 ≤ R.frames ∧ 8 + (3 + 11) + rm_L_stop.locals ≤ R.locals) : vx_CSW R s args RL 142 yL_stop cL_stop 3 (some .int) [(0, 8, 11, 17)] (Cond.codeWith yL_stop cL_stop 3 (some .int) [(0, 8, 11, 17)] :: TB) rm_L_stop 1 6 2 := vx_cwSW 2 hts (gSx tb616 tb617 tb46 tb618) rfl rfl rfl ⟨by decide, by decide, by decide +kernel⟩ hR
theorem cw_L_144 {R : Room} {s : State} {args : Array Value} (hts : ∀ w ∈ TB, w.before args s = true) (hR : rm_X10_stop.frames + 1 ≤ R.frames ∧ 8 + (1 + 11) + rm_X10_stop.locals ≤ R.locals) : CallW R s args RL RX10 144 yX10_stop cX10_stop 1 (some .int) (Cond.code yX10_stop cX10_stop 1 (some .int) :: TB) rm_X10_stop 0 0 0 := cwV 0 hts (gV tb1061 tb1062 tb1063 tb57 tb1064) rfl rfl rfl ⟨rfl, by decide, by decide, by decide +kernel⟩ hR
theorem cw_L_139 {R : Room} {s : State} {args : Array Value} (hts : ∀ w ∈ TB, w.before args s = true) (hR : rm_L_start.frames + 1 ≤ R.frames ∧ 8 + (3 + 11) + rm_L_start.locals ≤ R.locals) : vx_CSW R s args RL 139 yL_start cL_start 3 (some .int) [(0, 8, 11, 17)] (Cond.codeWith yL_start cL_start 3 (some .int) [(0, 8, 11, 17)] :: TB) rm_L_start 2 12 2 := vx_cwSW 2 hts (gSx tb585 tb586 tb46 tb587) rfl rfl rfl ⟨by decide, by decide, by decide +kernel⟩ hR
theorem cw_L_141 {R : Room} {s : State} {args : Array Value} (hts : ∀ w ∈ TB, w.before args s = true) (hR : rm_X10_start.frames + 1 ≤ R.frames ∧ 8 + (1 + 11) + rm_X10_start.locals ≤ R.locals) : CallW R s args RL RX10 141 yX10_start cX10_start 1 (some .int) (Cond.code yX10_start cX10_start 1 (some .int) :: TB) rm_X10_start 0 0 0 := cwV 0 hts (gV tb1050 tb1051 tb1052 tb57 tb1053) rfl rfl rfl ⟨rfl, by decide, by decide, by decide +kernel⟩ hR
theorem cw_L_135 {R : Room} {s : State} {args : Array Value} (hts : ∀ w ∈ TB, w.before args s = true) (hR : rm_L_size.frames + 1 ≤ R.frames ∧ 8 + (6 + 11) + rm_L_size.locals ≤ R.locals) : vx_CSW R s args RL 135 yL_size cL_size 6 (some .int) [(0, 11, 14, 13)] (Cond.codeWith yL_size cL_size 6 (some .int) [(0, 11, 14, 13)] :: TB) rm_L_size 3 18 5 := vx_cwSW 5 hts (gSx tb567 tb568 tb46 tb569) rfl rfl rfl ⟨by decide, by decide, by decide +kernel⟩ hR
theorem cw_L_138 {R : Room} {s : State} {args : Array Value} (hts : ∀ w ∈ TB, w.before args s = true) (hR : rm_X10_size.frames + 1 ≤ R.frames ∧ 8 + (4 + 11) + rm_X10_size.locals ≤ R.locals) : CallW R s args RL RX10 138 yX10_size cX10_size 4 (some .long) (Cond.code yX10_size cX10_size 4 (some .long) :: TB) rm_X10_size 0 0 3 := cwV 3 hts (gV tb1037 tb1038 tb1039 tb57 tb1040) rfl rfl rfl ⟨rfl, by decide, by decide, by decide +kernel⟩ hR
theorem cw_L_131 {R : Room} {s : State} {args : Array Value} (hts : ∀ w ∈ TB, w.before args s = true) (hR : rm_L_bandwidth.frames + 1 ≤ R.frames ∧ 8 + (4 + 11) + rm_L_bandwidth.locals ≤ R.locals) : vx_CSW R s args RL 131 yL_bandwidth cL_bandwidth 4 (some .int) [(0, 9, 12, 15)] (Cond.codeWith yL_bandwidth cL_bandwidth 4 (some .int) [(0, 9, 12, 15)] :: TB) rm_L_bandwidth 1 6 3 := vx_cwSW 3 hts (gSx tb556 tb557 tb46 tb558) rfl rfl rfl ⟨by decide, by decide, by decide +kernel⟩ hR
theorem cw_L_134 {R : Room} {s : State} {args : Array Value} (hts : ∀ w ∈ TB, w.before args s = true) (hR : rm_X10_bandwidth.frames + 1 ≤ R.frames ∧ 8 + (2 + 11) + rm_X10_bandwidth.locals ≤ R.locals) : CallW R s args RL RX10 134 yX10_bandwidth cX10_bandwidth 2 (some .int) (Cond.code yX10_bandwidth cX10_bandwidth 2 (some .int) :: TB) rm_X10_bandwidth 0 0 1 := cwV 1 hts (gV tb1030 tb1031 tb1032 tb57 tb1033) rfl rfl rfl ⟨rfl, by decide, by decide, by decide +kernel⟩ hR
theorem cw_L_127 {R : Room} {s : State} {args : Array Value} (hts : ∀ w ∈ TB, w.before args s = true) (hR : rm_L_clear.frames + 1 ≤ R.frames ∧ 8 + (3 + 11) + rm_L_clear.locals ≤ R.locals) : vx_CSW R s args RL 127 yL_clear cL_clear 3 (some .int) [(0, 8, 11, 17)] (Cond.codeWith yL_clear cL_clear 3 (some .int) [(0, 8, 11, 17)] :: TB) rm_L_clear 1 6 2 := vx_cwSW 2 hts (gSx tb541 tb542 tb46 tb543) rfl rfl rfl ⟨by decide, by decide, by decide +kernel⟩ hR
theorem cw_L_130 {R : Room} {s : State} {args : Array Value} (hts : ∀ w ∈ TB, w.before args s = true) (hR : rm_X10_clear.frames + 1 ≤ R.frames ∧ 8 + (2 + 11) + rm_X10_clear.locals ≤ R.locals) : CallW R s args RL RX10 130 yX10_clear cX10_clear 2 (some .int) (Cond.code yX10_clear cX10_clear 2 (some .int) :: TB) rm_X10_clear 0 0 0 := cwV 0 hts (gV tb1026 tb1027 tb1028 tb57 tb1029) rfl rfl rfl ⟨rfl, by decide, by decide, by decide +kernel⟩ hR
theorem cw_L_124 {R : Room} {s : State} {args : Array Value} (hts : ∀ w ∈ TB, w.before args s = true) (hR : rm_L_addPhase.frames + 1 ≤ R.frames ∧ 8 + (5 + 11) + rm_L_addPhase.locals ≤ R.locals) : vx_CSW R s args RL 124 yL_addPhase cL_addPhase 5 (some .int) [(0, 10, 13, 15), (0, 10, 17, 17)] (Cond.codeWith yL_addPhase cL_addPhase 5 (some .int) [(0, 10, 13, 15), (0, 10, 17, 17)] :: TB) rm_L_addPhase 4 24 4 := vx_cwSW 4 hts (gSx tb525 tb526 tb46 tb527) rfl rfl rfl ⟨by decide, by decide, by decide +kernel⟩ hR
theorem cw_L_126 {R : Room} {s : State} {args : Array Value} (hts : ∀ w ∈ TB, w.before args s = true) (hR : rm_X10_addPhase.frames + 1 ≤ R.frames ∧ 8 + (3 + 11) + rm_X10_addPhase.locals ≤ R.locals) : CallW R s args RL RX10 126 yX10_addPhase cX10_addPhase 3 (some .int) (Cond.code yX10_addPhase cX10_addPhase 3 (some .int) :: TB) rm_X10_addPhase 0 0 2 := cwV 2 hts (gV tb1021 tb1022 tb1023 tb57 tb1024) rfl rfl rfl ⟨rfl, by decide, by decide, by decide +kernel⟩ hR
theorem cw_L_121 {R : Room} {s : State} {args : Array Value} (hts : ∀ w ∈ TB, w.before args s = true) (hR : rm_L_addRung.frames + 1 ≤ R.frames ∧ 8 + (5 + 11) + rm_L_addRung.locals ≤ R.locals) : vx_CSW R s args RL 121 yL_addRung cL_addRung 5 (some .int) [(0, 10, 13, 13), (0, 10, 17, 15), (0, 10, 21, 17)] (Cond.codeWith yL_addRung cL_addRung 5 (some .int) [(0, 10, 13, 13), (0, 10, 17, 15), (0, 10, 21, 17)] :: TB) rm_L_addRung 4 24 4 := vx_cwSW 4 hts (gSx tb497 tb498 tb46 tb499) rfl rfl rfl ⟨by decide, by decide, by decide +kernel⟩ hR
theorem cw_L_123 {R : Room} {s : State} {args : Array Value} (hts : ∀ w ∈ TB, w.before args s = true) (hR : rm_X10_addRung.frames + 1 ≤ R.frames ∧ 8 + (3 + 11) + rm_X10_addRung.locals ≤ R.locals) : CallW R s args RL RX10 123 yX10_addRung cX10_addRung 3 (some .int) (Cond.code yX10_addRung cX10_addRung 3 (some .int) :: TB) rm_X10_addRung 0 0 2 := cwV 2 hts (gV tb1013 tb1014 tb1015 tb57 tb1016) rfl rfl rfl ⟨rfl, by decide, by decide, by decide +kernel⟩ hR
theorem cw_L_112 {R : Room} {s : State} {args : Array Value} (hts : ∀ w ∈ TB, w.before args s = true) (hR : rm_L_setParameter.frames + 1 ≤ R.frames ∧ 8 + (5 + 11) + rm_L_setParameter.locals ≤ R.locals) : vx_CSW R s args RL 112 yL_setParameter cL_setParameter 5 (some .int) [(0, 10, 13, 13), (0, 10, 17, 15), (0, 10, 21, 17)] (Cond.codeWith yL_setParameter cL_setParameter 5 (some .int) [(0, 10, 13, 13), (0, 10, 17, 15), (0, 10, 21, 17)] :: TB) rm_L_setParameter 3 18 4 := vx_cwSW 4 hts (gSx tb384 tb385 tb46 tb386) rfl rfl rfl ⟨by decide, by decide, by decide +kernel⟩ hR
theorem cw_L_117 {R : Room} {s : State} {args : Array Value} (hts : ∀ w ∈ TB, w.before args s = true) (hR : rm_X10_setParameter.frames + 1 ≤ R.frames ∧ 8 + (4 + 11) + rm_X10_setParameter.locals ≤ R.locals) : CallW R s args RL RX10 117 yX10_setParameter cX10_setParameter 4 (some .int) (Cond.code yX10_setParameter cX10_setParameter 4 (some .int) :: TB) rm_X10_setParameter 0 0 2 := cwV 2 hts (gV tb996 tb997 tb998 tb57 tb999) rfl rfl rfl ⟨rfl, by decide, by decide, by decide +kernel⟩ hR
def f_L_law_b176 (xs : Nat → Int32) (K : Int32 → Int32 → Int32 → (Nat → Int64) → Int32 → Int32 → Int32 → Int32 → Int32 → Int32 → Int32 → Int32 → Int32 → Int32 → Int32 → Int32 → Int32 → Int32 → Int64 → Int64 → Int32 → (Nat → Int32) → Int32 → Int32 → Int32 → Int32 → Int32 → Int32 → Int64 → Int64 → Int32 → (Nat → Int32) → Int32 → (Nat → Int64) → (Nat → Int64) → Int32 → (Nat → Int32) → Int32 → Int32 → Int32 → Int32 → Int32 → Int32 → Int32 → Int32 → Int32 → Int32 → Int32 → Int32 → Int32 → Int32 → Int64 → Int64 → Int32 → (Nat → Int32) → Int32 → Int32 → Int32 → Int32 → Int32 → Int32 → Int64 → Int64 → Int32 → (Nat → Int32) → Int32 → (Nat → Int64) → (Nat → Int64) → Int32 → (Nat → Int32) → Int32 → (Nat → Int32) → Int32 → Int32 → (Nat → Int32) → (Nat → Int32) → (Nat → Int32) → Int32 → (Nat → Int32) → (Nat → Int32) → (Nat → Int32) → (Nat → Int32) → (Nat → Int64) → (Nat → Int32) → (Nat → Int32) → (Nat → Int64) → Int32 → Option Int32) (v1_phases v1_has : Int32) (r2 : Nat → Int64) (v3_mode v3_startThreshold v3_lastRung v3_lastChange v3_state v3_time v3_position v4_startUpTime v4_stallTime v4_playTime v4_stalls v4_abandoned v4_finished v4_switches : Int32) (v4_wasted v4_quality : Int64) (v5_segments : Int32) (r6 : Nat → Int32) (v7_going v7_track v7_segment v7_rung v7_waiting v7_duration : Int32) (v7_bits v7_received : Int64) (v8_length : Int32) (r9 : Nat → Int32) (v10_kept : Int32) (r11 r12 : Nat → Int64) (v13_segments : Int32) (r14 : Nat → Int32) (v15_mode v15_startThreshold v15_lastRung v15_lastChange v15_state v15_time v15_position v16_startUpTime v16_stallTime v16_playTime v16_stalls v16_abandoned v16_finished v16_switches : Int32) (v16_wasted v16_quality : Int64) (v17_segments : Int32) (r18 : Nat → Int32) (v19_going v19_track v19_segment v19_rung v19_waiting v19_duration : Int32) (v19_bits v19_received : Int64) (v20_length : Int32) (r21 : Nat → Int32) (v22_kept : Int32) (r23 r24 : Nat → Int64) (v25_segments : Int32) (r26 : Nat → Int32) (v28_rungs : Int32) (r29 : Nat → Int32) (v30_total v30_phases : Int32) (r31 r32 r33 : Nat → Int32) (v34_rungs : Int32) (r35 r36 r37 r38 : Nat → Int32) (r39 : Nat → Int64) (r40 r41 : Nat → Int32) (r42 : Nat → Int64) (l4 : Int32) : Option Int32 :=
  obnd3 (f_L_setParameter v15_state r33 r2 (xs (l4 + 1).toNatClampNeg) (xs (l4 + 2).toNatClampNeg)) fun (y1 : Int32) (u2 : Nat → Int32) (u3 : Nat → Int64) =>
  obnd3 (f_X10_setParameter v1_has r40 (xs (l4 + 1).toNatClampNeg) (xs (l4 + 2).toNatClampNeg)) fun (y4 : Int32) (y5 : Int32) (u6 : Nat → Int32) =>
  if (f_X10_thrown y5) = y1 then
    if y1 = 0 then
      if (u3 0) = y4.toInt64 then
        K v1_phases v1_has y5 u3 v3_mode v3_startThreshold v3_lastRung v3_lastChange v3_state v3_time v3_position v4_startUpTime v4_stallTime v4_playTime v4_stalls v4_abandoned v4_finished v4_switches v4_wasted v4_quality v5_segments r6 v7_going v7_track v7_segment v7_rung v7_waiting v7_duration v7_bits v7_received v8_length r9 v10_kept r11 r12 v13_segments r14 v15_mode v15_startThreshold v15_lastRung v15_lastChange v15_state v15_time v15_position v16_startUpTime v16_stallTime v16_playTime v16_stalls v16_abandoned v16_finished v16_switches v16_wasted v16_quality v17_segments r18 v19_going v19_track v19_segment v19_rung v19_waiting v19_duration v19_bits v19_received v20_length r21 v22_kept r23 r24 v25_segments r26 v28_rungs r29 v30_total v30_phases r31 r32 u2 v34_rungs r35 r36 r37 r38 r39 u6 r41 r42 (l4 + 4)
      else
        some 0
    else
      K v1_phases v1_has y5 u3 v3_mode v3_startThreshold v3_lastRung v3_lastChange v3_state v3_time v3_position v4_startUpTime v4_stallTime v4_playTime v4_stalls v4_abandoned v4_finished v4_switches v4_wasted v4_quality v5_segments r6 v7_going v7_track v7_segment v7_rung v7_waiting v7_duration v7_bits v7_received v8_length r9 v10_kept r11 r12 v13_segments r14 v15_mode v15_startThreshold v15_lastRung v15_lastChange v15_state v15_time v15_position v16_startUpTime v16_stallTime v16_playTime v16_stalls v16_abandoned v16_finished v16_switches v16_wasted v16_quality v17_segments r18 v19_going v19_track v19_segment v19_rung v19_waiting v19_duration v19_bits v19_received v20_length r21 v22_kept r23 r24 v25_segments r26 v28_rungs r29 v30_total v30_phases r31 r32 u2 v34_rungs r35 r36 r37 r38 r39 u6 r41 r42 (l4 + 4)
  else
    some 0
set_option maxHeartbeats 4000000 in
set_option maxRecDepth 100000 in
theorem k_L_law_b176 {p : Program} {l : Launch} {e : Env} {s : State} {m : MethodId} {below : List Frame} {meth : Method} {c : Code} {D : va_G} {cI cJ cC : ClassId} {A : Nat → Prop} {ga : Nat → Nat} {b L : Nat} {xs : Nat → Int32} {h0 h1 h2 h3 h4 h5 h6 h7 h8 h9 h10 h11 h12 h13 h14 h15 h16 h17 h18 h19 h20 h21 h22 h23 h24 h25 h26 h27 h28 h29 h30 h31 h32 h33 h34 h35 h36 h37 h38 h39 h40 h41 h42 : Nat} {v28_most v34_most : Int32} (hfl : l.stackTraces = false) (S : CallFix p m c cL_law 8 s #[Value.ref b] TB RL) (hr : meth.sig.returnType = ret) (hlk : meth.locks = false) (hK : va_K D vwCl (ty3 cI cJ cC) s) (hX : va_X b L xs s s.heap) (hbl : b < s.heap.size) (hbA : ¬ A b) (hA : ∀ q : Nat, s.heap.size ≤ q → A q) (hAf : ∀ q : Nat, A q → s.heap.size ≤ q) (hG : GX ga A s) (hL : L ≤ 2048) {K : Int32 → Int32 → Int32 → (Nat → Int64) → Int32 → Int32 → Int32 → Int32 → Int32 → Int32 → Int32 → Int32 → Int32 → Int32 → Int32 → Int32 → Int32 → Int32 → Int64 → Int64 → Int32 → (Nat → Int32) → Int32 → Int32 → Int32 → Int32 → Int32 → Int32 → Int64 → Int64 → Int32 → (Nat → Int32) → Int32 → (Nat → Int64) → (Nat → Int64) → Int32 → (Nat → Int32) → Int32 → Int32 → Int32 → Int32 → Int32 → Int32 → Int32 → Int32 → Int32 → Int32 → Int32 → Int32 → Int32 → Int32 → Int64 → Int64 → Int32 → (Nat → Int32) → Int32 → Int32 → Int32 → Int32 → Int32 → Int32 → Int64 → Int64 → Int32 → (Nat → Int32) → Int32 → (Nat → Int64) → (Nat → Int64) → Int32 → (Nat → Int32) → Int32 → (Nat → Int32) → Int32 → Int32 → (Nat → Int32) → (Nat → Int32) → (Nat → Int32) → Int32 → (Nat → Int32) → (Nat → Int32) → (Nat → Int32) → (Nat → Int32) → (Nat → Int64) → (Nat → Int32) → (Nat → Int32) → (Nat → Int64) → Int32 → Option Int32} {n : Nat} (hk : ∀ (v1_phases v1_has v1_thrown : Int32) (r2 : Nat → Int64) (v3_mode v3_startThreshold v3_lastRung v3_lastChange v3_state v3_time v3_position v4_startUpTime v4_stallTime v4_playTime v4_stalls v4_abandoned v4_finished v4_switches : Int32) (v4_wasted v4_quality : Int64) (v5_segments : Int32) (r6 : Nat → Int32) (v7_going v7_track v7_segment v7_rung v7_waiting v7_duration : Int32) (v7_bits v7_received : Int64) (v8_length : Int32) (r9 : Nat → Int32) (v10_kept : Int32) (r11 r12 : Nat → Int64) (v13_segments : Int32) (r14 : Nat → Int32) (v15_mode v15_startThreshold v15_lastRung v15_lastChange v15_state v15_time v15_position v16_startUpTime v16_stallTime v16_playTime v16_stalls v16_abandoned v16_finished v16_switches : Int32) (v16_wasted v16_quality : Int64) (v17_segments : Int32) (r18 : Nat → Int32) (v19_going v19_track v19_segment v19_rung v19_waiting v19_duration : Int32) (v19_bits v19_received : Int64) (v20_length : Int32) (r21 : Nat → Int32) (v22_kept : Int32) (r23 r24 : Nat → Int64) (v25_segments : Int32) (r26 : Nat → Int32) (v28_rungs : Int32) (r29 : Nat → Int32) (v30_total v30_phases : Int32) (r31 r32 r33 : Nat → Int32) (v34_rungs : Int32) (r35 r36 r37 r38 : Nat → Int32) (r39 : Nat → Int64) (r40 r41 : Nat → Int32) (r42 : Nat → Int64) (l4 : Int32) (cells slots : Nat) (H : Heap) (locs : List Loc) (ls : Array Slot), 0 ≤ l4 → lwmu L l4 < n → cells + lwmu L l4 ≤ 3000 → slots + 6 * lwmu L l4 ≤ 20000 → K v1_phases v1_has v1_thrown r2 v3_mode v3_startThreshold v3_lastRung v3_lastChange v3_state v3_time v3_position v4_startUpTime v4_stallTime v4_playTime v4_stalls v4_abandoned v4_finished v4_switches v4_wasted v4_quality v5_segments r6 v7_going v7_track v7_segment v7_rung v7_waiting v7_duration v7_bits v7_received v8_length r9 v10_kept r11 r12 v13_segments r14 v15_mode v15_startThreshold v15_lastRung v15_lastChange v15_state v15_time v15_position v16_startUpTime v16_stallTime v16_playTime v16_stalls v16_abandoned v16_finished v16_switches v16_wasted v16_quality v17_segments r18 v19_going v19_track v19_segment v19_rung v19_waiting v19_duration v19_bits v19_received v20_length r21 v22_kept r23 r24 v25_segments r26 v28_rungs r29 v30_total v30_phases r31 r32 r33 v34_rungs r35 r36 r37 r38 r39 r40 r41 r42 l4 = some 1 → va_P D vwCl [(h0, .inr (9, [.ref h27, .ref h15, .ref h3])), (h1, .inr (10, [.ref h40, .ref h41, .ref h37, .ref h38, .ref h36, .int v1_phases, .ref h39, .ref h42, .int v1_has, .int v1_thrown])), (h2, .inl (cJ, 1, .inr (.inl r2))), (h3, .inr (6, [.ref h27, .ref h13, .ref h5, .ref h10, .ref h7, .ref h4, .ref h8, .int v3_mode, .int v3_startThreshold, .int v3_lastRung, .int v3_lastChange, .int v3_state, .int v3_time, .int v3_position])), (h4, .inr (0, [.int v4_startUpTime, .int v4_stallTime, .int v4_playTime, .int v4_stalls, .int v4_abandoned, .int v4_finished, .int v4_switches, .long v4_wasted, .long v4_quality])), (h5, .inr (7, [.ref h6, .int v5_segments])), (h6, .inl (cI, 200, .inl r6)), (h7, .inr (1, [.int v7_going, .int v7_track, .int v7_segment, .int v7_rung, .int v7_waiting, .int v7_duration, .long v7_bits, .long v7_received])), (h8, .inr (3, [.ref h9, .int v8_length])), (h9, .inl (cC, 300, .inl r9)), (h10, .inr (5, [.ref h11, .ref h12, .int v10_kept])), (h11, .inl (cJ, 10, .inr (.inl r11))), (h12, .inl (cJ, 10, .inr (.inl r12))), (h13, .inr (7, [.ref h14, .int v13_segments])), (h14, .inl (cI, 200, .inl r14)), (h15, .inr (6, [.ref h27, .ref h25, .ref h17, .ref h22, .ref h19, .ref h16, .ref h20, .int v15_mode, .int v15_startThreshold, .int v15_lastRung, .int v15_lastChange, .int v15_state, .int v15_time, .int v15_position])), (h16, .inr (0, [.int v16_startUpTime, .int v16_stallTime, .int v16_playTime, .int v16_stalls, .int v16_abandoned, .int v16_finished, .int v16_switches, .long v16_wasted, .long v16_quality])), (h17, .inr (7, [.ref h18, .int v17_segments])), (h18, .inl (cI, 200, .inl r18)), (h19, .inr (1, [.int v19_going, .int v19_track, .int v19_segment, .int v19_rung, .int v19_waiting, .int v19_duration, .long v19_bits, .long v19_received])), (h20, .inr (3, [.ref h21, .int v20_length])), (h21, .inl (cC, 300, .inl r21)), (h22, .inr (5, [.ref h23, .ref h24, .int v22_kept])), (h23, .inl (cJ, 10, .inr (.inl r23))), (h24, .inl (cJ, 10, .inr (.inl r24))), (h25, .inr (7, [.ref h26, .int v25_segments])), (h26, .inl (cI, 200, .inl r26)), (h27, .inr (8, [.ref h33, .ref h34, .ref h28, .ref h30])), (h28, .inr (2, [.ref h29, .int v28_most, .int v28_rungs])), (h29, .inl (cI, 6, .inl r29)), (h30, .inr (4, [.ref h31, .ref h32, .int v30_total, .int v30_phases])), (h31, .inl (cI, 20, .inl r31)), (h32, .inl (cI, 20, .inl r32)), (h33, .inl (cI, 15, .inl r33)), (h34, .inr (2, [.ref h35, .int v34_most, .int v34_rungs])), (h35, .inl (cI, 6, .inl r35)), (h36, .inl (cI, 20, .inl r36)), (h37, .inl (cI, 2, .inl r37)), (h38, .inl (cI, 20, .inl r38)), (h39, .inl (cJ, 760, .inr (.inl r39))), (h40, .inl (cI, 15, .inl r40)), (h41, .inl (cI, 12, .inl r41)), (h42, .inl (cJ, 760, .inr (.inl r42)))] H → va_D A [(h0, .inr (9, [.ref h27, .ref h15, .ref h3])), (h1, .inr (10, [.ref h40, .ref h41, .ref h37, .ref h38, .ref h36, .int v1_phases, .ref h39, .ref h42, .int v1_has, .int v1_thrown])), (h2, .inl (cJ, 1, .inr (.inl r2))), (h3, .inr (6, [.ref h27, .ref h13, .ref h5, .ref h10, .ref h7, .ref h4, .ref h8, .int v3_mode, .int v3_startThreshold, .int v3_lastRung, .int v3_lastChange, .int v3_state, .int v3_time, .int v3_position])), (h4, .inr (0, [.int v4_startUpTime, .int v4_stallTime, .int v4_playTime, .int v4_stalls, .int v4_abandoned, .int v4_finished, .int v4_switches, .long v4_wasted, .long v4_quality])), (h5, .inr (7, [.ref h6, .int v5_segments])), (h6, .inl (cI, 200, .inl r6)), (h7, .inr (1, [.int v7_going, .int v7_track, .int v7_segment, .int v7_rung, .int v7_waiting, .int v7_duration, .long v7_bits, .long v7_received])), (h8, .inr (3, [.ref h9, .int v8_length])), (h9, .inl (cC, 300, .inl r9)), (h10, .inr (5, [.ref h11, .ref h12, .int v10_kept])), (h11, .inl (cJ, 10, .inr (.inl r11))), (h12, .inl (cJ, 10, .inr (.inl r12))), (h13, .inr (7, [.ref h14, .int v13_segments])), (h14, .inl (cI, 200, .inl r14)), (h15, .inr (6, [.ref h27, .ref h25, .ref h17, .ref h22, .ref h19, .ref h16, .ref h20, .int v15_mode, .int v15_startThreshold, .int v15_lastRung, .int v15_lastChange, .int v15_state, .int v15_time, .int v15_position])), (h16, .inr (0, [.int v16_startUpTime, .int v16_stallTime, .int v16_playTime, .int v16_stalls, .int v16_abandoned, .int v16_finished, .int v16_switches, .long v16_wasted, .long v16_quality])), (h17, .inr (7, [.ref h18, .int v17_segments])), (h18, .inl (cI, 200, .inl r18)), (h19, .inr (1, [.int v19_going, .int v19_track, .int v19_segment, .int v19_rung, .int v19_waiting, .int v19_duration, .long v19_bits, .long v19_received])), (h20, .inr (3, [.ref h21, .int v20_length])), (h21, .inl (cC, 300, .inl r21)), (h22, .inr (5, [.ref h23, .ref h24, .int v22_kept])), (h23, .inl (cJ, 10, .inr (.inl r23))), (h24, .inl (cJ, 10, .inr (.inl r24))), (h25, .inr (7, [.ref h26, .int v25_segments])), (h26, .inl (cI, 200, .inl r26)), (h27, .inr (8, [.ref h33, .ref h34, .ref h28, .ref h30])), (h28, .inr (2, [.ref h29, .int v28_most, .int v28_rungs])), (h29, .inl (cI, 6, .inl r29)), (h30, .inr (4, [.ref h31, .ref h32, .int v30_total, .int v30_phases])), (h31, .inl (cI, 20, .inl r31)), (h32, .inl (cI, 20, .inl r32)), (h33, .inl (cI, 15, .inl r33)), (h34, .inr (2, [.ref h35, .int v34_most, .int v34_rungs])), (h35, .inl (cI, 6, .inl r35)), (h36, .inl (cI, 20, .inl r36)), (h37, .inl (cI, 2, .inl r37)), (h38, .inl (cI, 20, .inl r38)), (h39, .inl (cJ, 760, .inr (.inl r39))), (h40, .inl (cI, 15, .inl r40)), (h41, .inl (cI, 12, .inl r41)), (h42, .inl (cJ, 760, .inr (.inl r42)))] → va_S A s.heap H locs → lv_has ls 8 [(0, .ref b), (1, .ref h0), (2, .ref h1), (3, .ref h2), (4, .int l4)] → W p l e room_1 s m #[Value.ref b] below meth c H locs cells slots (lw_Z below #[Value.ref b] s) (F0 m 23 ls [])) : ∀ (v1_phases v1_has v1_thrown : Int32) (r2 : Nat → Int64) (v3_mode v3_startThreshold v3_lastRung v3_lastChange v3_state v3_time v3_position v4_startUpTime v4_stallTime v4_playTime v4_stalls v4_abandoned v4_finished v4_switches : Int32) (v4_wasted v4_quality : Int64) (v5_segments : Int32) (r6 : Nat → Int32) (v7_going v7_track v7_segment v7_rung v7_waiting v7_duration : Int32) (v7_bits v7_received : Int64) (v8_length : Int32) (r9 : Nat → Int32) (v10_kept : Int32) (r11 r12 : Nat → Int64) (v13_segments : Int32) (r14 : Nat → Int32) (v15_mode v15_startThreshold v15_lastRung v15_lastChange v15_state v15_time v15_position v16_startUpTime v16_stallTime v16_playTime v16_stalls v16_abandoned v16_finished v16_switches : Int32) (v16_wasted v16_quality : Int64) (v17_segments : Int32) (r18 : Nat → Int32) (v19_going v19_track v19_segment v19_rung v19_waiting v19_duration : Int32) (v19_bits v19_received : Int64) (v20_length : Int32) (r21 : Nat → Int32) (v22_kept : Int32) (r23 r24 : Nat → Int64) (v25_segments : Int32) (r26 : Nat → Int32) (v28_rungs : Int32) (r29 : Nat → Int32) (v30_total v30_phases : Int32) (r31 r32 r33 : Nat → Int32) (v34_rungs : Int32) (r35 r36 r37 r38 : Nat → Int32) (r39 : Nat → Int64) (r40 r41 : Nat → Int32) (r42 : Nat → Int64) (l4 : Int32) (cells slots : Nat) (H : Heap) (locs : List Loc) (ls : Array Slot), lwcy L n cells slots l4 → f_L_law_b176 xs K v1_phases v1_has r2 v3_mode v3_startThreshold v3_lastRung v3_lastChange v3_state v3_time v3_position v4_startUpTime v4_stallTime v4_playTime v4_stalls v4_abandoned v4_finished v4_switches v4_wasted v4_quality v5_segments r6 v7_going v7_track v7_segment v7_rung v7_waiting v7_duration v7_bits v7_received v8_length r9 v10_kept r11 r12 v13_segments r14 v15_mode v15_startThreshold v15_lastRung v15_lastChange v15_state v15_time v15_position v16_startUpTime v16_stallTime v16_playTime v16_stalls v16_abandoned v16_finished v16_switches v16_wasted v16_quality v17_segments r18 v19_going v19_track v19_segment v19_rung v19_waiting v19_duration v19_bits v19_received v20_length r21 v22_kept r23 r24 v25_segments r26 v28_rungs r29 v30_total v30_phases r31 r32 r33 v34_rungs r35 r36 r37 r38 r39 r40 r41 r42 l4 = some 1 → va_P D vwCl [(h0, .inr (9, [.ref h27, .ref h15, .ref h3])), (h1, .inr (10, [.ref h40, .ref h41, .ref h37, .ref h38, .ref h36, .int v1_phases, .ref h39, .ref h42, .int v1_has, .int v1_thrown])), (h2, .inl (cJ, 1, .inr (.inl r2))), (h3, .inr (6, [.ref h27, .ref h13, .ref h5, .ref h10, .ref h7, .ref h4, .ref h8, .int v3_mode, .int v3_startThreshold, .int v3_lastRung, .int v3_lastChange, .int v3_state, .int v3_time, .int v3_position])), (h4, .inr (0, [.int v4_startUpTime, .int v4_stallTime, .int v4_playTime, .int v4_stalls, .int v4_abandoned, .int v4_finished, .int v4_switches, .long v4_wasted, .long v4_quality])), (h5, .inr (7, [.ref h6, .int v5_segments])), (h6, .inl (cI, 200, .inl r6)), (h7, .inr (1, [.int v7_going, .int v7_track, .int v7_segment, .int v7_rung, .int v7_waiting, .int v7_duration, .long v7_bits, .long v7_received])), (h8, .inr (3, [.ref h9, .int v8_length])), (h9, .inl (cC, 300, .inl r9)), (h10, .inr (5, [.ref h11, .ref h12, .int v10_kept])), (h11, .inl (cJ, 10, .inr (.inl r11))), (h12, .inl (cJ, 10, .inr (.inl r12))), (h13, .inr (7, [.ref h14, .int v13_segments])), (h14, .inl (cI, 200, .inl r14)), (h15, .inr (6, [.ref h27, .ref h25, .ref h17, .ref h22, .ref h19, .ref h16, .ref h20, .int v15_mode, .int v15_startThreshold, .int v15_lastRung, .int v15_lastChange, .int v15_state, .int v15_time, .int v15_position])), (h16, .inr (0, [.int v16_startUpTime, .int v16_stallTime, .int v16_playTime, .int v16_stalls, .int v16_abandoned, .int v16_finished, .int v16_switches, .long v16_wasted, .long v16_quality])), (h17, .inr (7, [.ref h18, .int v17_segments])), (h18, .inl (cI, 200, .inl r18)), (h19, .inr (1, [.int v19_going, .int v19_track, .int v19_segment, .int v19_rung, .int v19_waiting, .int v19_duration, .long v19_bits, .long v19_received])), (h20, .inr (3, [.ref h21, .int v20_length])), (h21, .inl (cC, 300, .inl r21)), (h22, .inr (5, [.ref h23, .ref h24, .int v22_kept])), (h23, .inl (cJ, 10, .inr (.inl r23))), (h24, .inl (cJ, 10, .inr (.inl r24))), (h25, .inr (7, [.ref h26, .int v25_segments])), (h26, .inl (cI, 200, .inl r26)), (h27, .inr (8, [.ref h33, .ref h34, .ref h28, .ref h30])), (h28, .inr (2, [.ref h29, .int v28_most, .int v28_rungs])), (h29, .inl (cI, 6, .inl r29)), (h30, .inr (4, [.ref h31, .ref h32, .int v30_total, .int v30_phases])), (h31, .inl (cI, 20, .inl r31)), (h32, .inl (cI, 20, .inl r32)), (h33, .inl (cI, 15, .inl r33)), (h34, .inr (2, [.ref h35, .int v34_most, .int v34_rungs])), (h35, .inl (cI, 6, .inl r35)), (h36, .inl (cI, 20, .inl r36)), (h37, .inl (cI, 2, .inl r37)), (h38, .inl (cI, 20, .inl r38)), (h39, .inl (cJ, 760, .inr (.inl r39))), (h40, .inl (cI, 15, .inl r40)), (h41, .inl (cI, 12, .inl r41)), (h42, .inl (cJ, 760, .inr (.inl r42)))] H → va_D A [(h0, .inr (9, [.ref h27, .ref h15, .ref h3])), (h1, .inr (10, [.ref h40, .ref h41, .ref h37, .ref h38, .ref h36, .int v1_phases, .ref h39, .ref h42, .int v1_has, .int v1_thrown])), (h2, .inl (cJ, 1, .inr (.inl r2))), (h3, .inr (6, [.ref h27, .ref h13, .ref h5, .ref h10, .ref h7, .ref h4, .ref h8, .int v3_mode, .int v3_startThreshold, .int v3_lastRung, .int v3_lastChange, .int v3_state, .int v3_time, .int v3_position])), (h4, .inr (0, [.int v4_startUpTime, .int v4_stallTime, .int v4_playTime, .int v4_stalls, .int v4_abandoned, .int v4_finished, .int v4_switches, .long v4_wasted, .long v4_quality])), (h5, .inr (7, [.ref h6, .int v5_segments])), (h6, .inl (cI, 200, .inl r6)), (h7, .inr (1, [.int v7_going, .int v7_track, .int v7_segment, .int v7_rung, .int v7_waiting, .int v7_duration, .long v7_bits, .long v7_received])), (h8, .inr (3, [.ref h9, .int v8_length])), (h9, .inl (cC, 300, .inl r9)), (h10, .inr (5, [.ref h11, .ref h12, .int v10_kept])), (h11, .inl (cJ, 10, .inr (.inl r11))), (h12, .inl (cJ, 10, .inr (.inl r12))), (h13, .inr (7, [.ref h14, .int v13_segments])), (h14, .inl (cI, 200, .inl r14)), (h15, .inr (6, [.ref h27, .ref h25, .ref h17, .ref h22, .ref h19, .ref h16, .ref h20, .int v15_mode, .int v15_startThreshold, .int v15_lastRung, .int v15_lastChange, .int v15_state, .int v15_time, .int v15_position])), (h16, .inr (0, [.int v16_startUpTime, .int v16_stallTime, .int v16_playTime, .int v16_stalls, .int v16_abandoned, .int v16_finished, .int v16_switches, .long v16_wasted, .long v16_quality])), (h17, .inr (7, [.ref h18, .int v17_segments])), (h18, .inl (cI, 200, .inl r18)), (h19, .inr (1, [.int v19_going, .int v19_track, .int v19_segment, .int v19_rung, .int v19_waiting, .int v19_duration, .long v19_bits, .long v19_received])), (h20, .inr (3, [.ref h21, .int v20_length])), (h21, .inl (cC, 300, .inl r21)), (h22, .inr (5, [.ref h23, .ref h24, .int v22_kept])), (h23, .inl (cJ, 10, .inr (.inl r23))), (h24, .inl (cJ, 10, .inr (.inl r24))), (h25, .inr (7, [.ref h26, .int v25_segments])), (h26, .inl (cI, 200, .inl r26)), (h27, .inr (8, [.ref h33, .ref h34, .ref h28, .ref h30])), (h28, .inr (2, [.ref h29, .int v28_most, .int v28_rungs])), (h29, .inl (cI, 6, .inl r29)), (h30, .inr (4, [.ref h31, .ref h32, .int v30_total, .int v30_phases])), (h31, .inl (cI, 20, .inl r31)), (h32, .inl (cI, 20, .inl r32)), (h33, .inl (cI, 15, .inl r33)), (h34, .inr (2, [.ref h35, .int v34_most, .int v34_rungs])), (h35, .inl (cI, 6, .inl r35)), (h36, .inl (cI, 20, .inl r36)), (h37, .inl (cI, 2, .inl r37)), (h38, .inl (cI, 20, .inl r38)), (h39, .inl (cJ, 760, .inr (.inl r39))), (h40, .inl (cI, 15, .inl r40)), (h41, .inl (cI, 12, .inl r41)), (h42, .inl (cJ, 760, .inr (.inl r42)))] → va_S A s.heap H locs → lv_has ls 8 [(0, .ref b), (1, .ref h0), (2, .ref h1), (3, .ref h2), (4, .int l4)] → W p l e room_1 s m #[Value.ref b] below meth c H locs cells slots (lw_Z below #[Value.ref b] s) (F0 m 176 ls []) := by
  have hx := S.1
  have hb := S.2.1
  intro v1_phases v1_has v1_thrown r2 v3_mode v3_startThreshold v3_lastRung v3_lastChange v3_state v3_time v3_position v4_startUpTime v4_stallTime v4_playTime v4_stalls v4_abandoned v4_finished v4_switches v4_wasted v4_quality v5_segments r6 v7_going v7_track v7_segment v7_rung v7_waiting v7_duration v7_bits v7_received v8_length r9 v10_kept r11 r12 v13_segments r14 v15_mode v15_startThreshold v15_lastRung v15_lastChange v15_state v15_time v15_position v16_startUpTime v16_stallTime v16_playTime v16_stalls v16_abandoned v16_finished v16_switches v16_wasted v16_quality v17_segments r18 v19_going v19_track v19_segment v19_rung v19_waiting v19_duration v19_bits v19_received v20_length r21 v22_kept r23 r24 v25_segments r26 v28_rungs r29 v30_total v30_phases r31 r32 r33 v34_rungs r35 r36 r37 r38 r39 r40 r41 r42 l4 cells slots H locs ls hcy h hP hD hS hl
  obtain ⟨hy0, hy1, hy2, hy3, hv0, hv1, hv2, hv3⟩ := hcy
  refine lv_aload_n hx hb dL_law_176 rfl (lv_at hl 1 rfl) ?_
  refine lv_aload_n hx hb dL_law_177 rfl (lv_at hl 0 rfl) ?_
  refine lv_iload hx hb dL_law_178 (lv_at hl 4 rfl) ?_
  refine lv_iconst (v := 1) hx hb dL_law_180 li_1 ?_
  refine lv_iadd hx hb dL_law_181 ?_
  refine va_sld hx hb hX hbl hbA hS hv1 dL_law_182 ?_
  refine lv_aload_n hx hb dL_law_183 rfl (lv_at hl 0 rfl) ?_
  refine lv_iload hx hb dL_law_184 (lv_at hl 4 rfl) ?_
  refine lv_iconst (v := 2) hx hb dL_law_186 li_2 ?_
  refine lv_iadd hx hb dL_law_187 ?_
  refine va_sld hx hb hX hbl hbA hS hv2 dL_law_188 ?_
  refine lv_aload_n hx hb dL_law_189 rfl (lv_at hl 3 rfl) ?_
  obtain ⟨y1, u2, u3, e_y1, h⟩ := obnd3_eq h
  refine lcS (pc1 := 193) (rest := []) (st1 := [.int y1]) (wr := [(h1, .inr (10, [.ref h40, .ref h41, .ref h37, .ref h38, .ref h36, .int v1_phases, .ref h39, .ref h42, .int v1_has, .int v1_thrown])), (h3, .inr (6, [.ref h27, .ref h13, .ref h5, .ref h10, .ref h7, .ref h4, .ref h8, .int v3_mode, .int v3_startThreshold, .int v3_lastRung, .int v3_lastChange, .int v3_state, .int v3_time, .int v3_position])), (h4, .inr (0, [.int v4_startUpTime, .int v4_stallTime, .int v4_playTime, .int v4_stalls, .int v4_abandoned, .int v4_finished, .int v4_switches, .long v4_wasted, .long v4_quality])), (h5, .inr (7, [.ref h6, .int v5_segments])), (h6, .inl (cI, 200, .inl r6)), (h7, .inr (1, [.int v7_going, .int v7_track, .int v7_segment, .int v7_rung, .int v7_waiting, .int v7_duration, .long v7_bits, .long v7_received])), (h8, .inr (3, [.ref h9, .int v8_length])), (h9, .inl (cC, 300, .inl r9)), (h10, .inr (5, [.ref h11, .ref h12, .int v10_kept])), (h11, .inl (cJ, 10, .inr (.inl r11))), (h12, .inl (cJ, 10, .inr (.inl r12))), (h13, .inr (7, [.ref h14, .int v13_segments])), (h14, .inl (cI, 200, .inl r14)), (h16, .inr (0, [.int v16_startUpTime, .int v16_stallTime, .int v16_playTime, .int v16_stalls, .int v16_abandoned, .int v16_finished, .int v16_switches, .long v16_wasted, .long v16_quality])), (h17, .inr (7, [.ref h18, .int v17_segments])), (h18, .inl (cI, 200, .inl r18)), (h19, .inr (1, [.int v19_going, .int v19_track, .int v19_segment, .int v19_rung, .int v19_waiting, .int v19_duration, .long v19_bits, .long v19_received])), (h20, .inr (3, [.ref h21, .int v20_length])), (h21, .inl (cC, 300, .inl r21)), (h22, .inr (5, [.ref h23, .ref h24, .int v22_kept])), (h23, .inl (cJ, 10, .inr (.inl r23))), (h24, .inl (cJ, 10, .inr (.inl r24))), (h25, .inr (7, [.ref h26, .int v25_segments])), (h26, .inl (cI, 200, .inl r26)), (h28, .inr (2, [.ref h29, .int v28_most, .int v28_rungs])), (h29, .inl (cI, 6, .inl r29)), (h30, .inr (4, [.ref h31, .ref h32, .int v30_total, .int v30_phases])), (h31, .inl (cI, 20, .inl r31)), (h32, .inl (cI, 20, .inl r32)), (h34, .inr (2, [.ref h35, .int v34_most, .int v34_rungs])), (h35, .inl (cI, 6, .inl r35)), (h36, .inl (cI, 20, .inl r36)), (h37, .inl (cI, 2, .inl r37)), (h38, .inl (cI, 20, .inl r38)), (h39, .inl (cJ, 760, .inr (.inl r39))), (h40, .inl (cI, 15, .inl r40)), (h41, .inl (cI, 12, .inl r41)), (h42, .inl (cJ, 760, .inr (.inl r42)))]) (cells1 := cells + 3) (slots1 := slots + 18) S (c_L_setParameter l hfl ga D cI cJ cC h0 h15 h27 h33 h2 h3 h25 h17 h22 h19 h16 h20 h34 h28 h30 v15_mode v15_startThreshold v15_lastRung v15_lastChange v15_state v15_time v15_position r33 r2 H.size (xs (l4 + 1).toNatClampNeg) (xs (l4 + 2).toNatClampNeg) (y1, u2, u3) e_y1) (cw_L_112 S.2.2.2.2 ⟨Nat.le_of_ble_eq_true rfl, Nat.le_of_ble_eq_true rfl⟩) hK hP hD hS hA hG [0, 15, 27, 33, 2] [1, 3, 4, 5, 6, 7, 8, 9, 10, 11, 12, 13, 14, 16, 17, 18, 19, 20, 21, 22, 23, 24, 25, 26, 28, 29, 30, 31, 32, 34, 35, 36, 37, 38, 39, 40, 41, 42] rfl rfl rfl (by decide) (by decide) (by decide) rfl hl.1 rfl (Nat.le_of_ble_eq_true rfl) (lwf (by omega) (by omega)) rfl rfl rfl rfl dL_law_190 (fun H locs hP hD hS => ?_)
  have hP : va_P D vwCl [(h1, .inr (10, [.ref h40, .ref h41, .ref h37, .ref h38, .ref h36, .int v1_phases, .ref h39, .ref h42, .int v1_has, .int v1_thrown])), (h3, .inr (6, [.ref h27, .ref h13, .ref h5, .ref h10, .ref h7, .ref h4, .ref h8, .int v3_mode, .int v3_startThreshold, .int v3_lastRung, .int v3_lastChange, .int v3_state, .int v3_time, .int v3_position])), (h4, .inr (0, [.int v4_startUpTime, .int v4_stallTime, .int v4_playTime, .int v4_stalls, .int v4_abandoned, .int v4_finished, .int v4_switches, .long v4_wasted, .long v4_quality])), (h5, .inr (7, [.ref h6, .int v5_segments])), (h6, .inl (cI, 200, .inl r6)), (h7, .inr (1, [.int v7_going, .int v7_track, .int v7_segment, .int v7_rung, .int v7_waiting, .int v7_duration, .long v7_bits, .long v7_received])), (h8, .inr (3, [.ref h9, .int v8_length])), (h9, .inl (cC, 300, .inl r9)), (h10, .inr (5, [.ref h11, .ref h12, .int v10_kept])), (h11, .inl (cJ, 10, .inr (.inl r11))), (h12, .inl (cJ, 10, .inr (.inl r12))), (h13, .inr (7, [.ref h14, .int v13_segments])), (h14, .inl (cI, 200, .inl r14)), (h16, .inr (0, [.int v16_startUpTime, .int v16_stallTime, .int v16_playTime, .int v16_stalls, .int v16_abandoned, .int v16_finished, .int v16_switches, .long v16_wasted, .long v16_quality])), (h17, .inr (7, [.ref h18, .int v17_segments])), (h18, .inl (cI, 200, .inl r18)), (h19, .inr (1, [.int v19_going, .int v19_track, .int v19_segment, .int v19_rung, .int v19_waiting, .int v19_duration, .long v19_bits, .long v19_received])), (h20, .inr (3, [.ref h21, .int v20_length])), (h21, .inl (cC, 300, .inl r21)), (h22, .inr (5, [.ref h23, .ref h24, .int v22_kept])), (h23, .inl (cJ, 10, .inr (.inl r23))), (h24, .inl (cJ, 10, .inr (.inl r24))), (h25, .inr (7, [.ref h26, .int v25_segments])), (h26, .inl (cI, 200, .inl r26)), (h28, .inr (2, [.ref h29, .int v28_most, .int v28_rungs])), (h29, .inl (cI, 6, .inl r29)), (h30, .inr (4, [.ref h31, .ref h32, .int v30_total, .int v30_phases])), (h31, .inl (cI, 20, .inl r31)), (h32, .inl (cI, 20, .inl r32)), (h34, .inr (2, [.ref h35, .int v34_most, .int v34_rungs])), (h35, .inl (cI, 6, .inl r35)), (h36, .inl (cI, 20, .inl r36)), (h37, .inl (cI, 2, .inl r37)), (h38, .inl (cI, 20, .inl r38)), (h39, .inl (cJ, 760, .inr (.inl r39))), (h40, .inl (cI, 15, .inl r40)), (h41, .inl (cI, 12, .inl r41)), (h42, .inl (cJ, 760, .inr (.inl r42))), (h0, .inr (9, [.ref h27, .ref h15, .ref h3])), (h15, .inr (6, [.ref h27, .ref h25, .ref h17, .ref h22, .ref h19, .ref h16, .ref h20, .int v15_mode, .int v15_startThreshold, .int v15_lastRung, .int v15_lastChange, .int v15_state, .int v15_time, .int v15_position])), (h27, .inr (8, [.ref h33, .ref h34, .ref h28, .ref h30])), (h33, .inl (cI, 15, .inl u2)), (h2, .inl (cJ, 1, .inr (.inl u3)))] H := hP
  have hD : va_D A [(h1, .inr (10, [.ref h40, .ref h41, .ref h37, .ref h38, .ref h36, .int v1_phases, .ref h39, .ref h42, .int v1_has, .int v1_thrown])), (h3, .inr (6, [.ref h27, .ref h13, .ref h5, .ref h10, .ref h7, .ref h4, .ref h8, .int v3_mode, .int v3_startThreshold, .int v3_lastRung, .int v3_lastChange, .int v3_state, .int v3_time, .int v3_position])), (h4, .inr (0, [.int v4_startUpTime, .int v4_stallTime, .int v4_playTime, .int v4_stalls, .int v4_abandoned, .int v4_finished, .int v4_switches, .long v4_wasted, .long v4_quality])), (h5, .inr (7, [.ref h6, .int v5_segments])), (h6, .inl (cI, 200, .inl r6)), (h7, .inr (1, [.int v7_going, .int v7_track, .int v7_segment, .int v7_rung, .int v7_waiting, .int v7_duration, .long v7_bits, .long v7_received])), (h8, .inr (3, [.ref h9, .int v8_length])), (h9, .inl (cC, 300, .inl r9)), (h10, .inr (5, [.ref h11, .ref h12, .int v10_kept])), (h11, .inl (cJ, 10, .inr (.inl r11))), (h12, .inl (cJ, 10, .inr (.inl r12))), (h13, .inr (7, [.ref h14, .int v13_segments])), (h14, .inl (cI, 200, .inl r14)), (h16, .inr (0, [.int v16_startUpTime, .int v16_stallTime, .int v16_playTime, .int v16_stalls, .int v16_abandoned, .int v16_finished, .int v16_switches, .long v16_wasted, .long v16_quality])), (h17, .inr (7, [.ref h18, .int v17_segments])), (h18, .inl (cI, 200, .inl r18)), (h19, .inr (1, [.int v19_going, .int v19_track, .int v19_segment, .int v19_rung, .int v19_waiting, .int v19_duration, .long v19_bits, .long v19_received])), (h20, .inr (3, [.ref h21, .int v20_length])), (h21, .inl (cC, 300, .inl r21)), (h22, .inr (5, [.ref h23, .ref h24, .int v22_kept])), (h23, .inl (cJ, 10, .inr (.inl r23))), (h24, .inl (cJ, 10, .inr (.inl r24))), (h25, .inr (7, [.ref h26, .int v25_segments])), (h26, .inl (cI, 200, .inl r26)), (h28, .inr (2, [.ref h29, .int v28_most, .int v28_rungs])), (h29, .inl (cI, 6, .inl r29)), (h30, .inr (4, [.ref h31, .ref h32, .int v30_total, .int v30_phases])), (h31, .inl (cI, 20, .inl r31)), (h32, .inl (cI, 20, .inl r32)), (h34, .inr (2, [.ref h35, .int v34_most, .int v34_rungs])), (h35, .inl (cI, 6, .inl r35)), (h36, .inl (cI, 20, .inl r36)), (h37, .inl (cI, 2, .inl r37)), (h38, .inl (cI, 20, .inl r38)), (h39, .inl (cJ, 760, .inr (.inl r39))), (h40, .inl (cI, 15, .inl r40)), (h41, .inl (cI, 12, .inl r41)), (h42, .inl (cJ, 760, .inr (.inl r42))), (h0, .inr (9, [.ref h27, .ref h15, .ref h3])), (h15, .inr (6, [.ref h27, .ref h25, .ref h17, .ref h22, .ref h19, .ref h16, .ref h20, .int v15_mode, .int v15_startThreshold, .int v15_lastRung, .int v15_lastChange, .int v15_state, .int v15_time, .int v15_position])), (h27, .inr (8, [.ref h33, .ref h34, .ref h28, .ref h30])), (h33, .inl (cI, 15, .inl u2)), (h2, .inl (cJ, 1, .inr (.inl u3)))] := hD
  refine lv_istore (lv' := [(5, .int y1), (0, .ref b), (1, .ref h0), (2, .ref h1), (3, .ref h2), (4, .int l4)]) hx hb dL_law_193 hl (by decide) rfl (fun ls hl => ?_)
  refine lv_aload_n hx hb dL_law_195 rfl (lv_at hl 3 rfl) ?_
  refine lv_aload_n hx hb dL_law_196 rfl (lv_at hl 1 rfl) ?_
  refine lv_iload hx hb dL_law_197 (lv_at hl 5 rfl) ?_
  refine lv_iconst (v := 1) hx hb dL_law_199 li_1 ?_
  refine lv_iadd hx hb dL_law_200 ?_
  refine va_sld hx hb hX hbl hbA hS hv1 dL_law_201 ?_
  refine lv_aload_n hx hb dL_law_202 rfl (lv_at hl 1 rfl) ?_
  refine lv_iload hx hb dL_law_203 (lv_at hl 5 rfl) ?_
  refine lv_iconst (v := 2) hx hb dL_law_205 li_2 ?_
  refine lv_iadd hx hb dL_law_206 ?_
  refine va_sld hx hb hX hbl hbA hS hv2 dL_law_207 ?_
  obtain ⟨y4, y5, u6, e_y4, h⟩ := obnd3_eq h
  refine wrV (pc1 := 211) (rest := []) (st1 := [.int y4]) (wr := [(h3, .inr (6, [.ref h27, .ref h13, .ref h5, .ref h10, .ref h7, .ref h4, .ref h8, .int v3_mode, .int v3_startThreshold, .int v3_lastRung, .int v3_lastChange, .int v3_state, .int v3_time, .int v3_position])), (h4, .inr (0, [.int v4_startUpTime, .int v4_stallTime, .int v4_playTime, .int v4_stalls, .int v4_abandoned, .int v4_finished, .int v4_switches, .long v4_wasted, .long v4_quality])), (h5, .inr (7, [.ref h6, .int v5_segments])), (h6, .inl (cI, 200, .inl r6)), (h7, .inr (1, [.int v7_going, .int v7_track, .int v7_segment, .int v7_rung, .int v7_waiting, .int v7_duration, .long v7_bits, .long v7_received])), (h8, .inr (3, [.ref h9, .int v8_length])), (h9, .inl (cC, 300, .inl r9)), (h10, .inr (5, [.ref h11, .ref h12, .int v10_kept])), (h11, .inl (cJ, 10, .inr (.inl r11))), (h12, .inl (cJ, 10, .inr (.inl r12))), (h13, .inr (7, [.ref h14, .int v13_segments])), (h14, .inl (cI, 200, .inl r14)), (h16, .inr (0, [.int v16_startUpTime, .int v16_stallTime, .int v16_playTime, .int v16_stalls, .int v16_abandoned, .int v16_finished, .int v16_switches, .long v16_wasted, .long v16_quality])), (h17, .inr (7, [.ref h18, .int v17_segments])), (h18, .inl (cI, 200, .inl r18)), (h19, .inr (1, [.int v19_going, .int v19_track, .int v19_segment, .int v19_rung, .int v19_waiting, .int v19_duration, .long v19_bits, .long v19_received])), (h20, .inr (3, [.ref h21, .int v20_length])), (h21, .inl (cC, 300, .inl r21)), (h22, .inr (5, [.ref h23, .ref h24, .int v22_kept])), (h23, .inl (cJ, 10, .inr (.inl r23))), (h24, .inl (cJ, 10, .inr (.inl r24))), (h25, .inr (7, [.ref h26, .int v25_segments])), (h26, .inl (cI, 200, .inl r26)), (h28, .inr (2, [.ref h29, .int v28_most, .int v28_rungs])), (h29, .inl (cI, 6, .inl r29)), (h30, .inr (4, [.ref h31, .ref h32, .int v30_total, .int v30_phases])), (h31, .inl (cI, 20, .inl r31)), (h32, .inl (cI, 20, .inl r32)), (h34, .inr (2, [.ref h35, .int v34_most, .int v34_rungs])), (h35, .inl (cI, 6, .inl r35)), (h36, .inl (cI, 20, .inl r36)), (h37, .inl (cI, 2, .inl r37)), (h38, .inl (cI, 20, .inl r38)), (h39, .inl (cJ, 760, .inr (.inl r39))), (h41, .inl (cI, 12, .inl r41)), (h42, .inl (cJ, 760, .inr (.inl r42))), (h0, .inr (9, [.ref h27, .ref h15, .ref h3])), (h15, .inr (6, [.ref h27, .ref h25, .ref h17, .ref h22, .ref h19, .ref h16, .ref h20, .int v15_mode, .int v15_startThreshold, .int v15_lastRung, .int v15_lastChange, .int v15_state, .int v15_time, .int v15_position])), (h27, .inr (8, [.ref h33, .ref h34, .ref h28, .ref h30])), (h33, .inl (cI, 15, .inl u2)), (h2, .inl (cJ, 1, .inr (.inl u3)))]) S (c_X10_setParameter l D cI cJ cC h1 h40 h41 h37 h38 h36 h39 h42 v1_phases v1_has v1_thrown r40 H.size (xs (l4 + 1).toNatClampNeg) (xs (l4 + 2).toNatClampNeg) (y4, y5, u6) e_y4) (cw_L_117 S.2.2.2.2 ⟨Nat.le_of_ble_eq_true rfl, Nat.le_of_ble_eq_true rfl⟩) hK hP hD hS hA [0, 35] [1, 2, 3, 4, 5, 6, 7, 8, 9, 10, 11, 12, 13, 14, 15, 16, 17, 18, 19, 20, 21, 22, 23, 24, 25, 26, 27, 28, 29, 30, 31, 32, 33, 34, 36, 37, 38, 39, 40, 41, 42] rfl rfl rfl (by decide) (by decide) (by decide) rfl rfl rfl rfl hl.1 rfl (Nat.le_of_ble_eq_true rfl) (lwf (by omega) (by omega)) rfl rfl dL_law_208 (fun H locs hP hD hS => ?_)
  have hP : va_P D vwCl [(h3, .inr (6, [.ref h27, .ref h13, .ref h5, .ref h10, .ref h7, .ref h4, .ref h8, .int v3_mode, .int v3_startThreshold, .int v3_lastRung, .int v3_lastChange, .int v3_state, .int v3_time, .int v3_position])), (h4, .inr (0, [.int v4_startUpTime, .int v4_stallTime, .int v4_playTime, .int v4_stalls, .int v4_abandoned, .int v4_finished, .int v4_switches, .long v4_wasted, .long v4_quality])), (h5, .inr (7, [.ref h6, .int v5_segments])), (h6, .inl (cI, 200, .inl r6)), (h7, .inr (1, [.int v7_going, .int v7_track, .int v7_segment, .int v7_rung, .int v7_waiting, .int v7_duration, .long v7_bits, .long v7_received])), (h8, .inr (3, [.ref h9, .int v8_length])), (h9, .inl (cC, 300, .inl r9)), (h10, .inr (5, [.ref h11, .ref h12, .int v10_kept])), (h11, .inl (cJ, 10, .inr (.inl r11))), (h12, .inl (cJ, 10, .inr (.inl r12))), (h13, .inr (7, [.ref h14, .int v13_segments])), (h14, .inl (cI, 200, .inl r14)), (h16, .inr (0, [.int v16_startUpTime, .int v16_stallTime, .int v16_playTime, .int v16_stalls, .int v16_abandoned, .int v16_finished, .int v16_switches, .long v16_wasted, .long v16_quality])), (h17, .inr (7, [.ref h18, .int v17_segments])), (h18, .inl (cI, 200, .inl r18)), (h19, .inr (1, [.int v19_going, .int v19_track, .int v19_segment, .int v19_rung, .int v19_waiting, .int v19_duration, .long v19_bits, .long v19_received])), (h20, .inr (3, [.ref h21, .int v20_length])), (h21, .inl (cC, 300, .inl r21)), (h22, .inr (5, [.ref h23, .ref h24, .int v22_kept])), (h23, .inl (cJ, 10, .inr (.inl r23))), (h24, .inl (cJ, 10, .inr (.inl r24))), (h25, .inr (7, [.ref h26, .int v25_segments])), (h26, .inl (cI, 200, .inl r26)), (h28, .inr (2, [.ref h29, .int v28_most, .int v28_rungs])), (h29, .inl (cI, 6, .inl r29)), (h30, .inr (4, [.ref h31, .ref h32, .int v30_total, .int v30_phases])), (h31, .inl (cI, 20, .inl r31)), (h32, .inl (cI, 20, .inl r32)), (h34, .inr (2, [.ref h35, .int v34_most, .int v34_rungs])), (h35, .inl (cI, 6, .inl r35)), (h36, .inl (cI, 20, .inl r36)), (h37, .inl (cI, 2, .inl r37)), (h38, .inl (cI, 20, .inl r38)), (h39, .inl (cJ, 760, .inr (.inl r39))), (h41, .inl (cI, 12, .inl r41)), (h42, .inl (cJ, 760, .inr (.inl r42))), (h0, .inr (9, [.ref h27, .ref h15, .ref h3])), (h15, .inr (6, [.ref h27, .ref h25, .ref h17, .ref h22, .ref h19, .ref h16, .ref h20, .int v15_mode, .int v15_startThreshold, .int v15_lastRung, .int v15_lastChange, .int v15_state, .int v15_time, .int v15_position])), (h27, .inr (8, [.ref h33, .ref h34, .ref h28, .ref h30])), (h33, .inl (cI, 15, .inl u2)), (h2, .inl (cJ, 1, .inr (.inl u3))), (h1, .inr (10, [.ref h40, .ref h41, .ref h37, .ref h38, .ref h36, .int v1_phases, .ref h39, .ref h42, .int v1_has, .int y5])), (h40, .inl (cI, 15, .inl u6))] H := hP
  have hD : va_D A [(h3, .inr (6, [.ref h27, .ref h13, .ref h5, .ref h10, .ref h7, .ref h4, .ref h8, .int v3_mode, .int v3_startThreshold, .int v3_lastRung, .int v3_lastChange, .int v3_state, .int v3_time, .int v3_position])), (h4, .inr (0, [.int v4_startUpTime, .int v4_stallTime, .int v4_playTime, .int v4_stalls, .int v4_abandoned, .int v4_finished, .int v4_switches, .long v4_wasted, .long v4_quality])), (h5, .inr (7, [.ref h6, .int v5_segments])), (h6, .inl (cI, 200, .inl r6)), (h7, .inr (1, [.int v7_going, .int v7_track, .int v7_segment, .int v7_rung, .int v7_waiting, .int v7_duration, .long v7_bits, .long v7_received])), (h8, .inr (3, [.ref h9, .int v8_length])), (h9, .inl (cC, 300, .inl r9)), (h10, .inr (5, [.ref h11, .ref h12, .int v10_kept])), (h11, .inl (cJ, 10, .inr (.inl r11))), (h12, .inl (cJ, 10, .inr (.inl r12))), (h13, .inr (7, [.ref h14, .int v13_segments])), (h14, .inl (cI, 200, .inl r14)), (h16, .inr (0, [.int v16_startUpTime, .int v16_stallTime, .int v16_playTime, .int v16_stalls, .int v16_abandoned, .int v16_finished, .int v16_switches, .long v16_wasted, .long v16_quality])), (h17, .inr (7, [.ref h18, .int v17_segments])), (h18, .inl (cI, 200, .inl r18)), (h19, .inr (1, [.int v19_going, .int v19_track, .int v19_segment, .int v19_rung, .int v19_waiting, .int v19_duration, .long v19_bits, .long v19_received])), (h20, .inr (3, [.ref h21, .int v20_length])), (h21, .inl (cC, 300, .inl r21)), (h22, .inr (5, [.ref h23, .ref h24, .int v22_kept])), (h23, .inl (cJ, 10, .inr (.inl r23))), (h24, .inl (cJ, 10, .inr (.inl r24))), (h25, .inr (7, [.ref h26, .int v25_segments])), (h26, .inl (cI, 200, .inl r26)), (h28, .inr (2, [.ref h29, .int v28_most, .int v28_rungs])), (h29, .inl (cI, 6, .inl r29)), (h30, .inr (4, [.ref h31, .ref h32, .int v30_total, .int v30_phases])), (h31, .inl (cI, 20, .inl r31)), (h32, .inl (cI, 20, .inl r32)), (h34, .inr (2, [.ref h35, .int v34_most, .int v34_rungs])), (h35, .inl (cI, 6, .inl r35)), (h36, .inl (cI, 20, .inl r36)), (h37, .inl (cI, 2, .inl r37)), (h38, .inl (cI, 20, .inl r38)), (h39, .inl (cJ, 760, .inr (.inl r39))), (h41, .inl (cI, 12, .inl r41)), (h42, .inl (cJ, 760, .inr (.inl r42))), (h0, .inr (9, [.ref h27, .ref h15, .ref h3])), (h15, .inr (6, [.ref h27, .ref h25, .ref h17, .ref h22, .ref h19, .ref h16, .ref h20, .int v15_mode, .int v15_startThreshold, .int v15_lastRung, .int v15_lastChange, .int v15_state, .int v15_time, .int v15_position])), (h27, .inr (8, [.ref h33, .ref h34, .ref h28, .ref h30])), (h33, .inl (cI, 15, .inl u2)), (h2, .inl (cJ, 1, .inr (.inl u3))), (h1, .inr (10, [.ref h40, .ref h41, .ref h37, .ref h38, .ref h36, .int v1_phases, .ref h39, .ref h42, .int v1_has, .int y5])), (h40, .inl (cI, 15, .inl u6))] := hD
  refine lv_istore (lv' := [(6, .int y4), (5, .int y1), (0, .ref b), (1, .ref h0), (2, .ref h1), (3, .ref h2), (4, .int l4)]) hx hb dL_law_211 hl (by decide) rfl (fun ls hl => ?_)
  refine lv_aload_n hx hb dL_law_213 rfl (lv_at hl 4 rfl) ?_
  refine rdV (pc1 := 217) (rest := []) (st1 := [.int (f_X10_thrown y5)]) S (c_X10_thrown l D cI cJ cC h1 h40 h41 h37 h38 h36 h39 h42 v1_phases v1_has y5  _ rfl) (cw_L_118 S.2.2.2.2 ⟨Nat.le_of_ble_eq_true rfl, Nat.le_of_ble_eq_true rfl⟩) hK (hP.sub [41] rfl) rfl rfl rfl rfl hl.1 rfl (Nat.le_of_ble_eq_true rfl) (lwf (by omega) (by omega)) rfl rfl dL_law_214 ?_
  refine lv_iload hx hb dL_law_217 (lv_at hl 1 rfl) ?_
  refine lv_icmp_eq (tgt := 224) hx hb dL_law_219 (by decide) (fun c7 => ?_) (fun c7 => ?_)
  · have h := iteP c7 h
    refine lv_iload hx hb dL_law_224 (lv_at hl 1 rfl) ?_
    refine lv_if_ne (tgt := 241) hx hb dL_law_226 (by decide) (fun c8 => ?_) (fun c8 => ?_)
    · have h := iteN c8 h
      refine lv_goto (tgt := 1773) hx hb dL_law_241 (by decide) ?_
      refine lv_iinc (v := l4 + 4) (lv' := [(4, .int (l4 + 4)), (6, .int y4), (5, .int y1), (0, .ref b), (1, .ref h0), (2, .ref h1), (3, .ref h2)]) hx hb dL_law_1773 hl (k := 6) rfl rfl (by decide) rfl (fun ls hl => ?_)
      refine lv_goto (tgt := 23) hx hb dL_law_1776 (by decide) ?_
      exact hk v1_phases v1_has y5 u3 v3_mode v3_startThreshold v3_lastRung v3_lastChange v3_state v3_time v3_position v4_startUpTime v4_stallTime v4_playTime v4_stalls v4_abandoned v4_finished v4_switches v4_wasted v4_quality v5_segments r6 v7_going v7_track v7_segment v7_rung v7_waiting v7_duration v7_bits v7_received v8_length r9 v10_kept r11 r12 v13_segments r14 v15_mode v15_startThreshold v15_lastRung v15_lastChange v15_state v15_time v15_position v16_startUpTime v16_stallTime v16_playTime v16_stalls v16_abandoned v16_finished v16_switches v16_wasted v16_quality v17_segments r18 v19_going v19_track v19_segment v19_rung v19_waiting v19_duration v19_bits v19_received v20_length r21 v22_kept r23 r24 v25_segments r26 v28_rungs r29 v30_total v30_phases r31 r32 u2 v34_rungs r35 r36 r37 r38 r39 u6 r41 r42 (l4 + 4) (cells + 3) (slots + 18) _ _ _ hy0 hy1 (by omega) (by omega) h (hP.sub [36, 41, 40, 0, 1, 2, 3, 4, 5, 6, 7, 8, 9, 10, 11, 37, 12, 13, 14, 15, 16, 17, 18, 19, 20, 21, 22, 38, 23, 24, 25, 26, 27, 39, 28, 29, 30, 31, 32, 33, 42, 34, 35] rfl) (hD.sub [36, 41, 40, 0, 1, 2, 3, 4, 5, 6, 7, 8, 9, 10, 11, 37, 12, 13, 14, 15, 16, 17, 18, 19, 20, 21, 22, 38, 23, 24, 25, 26, 27, 39, 28, 29, 30, 31, 32, 33, 42, 34, 35] (by decide) rfl) hS (lv_sub hl [3, 4, 5, 6, 0] rfl)
    · have h := iteP c8 h
      refine lv_aload_n hx hb dL_law_229 rfl (lv_at hl 5 rfl) ?_
      refine lv_iconst (v := 0) hx hb dL_law_230 li_0 ?_
      refine aldJ (k := 0) (q0 := 40) S hK hP rfl vl_0_1 tn_0 dL_law_231 ?_
      refine lv_iload hx hb dL_law_232 (lv_at hl 0 rfl) ?_
      refine lv_i2l hx hb dL_law_234 rfl ?_
      refine lc_eq (tgt := 241) hx hb dL_law_235 dL_law_236 (by decide) (fun c9 => ?_) (fun c9 => ?_)
      · have h := iteP c9 h
        refine lv_goto (tgt := 1773) hx hb dL_law_241 (by decide) ?_
        refine lv_iinc (v := l4 + 4) (lv' := [(4, .int (l4 + 4)), (6, .int y4), (5, .int y1), (0, .ref b), (1, .ref h0), (2, .ref h1), (3, .ref h2)]) hx hb dL_law_1773 hl (k := 6) rfl rfl (by decide) rfl (fun ls hl => ?_)
        refine lv_goto (tgt := 23) hx hb dL_law_1776 (by decide) ?_
        exact hk v1_phases v1_has y5 u3 v3_mode v3_startThreshold v3_lastRung v3_lastChange v3_state v3_time v3_position v4_startUpTime v4_stallTime v4_playTime v4_stalls v4_abandoned v4_finished v4_switches v4_wasted v4_quality v5_segments r6 v7_going v7_track v7_segment v7_rung v7_waiting v7_duration v7_bits v7_received v8_length r9 v10_kept r11 r12 v13_segments r14 v15_mode v15_startThreshold v15_lastRung v15_lastChange v15_state v15_time v15_position v16_startUpTime v16_stallTime v16_playTime v16_stalls v16_abandoned v16_finished v16_switches v16_wasted v16_quality v17_segments r18 v19_going v19_track v19_segment v19_rung v19_waiting v19_duration v19_bits v19_received v20_length r21 v22_kept r23 r24 v25_segments r26 v28_rungs r29 v30_total v30_phases r31 r32 u2 v34_rungs r35 r36 r37 r38 r39 u6 r41 r42 (l4 + 4) (cells + 3) (slots + 18) _ _ _ hy0 hy1 (by omega) (by omega) h (hP.sub [36, 41, 40, 0, 1, 2, 3, 4, 5, 6, 7, 8, 9, 10, 11, 37, 12, 13, 14, 15, 16, 17, 18, 19, 20, 21, 22, 38, 23, 24, 25, 26, 27, 39, 28, 29, 30, 31, 32, 33, 42, 34, 35] rfl) (hD.sub [36, 41, 40, 0, 1, 2, 3, 4, 5, 6, 7, 8, 9, 10, 11, 37, 12, 13, 14, 15, 16, 17, 18, 19, 20, 21, 22, 38, 23, 24, 25, 26, 27, 39, 28, 29, 30, 31, 32, 33, 42, 34, 35] (by decide) rfl) hS (lv_sub hl [3, 4, 5, 6, 0] rfl)
      · have h := iteN c9 h
        refine lv_iconst (v := 0) hx hb dL_law_239 li_0 ?_
        exact absurd (Option.some.inj h) (by decide)
  · have h := iteN c7 h
    refine lv_iconst (v := 0) hx hb dL_law_222 li_0 ?_
    exact absurd (Option.some.inj h) (by decide)
def f_L_law_b244 (v28_most v34_most : Int32) (xs : Nat → Int32) (K : Int32 → Int32 → Int32 → (Nat → Int64) → Int32 → Int32 → Int32 → Int32 → Int32 → Int32 → Int32 → Int32 → Int32 → Int32 → Int32 → Int32 → Int32 → Int32 → Int64 → Int64 → Int32 → (Nat → Int32) → Int32 → Int32 → Int32 → Int32 → Int32 → Int32 → Int64 → Int64 → Int32 → (Nat → Int32) → Int32 → (Nat → Int64) → (Nat → Int64) → Int32 → (Nat → Int32) → Int32 → Int32 → Int32 → Int32 → Int32 → Int32 → Int32 → Int32 → Int32 → Int32 → Int32 → Int32 → Int32 → Int32 → Int64 → Int64 → Int32 → (Nat → Int32) → Int32 → Int32 → Int32 → Int32 → Int32 → Int32 → Int64 → Int64 → Int32 → (Nat → Int32) → Int32 → (Nat → Int64) → (Nat → Int64) → Int32 → (Nat → Int32) → Int32 → (Nat → Int32) → Int32 → Int32 → (Nat → Int32) → (Nat → Int32) → (Nat → Int32) → Int32 → (Nat → Int32) → (Nat → Int32) → (Nat → Int32) → (Nat → Int32) → (Nat → Int64) → (Nat → Int32) → (Nat → Int32) → (Nat → Int64) → Int32 → Option Int32) (v1_phases v1_has : Int32) (r2 : Nat → Int64) (v3_mode v3_startThreshold v3_lastRung v3_lastChange v3_state v3_time v3_position v4_startUpTime v4_stallTime v4_playTime v4_stalls v4_abandoned v4_finished v4_switches : Int32) (v4_wasted v4_quality : Int64) (v5_segments : Int32) (r6 : Nat → Int32) (v7_going v7_track v7_segment v7_rung v7_waiting v7_duration : Int32) (v7_bits v7_received : Int64) (v8_length : Int32) (r9 : Nat → Int32) (v10_kept : Int32) (r11 r12 : Nat → Int64) (v13_segments : Int32) (r14 : Nat → Int32) (v15_mode v15_startThreshold v15_lastRung v15_lastChange v15_state v15_time v15_position v16_startUpTime v16_stallTime v16_playTime v16_stalls v16_abandoned v16_finished v16_switches : Int32) (v16_wasted v16_quality : Int64) (v17_segments : Int32) (r18 : Nat → Int32) (v19_going v19_track v19_segment v19_rung v19_waiting v19_duration : Int32) (v19_bits v19_received : Int64) (v20_length : Int32) (r21 : Nat → Int32) (v22_kept : Int32) (r23 r24 : Nat → Int64) (v25_segments : Int32) (r26 : Nat → Int32) (v28_rungs : Int32) (r29 : Nat → Int32) (v30_total v30_phases : Int32) (r31 r32 r33 : Nat → Int32) (v34_rungs : Int32) (r35 r36 r37 r38 : Nat → Int32) (r39 : Nat → Int64) (r40 r41 : Nat → Int32) (r42 : Nat → Int64) (l4 : Int32) : Option Int32 :=
  obnd6 (f_L_addRung v15_state v28_most v28_rungs r29 v34_most v34_rungs r35 r2 (xs (l4 + 1).toNatClampNeg) (xs (l4 + 2).toNatClampNeg)) fun (y1 : Int32) (y2 : Int32) (u3 : Nat → Int32) (y4 : Int32) (u5 : Nat → Int32) (u6 : Nat → Int64) =>
  obnd4 (f_X10_addRung v1_has r37 r41 (xs (l4 + 1).toNatClampNeg) (xs (l4 + 2).toNatClampNeg)) fun (y7 : Int32) (y8 : Int32) (u9 : Nat → Int32) (u10 : Nat → Int32) =>
  if (f_X10_thrown y8) = y1 then
    if y1 = 0 then
      if (u6 0) = y7.toInt64 then
        K v1_phases v1_has y8 u6 v3_mode v3_startThreshold v3_lastRung v3_lastChange v3_state v3_time v3_position v4_startUpTime v4_stallTime v4_playTime v4_stalls v4_abandoned v4_finished v4_switches v4_wasted v4_quality v5_segments r6 v7_going v7_track v7_segment v7_rung v7_waiting v7_duration v7_bits v7_received v8_length r9 v10_kept r11 r12 v13_segments r14 v15_mode v15_startThreshold v15_lastRung v15_lastChange v15_state v15_time v15_position v16_startUpTime v16_stallTime v16_playTime v16_stalls v16_abandoned v16_finished v16_switches v16_wasted v16_quality v17_segments r18 v19_going v19_track v19_segment v19_rung v19_waiting v19_duration v19_bits v19_received v20_length r21 v22_kept r23 r24 v25_segments r26 y2 u3 v30_total v30_phases r31 r32 r33 y4 u5 r36 u9 r38 r39 r40 u10 r42 (l4 + 4)
      else
        some 0
    else
      K v1_phases v1_has y8 u6 v3_mode v3_startThreshold v3_lastRung v3_lastChange v3_state v3_time v3_position v4_startUpTime v4_stallTime v4_playTime v4_stalls v4_abandoned v4_finished v4_switches v4_wasted v4_quality v5_segments r6 v7_going v7_track v7_segment v7_rung v7_waiting v7_duration v7_bits v7_received v8_length r9 v10_kept r11 r12 v13_segments r14 v15_mode v15_startThreshold v15_lastRung v15_lastChange v15_state v15_time v15_position v16_startUpTime v16_stallTime v16_playTime v16_stalls v16_abandoned v16_finished v16_switches v16_wasted v16_quality v17_segments r18 v19_going v19_track v19_segment v19_rung v19_waiting v19_duration v19_bits v19_received v20_length r21 v22_kept r23 r24 v25_segments r26 y2 u3 v30_total v30_phases r31 r32 r33 y4 u5 r36 u9 r38 r39 r40 u10 r42 (l4 + 4)
  else
    some 0
set_option maxHeartbeats 4000000 in
set_option maxRecDepth 100000 in
theorem k_L_law_b244 {p : Program} {l : Launch} {e : Env} {s : State} {m : MethodId} {below : List Frame} {meth : Method} {c : Code} {D : va_G} {cI cJ cC : ClassId} {A : Nat → Prop} {ga : Nat → Nat} {b L : Nat} {xs : Nat → Int32} {h0 h1 h2 h3 h4 h5 h6 h7 h8 h9 h10 h11 h12 h13 h14 h15 h16 h17 h18 h19 h20 h21 h22 h23 h24 h25 h26 h27 h28 h29 h30 h31 h32 h33 h34 h35 h36 h37 h38 h39 h40 h41 h42 : Nat} {v28_most v34_most : Int32} (hfl : l.stackTraces = false) (S : CallFix p m c cL_law 8 s #[Value.ref b] TB RL) (hr : meth.sig.returnType = ret) (hlk : meth.locks = false) (hK : va_K D vwCl (ty3 cI cJ cC) s) (hX : va_X b L xs s s.heap) (hbl : b < s.heap.size) (hbA : ¬ A b) (hA : ∀ q : Nat, s.heap.size ≤ q → A q) (hAf : ∀ q : Nat, A q → s.heap.size ≤ q) (hG : GX ga A s) (hL : L ≤ 2048) {K : Int32 → Int32 → Int32 → (Nat → Int64) → Int32 → Int32 → Int32 → Int32 → Int32 → Int32 → Int32 → Int32 → Int32 → Int32 → Int32 → Int32 → Int32 → Int32 → Int64 → Int64 → Int32 → (Nat → Int32) → Int32 → Int32 → Int32 → Int32 → Int32 → Int32 → Int64 → Int64 → Int32 → (Nat → Int32) → Int32 → (Nat → Int64) → (Nat → Int64) → Int32 → (Nat → Int32) → Int32 → Int32 → Int32 → Int32 → Int32 → Int32 → Int32 → Int32 → Int32 → Int32 → Int32 → Int32 → Int32 → Int32 → Int64 → Int64 → Int32 → (Nat → Int32) → Int32 → Int32 → Int32 → Int32 → Int32 → Int32 → Int64 → Int64 → Int32 → (Nat → Int32) → Int32 → (Nat → Int64) → (Nat → Int64) → Int32 → (Nat → Int32) → Int32 → (Nat → Int32) → Int32 → Int32 → (Nat → Int32) → (Nat → Int32) → (Nat → Int32) → Int32 → (Nat → Int32) → (Nat → Int32) → (Nat → Int32) → (Nat → Int32) → (Nat → Int64) → (Nat → Int32) → (Nat → Int32) → (Nat → Int64) → Int32 → Option Int32} {n : Nat} (hk : ∀ (v1_phases v1_has v1_thrown : Int32) (r2 : Nat → Int64) (v3_mode v3_startThreshold v3_lastRung v3_lastChange v3_state v3_time v3_position v4_startUpTime v4_stallTime v4_playTime v4_stalls v4_abandoned v4_finished v4_switches : Int32) (v4_wasted v4_quality : Int64) (v5_segments : Int32) (r6 : Nat → Int32) (v7_going v7_track v7_segment v7_rung v7_waiting v7_duration : Int32) (v7_bits v7_received : Int64) (v8_length : Int32) (r9 : Nat → Int32) (v10_kept : Int32) (r11 r12 : Nat → Int64) (v13_segments : Int32) (r14 : Nat → Int32) (v15_mode v15_startThreshold v15_lastRung v15_lastChange v15_state v15_time v15_position v16_startUpTime v16_stallTime v16_playTime v16_stalls v16_abandoned v16_finished v16_switches : Int32) (v16_wasted v16_quality : Int64) (v17_segments : Int32) (r18 : Nat → Int32) (v19_going v19_track v19_segment v19_rung v19_waiting v19_duration : Int32) (v19_bits v19_received : Int64) (v20_length : Int32) (r21 : Nat → Int32) (v22_kept : Int32) (r23 r24 : Nat → Int64) (v25_segments : Int32) (r26 : Nat → Int32) (v28_rungs : Int32) (r29 : Nat → Int32) (v30_total v30_phases : Int32) (r31 r32 r33 : Nat → Int32) (v34_rungs : Int32) (r35 r36 r37 r38 : Nat → Int32) (r39 : Nat → Int64) (r40 r41 : Nat → Int32) (r42 : Nat → Int64) (l4 : Int32) (cells slots : Nat) (H : Heap) (locs : List Loc) (ls : Array Slot), 0 ≤ l4 → lwmu L l4 < n → cells + lwmu L l4 ≤ 3000 → slots + 6 * lwmu L l4 ≤ 20000 → K v1_phases v1_has v1_thrown r2 v3_mode v3_startThreshold v3_lastRung v3_lastChange v3_state v3_time v3_position v4_startUpTime v4_stallTime v4_playTime v4_stalls v4_abandoned v4_finished v4_switches v4_wasted v4_quality v5_segments r6 v7_going v7_track v7_segment v7_rung v7_waiting v7_duration v7_bits v7_received v8_length r9 v10_kept r11 r12 v13_segments r14 v15_mode v15_startThreshold v15_lastRung v15_lastChange v15_state v15_time v15_position v16_startUpTime v16_stallTime v16_playTime v16_stalls v16_abandoned v16_finished v16_switches v16_wasted v16_quality v17_segments r18 v19_going v19_track v19_segment v19_rung v19_waiting v19_duration v19_bits v19_received v20_length r21 v22_kept r23 r24 v25_segments r26 v28_rungs r29 v30_total v30_phases r31 r32 r33 v34_rungs r35 r36 r37 r38 r39 r40 r41 r42 l4 = some 1 → va_P D vwCl [(h0, .inr (9, [.ref h27, .ref h15, .ref h3])), (h1, .inr (10, [.ref h40, .ref h41, .ref h37, .ref h38, .ref h36, .int v1_phases, .ref h39, .ref h42, .int v1_has, .int v1_thrown])), (h2, .inl (cJ, 1, .inr (.inl r2))), (h3, .inr (6, [.ref h27, .ref h13, .ref h5, .ref h10, .ref h7, .ref h4, .ref h8, .int v3_mode, .int v3_startThreshold, .int v3_lastRung, .int v3_lastChange, .int v3_state, .int v3_time, .int v3_position])), (h4, .inr (0, [.int v4_startUpTime, .int v4_stallTime, .int v4_playTime, .int v4_stalls, .int v4_abandoned, .int v4_finished, .int v4_switches, .long v4_wasted, .long v4_quality])), (h5, .inr (7, [.ref h6, .int v5_segments])), (h6, .inl (cI, 200, .inl r6)), (h7, .inr (1, [.int v7_going, .int v7_track, .int v7_segment, .int v7_rung, .int v7_waiting, .int v7_duration, .long v7_bits, .long v7_received])), (h8, .inr (3, [.ref h9, .int v8_length])), (h9, .inl (cC, 300, .inl r9)), (h10, .inr (5, [.ref h11, .ref h12, .int v10_kept])), (h11, .inl (cJ, 10, .inr (.inl r11))), (h12, .inl (cJ, 10, .inr (.inl r12))), (h13, .inr (7, [.ref h14, .int v13_segments])), (h14, .inl (cI, 200, .inl r14)), (h15, .inr (6, [.ref h27, .ref h25, .ref h17, .ref h22, .ref h19, .ref h16, .ref h20, .int v15_mode, .int v15_startThreshold, .int v15_lastRung, .int v15_lastChange, .int v15_state, .int v15_time, .int v15_position])), (h16, .inr (0, [.int v16_startUpTime, .int v16_stallTime, .int v16_playTime, .int v16_stalls, .int v16_abandoned, .int v16_finished, .int v16_switches, .long v16_wasted, .long v16_quality])), (h17, .inr (7, [.ref h18, .int v17_segments])), (h18, .inl (cI, 200, .inl r18)), (h19, .inr (1, [.int v19_going, .int v19_track, .int v19_segment, .int v19_rung, .int v19_waiting, .int v19_duration, .long v19_bits, .long v19_received])), (h20, .inr (3, [.ref h21, .int v20_length])), (h21, .inl (cC, 300, .inl r21)), (h22, .inr (5, [.ref h23, .ref h24, .int v22_kept])), (h23, .inl (cJ, 10, .inr (.inl r23))), (h24, .inl (cJ, 10, .inr (.inl r24))), (h25, .inr (7, [.ref h26, .int v25_segments])), (h26, .inl (cI, 200, .inl r26)), (h27, .inr (8, [.ref h33, .ref h34, .ref h28, .ref h30])), (h28, .inr (2, [.ref h29, .int v28_most, .int v28_rungs])), (h29, .inl (cI, 6, .inl r29)), (h30, .inr (4, [.ref h31, .ref h32, .int v30_total, .int v30_phases])), (h31, .inl (cI, 20, .inl r31)), (h32, .inl (cI, 20, .inl r32)), (h33, .inl (cI, 15, .inl r33)), (h34, .inr (2, [.ref h35, .int v34_most, .int v34_rungs])), (h35, .inl (cI, 6, .inl r35)), (h36, .inl (cI, 20, .inl r36)), (h37, .inl (cI, 2, .inl r37)), (h38, .inl (cI, 20, .inl r38)), (h39, .inl (cJ, 760, .inr (.inl r39))), (h40, .inl (cI, 15, .inl r40)), (h41, .inl (cI, 12, .inl r41)), (h42, .inl (cJ, 760, .inr (.inl r42)))] H → va_D A [(h0, .inr (9, [.ref h27, .ref h15, .ref h3])), (h1, .inr (10, [.ref h40, .ref h41, .ref h37, .ref h38, .ref h36, .int v1_phases, .ref h39, .ref h42, .int v1_has, .int v1_thrown])), (h2, .inl (cJ, 1, .inr (.inl r2))), (h3, .inr (6, [.ref h27, .ref h13, .ref h5, .ref h10, .ref h7, .ref h4, .ref h8, .int v3_mode, .int v3_startThreshold, .int v3_lastRung, .int v3_lastChange, .int v3_state, .int v3_time, .int v3_position])), (h4, .inr (0, [.int v4_startUpTime, .int v4_stallTime, .int v4_playTime, .int v4_stalls, .int v4_abandoned, .int v4_finished, .int v4_switches, .long v4_wasted, .long v4_quality])), (h5, .inr (7, [.ref h6, .int v5_segments])), (h6, .inl (cI, 200, .inl r6)), (h7, .inr (1, [.int v7_going, .int v7_track, .int v7_segment, .int v7_rung, .int v7_waiting, .int v7_duration, .long v7_bits, .long v7_received])), (h8, .inr (3, [.ref h9, .int v8_length])), (h9, .inl (cC, 300, .inl r9)), (h10, .inr (5, [.ref h11, .ref h12, .int v10_kept])), (h11, .inl (cJ, 10, .inr (.inl r11))), (h12, .inl (cJ, 10, .inr (.inl r12))), (h13, .inr (7, [.ref h14, .int v13_segments])), (h14, .inl (cI, 200, .inl r14)), (h15, .inr (6, [.ref h27, .ref h25, .ref h17, .ref h22, .ref h19, .ref h16, .ref h20, .int v15_mode, .int v15_startThreshold, .int v15_lastRung, .int v15_lastChange, .int v15_state, .int v15_time, .int v15_position])), (h16, .inr (0, [.int v16_startUpTime, .int v16_stallTime, .int v16_playTime, .int v16_stalls, .int v16_abandoned, .int v16_finished, .int v16_switches, .long v16_wasted, .long v16_quality])), (h17, .inr (7, [.ref h18, .int v17_segments])), (h18, .inl (cI, 200, .inl r18)), (h19, .inr (1, [.int v19_going, .int v19_track, .int v19_segment, .int v19_rung, .int v19_waiting, .int v19_duration, .long v19_bits, .long v19_received])), (h20, .inr (3, [.ref h21, .int v20_length])), (h21, .inl (cC, 300, .inl r21)), (h22, .inr (5, [.ref h23, .ref h24, .int v22_kept])), (h23, .inl (cJ, 10, .inr (.inl r23))), (h24, .inl (cJ, 10, .inr (.inl r24))), (h25, .inr (7, [.ref h26, .int v25_segments])), (h26, .inl (cI, 200, .inl r26)), (h27, .inr (8, [.ref h33, .ref h34, .ref h28, .ref h30])), (h28, .inr (2, [.ref h29, .int v28_most, .int v28_rungs])), (h29, .inl (cI, 6, .inl r29)), (h30, .inr (4, [.ref h31, .ref h32, .int v30_total, .int v30_phases])), (h31, .inl (cI, 20, .inl r31)), (h32, .inl (cI, 20, .inl r32)), (h33, .inl (cI, 15, .inl r33)), (h34, .inr (2, [.ref h35, .int v34_most, .int v34_rungs])), (h35, .inl (cI, 6, .inl r35)), (h36, .inl (cI, 20, .inl r36)), (h37, .inl (cI, 2, .inl r37)), (h38, .inl (cI, 20, .inl r38)), (h39, .inl (cJ, 760, .inr (.inl r39))), (h40, .inl (cI, 15, .inl r40)), (h41, .inl (cI, 12, .inl r41)), (h42, .inl (cJ, 760, .inr (.inl r42)))] → va_S A s.heap H locs → lv_has ls 8 [(0, .ref b), (1, .ref h0), (2, .ref h1), (3, .ref h2), (4, .int l4)] → W p l e room_1 s m #[Value.ref b] below meth c H locs cells slots (lw_Z below #[Value.ref b] s) (F0 m 23 ls [])) : ∀ (v1_phases v1_has v1_thrown : Int32) (r2 : Nat → Int64) (v3_mode v3_startThreshold v3_lastRung v3_lastChange v3_state v3_time v3_position v4_startUpTime v4_stallTime v4_playTime v4_stalls v4_abandoned v4_finished v4_switches : Int32) (v4_wasted v4_quality : Int64) (v5_segments : Int32) (r6 : Nat → Int32) (v7_going v7_track v7_segment v7_rung v7_waiting v7_duration : Int32) (v7_bits v7_received : Int64) (v8_length : Int32) (r9 : Nat → Int32) (v10_kept : Int32) (r11 r12 : Nat → Int64) (v13_segments : Int32) (r14 : Nat → Int32) (v15_mode v15_startThreshold v15_lastRung v15_lastChange v15_state v15_time v15_position v16_startUpTime v16_stallTime v16_playTime v16_stalls v16_abandoned v16_finished v16_switches : Int32) (v16_wasted v16_quality : Int64) (v17_segments : Int32) (r18 : Nat → Int32) (v19_going v19_track v19_segment v19_rung v19_waiting v19_duration : Int32) (v19_bits v19_received : Int64) (v20_length : Int32) (r21 : Nat → Int32) (v22_kept : Int32) (r23 r24 : Nat → Int64) (v25_segments : Int32) (r26 : Nat → Int32) (v28_rungs : Int32) (r29 : Nat → Int32) (v30_total v30_phases : Int32) (r31 r32 r33 : Nat → Int32) (v34_rungs : Int32) (r35 r36 r37 r38 : Nat → Int32) (r39 : Nat → Int64) (r40 r41 : Nat → Int32) (r42 : Nat → Int64) (l4 : Int32) (cells slots : Nat) (H : Heap) (locs : List Loc) (ls : Array Slot), lwcy L n cells slots l4 → f_L_law_b244 v28_most v34_most xs K v1_phases v1_has r2 v3_mode v3_startThreshold v3_lastRung v3_lastChange v3_state v3_time v3_position v4_startUpTime v4_stallTime v4_playTime v4_stalls v4_abandoned v4_finished v4_switches v4_wasted v4_quality v5_segments r6 v7_going v7_track v7_segment v7_rung v7_waiting v7_duration v7_bits v7_received v8_length r9 v10_kept r11 r12 v13_segments r14 v15_mode v15_startThreshold v15_lastRung v15_lastChange v15_state v15_time v15_position v16_startUpTime v16_stallTime v16_playTime v16_stalls v16_abandoned v16_finished v16_switches v16_wasted v16_quality v17_segments r18 v19_going v19_track v19_segment v19_rung v19_waiting v19_duration v19_bits v19_received v20_length r21 v22_kept r23 r24 v25_segments r26 v28_rungs r29 v30_total v30_phases r31 r32 r33 v34_rungs r35 r36 r37 r38 r39 r40 r41 r42 l4 = some 1 → va_P D vwCl [(h0, .inr (9, [.ref h27, .ref h15, .ref h3])), (h1, .inr (10, [.ref h40, .ref h41, .ref h37, .ref h38, .ref h36, .int v1_phases, .ref h39, .ref h42, .int v1_has, .int v1_thrown])), (h2, .inl (cJ, 1, .inr (.inl r2))), (h3, .inr (6, [.ref h27, .ref h13, .ref h5, .ref h10, .ref h7, .ref h4, .ref h8, .int v3_mode, .int v3_startThreshold, .int v3_lastRung, .int v3_lastChange, .int v3_state, .int v3_time, .int v3_position])), (h4, .inr (0, [.int v4_startUpTime, .int v4_stallTime, .int v4_playTime, .int v4_stalls, .int v4_abandoned, .int v4_finished, .int v4_switches, .long v4_wasted, .long v4_quality])), (h5, .inr (7, [.ref h6, .int v5_segments])), (h6, .inl (cI, 200, .inl r6)), (h7, .inr (1, [.int v7_going, .int v7_track, .int v7_segment, .int v7_rung, .int v7_waiting, .int v7_duration, .long v7_bits, .long v7_received])), (h8, .inr (3, [.ref h9, .int v8_length])), (h9, .inl (cC, 300, .inl r9)), (h10, .inr (5, [.ref h11, .ref h12, .int v10_kept])), (h11, .inl (cJ, 10, .inr (.inl r11))), (h12, .inl (cJ, 10, .inr (.inl r12))), (h13, .inr (7, [.ref h14, .int v13_segments])), (h14, .inl (cI, 200, .inl r14)), (h15, .inr (6, [.ref h27, .ref h25, .ref h17, .ref h22, .ref h19, .ref h16, .ref h20, .int v15_mode, .int v15_startThreshold, .int v15_lastRung, .int v15_lastChange, .int v15_state, .int v15_time, .int v15_position])), (h16, .inr (0, [.int v16_startUpTime, .int v16_stallTime, .int v16_playTime, .int v16_stalls, .int v16_abandoned, .int v16_finished, .int v16_switches, .long v16_wasted, .long v16_quality])), (h17, .inr (7, [.ref h18, .int v17_segments])), (h18, .inl (cI, 200, .inl r18)), (h19, .inr (1, [.int v19_going, .int v19_track, .int v19_segment, .int v19_rung, .int v19_waiting, .int v19_duration, .long v19_bits, .long v19_received])), (h20, .inr (3, [.ref h21, .int v20_length])), (h21, .inl (cC, 300, .inl r21)), (h22, .inr (5, [.ref h23, .ref h24, .int v22_kept])), (h23, .inl (cJ, 10, .inr (.inl r23))), (h24, .inl (cJ, 10, .inr (.inl r24))), (h25, .inr (7, [.ref h26, .int v25_segments])), (h26, .inl (cI, 200, .inl r26)), (h27, .inr (8, [.ref h33, .ref h34, .ref h28, .ref h30])), (h28, .inr (2, [.ref h29, .int v28_most, .int v28_rungs])), (h29, .inl (cI, 6, .inl r29)), (h30, .inr (4, [.ref h31, .ref h32, .int v30_total, .int v30_phases])), (h31, .inl (cI, 20, .inl r31)), (h32, .inl (cI, 20, .inl r32)), (h33, .inl (cI, 15, .inl r33)), (h34, .inr (2, [.ref h35, .int v34_most, .int v34_rungs])), (h35, .inl (cI, 6, .inl r35)), (h36, .inl (cI, 20, .inl r36)), (h37, .inl (cI, 2, .inl r37)), (h38, .inl (cI, 20, .inl r38)), (h39, .inl (cJ, 760, .inr (.inl r39))), (h40, .inl (cI, 15, .inl r40)), (h41, .inl (cI, 12, .inl r41)), (h42, .inl (cJ, 760, .inr (.inl r42)))] H → va_D A [(h0, .inr (9, [.ref h27, .ref h15, .ref h3])), (h1, .inr (10, [.ref h40, .ref h41, .ref h37, .ref h38, .ref h36, .int v1_phases, .ref h39, .ref h42, .int v1_has, .int v1_thrown])), (h2, .inl (cJ, 1, .inr (.inl r2))), (h3, .inr (6, [.ref h27, .ref h13, .ref h5, .ref h10, .ref h7, .ref h4, .ref h8, .int v3_mode, .int v3_startThreshold, .int v3_lastRung, .int v3_lastChange, .int v3_state, .int v3_time, .int v3_position])), (h4, .inr (0, [.int v4_startUpTime, .int v4_stallTime, .int v4_playTime, .int v4_stalls, .int v4_abandoned, .int v4_finished, .int v4_switches, .long v4_wasted, .long v4_quality])), (h5, .inr (7, [.ref h6, .int v5_segments])), (h6, .inl (cI, 200, .inl r6)), (h7, .inr (1, [.int v7_going, .int v7_track, .int v7_segment, .int v7_rung, .int v7_waiting, .int v7_duration, .long v7_bits, .long v7_received])), (h8, .inr (3, [.ref h9, .int v8_length])), (h9, .inl (cC, 300, .inl r9)), (h10, .inr (5, [.ref h11, .ref h12, .int v10_kept])), (h11, .inl (cJ, 10, .inr (.inl r11))), (h12, .inl (cJ, 10, .inr (.inl r12))), (h13, .inr (7, [.ref h14, .int v13_segments])), (h14, .inl (cI, 200, .inl r14)), (h15, .inr (6, [.ref h27, .ref h25, .ref h17, .ref h22, .ref h19, .ref h16, .ref h20, .int v15_mode, .int v15_startThreshold, .int v15_lastRung, .int v15_lastChange, .int v15_state, .int v15_time, .int v15_position])), (h16, .inr (0, [.int v16_startUpTime, .int v16_stallTime, .int v16_playTime, .int v16_stalls, .int v16_abandoned, .int v16_finished, .int v16_switches, .long v16_wasted, .long v16_quality])), (h17, .inr (7, [.ref h18, .int v17_segments])), (h18, .inl (cI, 200, .inl r18)), (h19, .inr (1, [.int v19_going, .int v19_track, .int v19_segment, .int v19_rung, .int v19_waiting, .int v19_duration, .long v19_bits, .long v19_received])), (h20, .inr (3, [.ref h21, .int v20_length])), (h21, .inl (cC, 300, .inl r21)), (h22, .inr (5, [.ref h23, .ref h24, .int v22_kept])), (h23, .inl (cJ, 10, .inr (.inl r23))), (h24, .inl (cJ, 10, .inr (.inl r24))), (h25, .inr (7, [.ref h26, .int v25_segments])), (h26, .inl (cI, 200, .inl r26)), (h27, .inr (8, [.ref h33, .ref h34, .ref h28, .ref h30])), (h28, .inr (2, [.ref h29, .int v28_most, .int v28_rungs])), (h29, .inl (cI, 6, .inl r29)), (h30, .inr (4, [.ref h31, .ref h32, .int v30_total, .int v30_phases])), (h31, .inl (cI, 20, .inl r31)), (h32, .inl (cI, 20, .inl r32)), (h33, .inl (cI, 15, .inl r33)), (h34, .inr (2, [.ref h35, .int v34_most, .int v34_rungs])), (h35, .inl (cI, 6, .inl r35)), (h36, .inl (cI, 20, .inl r36)), (h37, .inl (cI, 2, .inl r37)), (h38, .inl (cI, 20, .inl r38)), (h39, .inl (cJ, 760, .inr (.inl r39))), (h40, .inl (cI, 15, .inl r40)), (h41, .inl (cI, 12, .inl r41)), (h42, .inl (cJ, 760, .inr (.inl r42)))] → va_S A s.heap H locs → lv_has ls 8 [(0, .ref b), (1, .ref h0), (2, .ref h1), (3, .ref h2), (4, .int l4)] → W p l e room_1 s m #[Value.ref b] below meth c H locs cells slots (lw_Z below #[Value.ref b] s) (F0 m 244 ls []) := by
  have hx := S.1
  have hb := S.2.1
  intro v1_phases v1_has v1_thrown r2 v3_mode v3_startThreshold v3_lastRung v3_lastChange v3_state v3_time v3_position v4_startUpTime v4_stallTime v4_playTime v4_stalls v4_abandoned v4_finished v4_switches v4_wasted v4_quality v5_segments r6 v7_going v7_track v7_segment v7_rung v7_waiting v7_duration v7_bits v7_received v8_length r9 v10_kept r11 r12 v13_segments r14 v15_mode v15_startThreshold v15_lastRung v15_lastChange v15_state v15_time v15_position v16_startUpTime v16_stallTime v16_playTime v16_stalls v16_abandoned v16_finished v16_switches v16_wasted v16_quality v17_segments r18 v19_going v19_track v19_segment v19_rung v19_waiting v19_duration v19_bits v19_received v20_length r21 v22_kept r23 r24 v25_segments r26 v28_rungs r29 v30_total v30_phases r31 r32 r33 v34_rungs r35 r36 r37 r38 r39 r40 r41 r42 l4 cells slots H locs ls hcy h hP hD hS hl
  obtain ⟨hy0, hy1, hy2, hy3, hv0, hv1, hv2, hv3⟩ := hcy
  refine lv_aload_n hx hb dL_law_244 rfl (lv_at hl 1 rfl) ?_
  refine lv_aload_n hx hb dL_law_245 rfl (lv_at hl 0 rfl) ?_
  refine lv_iload hx hb dL_law_246 (lv_at hl 4 rfl) ?_
  refine lv_iconst (v := 1) hx hb dL_law_248 li_1 ?_
  refine lv_iadd hx hb dL_law_249 ?_
  refine va_sld hx hb hX hbl hbA hS hv1 dL_law_250 ?_
  refine lv_aload_n hx hb dL_law_251 rfl (lv_at hl 0 rfl) ?_
  refine lv_iload hx hb dL_law_252 (lv_at hl 4 rfl) ?_
  refine lv_iconst (v := 2) hx hb dL_law_254 li_2 ?_
  refine lv_iadd hx hb dL_law_255 ?_
  refine va_sld hx hb hX hbl hbA hS hv2 dL_law_256 ?_
  refine lv_aload_n hx hb dL_law_257 rfl (lv_at hl 3 rfl) ?_
  obtain ⟨y1, y2, u3, y4, u5, u6, e_y1, h⟩ := obnd6_eq h
  refine lcS (pc1 := 261) (rest := []) (st1 := [.int y1]) (wr := [(h1, .inr (10, [.ref h40, .ref h41, .ref h37, .ref h38, .ref h36, .int v1_phases, .ref h39, .ref h42, .int v1_has, .int v1_thrown])), (h3, .inr (6, [.ref h27, .ref h13, .ref h5, .ref h10, .ref h7, .ref h4, .ref h8, .int v3_mode, .int v3_startThreshold, .int v3_lastRung, .int v3_lastChange, .int v3_state, .int v3_time, .int v3_position])), (h4, .inr (0, [.int v4_startUpTime, .int v4_stallTime, .int v4_playTime, .int v4_stalls, .int v4_abandoned, .int v4_finished, .int v4_switches, .long v4_wasted, .long v4_quality])), (h5, .inr (7, [.ref h6, .int v5_segments])), (h6, .inl (cI, 200, .inl r6)), (h7, .inr (1, [.int v7_going, .int v7_track, .int v7_segment, .int v7_rung, .int v7_waiting, .int v7_duration, .long v7_bits, .long v7_received])), (h8, .inr (3, [.ref h9, .int v8_length])), (h9, .inl (cC, 300, .inl r9)), (h10, .inr (5, [.ref h11, .ref h12, .int v10_kept])), (h11, .inl (cJ, 10, .inr (.inl r11))), (h12, .inl (cJ, 10, .inr (.inl r12))), (h13, .inr (7, [.ref h14, .int v13_segments])), (h14, .inl (cI, 200, .inl r14)), (h16, .inr (0, [.int v16_startUpTime, .int v16_stallTime, .int v16_playTime, .int v16_stalls, .int v16_abandoned, .int v16_finished, .int v16_switches, .long v16_wasted, .long v16_quality])), (h17, .inr (7, [.ref h18, .int v17_segments])), (h18, .inl (cI, 200, .inl r18)), (h19, .inr (1, [.int v19_going, .int v19_track, .int v19_segment, .int v19_rung, .int v19_waiting, .int v19_duration, .long v19_bits, .long v19_received])), (h20, .inr (3, [.ref h21, .int v20_length])), (h21, .inl (cC, 300, .inl r21)), (h22, .inr (5, [.ref h23, .ref h24, .int v22_kept])), (h23, .inl (cJ, 10, .inr (.inl r23))), (h24, .inl (cJ, 10, .inr (.inl r24))), (h25, .inr (7, [.ref h26, .int v25_segments])), (h26, .inl (cI, 200, .inl r26)), (h30, .inr (4, [.ref h31, .ref h32, .int v30_total, .int v30_phases])), (h31, .inl (cI, 20, .inl r31)), (h32, .inl (cI, 20, .inl r32)), (h33, .inl (cI, 15, .inl r33)), (h36, .inl (cI, 20, .inl r36)), (h37, .inl (cI, 2, .inl r37)), (h38, .inl (cI, 20, .inl r38)), (h39, .inl (cJ, 760, .inr (.inl r39))), (h40, .inl (cI, 15, .inl r40)), (h41, .inl (cI, 12, .inl r41)), (h42, .inl (cJ, 760, .inr (.inl r42)))]) (cells1 := cells + 4) (slots1 := slots + 24) S (c_L_addRung l hfl ga D cI cJ cC h0 h15 h27 h28 h29 h34 h35 h2 h3 h25 h17 h22 h19 h16 h20 h33 h30 v15_mode v15_startThreshold v15_lastRung v15_lastChange v15_state v15_time v15_position v28_most v28_rungs r29 v34_most v34_rungs r35 r2 H.size (xs (l4 + 1).toNatClampNeg) (xs (l4 + 2).toNatClampNeg) (y1, y2, u3, y4, u5, u6) e_y1) (cw_L_121 S.2.2.2.2 ⟨Nat.le_of_ble_eq_true rfl, Nat.le_of_ble_eq_true rfl⟩) hK hP hD hS hA hG [0, 15, 27, 28, 29, 34, 35, 2] [1, 3, 4, 5, 6, 7, 8, 9, 10, 11, 12, 13, 14, 16, 17, 18, 19, 20, 21, 22, 23, 24, 25, 26, 30, 31, 32, 33, 36, 37, 38, 39, 40, 41, 42] rfl rfl rfl (by decide) (by decide) (by decide) rfl hl.1 rfl (Nat.le_of_ble_eq_true rfl) (lwf (by omega) (by omega)) rfl rfl rfl rfl dL_law_258 (fun H locs hP hD hS => ?_)
  have hP : va_P D vwCl [(h1, .inr (10, [.ref h40, .ref h41, .ref h37, .ref h38, .ref h36, .int v1_phases, .ref h39, .ref h42, .int v1_has, .int v1_thrown])), (h3, .inr (6, [.ref h27, .ref h13, .ref h5, .ref h10, .ref h7, .ref h4, .ref h8, .int v3_mode, .int v3_startThreshold, .int v3_lastRung, .int v3_lastChange, .int v3_state, .int v3_time, .int v3_position])), (h4, .inr (0, [.int v4_startUpTime, .int v4_stallTime, .int v4_playTime, .int v4_stalls, .int v4_abandoned, .int v4_finished, .int v4_switches, .long v4_wasted, .long v4_quality])), (h5, .inr (7, [.ref h6, .int v5_segments])), (h6, .inl (cI, 200, .inl r6)), (h7, .inr (1, [.int v7_going, .int v7_track, .int v7_segment, .int v7_rung, .int v7_waiting, .int v7_duration, .long v7_bits, .long v7_received])), (h8, .inr (3, [.ref h9, .int v8_length])), (h9, .inl (cC, 300, .inl r9)), (h10, .inr (5, [.ref h11, .ref h12, .int v10_kept])), (h11, .inl (cJ, 10, .inr (.inl r11))), (h12, .inl (cJ, 10, .inr (.inl r12))), (h13, .inr (7, [.ref h14, .int v13_segments])), (h14, .inl (cI, 200, .inl r14)), (h16, .inr (0, [.int v16_startUpTime, .int v16_stallTime, .int v16_playTime, .int v16_stalls, .int v16_abandoned, .int v16_finished, .int v16_switches, .long v16_wasted, .long v16_quality])), (h17, .inr (7, [.ref h18, .int v17_segments])), (h18, .inl (cI, 200, .inl r18)), (h19, .inr (1, [.int v19_going, .int v19_track, .int v19_segment, .int v19_rung, .int v19_waiting, .int v19_duration, .long v19_bits, .long v19_received])), (h20, .inr (3, [.ref h21, .int v20_length])), (h21, .inl (cC, 300, .inl r21)), (h22, .inr (5, [.ref h23, .ref h24, .int v22_kept])), (h23, .inl (cJ, 10, .inr (.inl r23))), (h24, .inl (cJ, 10, .inr (.inl r24))), (h25, .inr (7, [.ref h26, .int v25_segments])), (h26, .inl (cI, 200, .inl r26)), (h30, .inr (4, [.ref h31, .ref h32, .int v30_total, .int v30_phases])), (h31, .inl (cI, 20, .inl r31)), (h32, .inl (cI, 20, .inl r32)), (h33, .inl (cI, 15, .inl r33)), (h36, .inl (cI, 20, .inl r36)), (h37, .inl (cI, 2, .inl r37)), (h38, .inl (cI, 20, .inl r38)), (h39, .inl (cJ, 760, .inr (.inl r39))), (h40, .inl (cI, 15, .inl r40)), (h41, .inl (cI, 12, .inl r41)), (h42, .inl (cJ, 760, .inr (.inl r42))), (h0, .inr (9, [.ref h27, .ref h15, .ref h3])), (h15, .inr (6, [.ref h27, .ref h25, .ref h17, .ref h22, .ref h19, .ref h16, .ref h20, .int v15_mode, .int v15_startThreshold, .int v15_lastRung, .int v15_lastChange, .int v15_state, .int v15_time, .int v15_position])), (h27, .inr (8, [.ref h33, .ref h34, .ref h28, .ref h30])), (h28, .inr (2, [.ref h29, .int v28_most, .int y2])), (h29, .inl (cI, 6, .inl u3)), (h34, .inr (2, [.ref h35, .int v34_most, .int y4])), (h35, .inl (cI, 6, .inl u5)), (h2, .inl (cJ, 1, .inr (.inl u6)))] H := hP
  have hD : va_D A [(h1, .inr (10, [.ref h40, .ref h41, .ref h37, .ref h38, .ref h36, .int v1_phases, .ref h39, .ref h42, .int v1_has, .int v1_thrown])), (h3, .inr (6, [.ref h27, .ref h13, .ref h5, .ref h10, .ref h7, .ref h4, .ref h8, .int v3_mode, .int v3_startThreshold, .int v3_lastRung, .int v3_lastChange, .int v3_state, .int v3_time, .int v3_position])), (h4, .inr (0, [.int v4_startUpTime, .int v4_stallTime, .int v4_playTime, .int v4_stalls, .int v4_abandoned, .int v4_finished, .int v4_switches, .long v4_wasted, .long v4_quality])), (h5, .inr (7, [.ref h6, .int v5_segments])), (h6, .inl (cI, 200, .inl r6)), (h7, .inr (1, [.int v7_going, .int v7_track, .int v7_segment, .int v7_rung, .int v7_waiting, .int v7_duration, .long v7_bits, .long v7_received])), (h8, .inr (3, [.ref h9, .int v8_length])), (h9, .inl (cC, 300, .inl r9)), (h10, .inr (5, [.ref h11, .ref h12, .int v10_kept])), (h11, .inl (cJ, 10, .inr (.inl r11))), (h12, .inl (cJ, 10, .inr (.inl r12))), (h13, .inr (7, [.ref h14, .int v13_segments])), (h14, .inl (cI, 200, .inl r14)), (h16, .inr (0, [.int v16_startUpTime, .int v16_stallTime, .int v16_playTime, .int v16_stalls, .int v16_abandoned, .int v16_finished, .int v16_switches, .long v16_wasted, .long v16_quality])), (h17, .inr (7, [.ref h18, .int v17_segments])), (h18, .inl (cI, 200, .inl r18)), (h19, .inr (1, [.int v19_going, .int v19_track, .int v19_segment, .int v19_rung, .int v19_waiting, .int v19_duration, .long v19_bits, .long v19_received])), (h20, .inr (3, [.ref h21, .int v20_length])), (h21, .inl (cC, 300, .inl r21)), (h22, .inr (5, [.ref h23, .ref h24, .int v22_kept])), (h23, .inl (cJ, 10, .inr (.inl r23))), (h24, .inl (cJ, 10, .inr (.inl r24))), (h25, .inr (7, [.ref h26, .int v25_segments])), (h26, .inl (cI, 200, .inl r26)), (h30, .inr (4, [.ref h31, .ref h32, .int v30_total, .int v30_phases])), (h31, .inl (cI, 20, .inl r31)), (h32, .inl (cI, 20, .inl r32)), (h33, .inl (cI, 15, .inl r33)), (h36, .inl (cI, 20, .inl r36)), (h37, .inl (cI, 2, .inl r37)), (h38, .inl (cI, 20, .inl r38)), (h39, .inl (cJ, 760, .inr (.inl r39))), (h40, .inl (cI, 15, .inl r40)), (h41, .inl (cI, 12, .inl r41)), (h42, .inl (cJ, 760, .inr (.inl r42))), (h0, .inr (9, [.ref h27, .ref h15, .ref h3])), (h15, .inr (6, [.ref h27, .ref h25, .ref h17, .ref h22, .ref h19, .ref h16, .ref h20, .int v15_mode, .int v15_startThreshold, .int v15_lastRung, .int v15_lastChange, .int v15_state, .int v15_time, .int v15_position])), (h27, .inr (8, [.ref h33, .ref h34, .ref h28, .ref h30])), (h28, .inr (2, [.ref h29, .int v28_most, .int y2])), (h29, .inl (cI, 6, .inl u3)), (h34, .inr (2, [.ref h35, .int v34_most, .int y4])), (h35, .inl (cI, 6, .inl u5)), (h2, .inl (cJ, 1, .inr (.inl u6)))] := hD
  refine lv_istore (lv' := [(5, .int y1), (0, .ref b), (1, .ref h0), (2, .ref h1), (3, .ref h2), (4, .int l4)]) hx hb dL_law_261 hl (by decide) rfl (fun ls hl => ?_)
  refine lv_aload_n hx hb dL_law_263 rfl (lv_at hl 3 rfl) ?_
  refine lv_aload_n hx hb dL_law_264 rfl (lv_at hl 1 rfl) ?_
  refine lv_iload hx hb dL_law_265 (lv_at hl 5 rfl) ?_
  refine lv_iconst (v := 1) hx hb dL_law_267 li_1 ?_
  refine lv_iadd hx hb dL_law_268 ?_
  refine va_sld hx hb hX hbl hbA hS hv1 dL_law_269 ?_
  refine lv_aload_n hx hb dL_law_270 rfl (lv_at hl 1 rfl) ?_
  refine lv_iload hx hb dL_law_271 (lv_at hl 5 rfl) ?_
  refine lv_iconst (v := 2) hx hb dL_law_273 li_2 ?_
  refine lv_iadd hx hb dL_law_274 ?_
  refine va_sld hx hb hX hbl hbA hS hv2 dL_law_275 ?_
  obtain ⟨y7, y8, u9, u10, e_y7, h⟩ := obnd4_eq h
  refine wrV (pc1 := 279) (rest := []) (st1 := [.int y7]) (wr := [(h3, .inr (6, [.ref h27, .ref h13, .ref h5, .ref h10, .ref h7, .ref h4, .ref h8, .int v3_mode, .int v3_startThreshold, .int v3_lastRung, .int v3_lastChange, .int v3_state, .int v3_time, .int v3_position])), (h4, .inr (0, [.int v4_startUpTime, .int v4_stallTime, .int v4_playTime, .int v4_stalls, .int v4_abandoned, .int v4_finished, .int v4_switches, .long v4_wasted, .long v4_quality])), (h5, .inr (7, [.ref h6, .int v5_segments])), (h6, .inl (cI, 200, .inl r6)), (h7, .inr (1, [.int v7_going, .int v7_track, .int v7_segment, .int v7_rung, .int v7_waiting, .int v7_duration, .long v7_bits, .long v7_received])), (h8, .inr (3, [.ref h9, .int v8_length])), (h9, .inl (cC, 300, .inl r9)), (h10, .inr (5, [.ref h11, .ref h12, .int v10_kept])), (h11, .inl (cJ, 10, .inr (.inl r11))), (h12, .inl (cJ, 10, .inr (.inl r12))), (h13, .inr (7, [.ref h14, .int v13_segments])), (h14, .inl (cI, 200, .inl r14)), (h16, .inr (0, [.int v16_startUpTime, .int v16_stallTime, .int v16_playTime, .int v16_stalls, .int v16_abandoned, .int v16_finished, .int v16_switches, .long v16_wasted, .long v16_quality])), (h17, .inr (7, [.ref h18, .int v17_segments])), (h18, .inl (cI, 200, .inl r18)), (h19, .inr (1, [.int v19_going, .int v19_track, .int v19_segment, .int v19_rung, .int v19_waiting, .int v19_duration, .long v19_bits, .long v19_received])), (h20, .inr (3, [.ref h21, .int v20_length])), (h21, .inl (cC, 300, .inl r21)), (h22, .inr (5, [.ref h23, .ref h24, .int v22_kept])), (h23, .inl (cJ, 10, .inr (.inl r23))), (h24, .inl (cJ, 10, .inr (.inl r24))), (h25, .inr (7, [.ref h26, .int v25_segments])), (h26, .inl (cI, 200, .inl r26)), (h30, .inr (4, [.ref h31, .ref h32, .int v30_total, .int v30_phases])), (h31, .inl (cI, 20, .inl r31)), (h32, .inl (cI, 20, .inl r32)), (h33, .inl (cI, 15, .inl r33)), (h36, .inl (cI, 20, .inl r36)), (h38, .inl (cI, 20, .inl r38)), (h39, .inl (cJ, 760, .inr (.inl r39))), (h40, .inl (cI, 15, .inl r40)), (h42, .inl (cJ, 760, .inr (.inl r42))), (h0, .inr (9, [.ref h27, .ref h15, .ref h3])), (h15, .inr (6, [.ref h27, .ref h25, .ref h17, .ref h22, .ref h19, .ref h16, .ref h20, .int v15_mode, .int v15_startThreshold, .int v15_lastRung, .int v15_lastChange, .int v15_state, .int v15_time, .int v15_position])), (h27, .inr (8, [.ref h33, .ref h34, .ref h28, .ref h30])), (h28, .inr (2, [.ref h29, .int v28_most, .int y2])), (h29, .inl (cI, 6, .inl u3)), (h34, .inr (2, [.ref h35, .int v34_most, .int y4])), (h35, .inl (cI, 6, .inl u5)), (h2, .inl (cJ, 1, .inr (.inl u6)))]) S (c_X10_addRung l D cI cJ cC h1 h37 h41 h40 h38 h36 h39 h42 v1_phases v1_has v1_thrown r37 r41 H.size (xs (l4 + 1).toNatClampNeg) (xs (l4 + 2).toNatClampNeg) (y7, y8, u9, u10) e_y7) (cw_L_123 S.2.2.2.2 ⟨Nat.le_of_ble_eq_true rfl, Nat.le_of_ble_eq_true rfl⟩) hK hP hD hS hA [0, 29, 33] [1, 2, 3, 4, 5, 6, 7, 8, 9, 10, 11, 12, 13, 14, 15, 16, 17, 18, 19, 20, 21, 22, 23, 24, 25, 26, 27, 28, 30, 31, 32, 34, 35, 36, 37, 38, 39, 40, 41, 42] rfl rfl rfl (by decide) (by decide) (by decide) rfl rfl rfl rfl hl.1 rfl (Nat.le_of_ble_eq_true rfl) (lwf (by omega) (by omega)) rfl rfl dL_law_276 (fun H locs hP hD hS => ?_)
  have hP : va_P D vwCl [(h3, .inr (6, [.ref h27, .ref h13, .ref h5, .ref h10, .ref h7, .ref h4, .ref h8, .int v3_mode, .int v3_startThreshold, .int v3_lastRung, .int v3_lastChange, .int v3_state, .int v3_time, .int v3_position])), (h4, .inr (0, [.int v4_startUpTime, .int v4_stallTime, .int v4_playTime, .int v4_stalls, .int v4_abandoned, .int v4_finished, .int v4_switches, .long v4_wasted, .long v4_quality])), (h5, .inr (7, [.ref h6, .int v5_segments])), (h6, .inl (cI, 200, .inl r6)), (h7, .inr (1, [.int v7_going, .int v7_track, .int v7_segment, .int v7_rung, .int v7_waiting, .int v7_duration, .long v7_bits, .long v7_received])), (h8, .inr (3, [.ref h9, .int v8_length])), (h9, .inl (cC, 300, .inl r9)), (h10, .inr (5, [.ref h11, .ref h12, .int v10_kept])), (h11, .inl (cJ, 10, .inr (.inl r11))), (h12, .inl (cJ, 10, .inr (.inl r12))), (h13, .inr (7, [.ref h14, .int v13_segments])), (h14, .inl (cI, 200, .inl r14)), (h16, .inr (0, [.int v16_startUpTime, .int v16_stallTime, .int v16_playTime, .int v16_stalls, .int v16_abandoned, .int v16_finished, .int v16_switches, .long v16_wasted, .long v16_quality])), (h17, .inr (7, [.ref h18, .int v17_segments])), (h18, .inl (cI, 200, .inl r18)), (h19, .inr (1, [.int v19_going, .int v19_track, .int v19_segment, .int v19_rung, .int v19_waiting, .int v19_duration, .long v19_bits, .long v19_received])), (h20, .inr (3, [.ref h21, .int v20_length])), (h21, .inl (cC, 300, .inl r21)), (h22, .inr (5, [.ref h23, .ref h24, .int v22_kept])), (h23, .inl (cJ, 10, .inr (.inl r23))), (h24, .inl (cJ, 10, .inr (.inl r24))), (h25, .inr (7, [.ref h26, .int v25_segments])), (h26, .inl (cI, 200, .inl r26)), (h30, .inr (4, [.ref h31, .ref h32, .int v30_total, .int v30_phases])), (h31, .inl (cI, 20, .inl r31)), (h32, .inl (cI, 20, .inl r32)), (h33, .inl (cI, 15, .inl r33)), (h36, .inl (cI, 20, .inl r36)), (h38, .inl (cI, 20, .inl r38)), (h39, .inl (cJ, 760, .inr (.inl r39))), (h40, .inl (cI, 15, .inl r40)), (h42, .inl (cJ, 760, .inr (.inl r42))), (h0, .inr (9, [.ref h27, .ref h15, .ref h3])), (h15, .inr (6, [.ref h27, .ref h25, .ref h17, .ref h22, .ref h19, .ref h16, .ref h20, .int v15_mode, .int v15_startThreshold, .int v15_lastRung, .int v15_lastChange, .int v15_state, .int v15_time, .int v15_position])), (h27, .inr (8, [.ref h33, .ref h34, .ref h28, .ref h30])), (h28, .inr (2, [.ref h29, .int v28_most, .int y2])), (h29, .inl (cI, 6, .inl u3)), (h34, .inr (2, [.ref h35, .int v34_most, .int y4])), (h35, .inl (cI, 6, .inl u5)), (h2, .inl (cJ, 1, .inr (.inl u6))), (h1, .inr (10, [.ref h40, .ref h41, .ref h37, .ref h38, .ref h36, .int v1_phases, .ref h39, .ref h42, .int v1_has, .int y8])), (h37, .inl (cI, 2, .inl u9)), (h41, .inl (cI, 12, .inl u10))] H := hP
  have hD : va_D A [(h3, .inr (6, [.ref h27, .ref h13, .ref h5, .ref h10, .ref h7, .ref h4, .ref h8, .int v3_mode, .int v3_startThreshold, .int v3_lastRung, .int v3_lastChange, .int v3_state, .int v3_time, .int v3_position])), (h4, .inr (0, [.int v4_startUpTime, .int v4_stallTime, .int v4_playTime, .int v4_stalls, .int v4_abandoned, .int v4_finished, .int v4_switches, .long v4_wasted, .long v4_quality])), (h5, .inr (7, [.ref h6, .int v5_segments])), (h6, .inl (cI, 200, .inl r6)), (h7, .inr (1, [.int v7_going, .int v7_track, .int v7_segment, .int v7_rung, .int v7_waiting, .int v7_duration, .long v7_bits, .long v7_received])), (h8, .inr (3, [.ref h9, .int v8_length])), (h9, .inl (cC, 300, .inl r9)), (h10, .inr (5, [.ref h11, .ref h12, .int v10_kept])), (h11, .inl (cJ, 10, .inr (.inl r11))), (h12, .inl (cJ, 10, .inr (.inl r12))), (h13, .inr (7, [.ref h14, .int v13_segments])), (h14, .inl (cI, 200, .inl r14)), (h16, .inr (0, [.int v16_startUpTime, .int v16_stallTime, .int v16_playTime, .int v16_stalls, .int v16_abandoned, .int v16_finished, .int v16_switches, .long v16_wasted, .long v16_quality])), (h17, .inr (7, [.ref h18, .int v17_segments])), (h18, .inl (cI, 200, .inl r18)), (h19, .inr (1, [.int v19_going, .int v19_track, .int v19_segment, .int v19_rung, .int v19_waiting, .int v19_duration, .long v19_bits, .long v19_received])), (h20, .inr (3, [.ref h21, .int v20_length])), (h21, .inl (cC, 300, .inl r21)), (h22, .inr (5, [.ref h23, .ref h24, .int v22_kept])), (h23, .inl (cJ, 10, .inr (.inl r23))), (h24, .inl (cJ, 10, .inr (.inl r24))), (h25, .inr (7, [.ref h26, .int v25_segments])), (h26, .inl (cI, 200, .inl r26)), (h30, .inr (4, [.ref h31, .ref h32, .int v30_total, .int v30_phases])), (h31, .inl (cI, 20, .inl r31)), (h32, .inl (cI, 20, .inl r32)), (h33, .inl (cI, 15, .inl r33)), (h36, .inl (cI, 20, .inl r36)), (h38, .inl (cI, 20, .inl r38)), (h39, .inl (cJ, 760, .inr (.inl r39))), (h40, .inl (cI, 15, .inl r40)), (h42, .inl (cJ, 760, .inr (.inl r42))), (h0, .inr (9, [.ref h27, .ref h15, .ref h3])), (h15, .inr (6, [.ref h27, .ref h25, .ref h17, .ref h22, .ref h19, .ref h16, .ref h20, .int v15_mode, .int v15_startThreshold, .int v15_lastRung, .int v15_lastChange, .int v15_state, .int v15_time, .int v15_position])), (h27, .inr (8, [.ref h33, .ref h34, .ref h28, .ref h30])), (h28, .inr (2, [.ref h29, .int v28_most, .int y2])), (h29, .inl (cI, 6, .inl u3)), (h34, .inr (2, [.ref h35, .int v34_most, .int y4])), (h35, .inl (cI, 6, .inl u5)), (h2, .inl (cJ, 1, .inr (.inl u6))), (h1, .inr (10, [.ref h40, .ref h41, .ref h37, .ref h38, .ref h36, .int v1_phases, .ref h39, .ref h42, .int v1_has, .int y8])), (h37, .inl (cI, 2, .inl u9)), (h41, .inl (cI, 12, .inl u10))] := hD
  refine lv_istore (lv' := [(6, .int y7), (5, .int y1), (0, .ref b), (1, .ref h0), (2, .ref h1), (3, .ref h2), (4, .int l4)]) hx hb dL_law_279 hl (by decide) rfl (fun ls hl => ?_)
  refine lv_aload_n hx hb dL_law_281 rfl (lv_at hl 4 rfl) ?_
  refine rdV (pc1 := 285) (rest := []) (st1 := [.int (f_X10_thrown y8)]) S (c_X10_thrown l D cI cJ cC h1 h40 h41 h37 h38 h36 h39 h42 v1_phases v1_has y8  _ rfl) (cw_L_118 S.2.2.2.2 ⟨Nat.le_of_ble_eq_true rfl, Nat.le_of_ble_eq_true rfl⟩) hK (hP.sub [40] rfl) rfl rfl rfl rfl hl.1 rfl (Nat.le_of_ble_eq_true rfl) (lwf (by omega) (by omega)) rfl rfl dL_law_282 ?_
  refine lv_iload hx hb dL_law_285 (lv_at hl 1 rfl) ?_
  refine lv_icmp_eq (tgt := 292) hx hb dL_law_287 (by decide) (fun c11 => ?_) (fun c11 => ?_)
  · have h := iteP c11 h
    refine lv_iload hx hb dL_law_292 (lv_at hl 1 rfl) ?_
    refine lv_if_ne (tgt := 309) hx hb dL_law_294 (by decide) (fun c12 => ?_) (fun c12 => ?_)
    · have h := iteN c12 h
      refine lv_goto (tgt := 1773) hx hb dL_law_309 (by decide) ?_
      refine lv_iinc (v := l4 + 4) (lv' := [(4, .int (l4 + 4)), (6, .int y7), (5, .int y1), (0, .ref b), (1, .ref h0), (2, .ref h1), (3, .ref h2)]) hx hb dL_law_1773 hl (k := 6) rfl rfl (by decide) rfl (fun ls hl => ?_)
      refine lv_goto (tgt := 23) hx hb dL_law_1776 (by decide) ?_
      exact hk v1_phases v1_has y8 u6 v3_mode v3_startThreshold v3_lastRung v3_lastChange v3_state v3_time v3_position v4_startUpTime v4_stallTime v4_playTime v4_stalls v4_abandoned v4_finished v4_switches v4_wasted v4_quality v5_segments r6 v7_going v7_track v7_segment v7_rung v7_waiting v7_duration v7_bits v7_received v8_length r9 v10_kept r11 r12 v13_segments r14 v15_mode v15_startThreshold v15_lastRung v15_lastChange v15_state v15_time v15_position v16_startUpTime v16_stallTime v16_playTime v16_stalls v16_abandoned v16_finished v16_switches v16_wasted v16_quality v17_segments r18 v19_going v19_track v19_segment v19_rung v19_waiting v19_duration v19_bits v19_received v20_length r21 v22_kept r23 r24 v25_segments r26 y2 u3 v30_total v30_phases r31 r32 r33 y4 u5 r36 u9 r38 r39 r40 u10 r42 (l4 + 4) (cells + 4) (slots + 24) _ _ _ hy0 hy1 (by omega) (by omega) h (hP.sub [32, 40, 39, 0, 1, 2, 3, 4, 5, 6, 7, 8, 9, 10, 11, 33, 12, 13, 14, 15, 16, 17, 18, 19, 20, 21, 22, 34, 35, 36, 23, 24, 25, 26, 37, 38, 27, 41, 28, 29, 30, 42, 31] rfl) (hD.sub [32, 40, 39, 0, 1, 2, 3, 4, 5, 6, 7, 8, 9, 10, 11, 33, 12, 13, 14, 15, 16, 17, 18, 19, 20, 21, 22, 34, 35, 36, 23, 24, 25, 26, 37, 38, 27, 41, 28, 29, 30, 42, 31] (by decide) rfl) hS (lv_sub hl [3, 4, 5, 6, 0] rfl)
    · have h := iteP c12 h
      refine lv_aload_n hx hb dL_law_297 rfl (lv_at hl 5 rfl) ?_
      refine lv_iconst (v := 0) hx hb dL_law_298 li_0 ?_
      refine aldJ (k := 0) (q0 := 39) S hK hP rfl vl_0_1 tn_0 dL_law_299 ?_
      refine lv_iload hx hb dL_law_300 (lv_at hl 0 rfl) ?_
      refine lv_i2l hx hb dL_law_302 rfl ?_
      refine lc_eq (tgt := 309) hx hb dL_law_303 dL_law_304 (by decide) (fun c13 => ?_) (fun c13 => ?_)
      · have h := iteP c13 h
        refine lv_goto (tgt := 1773) hx hb dL_law_309 (by decide) ?_
        refine lv_iinc (v := l4 + 4) (lv' := [(4, .int (l4 + 4)), (6, .int y7), (5, .int y1), (0, .ref b), (1, .ref h0), (2, .ref h1), (3, .ref h2)]) hx hb dL_law_1773 hl (k := 6) rfl rfl (by decide) rfl (fun ls hl => ?_)
        refine lv_goto (tgt := 23) hx hb dL_law_1776 (by decide) ?_
        exact hk v1_phases v1_has y8 u6 v3_mode v3_startThreshold v3_lastRung v3_lastChange v3_state v3_time v3_position v4_startUpTime v4_stallTime v4_playTime v4_stalls v4_abandoned v4_finished v4_switches v4_wasted v4_quality v5_segments r6 v7_going v7_track v7_segment v7_rung v7_waiting v7_duration v7_bits v7_received v8_length r9 v10_kept r11 r12 v13_segments r14 v15_mode v15_startThreshold v15_lastRung v15_lastChange v15_state v15_time v15_position v16_startUpTime v16_stallTime v16_playTime v16_stalls v16_abandoned v16_finished v16_switches v16_wasted v16_quality v17_segments r18 v19_going v19_track v19_segment v19_rung v19_waiting v19_duration v19_bits v19_received v20_length r21 v22_kept r23 r24 v25_segments r26 y2 u3 v30_total v30_phases r31 r32 r33 y4 u5 r36 u9 r38 r39 r40 u10 r42 (l4 + 4) (cells + 4) (slots + 24) _ _ _ hy0 hy1 (by omega) (by omega) h (hP.sub [32, 40, 39, 0, 1, 2, 3, 4, 5, 6, 7, 8, 9, 10, 11, 33, 12, 13, 14, 15, 16, 17, 18, 19, 20, 21, 22, 34, 35, 36, 23, 24, 25, 26, 37, 38, 27, 41, 28, 29, 30, 42, 31] rfl) (hD.sub [32, 40, 39, 0, 1, 2, 3, 4, 5, 6, 7, 8, 9, 10, 11, 33, 12, 13, 14, 15, 16, 17, 18, 19, 20, 21, 22, 34, 35, 36, 23, 24, 25, 26, 37, 38, 27, 41, 28, 29, 30, 42, 31] (by decide) rfl) hS (lv_sub hl [3, 4, 5, 6, 0] rfl)
      · have h := iteN c13 h
        refine lv_iconst (v := 0) hx hb dL_law_307 li_0 ?_
        exact absurd (Option.some.inj h) (by decide)
  · have h := iteN c11 h
    refine lv_iconst (v := 0) hx hb dL_law_290 li_0 ?_
    exact absurd (Option.some.inj h) (by decide)
