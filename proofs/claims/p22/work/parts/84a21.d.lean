theorem dL_areSound_235 : decode cL_areSound 235 = .ok (.iconst 1, 1) := by decide +kernel
theorem dL_areSound_236 : decode cL_areSound 236 = .ok (.iaload, 1) := by decide +kernel
theorem dL_areSound_237 : decode cL_areSound 237 = .ok (.bipush 8, 2) := by decide +kernel
theorem dL_areSound_239 : decode cL_areSound 239 = .ok (.if_icmp .gt 15, 3) := by decide +kernel
theorem dL_areSound_242 : decode cL_areSound 242 = .ok (.aload_n 0, 1) := by decide +kernel
theorem dL_areSound_243 : decode cL_areSound 243 = .ok (.iload 12, 2) := by decide +kernel
theorem dL_areSound_245 : decode cL_areSound 245 = .ok (.invokevirtual 38, 3) := by decide +kernel
theorem dL_areSound_248 : decode cL_areSound 248 = .ok (.lload 13, 2) := by decide +kernel
theorem dL_areSound_250 : decode cL_areSound 250 = .ok (.lcmp, 1) := by decide +kernel
theorem dL_areSound_251 : decode cL_areSound 251 = .ok (.ifCond .ne 25, 3) := by decide +kernel
theorem dL_areSound_254 : decode cL_areSound 254 = .ok (.lload 13, 2) := by decide +kernel
theorem dL_areSound_256 : decode cL_areSound 256 = .ok (.ldc2_w 100, 3) := by decide +kernel
theorem dL_areSound_259 : decode cL_areSound 259 = .ok (.lcmp, 1) := by decide +kernel
theorem dL_areSound_260 : decode cL_areSound 260 = .ok (.ifCond .lt 16, 3) := by decide +kernel
theorem dL_areSound_263 : decode cL_areSound 263 = .ok (.lload 13, 2) := by decide +kernel
theorem dL_areSound_265 : decode cL_areSound 265 = .ok (.ldc2_w 102, 3) := by decide +kernel
theorem dL_areSound_268 : decode cL_areSound 268 = .ok (.lcmp, 1) := by decide +kernel
theorem dL_areSound_269 : decode cL_areSound 269 = .ok (.ifCond .gt 7, 3) := by decide +kernel
theorem dL_areSound_272 : decode cL_areSound 272 = .ok (.iconst 1, 1) := by decide +kernel
theorem dL_areSound_273 : decode cL_areSound 273 = .ok (.goto 4, 3) := by decide +kernel
theorem dL_areSound_276 : decode cL_areSound 276 = .ok (.iconst 0, 1) := by decide +kernel
theorem dL_areSound_277 : decode cL_areSound 277 = .ok (.istore 5, 2) := by decide +kernel
theorem dL_areSound_279 : decode cL_areSound 279 = .ok (.iinc 12 1, 3) := by decide +kernel
theorem dL_areSound_282 : decode cL_areSound 282 = .ok (.goto (-247), 3) := by decide +kernel
theorem dL_areSound_285 : decode cL_areSound 285 = .ok (.iload 5, 2) := by decide +kernel
theorem dL_areSound_287 : decode cL_areSound 287 = .ok (.ifCond .eq 27, 3) := by decide +kernel
theorem dL_areSound_290 : decode cL_areSound 290 = .ok (.lload 8, 2) := by decide +kernel
theorem dL_areSound_292 : decode cL_areSound 292 = .ok (.lconst 0, 1) := by decide +kernel
theorem dL_areSound_293 : decode cL_areSound 293 = .ok (.lcmp, 1) := by decide +kernel
theorem dL_areSound_294 : decode cL_areSound 294 = .ok (.ifCond .gt 20, 3) := by decide +kernel
theorem dL_areSound_297 : decode cL_areSound 297 = .ok (.lload 8, 2) := by decide +kernel
theorem dL_areSound_299 : decode cL_areSound 299 = .ok (.aload_n 1, 1) := by decide +kernel
theorem dL_areSound_300 : decode cL_areSound 300 = .ok (.iconst 0, 1) := by decide +kernel
theorem dL_areSound_301 : decode cL_areSound 301 = .ok (.iaload, 1) := by decide +kernel
theorem dL_areSound_302 : decode cL_areSound 302 = .ok (.ineg, 1) := by decide +kernel
theorem dL_areSound_303 : decode cL_areSound 303 = .ok (.i2l, 1) := by decide +kernel
theorem dL_areSound_304 : decode cL_areSound 304 = .ok (.lconst 1, 1) := by decide +kernel
theorem dL_areSound_305 : decode cL_areSound 305 = .ok (.lsub, 1) := by decide +kernel
theorem dL_areSound_306 : decode cL_areSound 306 = .ok (.lcmp, 1) := by decide +kernel
theorem dL_areSound_307 : decode cL_areSound 307 = .ok (.ifCond .le 7, 3) := by decide +kernel
theorem dL_areSound_310 : decode cL_areSound 310 = .ok (.iconst 1, 1) := by decide +kernel
theorem dL_areSound_311 : decode cL_areSound 311 = .ok (.goto 4, 3) := by decide +kernel
theorem dL_areSound_314 : decode cL_areSound 314 = .ok (.iconst 0, 1) := by decide +kernel
theorem dL_areSound_315 : decode cL_areSound 315 = .ok (.istore 5, 2) := by decide +kernel
theorem dL_areSound_317 : decode cL_areSound 317 = .ok (.aload_n 0, 1) := by decide +kernel
theorem dL_areSound_318 : decode cL_areSound 318 = .ok (.invokevirtual 81, 3) := by decide +kernel
theorem dL_areSound_321 : decode cL_areSound 321 = .ok (.istore 12, 2) := by decide +kernel
theorem dL_areSound_323 : decode cL_areSound 323 = .ok (.iload 12, 2) := by decide +kernel
theorem dL_areSound_325 : decode cL_areSound 325 = .ok (.ifCond .ge 7, 3) := by decide +kernel
theorem dL_areSound_328 : decode cL_areSound 328 = .ok (.lconst 0, 1) := by decide +kernel
theorem dL_areSound_329 : decode cL_areSound 329 = .ok (.goto 9, 3) := by decide +kernel
theorem dL_areSound_332 : decode cL_areSound 332 = .ok (.aload_n 0, 1) := by decide +kernel
theorem dL_areSound_333 : decode cL_areSound 333 = .ok (.iload 12, 2) := by decide +kernel
theorem dL_areSound_335 : decode cL_areSound 335 = .ok (.invokevirtual 53, 3) := by decide +kernel
theorem dL_areSound_338 : decode cL_areSound 338 = .ok (.lstore 13, 2) := by decide +kernel
theorem dL_areSound_340 : decode cL_areSound 340 = .ok (.iconst 0, 1) := by decide +kernel
theorem dL_areSound_341 : decode cL_areSound 341 = .ok (.istore 15, 2) := by decide +kernel
theorem dL_areSound_343 : decode cL_areSound 343 = .ok (.iload 15, 2) := by decide +kernel
theorem dL_areSound_345 : decode cL_areSound 345 = .ok (.aload_n 1, 1) := by decide +kernel
theorem dL_areSound_346 : decode cL_areSound 346 = .ok (.iconst 1, 1) := by decide +kernel
theorem dL_areSound_347 : decode cL_areSound 347 = .ok (.iaload, 1) := by decide +kernel
theorem dL_areSound_348 : decode cL_areSound 348 = .ok (.if_icmp .ge 244, 3) := by decide +kernel
theorem dL_areSound_351 : decode cL_areSound 351 = .ok (.iload 5, 2) := by decide +kernel
theorem dL_areSound_353 : decode cL_areSound 353 = .ok (.ifCond .eq 239, 3) := by decide +kernel
theorem dL_areSound_356 : decode cL_areSound 356 = .ok (.aload_n 3, 1) := by decide +kernel
theorem dL_areSound_357 : decode cL_areSound 357 = .ok (.iconst 5, 1) := by decide +kernel
theorem dL_areSound_358 : decode cL_areSound 358 = .ok (.iload 15, 2) := by decide +kernel
theorem dL_areSound_360 : decode cL_areSound 360 = .ok (.imul, 1) := by decide +kernel
theorem dL_areSound_361 : decode cL_areSound 361 = .ok (.iconst 4, 1) := by decide +kernel
theorem dL_areSound_362 : decode cL_areSound 362 = .ok (.iadd, 1) := by decide +kernel
theorem dL_areSound_363 : decode cL_areSound 363 = .ok (.iaload, 1) := by decide +kernel
theorem dL_areSound_364 : decode cL_areSound 364 = .ok (.ifCond .ne 222, 3) := by decide +kernel
theorem dL_areSound_367 : decode cL_areSound 367 = .ok (.aload_n 0, 1) := by decide +kernel
theorem dL_areSound_368 : decode cL_areSound 368 = .ok (.iload 15, 2) := by decide +kernel
theorem dL_areSound_370 : decode cL_areSound 370 = .ok (.invokevirtual 44, 3) := by decide +kernel
theorem dL_areSound_373 : decode cL_areSound 373 = .ok (.lstore 16, 2) := by decide +kernel
theorem dL_areSound_375 : decode cL_areSound 375 = .ok (.aload_n 0, 1) := by decide +kernel
theorem dL_areSound_376 : decode cL_areSound 376 = .ok (.aload_n 3, 1) := by decide +kernel
theorem dL_areSound_377 : decode cL_areSound 377 = .ok (.iconst 5, 1) := by decide +kernel
theorem dL_areSound_378 : decode cL_areSound 378 = .ok (.iload 15, 2) := by decide +kernel
theorem dL_areSound_380 : decode cL_areSound 380 = .ok (.imul, 1) := by decide +kernel
theorem dL_areSound_381 : decode cL_areSound 381 = .ok (.iconst 1, 1) := by decide +kernel
theorem dL_areSound_382 : decode cL_areSound 382 = .ok (.iadd, 1) := by decide +kernel
theorem dL_areSound_383 : decode cL_areSound 383 = .ok (.iaload, 1) := by decide +kernel
theorem dL_areSound_384 : decode cL_areSound 384 = .ok (.invokevirtual 34, 3) := by decide +kernel
theorem dL_areSound_387 : decode cL_areSound 387 = .ok (.aload_n 0, 1) := by decide +kernel
theorem dL_areSound_388 : decode cL_areSound 388 = .ok (.aload_n 3, 1) := by decide +kernel
theorem dL_areSound_389 : decode cL_areSound 389 = .ok (.iconst 5, 1) := by decide +kernel
theorem dL_areSound_390 : decode cL_areSound 390 = .ok (.iload 15, 2) := by decide +kernel
theorem dL_areSound_392 : decode cL_areSound 392 = .ok (.imul, 1) := by decide +kernel
theorem dL_areSound_393 : decode cL_areSound 393 = .ok (.iaload, 1) := by decide +kernel
theorem dL_areSound_394 : decode cL_areSound 394 = .ok (.invokevirtual 34, 3) := by decide +kernel
theorem dL_areSound_397 : decode cL_areSound 397 = .ok (.lsub, 1) := by decide +kernel
theorem dL_areSound_398 : decode cL_areSound 398 = .ok (.ldc2_w 98, 3) := by decide +kernel
theorem dL_areSound_401 : decode cL_areSound 401 = .ok (.aload_n 3, 1) := by decide +kernel
theorem dL_areSound_402 : decode cL_areSound 402 = .ok (.iconst 5, 1) := by decide +kernel
theorem dL_areSound_403 : decode cL_areSound 403 = .ok (.iload 15, 2) := by decide +kernel
theorem dL_areSound_405 : decode cL_areSound 405 = .ok (.imul, 1) := by decide +kernel
theorem dL_areSound_406 : decode cL_areSound 406 = .ok (.iconst 2, 1) := by decide +kernel
theorem dL_areSound_407 : decode cL_areSound 407 = .ok (.iadd, 1) := by decide +kernel
theorem dL_areSound_408 : decode cL_areSound 408 = .ok (.iaload, 1) := by decide +kernel
theorem dL_areSound_409 : decode cL_areSound 409 = .ok (.i2l, 1) := by decide +kernel
theorem dL_areSound_410 : decode cL_areSound 410 = .ok (.lmul, 1) := by decide +kernel
theorem dL_areSound_411 : decode cL_areSound 411 = .ok (.lsub, 1) := by decide +kernel
theorem dL_areSound_412 : decode cL_areSound 412 = .ok (.lstore 18, 2) := by decide +kernel
theorem dL_areSound_414 : decode cL_areSound 414 = .ok (.aload_n 0, 1) := by decide +kernel
theorem dL_areSound_415 : decode cL_areSound 415 = .ok (.iload 15, 2) := by decide +kernel
theorem dL_areSound_417 : decode cL_areSound 417 = .ok (.invokevirtual 47, 3) := by decide +kernel
theorem dL_areSound_420 : decode cL_areSound 420 = .ok (.istore 20, 2) := by decide +kernel
theorem dL_areSound_422 : decode cL_areSound 422 = .ok (.aload_n 0, 1) := by decide +kernel
theorem dL_areSound_423 : decode cL_areSound 423 = .ok (.iload 15, 2) := by decide +kernel
theorem dL_areSound_425 : decode cL_areSound 425 = .ok (.invokevirtual 53, 3) := by decide +kernel
theorem dL_areSound_428 : decode cL_areSound 428 = .ok (.lstore 21, 2) := by decide +kernel
theorem dL_areSound_430 : decode cL_areSound 430 = .ok (.iinc 7 1, 3) := by decide +kernel
theorem dL_areSound_433 : decode cL_areSound 433 = .ok (.lload 10, 2) := by decide +kernel
theorem dL_areSound_435 : decode cL_areSound 435 = .ok (.iload 20, 2) := by decide +kernel
theorem dL_areSound_437 : decode cL_areSound 437 = .ok (.i2l, 1) := by decide +kernel
theorem dL_areSound_438 : decode cL_areSound 438 = .ok (.ladd, 1) := by decide +kernel
theorem dL_areSound_439 : decode cL_areSound 439 = .ok (.lstore 10, 2) := by decide +kernel
theorem dL_areSound_441 : decode cL_areSound 441 = .ok (.lload 16, 2) := by decide +kernel
theorem dL_areSound_443 : decode cL_areSound 443 = .ok (.lload 18, 2) := by decide +kernel
theorem dL_areSound_445 : decode cL_areSound 445 = .ok (.lconst 1, 1) := by decide +kernel
theorem dL_areSound_446 : decode cL_areSound 446 = .ok (.lsub, 1) := by decide +kernel
theorem dL_areSound_447 : decode cL_areSound 447 = .ok (.lcmp, 1) := by decide +kernel
theorem dL_areSound_448 : decode cL_areSound 448 = .ok (.ifCond .lt 135, 3) := by decide +kernel
theorem dL_areSound_451 : decode cL_areSound 451 = .ok (.lload 16, 2) := by decide +kernel
theorem dL_areSound_453 : decode cL_areSound 453 = .ok (.lload 18, 2) := by decide +kernel
theorem dL_areSound_455 : decode cL_areSound 455 = .ok (.lconst 1, 1) := by decide +kernel
theorem dL_areSound_456 : decode cL_areSound 456 = .ok (.ladd, 1) := by decide +kernel
theorem dL_areSound_457 : decode cL_areSound 457 = .ok (.lcmp, 1) := by decide +kernel
theorem dL_areSound_458 : decode cL_areSound 458 = .ok (.ifCond .gt 125, 3) := by decide +kernel
theorem dL_areSound_461 : decode cL_areSound 461 = .ok (.iload 20, 2) := by decide +kernel
theorem dL_areSound_463 : decode cL_areSound 463 = .ok (.ifCond .lt 120, 3) := by decide +kernel
theorem dL_areSound_466 : decode cL_areSound 466 = .ok (.iload 20, 2) := by decide +kernel
theorem dL_areSound_468 : decode cL_areSound 468 = .ok (.sipush 1000, 3) := by decide +kernel
theorem dL_areSound_471 : decode cL_areSound 471 = .ok (.if_icmp .ge 112, 3) := by decide +kernel
theorem dL_areSound_474 : decode cL_areSound 474 = .ok (.lload 21, 2) := by decide +kernel
theorem dL_areSound_476 : decode cL_areSound 476 = .ok (.lconst 0, 1) := by decide +kernel
theorem dL_areSound_477 : decode cL_areSound 477 = .ok (.lcmp, 1) := by decide +kernel
theorem dL_areSound_478 : decode cL_areSound 478 = .ok (.ifCond .lt 105, 3) := by decide +kernel
