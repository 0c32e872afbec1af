theorem dL_isRefused_234 : decode cL_isRefused 234 = .ok (.iconst 0, 1) := by decide +kernel
theorem dL_isRefused_235 : decode cL_isRefused 235 = .ok (.iconst 0, 1) := by decide +kernel
theorem dL_isRefused_236 : decode cL_isRefused 236 = .ok (.invokestatic 84, 3) := by decide +kernel
theorem dL_isRefused_239 : decode cL_isRefused 239 = .ok (.ldc2_w 61, 3) := by decide +kernel
theorem dL_isRefused_242 : decode cL_isRefused 242 = .ok (.lcmp, 1) := by decide +kernel
theorem dL_isRefused_243 : decode cL_isRefused 243 = .ok (.ifCond .ne 79, 3) := by decide +kernel
theorem dL_isRefused_246 : decode cL_isRefused 246 = .ok (.aload_n 0, 1) := by decide +kernel
theorem dL_isRefused_247 : decode cL_isRefused 247 = .ok (.bipush 10, 2) := by decide +kernel
theorem dL_isRefused_249 : decode cL_isRefused 249 = .ok (.iload 6, 2) := by decide +kernel
theorem dL_isRefused_251 : decode cL_isRefused 251 = .ok (.iconst 0, 1) := by decide +kernel
theorem dL_isRefused_252 : decode cL_isRefused 252 = .ok (.iconst 0, 1) := by decide +kernel
theorem dL_isRefused_253 : decode cL_isRefused 253 = .ok (.iconst 0, 1) := by decide +kernel
theorem dL_isRefused_254 : decode cL_isRefused 254 = .ok (.invokestatic 84, 3) := by decide +kernel
theorem dL_isRefused_257 : decode cL_isRefused 257 = .ok (.ldc2_w 61, 3) := by decide +kernel
theorem dL_isRefused_260 : decode cL_isRefused 260 = .ok (.lcmp, 1) := by decide +kernel
theorem dL_isRefused_261 : decode cL_isRefused 261 = .ok (.ifCond .ne 61, 3) := by decide +kernel
theorem dL_isRefused_264 : decode cL_isRefused 264 = .ok (.aload_n 0, 1) := by decide +kernel
theorem dL_isRefused_265 : decode cL_isRefused 265 = .ok (.bipush 11, 2) := by decide +kernel
theorem dL_isRefused_267 : decode cL_isRefused 267 = .ok (.iload 6, 2) := by decide +kernel
theorem dL_isRefused_269 : decode cL_isRefused 269 = .ok (.iconst 0, 1) := by decide +kernel
theorem dL_isRefused_270 : decode cL_isRefused 270 = .ok (.iconst 0, 1) := by decide +kernel
theorem dL_isRefused_271 : decode cL_isRefused 271 = .ok (.iconst 0, 1) := by decide +kernel
theorem dL_isRefused_272 : decode cL_isRefused 272 = .ok (.invokestatic 84, 3) := by decide +kernel
theorem dL_isRefused_275 : decode cL_isRefused 275 = .ok (.ldc2_w 61, 3) := by decide +kernel
theorem dL_isRefused_278 : decode cL_isRefused 278 = .ok (.lcmp, 1) := by decide +kernel
theorem dL_isRefused_279 : decode cL_isRefused 279 = .ok (.ifCond .ne 43, 3) := by decide +kernel
theorem dL_isRefused_282 : decode cL_isRefused 282 = .ok (.aload_n 0, 1) := by decide +kernel
theorem dL_isRefused_283 : decode cL_isRefused 283 = .ok (.bipush 12, 2) := by decide +kernel
theorem dL_isRefused_285 : decode cL_isRefused 285 = .ok (.iload 6, 2) := by decide +kernel
theorem dL_isRefused_287 : decode cL_isRefused 287 = .ok (.iconst 0, 1) := by decide +kernel
theorem dL_isRefused_288 : decode cL_isRefused 288 = .ok (.iconst 0, 1) := by decide +kernel
theorem dL_isRefused_289 : decode cL_isRefused 289 = .ok (.iconst 0, 1) := by decide +kernel
theorem dL_isRefused_290 : decode cL_isRefused 290 = .ok (.invokestatic 84, 3) := by decide +kernel
theorem dL_isRefused_293 : decode cL_isRefused 293 = .ok (.ldc2_w 61, 3) := by decide +kernel
theorem dL_isRefused_296 : decode cL_isRefused 296 = .ok (.lcmp, 1) := by decide +kernel
theorem dL_isRefused_297 : decode cL_isRefused 297 = .ok (.ifCond .ne 25, 3) := by decide +kernel
theorem dL_isRefused_300 : decode cL_isRefused 300 = .ok (.aload_n 0, 1) := by decide +kernel
theorem dL_isRefused_301 : decode cL_isRefused 301 = .ok (.bipush 13, 2) := by decide +kernel
theorem dL_isRefused_303 : decode cL_isRefused 303 = .ok (.iload 5, 2) := by decide +kernel
theorem dL_isRefused_305 : decode cL_isRefused 305 = .ok (.iconst 0, 1) := by decide +kernel
theorem dL_isRefused_306 : decode cL_isRefused 306 = .ok (.iconst 0, 1) := by decide +kernel
theorem dL_isRefused_307 : decode cL_isRefused 307 = .ok (.iconst 0, 1) := by decide +kernel
theorem dL_isRefused_308 : decode cL_isRefused 308 = .ok (.invokestatic 84, 3) := by decide +kernel
theorem dL_isRefused_311 : decode cL_isRefused 311 = .ok (.ldc2_w 61, 3) := by decide +kernel
theorem dL_isRefused_314 : decode cL_isRefused 314 = .ok (.lcmp, 1) := by decide +kernel
theorem dL_isRefused_315 : decode cL_isRefused 315 = .ok (.ifCond .ne 7, 3) := by decide +kernel
theorem dL_isRefused_318 : decode cL_isRefused 318 = .ok (.iconst 1, 1) := by decide +kernel
theorem dL_isRefused_319 : decode cL_isRefused 319 = .ok (.goto 4, 3) := by decide +kernel
theorem dL_isRefused_322 : decode cL_isRefused 322 = .ok (.iconst 0, 1) := by decide +kernel
theorem dL_isRefused_323 : decode cL_isRefused 323 = .ok (.istore 9, 2) := by decide +kernel
theorem dL_isRefused_325 : decode cL_isRefused 325 = .ok (.iconst 0, 1) := by decide +kernel
theorem dL_isRefused_326 : decode cL_isRefused 326 = .ok (.istore 10, 2) := by decide +kernel
theorem dL_isRefused_328 : decode cL_isRefused 328 = .ok (.iload 10, 2) := by decide +kernel
theorem dL_isRefused_330 : decode cL_isRefused 330 = .ok (.aload_n 1, 1) := by decide +kernel
theorem dL_isRefused_331 : decode cL_isRefused 331 = .ok (.iconst 0, 1) := by decide +kernel
theorem dL_isRefused_332 : decode cL_isRefused 332 = .ok (.iaload, 1) := by decide +kernel
theorem dL_isRefused_333 : decode cL_isRefused 333 = .ok (.if_icmp .ge 197, 3) := by decide +kernel
theorem dL_isRefused_336 : decode cL_isRefused 336 = .ok (.iload 9, 2) := by decide +kernel
theorem dL_isRefused_338 : decode cL_isRefused 338 = .ok (.ifCond .eq 192, 3) := by decide +kernel
theorem dL_isRefused_341 : decode cL_isRefused 341 = .ok (.iload 10, 2) := by decide +kernel
theorem dL_isRefused_343 : decode cL_isRefused 343 = .ok (.iconst 1, 1) := by decide +kernel
theorem dL_isRefused_344 : decode cL_isRefused 344 = .ok (.iadd, 1) := by decide +kernel
theorem dL_isRefused_345 : decode cL_isRefused 345 = .ok (.aload_n 1, 1) := by decide +kernel
theorem dL_isRefused_346 : decode cL_isRefused 346 = .ok (.iconst 0, 1) := by decide +kernel
theorem dL_isRefused_347 : decode cL_isRefused 347 = .ok (.iaload, 1) := by decide +kernel
theorem dL_isRefused_348 : decode cL_isRefused 348 = .ok (.irem, 1) := by decide +kernel
theorem dL_isRefused_349 : decode cL_isRefused 349 = .ok (.istore 11, 2) := by decide +kernel
theorem dL_isRefused_351 : decode cL_isRefused 351 = .ok (.aload_n 0, 1) := by decide +kernel
theorem dL_isRefused_352 : decode cL_isRefused 352 = .ok (.iconst 1, 1) := by decide +kernel
theorem dL_isRefused_353 : decode cL_isRefused 353 = .ok (.iload 10, 2) := by decide +kernel
theorem dL_isRefused_355 : decode cL_isRefused 355 = .ok (.iload 4, 2) := by decide +kernel
theorem dL_isRefused_357 : decode cL_isRefused 357 = .ok (.ifCond .eq 14, 3) := by decide +kernel
theorem dL_isRefused_360 : decode cL_isRefused 360 = .ok (.sipush (-10000), 3) := by decide +kernel
theorem dL_isRefused_363 : decode cL_isRefused 363 = .ok (.iload_n 3, 1) := by decide +kernel
theorem dL_isRefused_364 : decode cL_isRefused 364 = .ok (.bipush 30, 2) := by decide +kernel
theorem dL_isRefused_366 : decode cL_isRefused 366 = .ok (.irem, 1) := by decide +kernel
theorem dL_isRefused_367 : decode cL_isRefused 367 = .ok (.isub, 1) := by decide +kernel
theorem dL_isRefused_368 : decode cL_isRefused 368 = .ok (.goto 6, 3) := by decide +kernel
theorem dL_isRefused_371 : decode cL_isRefused 371 = .ok (.sipush 10000, 3) := by decide +kernel
theorem dL_isRefused_374 : decode cL_isRefused 374 = .ok (.iconst 1, 1) := by decide +kernel
theorem dL_isRefused_375 : decode cL_isRefused 375 = .ok (.iconst 0, 1) := by decide +kernel
theorem dL_isRefused_376 : decode cL_isRefused 376 = .ok (.invokestatic 84, 3) := by decide +kernel
theorem dL_isRefused_379 : decode cL_isRefused 379 = .ok (.ldc2_w 65, 3) := by decide +kernel
theorem dL_isRefused_382 : decode cL_isRefused 382 = .ok (.lcmp, 1) := by decide +kernel
theorem dL_isRefused_383 : decode cL_isRefused 383 = .ok (.ifCond .ne 138, 3) := by decide +kernel
theorem dL_isRefused_386 : decode cL_isRefused 386 = .ok (.aload_n 0, 1) := by decide +kernel
theorem dL_isRefused_387 : decode cL_isRefused 387 = .ok (.iconst 2, 1) := by decide +kernel
theorem dL_isRefused_388 : decode cL_isRefused 388 = .ok (.iload 10, 2) := by decide +kernel
theorem dL_isRefused_390 : decode cL_isRefused 390 = .ok (.iload 5, 2) := by decide +kernel
theorem dL_isRefused_392 : decode cL_isRefused 392 = .ok (.ldc 96, 2) := by decide +kernel
theorem dL_isRefused_394 : decode cL_isRefused 394 = .ok (.iconst 0, 1) := by decide +kernel
theorem dL_isRefused_395 : decode cL_isRefused 395 = .ok (.invokestatic 84, 3) := by decide +kernel
theorem dL_isRefused_398 : decode cL_isRefused 398 = .ok (.ldc2_w 61, 3) := by decide +kernel
theorem dL_isRefused_401 : decode cL_isRefused 401 = .ok (.lcmp, 1) := by decide +kernel
theorem dL_isRefused_402 : decode cL_isRefused 402 = .ok (.ifCond .ne 119, 3) := by decide +kernel
theorem dL_isRefused_405 : decode cL_isRefused 405 = .ok (.aload_n 0, 1) := by decide +kernel
theorem dL_isRefused_406 : decode cL_isRefused 406 = .ok (.iconst 2, 1) := by decide +kernel
theorem dL_isRefused_407 : decode cL_isRefused 407 = .ok (.iload 10, 2) := by decide +kernel
theorem dL_isRefused_409 : decode cL_isRefused 409 = .ok (.iload 10, 2) := by decide +kernel
theorem dL_isRefused_411 : decode cL_isRefused 411 = .ok (.iconst 5, 1) := by decide +kernel
theorem dL_isRefused_412 : decode cL_isRefused 412 = .ok (.iconst 1, 1) := by decide +kernel
theorem dL_isRefused_413 : decode cL_isRefused 413 = .ok (.invokestatic 84, 3) := by decide +kernel
theorem dL_isRefused_416 : decode cL_isRefused 416 = .ok (.ldc2_w 65, 3) := by decide +kernel
theorem dL_isRefused_419 : decode cL_isRefused 419 = .ok (.lcmp, 1) := by decide +kernel
theorem dL_isRefused_420 : decode cL_isRefused 420 = .ok (.ifCond .ne 101, 3) := by decide +kernel
theorem dL_isRefused_423 : decode cL_isRefused 423 = .ok (.aload_n 0, 1) := by decide +kernel
theorem dL_isRefused_424 : decode cL_isRefused 424 = .ok (.iconst 2, 1) := by decide +kernel
theorem dL_isRefused_425 : decode cL_isRefused 425 = .ok (.iload 10, 2) := by decide +kernel
theorem dL_isRefused_427 : decode cL_isRefused 427 = .ok (.iload 11, 2) := by decide +kernel
theorem dL_isRefused_429 : decode cL_isRefused 429 = .ok (.iload 4, 2) := by decide +kernel
theorem dL_isRefused_431 : decode cL_isRefused 431 = .ok (.ifCond .eq 9, 3) := by decide +kernel
theorem dL_isRefused_434 : decode cL_isRefused 434 = .ok (.sipush (-10000), 3) := by decide +kernel
theorem dL_isRefused_437 : decode cL_isRefused 437 = .ok (.goto 11, 3) := by decide +kernel
theorem dL_isRefused_440 : decode cL_isRefused 440 = .ok (.sipush 10000, 3) := by decide +kernel
theorem dL_isRefused_443 : decode cL_isRefused 443 = .ok (.iload_n 3, 1) := by decide +kernel
theorem dL_isRefused_444 : decode cL_isRefused 444 = .ok (.bipush 30, 2) := by decide +kernel
theorem dL_isRefused_446 : decode cL_isRefused 446 = .ok (.irem, 1) := by decide +kernel
theorem dL_isRefused_447 : decode cL_isRefused 447 = .ok (.iadd, 1) := by decide +kernel
theorem dL_isRefused_448 : decode cL_isRefused 448 = .ok (.iconst 1, 1) := by decide +kernel
theorem dL_isRefused_449 : decode cL_isRefused 449 = .ok (.invokestatic 84, 3) := by decide +kernel
theorem dL_isRefused_452 : decode cL_isRefused 452 = .ok (.ldc2_w 65, 3) := by decide +kernel
theorem dL_isRefused_455 : decode cL_isRefused 455 = .ok (.lcmp, 1) := by decide +kernel
theorem dL_isRefused_456 : decode cL_isRefused 456 = .ok (.ifCond .ne 65, 3) := by decide +kernel
theorem dL_isRefused_459 : decode cL_isRefused 459 = .ok (.aload_n 0, 1) := by decide +kernel
theorem dL_isRefused_460 : decode cL_isRefused 460 = .ok (.iconst 2, 1) := by decide +kernel
theorem dL_isRefused_461 : decode cL_isRefused 461 = .ok (.iload 10, 2) := by decide +kernel
theorem dL_isRefused_463 : decode cL_isRefused 463 = .ok (.iload 11, 2) := by decide +kernel
theorem dL_isRefused_465 : decode cL_isRefused 465 = .ok (.iconst 5, 1) := by decide +kernel
theorem dL_isRefused_466 : decode cL_isRefused 466 = .ok (.iload 4, 2) := by decide +kernel
theorem dL_isRefused_468 : decode cL_isRefused 468 = .ok (.ifCond .eq 12, 3) := by decide +kernel
theorem dL_isRefused_471 : decode cL_isRefused 471 = .ok (.iconst 0, 1) := by decide +kernel
theorem dL_isRefused_472 : decode cL_isRefused 472 = .ok (.iload_n 3, 1) := by decide +kernel
theorem dL_isRefused_473 : decode cL_isRefused 473 = .ok (.bipush 30, 2) := by decide +kernel
theorem dL_isRefused_475 : decode cL_isRefused 475 = .ok (.irem, 1) := by decide +kernel
theorem dL_isRefused_476 : decode cL_isRefused 476 = .ok (.isub, 1) := by decide +kernel
theorem dL_isRefused_477 : decode cL_isRefused 477 = .ok (.goto 5, 3) := by decide +kernel
theorem dL_isRefused_480 : decode cL_isRefused 480 = .ok (.bipush 6, 2) := by decide +kernel
theorem dL_isRefused_482 : decode cL_isRefused 482 = .ok (.invokestatic 84, 3) := by decide +kernel
theorem dL_isRefused_485 : decode cL_isRefused 485 = .ok (.ldc2_w 65, 3) := by decide +kernel
theorem dL_isRefused_488 : decode cL_isRefused 488 = .ok (.lcmp, 1) := by decide +kernel
