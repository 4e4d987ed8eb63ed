theorem dL_locks_202 : decode cL_locks 202 = .ok (.iconst (-1), 1) := by decide +kernel
theorem dL_locks_203 : decode cL_locks 203 = .ok (.if_icmp .ne 166, 3) := by decide +kernel
theorem dL_locks_206 : decode cL_locks 206 = .ok (.aload_n 0, 1) := by decide +kernel
theorem dL_locks_207 : decode cL_locks 207 = .ok (.bipush 122, 2) := by decide +kernel
theorem dL_locks_209 : decode cL_locks 209 = .ok (.invokevirtual 31, 3) := by decide +kernel
theorem dL_locks_212 : decode cL_locks 212 = .ok (.iconst (-1), 1) := by decide +kernel
theorem dL_locks_213 : decode cL_locks 213 = .ok (.if_icmp .ne 156, 3) := by decide +kernel
theorem dL_locks_216 : decode cL_locks 216 = .ok (.aload_n 0, 1) := by decide +kernel
theorem dL_locks_217 : decode cL_locks 217 = .ok (.bipush 12, 2) := by decide +kernel
theorem dL_locks_219 : decode cL_locks 219 = .ok (.invokevirtual 31, 3) := by decide +kernel
theorem dL_locks_222 : decode cL_locks 222 = .ok (.iconst 2, 1) := by decide +kernel
theorem dL_locks_223 : decode cL_locks 223 = .ok (.if_icmp .ne 146, 3) := by decide +kernel
theorem dL_locks_226 : decode cL_locks 226 = .ok (.aload_n 0, 1) := by decide +kernel
theorem dL_locks_227 : decode cL_locks 227 = .ok (.iconst 0, 1) := by decide +kernel
theorem dL_locks_228 : decode cL_locks 228 = .ok (.bipush 12, 2) := by decide +kernel
theorem dL_locks_230 : decode cL_locks 230 = .ok (.iconst 0, 1) := by decide +kernel
theorem dL_locks_231 : decode cL_locks 231 = .ok (.invokevirtual 17, 3) := by decide +kernel
theorem dL_locks_234 : decode cL_locks 234 = .ok (.bipush 6, 2) := by decide +kernel
theorem dL_locks_236 : decode cL_locks 236 = .ok (.if_icmp .ne 133, 3) := by decide +kernel
theorem dL_locks_239 : decode cL_locks 239 = .ok (.aload_n 0, 1) := by decide +kernel
theorem dL_locks_240 : decode cL_locks 240 = .ok (.invokevirtual 81, 3) := by decide +kernel
theorem dL_locks_243 : decode cL_locks 243 = .ok (.iconst 1, 1) := by decide +kernel
theorem dL_locks_244 : decode cL_locks 244 = .ok (.if_icmp .ne 125, 3) := by decide +kernel
theorem dL_locks_247 : decode cL_locks 247 = .ok (.aload_n 0, 1) := by decide +kernel
theorem dL_locks_248 : decode cL_locks 248 = .ok (.iconst 0, 1) := by decide +kernel
theorem dL_locks_249 : decode cL_locks 249 = .ok (.bipush 121, 2) := by decide +kernel
theorem dL_locks_251 : decode cL_locks 251 = .ok (.iconst 0, 1) := by decide +kernel
theorem dL_locks_252 : decode cL_locks 252 = .ok (.invokevirtual 17, 3) := by decide +kernel
theorem dL_locks_255 : decode cL_locks 255 = .ok (.iconst 4, 1) := by decide +kernel
theorem dL_locks_256 : decode cL_locks 256 = .ok (.if_icmp .ne 113, 3) := by decide +kernel
theorem dL_locks_259 : decode cL_locks 259 = .ok (.aload_n 0, 1) := by decide +kernel
theorem dL_locks_260 : decode cL_locks 260 = .ok (.invokevirtual 81, 3) := by decide +kernel
theorem dL_locks_263 : decode cL_locks 263 = .ok (.ifCond .ne 106, 3) := by decide +kernel
theorem dL_locks_266 : decode cL_locks 266 = .ok (.aload_n 0, 1) := by decide +kernel
theorem dL_locks_267 : decode cL_locks 267 = .ok (.iconst 0, 1) := by decide +kernel
theorem dL_locks_268 : decode cL_locks 268 = .ok (.bipush 121, 2) := by decide +kernel
theorem dL_locks_270 : decode cL_locks 270 = .ok (.bipush 13, 2) := by decide +kernel
theorem dL_locks_272 : decode cL_locks 272 = .ok (.iconst 0, 1) := by decide +kernel
theorem dL_locks_273 : decode cL_locks 273 = .ok (.iconst 0, 1) := by decide +kernel
theorem dL_locks_274 : decode cL_locks 274 = .ok (.invokevirtual 24, 3) := by decide +kernel
theorem dL_locks_277 : decode cL_locks 277 = .ok (.ifCond .ne 92, 3) := by decide +kernel
theorem dL_locks_280 : decode cL_locks 280 = .ok (.aload_n 0, 1) := by decide +kernel
theorem dL_locks_281 : decode cL_locks 281 = .ok (.bipush 13, 2) := by decide +kernel
theorem dL_locks_283 : decode cL_locks 283 = .ok (.invokevirtual 58, 3) := by decide +kernel
theorem dL_locks_286 : decode cL_locks 286 = .ok (.ifCond .ne 83, 3) := by decide +kernel
theorem dL_locks_289 : decode cL_locks 289 = .ok (.aload_n 0, 1) := by decide +kernel
theorem dL_locks_290 : decode cL_locks 290 = .ok (.iconst 0, 1) := by decide +kernel
theorem dL_locks_291 : decode cL_locks 291 = .ok (.bipush 121, 2) := by decide +kernel
theorem dL_locks_293 : decode cL_locks 293 = .ok (.bipush 14, 2) := by decide +kernel
theorem dL_locks_295 : decode cL_locks 295 = .ok (.iconst 0, 1) := by decide +kernel
theorem dL_locks_296 : decode cL_locks 296 = .ok (.iconst 0, 1) := by decide +kernel
theorem dL_locks_297 : decode cL_locks 297 = .ok (.invokevirtual 28, 3) := by decide +kernel
theorem dL_locks_300 : decode cL_locks 300 = .ok (.iconst 4, 1) := by decide +kernel
theorem dL_locks_301 : decode cL_locks 301 = .ok (.if_icmp .ne 68, 3) := by decide +kernel
theorem dL_locks_304 : decode cL_locks 304 = .ok (.aload_n 0, 1) := by decide +kernel
theorem dL_locks_305 : decode cL_locks 305 = .ok (.iconst 0, 1) := by decide +kernel
theorem dL_locks_306 : decode cL_locks 306 = .ok (.bipush 13, 2) := by decide +kernel
theorem dL_locks_308 : decode cL_locks 308 = .ok (.bipush 121, 2) := by decide +kernel
theorem dL_locks_310 : decode cL_locks 310 = .ok (.iconst 1, 1) := by decide +kernel
theorem dL_locks_311 : decode cL_locks 311 = .ok (.iconst 0, 1) := by decide +kernel
theorem dL_locks_312 : decode cL_locks 312 = .ok (.invokevirtual 24, 3) := by decide +kernel
theorem dL_locks_315 : decode cL_locks 315 = .ok (.iconst 4, 1) := by decide +kernel
theorem dL_locks_316 : decode cL_locks 316 = .ok (.if_icmp .ne 53, 3) := by decide +kernel
theorem dL_locks_319 : decode cL_locks 319 = .ok (.aload_n 0, 1) := by decide +kernel
theorem dL_locks_320 : decode cL_locks 320 = .ok (.iconst 1, 1) := by decide +kernel
theorem dL_locks_321 : decode cL_locks 321 = .ok (.bipush 13, 2) := by decide +kernel
theorem dL_locks_323 : decode cL_locks 323 = .ok (.bipush 121, 2) := by decide +kernel
theorem dL_locks_325 : decode cL_locks 325 = .ok (.iconst 1, 1) := by decide +kernel
theorem dL_locks_326 : decode cL_locks 326 = .ok (.iconst 1, 1) := by decide +kernel
theorem dL_locks_327 : decode cL_locks 327 = .ok (.invokevirtual 24, 3) := by decide +kernel
theorem dL_locks_330 : decode cL_locks 330 = .ok (.ifCond .ne 39, 3) := by decide +kernel
theorem dL_locks_333 : decode cL_locks 333 = .ok (.aload_n 0, 1) := by decide +kernel
theorem dL_locks_334 : decode cL_locks 334 = .ok (.bipush 121, 2) := by decide +kernel
theorem dL_locks_336 : decode cL_locks 336 = .ok (.invokevirtual 58, 3) := by decide +kernel
theorem dL_locks_339 : decode cL_locks 339 = .ok (.ifCond .ne 30, 3) := by decide +kernel
theorem dL_locks_342 : decode cL_locks 342 = .ok (.aload_n 0, 1) := by decide +kernel
theorem dL_locks_343 : decode cL_locks 343 = .ok (.bipush 121, 2) := by decide +kernel
theorem dL_locks_345 : decode cL_locks 345 = .ok (.invokevirtual 34, 3) := by decide +kernel
theorem dL_locks_348 : decode cL_locks 348 = .ok (.bipush 9, 2) := by decide +kernel
theorem dL_locks_350 : decode cL_locks 350 = .ok (.if_icmp .ne 19, 3) := by decide +kernel
theorem dL_locks_353 : decode cL_locks 353 = .ok (.aload_n 0, 1) := by decide +kernel
theorem dL_locks_354 : decode cL_locks 354 = .ok (.bipush 12, 2) := by decide +kernel
theorem dL_locks_356 : decode cL_locks 356 = .ok (.iconst 1, 1) := by decide +kernel
theorem dL_locks_357 : decode cL_locks 357 = .ok (.iconst 0, 1) := by decide +kernel
theorem dL_locks_358 : decode cL_locks 358 = .ok (.iconst 5, 1) := by decide +kernel
theorem dL_locks_359 : decode cL_locks 359 = .ok (.iconst 0, 1) := by decide +kernel
theorem dL_locks_360 : decode cL_locks 360 = .ok (.invokestatic 85, 3) := by decide +kernel
theorem dL_locks_363 : decode cL_locks 363 = .ok (.sipush (-9001), 3) := by decide +kernel
theorem dL_locks_366 : decode cL_locks 366 = .ok (.if_icmp .eq 5, 3) := by decide +kernel
theorem dL_locks_369 : decode cL_locks 369 = .ok (.iconst 0, 1) := by decide +kernel
theorem dL_locks_370 : decode cL_locks 370 = .ok (.ireturn, 1) := by decide +kernel
theorem dL_locks_371 : decode cL_locks 371 = .ok (.aload_n 0, 1) := by decide +kernel
theorem dL_locks_372 : decode cL_locks 372 = .ok (.iconst 1, 1) := by decide +kernel
theorem dL_locks_373 : decode cL_locks 373 = .ok (.bipush 121, 2) := by decide +kernel
theorem dL_locks_375 : decode cL_locks 375 = .ok (.iconst 0, 1) := by decide +kernel
theorem dL_locks_376 : decode cL_locks 376 = .ok (.iconst 0, 1) := by decide +kernel
theorem dL_locks_377 : decode cL_locks 377 = .ok (.bipush 100, 2) := by decide +kernel
theorem dL_locks_379 : decode cL_locks 379 = .ok (.iconst 0, 1) := by decide +kernel
theorem dL_locks_380 : decode cL_locks 380 = .ok (.invokevirtual 48, 3) := by decide +kernel
theorem dL_locks_383 : decode cL_locks 383 = .ok (.iconst 1, 1) := by decide +kernel
theorem dL_locks_384 : decode cL_locks 384 = .ok (.if_icmp .ne 432, 3) := by decide +kernel
theorem dL_locks_387 : decode cL_locks 387 = .ok (.aload_n 0, 1) := by decide +kernel
theorem dL_locks_388 : decode cL_locks 388 = .ok (.bipush 19, 2) := by decide +kernel
theorem dL_locks_390 : decode cL_locks 390 = .ok (.iconst 2, 1) := by decide +kernel
theorem dL_locks_391 : decode cL_locks 391 = .ok (.bipush 12, 2) := by decide +kernel
theorem dL_locks_393 : decode cL_locks 393 = .ok (.iconst 1, 1) := by decide +kernel
theorem dL_locks_394 : decode cL_locks 394 = .ok (.iconst 0, 1) := by decide +kernel
theorem dL_locks_395 : decode cL_locks 395 = .ok (.invokestatic 85, 3) := by decide +kernel
theorem dL_locks_398 : decode cL_locks 398 = .ok (.sipush (-9003), 3) := by decide +kernel
theorem dL_locks_401 : decode cL_locks 401 = .ok (.if_icmp .ne 415, 3) := by decide +kernel
theorem dL_locks_404 : decode cL_locks 404 = .ok (.aload_n 0, 1) := by decide +kernel
theorem dL_locks_405 : decode cL_locks 405 = .ok (.iconst 2, 1) := by decide +kernel
theorem dL_locks_406 : decode cL_locks 406 = .ok (.bipush 12, 2) := by decide +kernel
theorem dL_locks_408 : decode cL_locks 408 = .ok (.iconst 1, 1) := by decide +kernel
theorem dL_locks_409 : decode cL_locks 409 = .ok (.iconst 0, 1) := by decide +kernel
theorem dL_locks_410 : decode cL_locks 410 = .ok (.bipush 50, 2) := by decide +kernel
theorem dL_locks_412 : decode cL_locks 412 = .ok (.iconst 0, 1) := by decide +kernel
theorem dL_locks_413 : decode cL_locks 413 = .ok (.invokevirtual 48, 3) := by decide +kernel
theorem dL_locks_416 : decode cL_locks 416 = .ok (.iconst 2, 1) := by decide +kernel
theorem dL_locks_417 : decode cL_locks 417 = .ok (.if_icmp .ne 399, 3) := by decide +kernel
theorem dL_locks_420 : decode cL_locks 420 = .ok (.aload_n 0, 1) := by decide +kernel
theorem dL_locks_421 : decode cL_locks 421 = .ok (.bipush 19, 2) := by decide +kernel
theorem dL_locks_423 : decode cL_locks 423 = .ok (.iconst 3, 1) := by decide +kernel
theorem dL_locks_424 : decode cL_locks 424 = .ok (.bipush 12, 2) := by decide +kernel
theorem dL_locks_426 : decode cL_locks 426 = .ok (.iconst 1, 1) := by decide +kernel
theorem dL_locks_427 : decode cL_locks 427 = .ok (.iconst 0, 1) := by decide +kernel
theorem dL_locks_428 : decode cL_locks 428 = .ok (.invokestatic 85, 3) := by decide +kernel
theorem dL_locks_431 : decode cL_locks 431 = .ok (.sipush (-9003), 3) := by decide +kernel
theorem dL_locks_434 : decode cL_locks 434 = .ok (.if_icmp .ne 382, 3) := by decide +kernel
theorem dL_locks_437 : decode cL_locks 437 = .ok (.aload_n 0, 1) := by decide +kernel
theorem dL_locks_438 : decode cL_locks 438 = .ok (.iconst 3, 1) := by decide +kernel
theorem dL_locks_439 : decode cL_locks 439 = .ok (.bipush 12, 2) := by decide +kernel
theorem dL_locks_441 : decode cL_locks 441 = .ok (.iconst 1, 1) := by decide +kernel
theorem dL_locks_442 : decode cL_locks 442 = .ok (.iconst 0, 1) := by decide +kernel
theorem dL_locks_443 : decode cL_locks 443 = .ok (.bipush 10, 2) := by decide +kernel
theorem dL_locks_445 : decode cL_locks 445 = .ok (.iconst 0, 1) := by decide +kernel
theorem dL_locks_446 : decode cL_locks 446 = .ok (.invokevirtual 48, 3) := by decide +kernel
theorem dL_locks_449 : decode cL_locks 449 = .ok (.iconst 3, 1) := by decide +kernel
theorem dL_locks_450 : decode cL_locks 450 = .ok (.if_icmp .ne 366, 3) := by decide +kernel
theorem dL_locks_453 : decode cL_locks 453 = .ok (.aload_n 0, 1) := by decide +kernel
theorem dL_locks_454 : decode cL_locks 454 = .ok (.bipush 11, 2) := by decide +kernel
theorem dL_locks_456 : decode cL_locks 456 = .ok (.iconst 3, 1) := by decide +kernel
theorem dL_locks_457 : decode cL_locks 457 = .ok (.bipush 12, 2) := by decide +kernel
theorem dL_locks_459 : decode cL_locks 459 = .ok (.iconst 5, 1) := by decide +kernel
theorem dL_locks_460 : decode cL_locks 460 = .ok (.iconst 0, 1) := by decide +kernel
theorem dL_locks_461 : decode cL_locks 461 = .ok (.invokestatic 85, 3) := by decide +kernel
theorem dL_locks_464 : decode cL_locks 464 = .ok (.sipush (-9003), 3) := by decide +kernel
theorem dL_locks_467 : decode cL_locks 467 = .ok (.if_icmp .ne 349, 3) := by decide +kernel
theorem dL_locks_470 : decode cL_locks 470 = .ok (.aload_n 0, 1) := by decide +kernel
theorem dL_locks_471 : decode cL_locks 471 = .ok (.bipush 11, 2) := by decide +kernel
theorem dL_locks_473 : decode cL_locks 473 = .ok (.iconst 2, 1) := by decide +kernel
theorem dL_locks_474 : decode cL_locks 474 = .ok (.bipush 12, 2) := by decide +kernel
theorem dL_locks_476 : decode cL_locks 476 = .ok (.iconst 5, 1) := by decide +kernel
theorem dL_locks_477 : decode cL_locks 477 = .ok (.iconst 4, 1) := by decide +kernel
theorem dL_locks_478 : decode cL_locks 478 = .ok (.invokestatic 85, 3) := by decide +kernel
theorem dL_locks_481 : decode cL_locks 481 = .ok (.sipush (-9003), 3) := by decide +kernel
theorem dL_locks_484 : decode cL_locks 484 = .ok (.if_icmp .ne 332, 3) := by decide +kernel
theorem dL_locks_487 : decode cL_locks 487 = .ok (.aload_n 0, 1) := by decide +kernel
theorem dL_locks_488 : decode cL_locks 488 = .ok (.bipush 12, 2) := by decide +kernel
theorem dL_locks_490 : decode cL_locks 490 = .ok (.invokevirtual 58, 3) := by decide +kernel
theorem dL_locks_493 : decode cL_locks 493 = .ok (.bipush 12, 2) := by decide +kernel
theorem dL_locks_495 : decode cL_locks 495 = .ok (.if_icmp .ne 321, 3) := by decide +kernel
theorem dL_locks_498 : decode cL_locks 498 = .ok (.aload_n 0, 1) := by decide +kernel
theorem dL_locks_499 : decode cL_locks 499 = .ok (.iconst 2, 1) := by decide +kernel
theorem dL_locks_500 : decode cL_locks 500 = .ok (.bipush 12, 2) := by decide +kernel
theorem dL_locks_502 : decode cL_locks 502 = .ok (.iconst 4, 1) := by decide +kernel
theorem dL_locks_503 : decode cL_locks 503 = .ok (.invokevirtual 61, 3) := by decide +kernel
theorem dL_locks_506 : decode cL_locks 506 = .ok (.ifCond .eq 310, 3) := by decide +kernel
theorem dL_locks_509 : decode cL_locks 509 = .ok (.aload_n 0, 1) := by decide +kernel
theorem dL_locks_510 : decode cL_locks 510 = .ok (.iconst 3, 1) := by decide +kernel
theorem dL_locks_511 : decode cL_locks 511 = .ok (.bipush 12, 2) := by decide +kernel
theorem dL_locks_513 : decode cL_locks 513 = .ok (.bipush 8, 2) := by decide +kernel
theorem dL_locks_515 : decode cL_locks 515 = .ok (.invokevirtual 61, 3) := by decide +kernel
theorem dL_locks_518 : decode cL_locks 518 = .ok (.ifCond .eq 298, 3) := by decide +kernel
theorem dL_locks_521 : decode cL_locks 521 = .ok (.aload_n 0, 1) := by decide +kernel
theorem dL_locks_522 : decode cL_locks 522 = .ok (.iconst 3, 1) := by decide +kernel
theorem dL_locks_523 : decode cL_locks 523 = .ok (.bipush 12, 2) := by decide +kernel
theorem dL_locks_525 : decode cL_locks 525 = .ok (.iconst 4, 1) := by decide +kernel
theorem dL_locks_526 : decode cL_locks 526 = .ok (.invokevirtual 61, 3) := by decide +kernel
theorem dL_locks_529 : decode cL_locks 529 = .ok (.ifCond .ne 287, 3) := by decide +kernel
theorem dL_locks_532 : decode cL_locks 532 = .ok (.aload_n 0, 1) := by decide +kernel
theorem dL_locks_533 : decode cL_locks 533 = .ok (.iconst 0, 1) := by decide +kernel
theorem dL_locks_534 : decode cL_locks 534 = .ok (.bipush 123, 2) := by decide +kernel
theorem dL_locks_536 : decode cL_locks 536 = .ok (.iconst 1, 1) := by decide +kernel
theorem dL_locks_537 : decode cL_locks 537 = .ok (.iconst (-1), 1) := by decide +kernel
theorem dL_locks_538 : decode cL_locks 538 = .ok (.iconst 0, 1) := by decide +kernel
theorem dL_locks_539 : decode cL_locks 539 = .ok (.invokevirtual 13, 3) := by decide +kernel
theorem dL_locks_542 : decode cL_locks 542 = .ok (.iconst 4, 1) := by decide +kernel
theorem dL_locks_543 : decode cL_locks 543 = .ok (.if_icmp .ne 273, 3) := by decide +kernel
theorem dL_locks_546 : decode cL_locks 546 = .ok (.aload_n 0, 1) := by decide +kernel
theorem dL_locks_547 : decode cL_locks 547 = .ok (.iconst 1, 1) := by decide +kernel
theorem dL_locks_548 : decode cL_locks 548 = .ok (.bipush 123, 2) := by decide +kernel
theorem dL_locks_550 : decode cL_locks 550 = .ok (.iconst 2, 1) := by decide +kernel
theorem dL_locks_551 : decode cL_locks 551 = .ok (.invokevirtual 7, 3) := by decide +kernel
theorem dL_locks_554 : decode cL_locks 554 = .ok (.iconst 4, 1) := by decide +kernel
theorem dL_locks_555 : decode cL_locks 555 = .ok (.if_icmp .ne 261, 3) := by decide +kernel
theorem dL_locks_558 : decode cL_locks 558 = .ok (.aload_n 0, 1) := by decide +kernel
theorem dL_locks_559 : decode cL_locks 559 = .ok (.iconst 2, 1) := by decide +kernel
theorem dL_locks_560 : decode cL_locks 560 = .ok (.bipush 123, 2) := by decide +kernel
theorem dL_locks_562 : decode cL_locks 562 = .ok (.iconst 1, 1) := by decide +kernel
