theorem dL_trees_177 : decode cL_trees 177 = .ok (.aload_n 0, 1) := by decide +kernel
theorem dL_trees_178 : decode cL_trees 178 = .ok (.iconst 1, 1) := by decide +kernel
theorem dL_trees_179 : decode cL_trees 179 = .ok (.bipush 11, 2) := by decide +kernel
theorem dL_trees_181 : decode cL_trees 181 = .ok (.bipush 12, 2) := by decide +kernel
theorem dL_trees_183 : decode cL_trees 183 = .ok (.iconst 0, 1) := by decide +kernel
theorem dL_trees_184 : decode cL_trees 184 = .ok (.invokestatic 96, 3) := by decide +kernel
theorem dL_trees_187 : decode cL_trees 187 = .ok (.ifCond .eq 191, 3) := by decide +kernel
theorem dL_trees_190 : decode cL_trees 190 = .ok (.aload_n 0, 1) := by decide +kernel
theorem dL_trees_191 : decode cL_trees 191 = .ok (.bipush 12, 2) := by decide +kernel
theorem dL_trees_193 : decode cL_trees 193 = .ok (.invokevirtual 31, 3) := by decide +kernel
theorem dL_trees_196 : decode cL_trees 196 = .ok (.iconst 2, 1) := by decide +kernel
theorem dL_trees_197 : decode cL_trees 197 = .ok (.if_icmp .ne 181, 3) := by decide +kernel
theorem dL_trees_200 : decode cL_trees 200 = .ok (.aload_n 0, 1) := by decide +kernel
theorem dL_trees_201 : decode cL_trees 201 = .ok (.bipush 11, 2) := by decide +kernel
theorem dL_trees_203 : decode cL_trees 203 = .ok (.invokevirtual 31, 3) := by decide +kernel
theorem dL_trees_206 : decode cL_trees 206 = .ok (.iconst 1, 1) := by decide +kernel
theorem dL_trees_207 : decode cL_trees 207 = .ok (.if_icmp .ne 171, 3) := by decide +kernel
theorem dL_trees_210 : decode cL_trees 210 = .ok (.aload_n 0, 1) := by decide +kernel
theorem dL_trees_211 : decode cL_trees 211 = .ok (.bipush 121, 2) := by decide +kernel
theorem dL_trees_213 : decode cL_trees 213 = .ok (.invokevirtual 34, 3) := by decide +kernel
theorem dL_trees_216 : decode cL_trees 216 = .ok (.bipush 7, 2) := by decide +kernel
theorem dL_trees_218 : decode cL_trees 218 = .ok (.if_icmp .ne 160, 3) := by decide +kernel
theorem dL_trees_221 : decode cL_trees 221 = .ok (.aload_n 0, 1) := by decide +kernel
theorem dL_trees_222 : decode cL_trees 222 = .ok (.bipush 12, 2) := by decide +kernel
theorem dL_trees_224 : decode cL_trees 224 = .ok (.invokevirtual 34, 3) := by decide +kernel
theorem dL_trees_227 : decode cL_trees 227 = .ok (.iconst (-1), 1) := by decide +kernel
theorem dL_trees_228 : decode cL_trees 228 = .ok (.if_icmp .ne 150, 3) := by decide +kernel
theorem dL_trees_231 : decode cL_trees 231 = .ok (.aload_n 0, 1) := by decide +kernel
theorem dL_trees_232 : decode cL_trees 232 = .ok (.bipush 13, 2) := by decide +kernel
theorem dL_trees_234 : decode cL_trees 234 = .ok (.invokevirtual 34, 3) := by decide +kernel
theorem dL_trees_237 : decode cL_trees 237 = .ok (.iconst (-1), 1) := by decide +kernel
theorem dL_trees_238 : decode cL_trees 238 = .ok (.if_icmp .ne 140, 3) := by decide +kernel
theorem dL_trees_241 : decode cL_trees 241 = .ok (.aload_n 0, 1) := by decide +kernel
theorem dL_trees_242 : decode cL_trees 242 = .ok (.iconst 0, 1) := by decide +kernel
theorem dL_trees_243 : decode cL_trees 243 = .ok (.bipush 11, 2) := by decide +kernel
theorem dL_trees_245 : decode cL_trees 245 = .ok (.bipush 6, 2) := by decide +kernel
theorem dL_trees_247 : decode cL_trees 247 = .ok (.iconst 5, 1) := by decide +kernel
theorem dL_trees_248 : decode cL_trees 248 = .ok (.iconst 0, 1) := by decide +kernel
theorem dL_trees_249 : decode cL_trees 249 = .ok (.invokevirtual 13, 3) := by decide +kernel
theorem dL_trees_252 : decode cL_trees 252 = .ok (.ifCond .ne 126, 3) := by decide +kernel
theorem dL_trees_255 : decode cL_trees 255 = .ok (.aload_n 0, 1) := by decide +kernel
theorem dL_trees_256 : decode cL_trees 256 = .ok (.iconst 0, 1) := by decide +kernel
theorem dL_trees_257 : decode cL_trees 257 = .ok (.bipush 11, 2) := by decide +kernel
theorem dL_trees_259 : decode cL_trees 259 = .ok (.bipush 9, 2) := by decide +kernel
theorem dL_trees_261 : decode cL_trees 261 = .ok (.iconst 5, 1) := by decide +kernel
theorem dL_trees_262 : decode cL_trees 262 = .ok (.iconst 0, 1) := by decide +kernel
theorem dL_trees_263 : decode cL_trees 263 = .ok (.invokevirtual 13, 3) := by decide +kernel
theorem dL_trees_266 : decode cL_trees 266 = .ok (.iconst 3, 1) := by decide +kernel
theorem dL_trees_267 : decode cL_trees 267 = .ok (.if_icmp .ne 111, 3) := by decide +kernel
theorem dL_trees_270 : decode cL_trees 270 = .ok (.aload_n 0, 1) := by decide +kernel
theorem dL_trees_271 : decode cL_trees 271 = .ok (.bipush 11, 2) := by decide +kernel
theorem dL_trees_273 : decode cL_trees 273 = .ok (.invokevirtual 34, 3) := by decide +kernel
theorem dL_trees_276 : decode cL_trees 276 = .ok (.bipush 6, 2) := by decide +kernel
theorem dL_trees_278 : decode cL_trees 278 = .ok (.if_icmp .ne 100, 3) := by decide +kernel
theorem dL_trees_281 : decode cL_trees 281 = .ok (.aload_n 0, 1) := by decide +kernel
theorem dL_trees_282 : decode cL_trees 282 = .ok (.iconst 0, 1) := by decide +kernel
theorem dL_trees_283 : decode cL_trees 283 = .ok (.bipush 12, 2) := by decide +kernel
theorem dL_trees_285 : decode cL_trees 285 = .ok (.iconst 1, 1) := by decide +kernel
theorem dL_trees_286 : decode cL_trees 286 = .ok (.iconst (-1), 1) := by decide +kernel
theorem dL_trees_287 : decode cL_trees 287 = .ok (.iconst 0, 1) := by decide +kernel
theorem dL_trees_288 : decode cL_trees 288 = .ok (.invokevirtual 13, 3) := by decide +kernel
theorem dL_trees_291 : decode cL_trees 291 = .ok (.iconst 2, 1) := by decide +kernel
theorem dL_trees_292 : decode cL_trees 292 = .ok (.if_icmp .ne 86, 3) := by decide +kernel
theorem dL_trees_295 : decode cL_trees 295 = .ok (.aload_n 0, 1) := by decide +kernel
theorem dL_trees_296 : decode cL_trees 296 = .ok (.iconst 0, 1) := by decide +kernel
theorem dL_trees_297 : decode cL_trees 297 = .ok (.bipush 111, 2) := by decide +kernel
theorem dL_trees_299 : decode cL_trees 299 = .ok (.iconst 1, 1) := by decide +kernel
theorem dL_trees_300 : decode cL_trees 300 = .ok (.iconst (-1), 1) := by decide +kernel
theorem dL_trees_301 : decode cL_trees 301 = .ok (.iconst 0, 1) := by decide +kernel
theorem dL_trees_302 : decode cL_trees 302 = .ok (.invokevirtual 13, 3) := by decide +kernel
theorem dL_trees_305 : decode cL_trees 305 = .ok (.iconst 1, 1) := by decide +kernel
theorem dL_trees_306 : decode cL_trees 306 = .ok (.if_icmp .ne 72, 3) := by decide +kernel
theorem dL_trees_309 : decode cL_trees 309 = .ok (.aload_n 0, 1) := by decide +kernel
theorem dL_trees_310 : decode cL_trees 310 = .ok (.iconst 0, 1) := by decide +kernel
theorem dL_trees_311 : decode cL_trees 311 = .ok (.bipush 13, 2) := by decide +kernel
theorem dL_trees_313 : decode cL_trees 313 = .ok (.iconst 1, 1) := by decide +kernel
theorem dL_trees_314 : decode cL_trees 314 = .ok (.iconst 3, 1) := by decide +kernel
theorem dL_trees_315 : decode cL_trees 315 = .ok (.iconst 0, 1) := by decide +kernel
theorem dL_trees_316 : decode cL_trees 316 = .ok (.invokevirtual 13, 3) := by decide +kernel
theorem dL_trees_319 : decode cL_trees 319 = .ok (.iconst 3, 1) := by decide +kernel
theorem dL_trees_320 : decode cL_trees 320 = .ok (.if_icmp .ne 58, 3) := by decide +kernel
theorem dL_trees_323 : decode cL_trees 323 = .ok (.aload_n 0, 1) := by decide +kernel
theorem dL_trees_324 : decode cL_trees 324 = .ok (.iconst 0, 1) := by decide +kernel
theorem dL_trees_325 : decode cL_trees 325 = .ok (.bipush 11, 2) := by decide +kernel
theorem dL_trees_327 : decode cL_trees 327 = .ok (.iconst 0, 1) := by decide +kernel
theorem dL_trees_328 : decode cL_trees 328 = .ok (.invokevirtual 7, 3) := by decide +kernel
theorem dL_trees_331 : decode cL_trees 331 = .ok (.iconst 2, 1) := by decide +kernel
theorem dL_trees_332 : decode cL_trees 332 = .ok (.if_icmp .ne 46, 3) := by decide +kernel
theorem dL_trees_335 : decode cL_trees 335 = .ok (.aload_n 0, 1) := by decide +kernel
theorem dL_trees_336 : decode cL_trees 336 = .ok (.iconst 0, 1) := by decide +kernel
theorem dL_trees_337 : decode cL_trees 337 = .ok (.bipush 21, 2) := by decide +kernel
theorem dL_trees_339 : decode cL_trees 339 = .ok (.iconst 0, 1) := by decide +kernel
theorem dL_trees_340 : decode cL_trees 340 = .ok (.invokevirtual 7, 3) := by decide +kernel
theorem dL_trees_343 : decode cL_trees 343 = .ok (.iconst 1, 1) := by decide +kernel
theorem dL_trees_344 : decode cL_trees 344 = .ok (.if_icmp .ne 34, 3) := by decide +kernel
theorem dL_trees_347 : decode cL_trees 347 = .ok (.aload_n 0, 1) := by decide +kernel
theorem dL_trees_348 : decode cL_trees 348 = .ok (.iconst 0, 1) := by decide +kernel
theorem dL_trees_349 : decode cL_trees 349 = .ok (.bipush 111, 2) := by decide +kernel
theorem dL_trees_351 : decode cL_trees 351 = .ok (.iconst 0, 1) := by decide +kernel
theorem dL_trees_352 : decode cL_trees 352 = .ok (.invokevirtual 7, 3) := by decide +kernel
theorem dL_trees_355 : decode cL_trees 355 = .ok (.iconst 1, 1) := by decide +kernel
theorem dL_trees_356 : decode cL_trees 356 = .ok (.if_icmp .ne 22, 3) := by decide +kernel
theorem dL_trees_359 : decode cL_trees 359 = .ok (.aload_n 0, 1) := by decide +kernel
theorem dL_trees_360 : decode cL_trees 360 = .ok (.iconst 0, 1) := by decide +kernel
theorem dL_trees_361 : decode cL_trees 361 = .ok (.bipush 13, 2) := by decide +kernel
theorem dL_trees_363 : decode cL_trees 363 = .ok (.iconst 0, 1) := by decide +kernel
theorem dL_trees_364 : decode cL_trees 364 = .ok (.invokevirtual 17, 3) := by decide +kernel
theorem dL_trees_367 : decode cL_trees 367 = .ok (.iconst 1, 1) := by decide +kernel
theorem dL_trees_368 : decode cL_trees 368 = .ok (.if_icmp .ne 10, 3) := by decide +kernel
theorem dL_trees_371 : decode cL_trees 371 = .ok (.aload_n 0, 1) := by decide +kernel
theorem dL_trees_372 : decode cL_trees 372 = .ok (.invokestatic 92, 3) := by decide +kernel
theorem dL_trees_375 : decode cL_trees 375 = .ok (.ifCond .ne 5, 3) := by decide +kernel
theorem dL_trees_378 : decode cL_trees 378 = .ok (.iconst 0, 1) := by decide +kernel
theorem dL_trees_379 : decode cL_trees 379 = .ok (.ireturn, 1) := by decide +kernel
theorem dL_trees_380 : decode cL_trees 380 = .ok (.aload_n 0, 1) := by decide +kernel
theorem dL_trees_381 : decode cL_trees 381 = .ok (.bipush 11, 2) := by decide +kernel
theorem dL_trees_383 : decode cL_trees 383 = .ok (.invokevirtual 65, 3) := by decide +kernel
theorem dL_trees_386 : decode cL_trees 386 = .ok (.ifCond .ne 356, 3) := by decide +kernel
theorem dL_trees_389 : decode cL_trees 389 = .ok (.aload_n 0, 1) := by decide +kernel
theorem dL_trees_390 : decode cL_trees 390 = .ok (.iconst 0, 1) := by decide +kernel
theorem dL_trees_391 : decode cL_trees 391 = .ok (.bipush 11, 2) := by decide +kernel
theorem dL_trees_393 : decode cL_trees 393 = .ok (.iconst 1, 1) := by decide +kernel
theorem dL_trees_394 : decode cL_trees 394 = .ok (.bipush 6, 2) := by decide +kernel
theorem dL_trees_396 : decode cL_trees 396 = .ok (.iconst 0, 1) := by decide +kernel
theorem dL_trees_397 : decode cL_trees 397 = .ok (.invokevirtual 13, 3) := by decide +kernel
theorem dL_trees_400 : decode cL_trees 400 = .ok (.ifCond .ne 342, 3) := by decide +kernel
theorem dL_trees_403 : decode cL_trees 403 = .ok (.aload_n 0, 1) := by decide +kernel
theorem dL_trees_404 : decode cL_trees 404 = .ok (.bipush 11, 2) := by decide +kernel
theorem dL_trees_406 : decode cL_trees 406 = .ok (.invokevirtual 65, 3) := by decide +kernel
theorem dL_trees_409 : decode cL_trees 409 = .ok (.iconst 1, 1) := by decide +kernel
theorem dL_trees_410 : decode cL_trees 410 = .ok (.if_icmp .ne 332, 3) := by decide +kernel
theorem dL_trees_413 : decode cL_trees 413 = .ok (.aload_n 0, 1) := by decide +kernel
theorem dL_trees_414 : decode cL_trees 414 = .ok (.iconst 0, 1) := by decide +kernel
theorem dL_trees_415 : decode cL_trees 415 = .ok (.bipush 11, 2) := by decide +kernel
theorem dL_trees_417 : decode cL_trees 417 = .ok (.iconst 0, 1) := by decide +kernel
theorem dL_trees_418 : decode cL_trees 418 = .ok (.iconst 0, 1) := by decide +kernel
theorem dL_trees_419 : decode cL_trees 419 = .ok (.invokevirtual 68, 3) := by decide +kernel
theorem dL_trees_422 : decode cL_trees 422 = .ok (.ifCond .ne 320, 3) := by decide +kernel
theorem dL_trees_425 : decode cL_trees 425 = .ok (.aload_n 0, 1) := by decide +kernel
theorem dL_trees_426 : decode cL_trees 426 = .ok (.bipush 11, 2) := by decide +kernel
theorem dL_trees_428 : decode cL_trees 428 = .ok (.invokevirtual 34, 3) := by decide +kernel
theorem dL_trees_431 : decode cL_trees 431 = .ok (.bipush 6, 2) := by decide +kernel
theorem dL_trees_433 : decode cL_trees 433 = .ok (.if_icmp .ne 309, 3) := by decide +kernel
theorem dL_trees_436 : decode cL_trees 436 = .ok (.aload_n 0, 1) := by decide +kernel
theorem dL_trees_437 : decode cL_trees 437 = .ok (.iconst 0, 1) := by decide +kernel
theorem dL_trees_438 : decode cL_trees 438 = .ok (.bipush 11, 2) := by decide +kernel
theorem dL_trees_440 : decode cL_trees 440 = .ok (.iconst 2, 1) := by decide +kernel
theorem dL_trees_441 : decode cL_trees 441 = .ok (.iconst 0, 1) := by decide +kernel
theorem dL_trees_442 : decode cL_trees 442 = .ok (.invokevirtual 68, 3) := by decide +kernel
theorem dL_trees_445 : decode cL_trees 445 = .ok (.iconst 1, 1) := by decide +kernel
theorem dL_trees_446 : decode cL_trees 446 = .ok (.if_icmp .ne 296, 3) := by decide +kernel
theorem dL_trees_449 : decode cL_trees 449 = .ok (.aload_n 0, 1) := by decide +kernel
theorem dL_trees_450 : decode cL_trees 450 = .ok (.iconst 0, 1) := by decide +kernel
theorem dL_trees_451 : decode cL_trees 451 = .ok (.bipush 12, 2) := by decide +kernel
theorem dL_trees_453 : decode cL_trees 453 = .ok (.iconst 0, 1) := by decide +kernel
theorem dL_trees_454 : decode cL_trees 454 = .ok (.iconst 0, 1) := by decide +kernel
theorem dL_trees_455 : decode cL_trees 455 = .ok (.invokevirtual 68, 3) := by decide +kernel
theorem dL_trees_458 : decode cL_trees 458 = .ok (.iconst 1, 1) := by decide +kernel
theorem dL_trees_459 : decode cL_trees 459 = .ok (.if_icmp .ne 283, 3) := by decide +kernel
theorem dL_trees_462 : decode cL_trees 462 = .ok (.aload_n 0, 1) := by decide +kernel
theorem dL_trees_463 : decode cL_trees 463 = .ok (.bipush 16, 2) := by decide +kernel
theorem dL_trees_465 : decode cL_trees 465 = .ok (.bipush 12, 2) := by decide +kernel
theorem dL_trees_467 : decode cL_trees 467 = .ok (.iconst 0, 1) := by decide +kernel
theorem dL_trees_468 : decode cL_trees 468 = .ok (.iconst 0, 1) := by decide +kernel
theorem dL_trees_469 : decode cL_trees 469 = .ok (.iconst 0, 1) := by decide +kernel
theorem dL_trees_470 : decode cL_trees 470 = .ok (.invokestatic 85, 3) := by decide +kernel
theorem dL_trees_473 : decode cL_trees 473 = .ok (.sipush (-9003), 3) := by decide +kernel
theorem dL_trees_476 : decode cL_trees 476 = .ok (.if_icmp .ne 266, 3) := by decide +kernel
theorem dL_trees_479 : decode cL_trees 479 = .ok (.aload_n 0, 1) := by decide +kernel
theorem dL_trees_480 : decode cL_trees 480 = .ok (.iconst 0, 1) := by decide +kernel
theorem dL_trees_481 : decode cL_trees 481 = .ok (.iconst 1, 1) := by decide +kernel
theorem dL_trees_482 : decode cL_trees 482 = .ok (.iconst 2, 1) := by decide +kernel
theorem dL_trees_483 : decode cL_trees 483 = .ok (.iconst 0, 1) := by decide +kernel
theorem dL_trees_484 : decode cL_trees 484 = .ok (.iconst 0, 1) := by decide +kernel
theorem dL_trees_485 : decode cL_trees 485 = .ok (.invokevirtual 24, 3) := by decide +kernel
theorem dL_trees_488 : decode cL_trees 488 = .ok (.ifCond .ne 254, 3) := by decide +kernel
theorem dL_trees_491 : decode cL_trees 491 = .ok (.aload_n 0, 1) := by decide +kernel
theorem dL_trees_492 : decode cL_trees 492 = .ok (.invokevirtual 77, 3) := by decide +kernel
theorem dL_trees_495 : decode cL_trees 495 = .ok (.bipush 10, 2) := by decide +kernel
theorem dL_trees_497 : decode cL_trees 497 = .ok (.if_icmp .ne 245, 3) := by decide +kernel
theorem dL_trees_500 : decode cL_trees 500 = .ok (.aload_n 0, 1) := by decide +kernel
theorem dL_trees_501 : decode cL_trees 501 = .ok (.iconst 2, 1) := by decide +kernel
theorem dL_trees_502 : decode cL_trees 502 = .ok (.bipush 21, 2) := by decide +kernel
theorem dL_trees_504 : decode cL_trees 504 = .ok (.bipush 22, 2) := by decide +kernel
theorem dL_trees_506 : decode cL_trees 506 = .ok (.iconst 0, 1) := by decide +kernel
theorem dL_trees_507 : decode cL_trees 507 = .ok (.invokestatic 96, 3) := by decide +kernel
theorem dL_trees_510 : decode cL_trees 510 = .ok (.ifCond .eq 232, 3) := by decide +kernel
theorem dL_trees_513 : decode cL_trees 513 = .ok (.aload_n 0, 1) := by decide +kernel
theorem dL_trees_514 : decode cL_trees 514 = .ok (.bipush 22, 2) := by decide +kernel
theorem dL_trees_516 : decode cL_trees 516 = .ok (.sipush 221, 3) := by decide +kernel
theorem dL_trees_519 : decode cL_trees 519 = .ok (.sipush 222, 3) := by decide +kernel
theorem dL_trees_522 : decode cL_trees 522 = .ok (.iconst 0, 1) := by decide +kernel
theorem dL_trees_523 : decode cL_trees 523 = .ok (.invokestatic 96, 3) := by decide +kernel
theorem dL_trees_526 : decode cL_trees 526 = .ok (.ifCond .eq 216, 3) := by decide +kernel
theorem dL_trees_529 : decode cL_trees 529 = .ok (.aload_n 0, 1) := by decide +kernel
theorem dL_trees_530 : decode cL_trees 530 = .ok (.sipush 221, 3) := by decide +kernel
theorem dL_trees_533 : decode cL_trees 533 = .ok (.invokevirtual 34, 3) := by decide +kernel
theorem dL_trees_536 : decode cL_trees 536 = .ok (.bipush 7, 2) := by decide +kernel
theorem dL_trees_538 : decode cL_trees 538 = .ok (.if_icmp .ne 204, 3) := by decide +kernel
theorem dL_trees_541 : decode cL_trees 541 = .ok (.aload_n 0, 1) := by decide +kernel
