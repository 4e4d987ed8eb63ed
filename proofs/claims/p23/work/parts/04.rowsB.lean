theorem dL_refuses_147 : decode cL_refuses 147 = .ok (.istore 12, 2) := by decide +kernel
theorem dL_refuses_149 : decode cL_refuses 149 = .ok (.iload 8, 2) := by decide +kernel
theorem dL_refuses_151 : decode cL_refuses 151 = .ok (.iconst 2, 1) := by decide +kernel
theorem dL_refuses_152 : decode cL_refuses 152 = .ok (.if_icmp .ge 7, 3) := by decide +kernel
theorem dL_refuses_155 : decode cL_refuses 155 = .ok (.iconst (-1), 1) := by decide +kernel
theorem dL_refuses_156 : decode cL_refuses 156 = .ok (.goto 17, 3) := by decide +kernel
theorem dL_refuses_159 : decode cL_refuses 159 = .ok (.iload 8, 2) := by decide +kernel
theorem dL_refuses_161 : decode cL_refuses 161 = .ok (.iconst 2, 1) := by decide +kernel
theorem dL_refuses_162 : decode cL_refuses 162 = .ok (.if_icmp .ne 9, 3) := by decide +kernel
theorem dL_refuses_165 : decode cL_refuses 165 = .ok (.iload 7, 2) := by decide +kernel
theorem dL_refuses_167 : decode cL_refuses 167 = .ok (.ineg, 1) := by decide +kernel
theorem dL_refuses_168 : decode cL_refuses 168 = .ok (.goto 5, 3) := by decide +kernel
theorem dL_refuses_171 : decode cL_refuses 171 = .ok (.iload 9, 2) := by decide +kernel
theorem dL_refuses_173 : decode cL_refuses 173 = .ok (.istore 13, 2) := by decide +kernel
theorem dL_refuses_175 : decode cL_refuses 175 = .ok (.iload 8, 2) := by decide +kernel
theorem dL_refuses_177 : decode cL_refuses 177 = .ok (.iconst 1, 1) := by decide +kernel
theorem dL_refuses_178 : decode cL_refuses 178 = .ok (.if_icmp .ne 9, 3) := by decide +kernel
theorem dL_refuses_181 : decode cL_refuses 181 = .ok (.sipush 1000, 3) := by decide +kernel
theorem dL_refuses_184 : decode cL_refuses 184 = .ok (.goto 5, 3) := by decide +kernel
theorem dL_refuses_187 : decode cL_refuses 187 = .ok (.iload 9, 2) := by decide +kernel
theorem dL_refuses_189 : decode cL_refuses 189 = .ok (.istore 14, 2) := by decide +kernel
theorem dL_refuses_191 : decode cL_refuses 191 = .ok (.aload_n 0, 1) := by decide +kernel
theorem dL_refuses_192 : decode cL_refuses 192 = .ok (.iconst 0, 1) := by decide +kernel
theorem dL_refuses_193 : decode cL_refuses 193 = .ok (.iload 10, 2) := by decide +kernel
theorem dL_refuses_195 : decode cL_refuses 195 = .ok (.iconst 1, 1) := by decide +kernel
theorem dL_refuses_196 : decode cL_refuses 196 = .ok (.iconst 0, 1) := by decide +kernel
theorem dL_refuses_197 : decode cL_refuses 197 = .ok (.iconst 0, 1) := by decide +kernel
theorem dL_refuses_198 : decode cL_refuses 198 = .ok (.invokestatic 85, 3) := by decide +kernel
theorem dL_refuses_201 : decode cL_refuses 201 = .ok (.iload 6, 2) := by decide +kernel
theorem dL_refuses_203 : decode cL_refuses 203 = .ok (.if_icmp .ne 253, 3) := by decide +kernel
theorem dL_refuses_206 : decode cL_refuses 206 = .ok (.aload_n 0, 1) := by decide +kernel
theorem dL_refuses_207 : decode cL_refuses 207 = .ok (.iconst 0, 1) := by decide +kernel
theorem dL_refuses_208 : decode cL_refuses 208 = .ok (.iconst 0, 1) := by decide +kernel
theorem dL_refuses_209 : decode cL_refuses 209 = .ok (.iconst 0, 1) := by decide +kernel
theorem dL_refuses_210 : decode cL_refuses 210 = .ok (.iconst 0, 1) := by decide +kernel
theorem dL_refuses_211 : decode cL_refuses 211 = .ok (.iconst 0, 1) := by decide +kernel
theorem dL_refuses_212 : decode cL_refuses 212 = .ok (.invokestatic 85, 3) := by decide +kernel
theorem dL_refuses_215 : decode cL_refuses 215 = .ok (.iload 6, 2) := by decide +kernel
theorem dL_refuses_217 : decode cL_refuses 217 = .ok (.if_icmp .ne 239, 3) := by decide +kernel
theorem dL_refuses_220 : decode cL_refuses 220 = .ok (.aload_n 0, 1) := by decide +kernel
theorem dL_refuses_221 : decode cL_refuses 221 = .ok (.iconst 0, 1) := by decide +kernel
theorem dL_refuses_222 : decode cL_refuses 222 = .ok (.iconst 0, 1) := by decide +kernel
theorem dL_refuses_223 : decode cL_refuses 223 = .ok (.iconst 1, 1) := by decide +kernel
theorem dL_refuses_224 : decode cL_refuses 224 = .ok (.iload 13, 2) := by decide +kernel
theorem dL_refuses_226 : decode cL_refuses 226 = .ok (.iconst 0, 1) := by decide +kernel
theorem dL_refuses_227 : decode cL_refuses 227 = .ok (.invokestatic 85, 3) := by decide +kernel
theorem dL_refuses_230 : decode cL_refuses 230 = .ok (.iload 6, 2) := by decide +kernel
theorem dL_refuses_232 : decode cL_refuses 232 = .ok (.if_icmp .ne 224, 3) := by decide +kernel
theorem dL_refuses_235 : decode cL_refuses 235 = .ok (.aload_n 0, 1) := by decide +kernel
theorem dL_refuses_236 : decode cL_refuses 236 = .ok (.iconst 1, 1) := by decide +kernel
theorem dL_refuses_237 : decode cL_refuses 237 = .ok (.iload 10, 2) := by decide +kernel
theorem dL_refuses_239 : decode cL_refuses 239 = .ok (.iconst 1, 1) := by decide +kernel
theorem dL_refuses_240 : decode cL_refuses 240 = .ok (.iconst 0, 1) := by decide +kernel
theorem dL_refuses_241 : decode cL_refuses 241 = .ok (.iconst 0, 1) := by decide +kernel
theorem dL_refuses_242 : decode cL_refuses 242 = .ok (.invokestatic 85, 3) := by decide +kernel
theorem dL_refuses_245 : decode cL_refuses 245 = .ok (.iload 6, 2) := by decide +kernel
theorem dL_refuses_247 : decode cL_refuses 247 = .ok (.if_icmp .ne 209, 3) := by decide +kernel
theorem dL_refuses_250 : decode cL_refuses 250 = .ok (.aload_n 0, 1) := by decide +kernel
theorem dL_refuses_251 : decode cL_refuses 251 = .ok (.iconst 1, 1) := by decide +kernel
theorem dL_refuses_252 : decode cL_refuses 252 = .ok (.iconst 0, 1) := by decide +kernel
theorem dL_refuses_253 : decode cL_refuses 253 = .ok (.iconst 0, 1) := by decide +kernel
theorem dL_refuses_254 : decode cL_refuses 254 = .ok (.iconst 0, 1) := by decide +kernel
theorem dL_refuses_255 : decode cL_refuses 255 = .ok (.iconst 0, 1) := by decide +kernel
theorem dL_refuses_256 : decode cL_refuses 256 = .ok (.invokestatic 85, 3) := by decide +kernel
theorem dL_refuses_259 : decode cL_refuses 259 = .ok (.iload 6, 2) := by decide +kernel
theorem dL_refuses_261 : decode cL_refuses 261 = .ok (.if_icmp .ne 195, 3) := by decide +kernel
theorem dL_refuses_264 : decode cL_refuses 264 = .ok (.aload_n 0, 1) := by decide +kernel
theorem dL_refuses_265 : decode cL_refuses 265 = .ok (.iconst 1, 1) := by decide +kernel
theorem dL_refuses_266 : decode cL_refuses 266 = .ok (.iconst 0, 1) := by decide +kernel
theorem dL_refuses_267 : decode cL_refuses 267 = .ok (.iconst 1, 1) := by decide +kernel
theorem dL_refuses_268 : decode cL_refuses 268 = .ok (.iload 14, 2) := by decide +kernel
theorem dL_refuses_270 : decode cL_refuses 270 = .ok (.iconst 0, 1) := by decide +kernel
theorem dL_refuses_271 : decode cL_refuses 271 = .ok (.invokestatic 85, 3) := by decide +kernel
theorem dL_refuses_274 : decode cL_refuses 274 = .ok (.iload 6, 2) := by decide +kernel
theorem dL_refuses_276 : decode cL_refuses 276 = .ok (.if_icmp .ne 180, 3) := by decide +kernel
theorem dL_refuses_279 : decode cL_refuses 279 = .ok (.aload_n 0, 1) := by decide +kernel
theorem dL_refuses_280 : decode cL_refuses 280 = .ok (.iconst 1, 1) := by decide +kernel
theorem dL_refuses_281 : decode cL_refuses 281 = .ok (.iconst 0, 1) := by decide +kernel
theorem dL_refuses_282 : decode cL_refuses 282 = .ok (.iconst 1, 1) := by decide +kernel
theorem dL_refuses_283 : decode cL_refuses 283 = .ok (.iconst 0, 1) := by decide +kernel
theorem dL_refuses_284 : decode cL_refuses 284 = .ok (.iload 13, 2) := by decide +kernel
theorem dL_refuses_286 : decode cL_refuses 286 = .ok (.invokestatic 85, 3) := by decide +kernel
theorem dL_refuses_289 : decode cL_refuses 289 = .ok (.iload 6, 2) := by decide +kernel
theorem dL_refuses_291 : decode cL_refuses 291 = .ok (.if_icmp .ne 165, 3) := by decide +kernel
theorem dL_refuses_294 : decode cL_refuses 294 = .ok (.aload_n 0, 1) := by decide +kernel
theorem dL_refuses_295 : decode cL_refuses 295 = .ok (.bipush 18, 2) := by decide +kernel
theorem dL_refuses_297 : decode cL_refuses 297 = .ok (.iconst 0, 1) := by decide +kernel
theorem dL_refuses_298 : decode cL_refuses 298 = .ok (.iconst 1, 1) := by decide +kernel
theorem dL_refuses_299 : decode cL_refuses 299 = .ok (.iload 8, 2) := by decide +kernel
theorem dL_refuses_301 : decode cL_refuses 301 = .ok (.ifCond .ne 8, 3) := by decide +kernel
theorem dL_refuses_304 : decode cL_refuses 304 = .ok (.bipush (-2), 2) := by decide +kernel
theorem dL_refuses_306 : decode cL_refuses 306 = .ok (.goto 5, 3) := by decide +kernel
theorem dL_refuses_309 : decode cL_refuses 309 = .ok (.iload 14, 2) := by decide +kernel
theorem dL_refuses_311 : decode cL_refuses 311 = .ok (.iconst 0, 1) := by decide +kernel
theorem dL_refuses_312 : decode cL_refuses 312 = .ok (.invokestatic 85, 3) := by decide +kernel
theorem dL_refuses_315 : decode cL_refuses 315 = .ok (.iload 6, 2) := by decide +kernel
theorem dL_refuses_317 : decode cL_refuses 317 = .ok (.if_icmp .ne 139, 3) := by decide +kernel
theorem dL_refuses_320 : decode cL_refuses 320 = .ok (.aload_n 0, 1) := by decide +kernel
theorem dL_refuses_321 : decode cL_refuses 321 = .ok (.iconst 2, 1) := by decide +kernel
theorem dL_refuses_322 : decode cL_refuses 322 = .ok (.iload 10, 2) := by decide +kernel
theorem dL_refuses_324 : decode cL_refuses 324 = .ok (.iconst 1, 1) := by decide +kernel
theorem dL_refuses_325 : decode cL_refuses 325 = .ok (.iconst 0, 1) := by decide +kernel
theorem dL_refuses_326 : decode cL_refuses 326 = .ok (.iconst 0, 1) := by decide +kernel
theorem dL_refuses_327 : decode cL_refuses 327 = .ok (.invokestatic 85, 3) := by decide +kernel
theorem dL_refuses_330 : decode cL_refuses 330 = .ok (.iload 6, 2) := by decide +kernel
theorem dL_refuses_332 : decode cL_refuses 332 = .ok (.if_icmp .ne 124, 3) := by decide +kernel
theorem dL_refuses_335 : decode cL_refuses 335 = .ok (.aload_n 0, 1) := by decide +kernel
theorem dL_refuses_336 : decode cL_refuses 336 = .ok (.iconst 2, 1) := by decide +kernel
theorem dL_refuses_337 : decode cL_refuses 337 = .ok (.iconst 0, 1) := by decide +kernel
theorem dL_refuses_338 : decode cL_refuses 338 = .ok (.iconst 0, 1) := by decide +kernel
theorem dL_refuses_339 : decode cL_refuses 339 = .ok (.iconst 0, 1) := by decide +kernel
theorem dL_refuses_340 : decode cL_refuses 340 = .ok (.iconst 0, 1) := by decide +kernel
theorem dL_refuses_341 : decode cL_refuses 341 = .ok (.invokestatic 85, 3) := by decide +kernel
theorem dL_refuses_344 : decode cL_refuses 344 = .ok (.iload 6, 2) := by decide +kernel
theorem dL_refuses_346 : decode cL_refuses 346 = .ok (.if_icmp .ne 110, 3) := by decide +kernel
theorem dL_refuses_349 : decode cL_refuses 349 = .ok (.aload_n 0, 1) := by decide +kernel
theorem dL_refuses_350 : decode cL_refuses 350 = .ok (.iconst 2, 1) := by decide +kernel
theorem dL_refuses_351 : decode cL_refuses 351 = .ok (.iconst 0, 1) := by decide +kernel
theorem dL_refuses_352 : decode cL_refuses 352 = .ok (.iconst 1, 1) := by decide +kernel
theorem dL_refuses_353 : decode cL_refuses 353 = .ok (.iload 13, 2) := by decide +kernel
theorem dL_refuses_355 : decode cL_refuses 355 = .ok (.iconst 0, 1) := by decide +kernel
theorem dL_refuses_356 : decode cL_refuses 356 = .ok (.invokestatic 85, 3) := by decide +kernel
theorem dL_refuses_359 : decode cL_refuses 359 = .ok (.iload 6, 2) := by decide +kernel
theorem dL_refuses_361 : decode cL_refuses 361 = .ok (.if_icmp .ne 95, 3) := by decide +kernel
theorem dL_refuses_364 : decode cL_refuses 364 = .ok (.aload_n 0, 1) := by decide +kernel
theorem dL_refuses_365 : decode cL_refuses 365 = .ok (.iconst 3, 1) := by decide +kernel
theorem dL_refuses_366 : decode cL_refuses 366 = .ok (.iload 8, 2) := by decide +kernel
theorem dL_refuses_368 : decode cL_refuses 368 = .ok (.iconst 1, 1) := by decide +kernel
theorem dL_refuses_369 : decode cL_refuses 369 = .ok (.if_icmp .ne 7, 3) := by decide +kernel
theorem dL_refuses_372 : decode cL_refuses 372 = .ok (.iload_n 3, 1) := by decide +kernel
theorem dL_refuses_373 : decode cL_refuses 373 = .ok (.goto 5, 3) := by decide +kernel
theorem dL_refuses_376 : decode cL_refuses 376 = .ok (.iload 9, 2) := by decide +kernel
theorem dL_refuses_378 : decode cL_refuses 378 = .ok (.iconst 0, 1) := by decide +kernel
theorem dL_refuses_379 : decode cL_refuses 379 = .ok (.iconst 0, 1) := by decide +kernel
theorem dL_refuses_380 : decode cL_refuses 380 = .ok (.iconst 0, 1) := by decide +kernel
theorem dL_refuses_381 : decode cL_refuses 381 = .ok (.invokestatic 85, 3) := by decide +kernel
theorem dL_refuses_384 : decode cL_refuses 384 = .ok (.iload 5, 2) := by decide +kernel
theorem dL_refuses_386 : decode cL_refuses 386 = .ok (.if_icmp .ne 70, 3) := by decide +kernel
theorem dL_refuses_389 : decode cL_refuses 389 = .ok (.aload_n 0, 1) := by decide +kernel
theorem dL_refuses_390 : decode cL_refuses 390 = .ok (.bipush 10, 2) := by decide +kernel
theorem dL_refuses_392 : decode cL_refuses 392 = .ok (.iload 10, 2) := by decide +kernel
theorem dL_refuses_394 : decode cL_refuses 394 = .ok (.iconst 1, 1) := by decide +kernel
theorem dL_refuses_395 : decode cL_refuses 395 = .ok (.iconst 0, 1) := by decide +kernel
theorem dL_refuses_396 : decode cL_refuses 396 = .ok (.iconst 0, 1) := by decide +kernel
theorem dL_refuses_397 : decode cL_refuses 397 = .ok (.invokestatic 85, 3) := by decide +kernel
theorem dL_refuses_400 : decode cL_refuses 400 = .ok (.iload 6, 2) := by decide +kernel
theorem dL_refuses_402 : decode cL_refuses 402 = .ok (.if_icmp .ne 54, 3) := by decide +kernel
theorem dL_refuses_405 : decode cL_refuses 405 = .ok (.aload_n 0, 1) := by decide +kernel
theorem dL_refuses_406 : decode cL_refuses 406 = .ok (.bipush 10, 2) := by decide +kernel
theorem dL_refuses_408 : decode cL_refuses 408 = .ok (.iconst 0, 1) := by decide +kernel
theorem dL_refuses_409 : decode cL_refuses 409 = .ok (.iconst 0, 1) := by decide +kernel
theorem dL_refuses_410 : decode cL_refuses 410 = .ok (.iconst 0, 1) := by decide +kernel
theorem dL_refuses_411 : decode cL_refuses 411 = .ok (.iconst 0, 1) := by decide +kernel
theorem dL_refuses_412 : decode cL_refuses 412 = .ok (.invokestatic 85, 3) := by decide +kernel
theorem dL_refuses_415 : decode cL_refuses 415 = .ok (.iload 6, 2) := by decide +kernel
theorem dL_refuses_417 : decode cL_refuses 417 = .ok (.if_icmp .ne 39, 3) := by decide +kernel
theorem dL_refuses_420 : decode cL_refuses 420 = .ok (.aload_n 0, 1) := by decide +kernel
theorem dL_refuses_421 : decode cL_refuses 421 = .ok (.bipush 10, 2) := by decide +kernel
theorem dL_refuses_423 : decode cL_refuses 423 = .ok (.iconst 0, 1) := by decide +kernel
theorem dL_refuses_424 : decode cL_refuses 424 = .ok (.iconst 1, 1) := by decide +kernel
theorem dL_refuses_425 : decode cL_refuses 425 = .ok (.iload 13, 2) := by decide +kernel
theorem dL_refuses_427 : decode cL_refuses 427 = .ok (.iconst 0, 1) := by decide +kernel
theorem dL_refuses_428 : decode cL_refuses 428 = .ok (.invokestatic 85, 3) := by decide +kernel
theorem dL_refuses_431 : decode cL_refuses 431 = .ok (.iload 6, 2) := by decide +kernel
theorem dL_refuses_433 : decode cL_refuses 433 = .ok (.if_icmp .ne 23, 3) := by decide +kernel
theorem dL_refuses_436 : decode cL_refuses 436 = .ok (.aload_n 0, 1) := by decide +kernel
theorem dL_refuses_437 : decode cL_refuses 437 = .ok (.bipush 10, 2) := by decide +kernel
theorem dL_refuses_439 : decode cL_refuses 439 = .ok (.iconst 0, 1) := by decide +kernel
theorem dL_refuses_440 : decode cL_refuses 440 = .ok (.iconst 1, 1) := by decide +kernel
theorem dL_refuses_441 : decode cL_refuses 441 = .ok (.iconst 0, 1) := by decide +kernel
theorem dL_refuses_442 : decode cL_refuses 442 = .ok (.iload 13, 2) := by decide +kernel
theorem dL_refuses_444 : decode cL_refuses 444 = .ok (.invokestatic 85, 3) := by decide +kernel
theorem dL_refuses_447 : decode cL_refuses 447 = .ok (.iload 6, 2) := by decide +kernel
theorem dL_refuses_449 : decode cL_refuses 449 = .ok (.if_icmp .ne 7, 3) := by decide +kernel
theorem dL_refuses_452 : decode cL_refuses 452 = .ok (.iconst 1, 1) := by decide +kernel
theorem dL_refuses_453 : decode cL_refuses 453 = .ok (.goto 4, 3) := by decide +kernel
theorem dL_refuses_456 : decode cL_refuses 456 = .ok (.iconst 0, 1) := by decide +kernel
theorem dL_refuses_457 : decode cL_refuses 457 = .ok (.istore 15, 2) := by decide +kernel
theorem dL_refuses_459 : decode cL_refuses 459 = .ok (.iconst 4, 1) := by decide +kernel
theorem dL_refuses_460 : decode cL_refuses 460 = .ok (.istore 16, 2) := by decide +kernel
theorem dL_refuses_462 : decode cL_refuses 462 = .ok (.iload 16, 2) := by decide +kernel
theorem dL_refuses_464 : decode cL_refuses 464 = .ok (.bipush 6, 2) := by decide +kernel
theorem dL_refuses_466 : decode cL_refuses 466 = .ok (.if_icmp .ge 146, 3) := by decide +kernel
theorem dL_refuses_469 : decode cL_refuses 469 = .ok (.iload 15, 2) := by decide +kernel
theorem dL_refuses_471 : decode cL_refuses 471 = .ok (.ifCond .eq 132, 3) := by decide +kernel
theorem dL_refuses_474 : decode cL_refuses 474 = .ok (.aload_n 0, 1) := by decide +kernel
theorem dL_refuses_475 : decode cL_refuses 475 = .ok (.iload 16, 2) := by decide +kernel
theorem dL_refuses_477 : decode cL_refuses 477 = .ok (.iload 10, 2) := by decide +kernel
theorem dL_refuses_479 : decode cL_refuses 479 = .ok (.iconst 1, 1) := by decide +kernel
theorem dL_refuses_480 : decode cL_refuses 480 = .ok (.iconst 2, 1) := by decide +kernel
theorem dL_refuses_481 : decode cL_refuses 481 = .ok (.iconst 0, 1) := by decide +kernel
theorem dL_refuses_482 : decode cL_refuses 482 = .ok (.invokestatic 85, 3) := by decide +kernel
theorem dL_refuses_485 : decode cL_refuses 485 = .ok (.iload 6, 2) := by decide +kernel
theorem dL_refuses_487 : decode cL_refuses 487 = .ok (.if_icmp .ne 116, 3) := by decide +kernel
theorem dL_refuses_490 : decode cL_refuses 490 = .ok (.aload_n 0, 1) := by decide +kernel
theorem dL_refuses_491 : decode cL_refuses 491 = .ok (.iload 16, 2) := by decide +kernel
theorem dL_refuses_493 : decode cL_refuses 493 = .ok (.iconst 0, 1) := by decide +kernel
theorem dL_refuses_494 : decode cL_refuses 494 = .ok (.iconst 0, 1) := by decide +kernel
theorem dL_refuses_495 : decode cL_refuses 495 = .ok (.iconst 2, 1) := by decide +kernel
theorem dL_refuses_496 : decode cL_refuses 496 = .ok (.iconst 0, 1) := by decide +kernel
theorem dL_refuses_497 : decode cL_refuses 497 = .ok (.invokestatic 85, 3) := by decide +kernel
theorem dL_refuses_500 : decode cL_refuses 500 = .ok (.iload 6, 2) := by decide +kernel
theorem dL_refuses_502 : decode cL_refuses 502 = .ok (.if_icmp .ne 101, 3) := by decide +kernel
theorem dL_refuses_505 : decode cL_refuses 505 = .ok (.aload_n 0, 1) := by decide +kernel
theorem dL_refuses_506 : decode cL_refuses 506 = .ok (.iload 16, 2) := by decide +kernel
theorem dL_refuses_508 : decode cL_refuses 508 = .ok (.iconst 0, 1) := by decide +kernel
theorem dL_refuses_509 : decode cL_refuses 509 = .ok (.iconst 1, 1) := by decide +kernel
theorem dL_refuses_510 : decode cL_refuses 510 = .ok (.iconst 0, 1) := by decide +kernel
theorem dL_refuses_511 : decode cL_refuses 511 = .ok (.iconst 0, 1) := by decide +kernel
theorem dL_refuses_512 : decode cL_refuses 512 = .ok (.invokestatic 85, 3) := by decide +kernel
theorem dL_refuses_515 : decode cL_refuses 515 = .ok (.iload 6, 2) := by decide +kernel
theorem dL_refuses_517 : decode cL_refuses 517 = .ok (.if_icmp .ne 86, 3) := by decide +kernel
theorem dL_refuses_520 : decode cL_refuses 520 = .ok (.aload_n 0, 1) := by decide +kernel
theorem dL_refuses_521 : decode cL_refuses 521 = .ok (.iload 16, 2) := by decide +kernel
theorem dL_refuses_523 : decode cL_refuses 523 = .ok (.iconst 0, 1) := by decide +kernel
theorem dL_refuses_524 : decode cL_refuses 524 = .ok (.iconst 1, 1) := by decide +kernel
theorem dL_refuses_525 : decode cL_refuses 525 = .ok (.iload 11, 2) := by decide +kernel
theorem dL_refuses_527 : decode cL_refuses 527 = .ok (.iconst 0, 1) := by decide +kernel
theorem dL_refuses_528 : decode cL_refuses 528 = .ok (.invokestatic 85, 3) := by decide +kernel
theorem dL_refuses_531 : decode cL_refuses 531 = .ok (.iload 6, 2) := by decide +kernel
theorem dL_refuses_533 : decode cL_refuses 533 = .ok (.if_icmp .ne 70, 3) := by decide +kernel
theorem dL_refuses_536 : decode cL_refuses 536 = .ok (.aload_n 0, 1) := by decide +kernel
theorem dL_refuses_537 : decode cL_refuses 537 = .ok (.iload 16, 2) := by decide +kernel
theorem dL_refuses_539 : decode cL_refuses 539 = .ok (.iconst 0, 1) := by decide +kernel
theorem dL_refuses_540 : decode cL_refuses 540 = .ok (.iload 11, 2) := by decide +kernel
theorem dL_refuses_542 : decode cL_refuses 542 = .ok (.iconst 1, 1) := by decide +kernel
theorem dL_refuses_543 : decode cL_refuses 543 = .ok (.iconst 0, 1) := by decide +kernel
theorem dL_refuses_544 : decode cL_refuses 544 = .ok (.invokestatic 85, 3) := by decide +kernel
theorem dL_refuses_547 : decode cL_refuses 547 = .ok (.iload 6, 2) := by decide +kernel
theorem dL_refuses_549 : decode cL_refuses 549 = .ok (.if_icmp .ne 54, 3) := by decide +kernel
theorem dL_refuses_552 : decode cL_refuses 552 = .ok (.aload_n 0, 1) := by decide +kernel
theorem dL_refuses_553 : decode cL_refuses 553 = .ok (.iload 16, 2) := by decide +kernel
theorem dL_refuses_555 : decode cL_refuses 555 = .ok (.iconst 0, 1) := by decide +kernel
theorem dL_refuses_556 : decode cL_refuses 556 = .ok (.iconst 1, 1) := by decide +kernel
theorem dL_refuses_557 : decode cL_refuses 557 = .ok (.iconst 1, 1) := by decide +kernel
theorem dL_refuses_558 : decode cL_refuses 558 = .ok (.iconst 1, 1) := by decide +kernel
theorem dL_refuses_559 : decode cL_refuses 559 = .ok (.invokestatic 85, 3) := by decide +kernel
theorem dL_refuses_562 : decode cL_refuses 562 = .ok (.iload 6, 2) := by decide +kernel
theorem dL_refuses_564 : decode cL_refuses 564 = .ok (.if_icmp .ne 39, 3) := by decide +kernel
theorem dL_refuses_567 : decode cL_refuses 567 = .ok (.aload_n 0, 1) := by decide +kernel
theorem dL_refuses_568 : decode cL_refuses 568 = .ok (.iload 16, 2) := by decide +kernel
theorem dL_refuses_570 : decode cL_refuses 570 = .ok (.iconst 0, 1) := by decide +kernel
theorem dL_refuses_571 : decode cL_refuses 571 = .ok (.iconst 1, 1) := by decide +kernel
theorem dL_refuses_572 : decode cL_refuses 572 = .ok (.bipush 12, 2) := by decide +kernel
theorem dL_refuses_574 : decode cL_refuses 574 = .ok (.iconst 1, 1) := by decide +kernel
theorem dL_refuses_575 : decode cL_refuses 575 = .ok (.invokestatic 85, 3) := by decide +kernel
theorem dL_refuses_578 : decode cL_refuses 578 = .ok (.iload 6, 2) := by decide +kernel
theorem dL_refuses_580 : decode cL_refuses 580 = .ok (.if_icmp .ne 23, 3) := by decide +kernel
theorem dL_refuses_583 : decode cL_refuses 583 = .ok (.aload_n 0, 1) := by decide +kernel
theorem dL_refuses_584 : decode cL_refuses 584 = .ok (.iload 16, 2) := by decide +kernel
theorem dL_refuses_586 : decode cL_refuses 586 = .ok (.iconst 0, 1) := by decide +kernel
theorem dL_refuses_587 : decode cL_refuses 587 = .ok (.bipush 123, 2) := by decide +kernel
theorem dL_refuses_589 : decode cL_refuses 589 = .ok (.iconst 1, 1) := by decide +kernel
theorem dL_refuses_590 : decode cL_refuses 590 = .ok (.iconst 1, 1) := by decide +kernel
theorem dL_refuses_591 : decode cL_refuses 591 = .ok (.invokestatic 85, 3) := by decide +kernel
theorem dL_refuses_594 : decode cL_refuses 594 = .ok (.iload 6, 2) := by decide +kernel
theorem dL_refuses_596 : decode cL_refuses 596 = .ok (.if_icmp .ne 7, 3) := by decide +kernel
theorem dL_refuses_599 : decode cL_refuses 599 = .ok (.iconst 1, 1) := by decide +kernel
theorem dL_refuses_600 : decode cL_refuses 600 = .ok (.goto 4, 3) := by decide +kernel
theorem dL_refuses_603 : decode cL_refuses 603 = .ok (.iconst 0, 1) := by decide +kernel
theorem dL_refuses_604 : decode cL_refuses 604 = .ok (.istore 15, 2) := by decide +kernel
theorem dL_refuses_606 : decode cL_refuses 606 = .ok (.iinc 16 1, 3) := by decide +kernel
theorem dL_refuses_609 : decode cL_refuses 609 = .ok (.goto (-147), 3) := by decide +kernel
theorem dL_refuses_612 : decode cL_refuses 612 = .ok (.bipush 6, 2) := by decide +kernel
theorem dL_refuses_614 : decode cL_refuses 614 = .ok (.istore 16, 2) := by decide +kernel
theorem dL_refuses_616 : decode cL_refuses 616 = .ok (.iload 16, 2) := by decide +kernel
theorem dL_refuses_618 : decode cL_refuses 618 = .ok (.bipush 9, 2) := by decide +kernel
theorem dL_refuses_620 : decode cL_refuses 620 = .ok (.if_icmp .ge 53, 3) := by decide +kernel
theorem dL_refuses_623 : decode cL_refuses 623 = .ok (.iload 15, 2) := by decide +kernel
theorem dL_refuses_625 : decode cL_refuses 625 = .ok (.ifCond .eq 39, 3) := by decide +kernel
theorem dL_refuses_628 : decode cL_refuses 628 = .ok (.aload_n 0, 1) := by decide +kernel
theorem dL_refuses_629 : decode cL_refuses 629 = .ok (.iload 16, 2) := by decide +kernel
theorem dL_refuses_631 : decode cL_refuses 631 = .ok (.iload 11, 2) := by decide +kernel
theorem dL_refuses_633 : decode cL_refuses 633 = .ok (.iconst 0, 1) := by decide +kernel
theorem dL_refuses_634 : decode cL_refuses 634 = .ok (.iconst 0, 1) := by decide +kernel
theorem dL_refuses_635 : decode cL_refuses 635 = .ok (.iconst 0, 1) := by decide +kernel
theorem dL_refuses_636 : decode cL_refuses 636 = .ok (.invokestatic 85, 3) := by decide +kernel
theorem dL_refuses_639 : decode cL_refuses 639 = .ok (.iload 6, 2) := by decide +kernel
theorem dL_refuses_641 : decode cL_refuses 641 = .ok (.if_icmp .ne 23, 3) := by decide +kernel
theorem dL_refuses_644 : decode cL_refuses 644 = .ok (.aload_n 0, 1) := by decide +kernel
theorem dL_refuses_645 : decode cL_refuses 645 = .ok (.iload 16, 2) := by decide +kernel
theorem dL_refuses_647 : decode cL_refuses 647 = .ok (.iload 12, 2) := by decide +kernel
theorem dL_refuses_649 : decode cL_refuses 649 = .ok (.iconst 0, 1) := by decide +kernel
theorem dL_refuses_650 : decode cL_refuses 650 = .ok (.iconst 0, 1) := by decide +kernel
theorem dL_refuses_651 : decode cL_refuses 651 = .ok (.iconst 0, 1) := by decide +kernel
theorem dL_refuses_652 : decode cL_refuses 652 = .ok (.invokestatic 85, 3) := by decide +kernel
theorem dL_refuses_655 : decode cL_refuses 655 = .ok (.iload 6, 2) := by decide +kernel
theorem dL_refuses_657 : decode cL_refuses 657 = .ok (.if_icmp .ne 7, 3) := by decide +kernel
theorem dL_refuses_660 : decode cL_refuses 660 = .ok (.iconst 1, 1) := by decide +kernel
theorem dL_refuses_661 : decode cL_refuses 661 = .ok (.goto 4, 3) := by decide +kernel
theorem dL_refuses_664 : decode cL_refuses 664 = .ok (.iconst 0, 1) := by decide +kernel
theorem dL_refuses_665 : decode cL_refuses 665 = .ok (.istore 15, 2) := by decide +kernel
theorem dL_refuses_667 : decode cL_refuses 667 = .ok (.iinc 16 1, 3) := by decide +kernel
theorem dL_refuses_670 : decode cL_refuses 670 = .ok (.goto (-54), 3) := by decide +kernel
theorem dL_refuses_673 : decode cL_refuses 673 = .ok (.iload 15, 2) := by decide +kernel
theorem dL_refuses_675 : decode cL_refuses 675 = .ok (.ifCond .eq 433, 3) := by decide +kernel
theorem dL_refuses_678 : decode cL_refuses 678 = .ok (.aload_n 0, 1) := by decide +kernel
theorem dL_refuses_679 : decode cL_refuses 679 = .ok (.iconst 0, 1) := by decide +kernel
theorem dL_refuses_680 : decode cL_refuses 680 = .ok (.iconst 0, 1) := by decide +kernel
theorem dL_refuses_681 : decode cL_refuses 681 = .ok (.iload 11, 2) := by decide +kernel
theorem dL_refuses_683 : decode cL_refuses 683 = .ok (.iconst 0, 1) := by decide +kernel
theorem dL_refuses_684 : decode cL_refuses 684 = .ok (.iconst 0, 1) := by decide +kernel
theorem dL_refuses_685 : decode cL_refuses 685 = .ok (.invokestatic 85, 3) := by decide +kernel
theorem dL_refuses_688 : decode cL_refuses 688 = .ok (.iload 6, 2) := by decide +kernel
theorem dL_refuses_690 : decode cL_refuses 690 = .ok (.if_icmp .ne 418, 3) := by decide +kernel
theorem dL_refuses_693 : decode cL_refuses 693 = .ok (.aload_n 0, 1) := by decide +kernel
theorem dL_refuses_694 : decode cL_refuses 694 = .ok (.iconst 1, 1) := by decide +kernel
theorem dL_refuses_695 : decode cL_refuses 695 = .ok (.iconst 0, 1) := by decide +kernel
theorem dL_refuses_696 : decode cL_refuses 696 = .ok (.iload 12, 2) := by decide +kernel
theorem dL_refuses_698 : decode cL_refuses 698 = .ok (.iconst 0, 1) := by decide +kernel
theorem dL_refuses_699 : decode cL_refuses 699 = .ok (.iconst 0, 1) := by decide +kernel
theorem dL_refuses_700 : decode cL_refuses 700 = .ok (.invokestatic 85, 3) := by decide +kernel
theorem dL_refuses_703 : decode cL_refuses 703 = .ok (.iload 6, 2) := by decide +kernel
theorem dL_refuses_705 : decode cL_refuses 705 = .ok (.if_icmp .ne 403, 3) := by decide +kernel
theorem dL_refuses_708 : decode cL_refuses 708 = .ok (.aload_n 0, 1) := by decide +kernel
theorem dL_refuses_709 : decode cL_refuses 709 = .ok (.iconst 2, 1) := by decide +kernel
theorem dL_refuses_710 : decode cL_refuses 710 = .ok (.iconst 0, 1) := by decide +kernel
theorem dL_refuses_711 : decode cL_refuses 711 = .ok (.iload 11, 2) := by decide +kernel
theorem dL_refuses_713 : decode cL_refuses 713 = .ok (.iconst 0, 1) := by decide +kernel
theorem dL_refuses_714 : decode cL_refuses 714 = .ok (.iconst 0, 1) := by decide +kernel
theorem dL_refuses_715 : decode cL_refuses 715 = .ok (.invokestatic 85, 3) := by decide +kernel
theorem dL_refuses_718 : decode cL_refuses 718 = .ok (.iload 6, 2) := by decide +kernel
theorem dL_refuses_720 : decode cL_refuses 720 = .ok (.if_icmp .ne 388, 3) := by decide +kernel
theorem dL_refuses_723 : decode cL_refuses 723 = .ok (.aload_n 0, 1) := by decide +kernel
theorem dL_refuses_724 : decode cL_refuses 724 = .ok (.bipush 10, 2) := by decide +kernel
theorem dL_refuses_726 : decode cL_refuses 726 = .ok (.iconst 0, 1) := by decide +kernel
theorem dL_refuses_727 : decode cL_refuses 727 = .ok (.iload 12, 2) := by decide +kernel
theorem dL_refuses_729 : decode cL_refuses 729 = .ok (.iconst 0, 1) := by decide +kernel
theorem dL_refuses_730 : decode cL_refuses 730 = .ok (.iconst 0, 1) := by decide +kernel
theorem dL_refuses_731 : decode cL_refuses 731 = .ok (.invokestatic 85, 3) := by decide +kernel
theorem dL_refuses_734 : decode cL_refuses 734 = .ok (.iload 6, 2) := by decide +kernel
theorem dL_refuses_736 : decode cL_refuses 736 = .ok (.if_icmp .ne 372, 3) := by decide +kernel
theorem dL_refuses_739 : decode cL_refuses 739 = .ok (.aload_n 0, 1) := by decide +kernel
theorem dL_refuses_740 : decode cL_refuses 740 = .ok (.bipush 9, 2) := by decide +kernel
theorem dL_refuses_742 : decode cL_refuses 742 = .ok (.iload 11, 2) := by decide +kernel
theorem dL_refuses_744 : decode cL_refuses 744 = .ok (.iconst (-1), 1) := by decide +kernel
theorem dL_refuses_745 : decode cL_refuses 745 = .ok (.iconst 0, 1) := by decide +kernel
theorem dL_refuses_746 : decode cL_refuses 746 = .ok (.iconst 0, 1) := by decide +kernel
theorem dL_refuses_747 : decode cL_refuses 747 = .ok (.invokestatic 85, 3) := by decide +kernel
theorem dL_refuses_750 : decode cL_refuses 750 = .ok (.iload 6, 2) := by decide +kernel
theorem dL_refuses_752 : decode cL_refuses 752 = .ok (.if_icmp .ne 356, 3) := by decide +kernel
theorem dL_refuses_755 : decode cL_refuses 755 = .ok (.aload_n 0, 1) := by decide +kernel
theorem dL_refuses_756 : decode cL_refuses 756 = .ok (.bipush 9, 2) := by decide +kernel
theorem dL_refuses_758 : decode cL_refuses 758 = .ok (.iconst 0, 1) := by decide +kernel
theorem dL_refuses_759 : decode cL_refuses 759 = .ok (.iload 8, 2) := by decide +kernel
theorem dL_refuses_761 : decode cL_refuses 761 = .ok (.iconst 1, 1) := by decide +kernel
theorem dL_refuses_762 : decode cL_refuses 762 = .ok (.if_icmp .ne 7, 3) := by decide +kernel
theorem dL_refuses_765 : decode cL_refuses 765 = .ok (.iload_n 2, 1) := by decide +kernel
theorem dL_refuses_766 : decode cL_refuses 766 = .ok (.goto 5, 3) := by decide +kernel
theorem dL_refuses_769 : decode cL_refuses 769 = .ok (.iload 9, 2) := by decide +kernel
theorem dL_refuses_771 : decode cL_refuses 771 = .ok (.iconst 0, 1) := by decide +kernel
theorem dL_refuses_772 : decode cL_refuses 772 = .ok (.iconst 0, 1) := by decide +kernel
theorem dL_refuses_773 : decode cL_refuses 773 = .ok (.invokestatic 85, 3) := by decide +kernel
theorem dL_refuses_776 : decode cL_refuses 776 = .ok (.iload 5, 2) := by decide +kernel
theorem dL_refuses_778 : decode cL_refuses 778 = .ok (.if_icmp .ne 330, 3) := by decide +kernel
theorem dL_refuses_781 : decode cL_refuses 781 = .ok (.aload_n 0, 1) := by decide +kernel
theorem dL_refuses_782 : decode cL_refuses 782 = .ok (.bipush 11, 2) := by decide +kernel
theorem dL_refuses_784 : decode cL_refuses 784 = .ok (.iload 10, 2) := by decide +kernel
theorem dL_refuses_786 : decode cL_refuses 786 = .ok (.iconst 0, 1) := by decide +kernel
theorem dL_refuses_787 : decode cL_refuses 787 = .ok (.iconst 5, 1) := by decide +kernel
theorem dL_refuses_788 : decode cL_refuses 788 = .ok (.iconst 0, 1) := by decide +kernel
theorem dL_refuses_789 : decode cL_refuses 789 = .ok (.invokestatic 85, 3) := by decide +kernel
theorem dL_refuses_792 : decode cL_refuses 792 = .ok (.iload 6, 2) := by decide +kernel
theorem dL_refuses_794 : decode cL_refuses 794 = .ok (.if_icmp .ne 314, 3) := by decide +kernel
theorem dL_refuses_797 : decode cL_refuses 797 = .ok (.aload_n 0, 1) := by decide +kernel
theorem dL_refuses_798 : decode cL_refuses 798 = .ok (.bipush 11, 2) := by decide +kernel
theorem dL_refuses_800 : decode cL_refuses 800 = .ok (.iconst 0, 1) := by decide +kernel
theorem dL_refuses_801 : decode cL_refuses 801 = .ok (.iload 11, 2) := by decide +kernel
theorem dL_refuses_803 : decode cL_refuses 803 = .ok (.iconst 5, 1) := by decide +kernel
theorem dL_refuses_804 : decode cL_refuses 804 = .ok (.iconst 0, 1) := by decide +kernel
theorem dL_refuses_805 : decode cL_refuses 805 = .ok (.invokestatic 85, 3) := by decide +kernel
theorem dL_refuses_808 : decode cL_refuses 808 = .ok (.iload 6, 2) := by decide +kernel
theorem dL_refuses_810 : decode cL_refuses 810 = .ok (.if_icmp .ne 298, 3) := by decide +kernel
theorem dL_refuses_813 : decode cL_refuses 813 = .ok (.aload_n 0, 1) := by decide +kernel
theorem dL_refuses_814 : decode cL_refuses 814 = .ok (.bipush 11, 2) := by decide +kernel
theorem dL_refuses_816 : decode cL_refuses 816 = .ok (.iconst 0, 1) := by decide +kernel
theorem dL_refuses_817 : decode cL_refuses 817 = .ok (.iconst 0, 1) := by decide +kernel
theorem dL_refuses_818 : decode cL_refuses 818 = .ok (.iload 8, 2) := by decide +kernel
theorem dL_refuses_820 : decode cL_refuses 820 = .ok (.ifCond .ne 7, 3) := by decide +kernel
theorem dL_refuses_823 : decode cL_refuses 823 = .ok (.iconst 0, 1) := by decide +kernel
theorem dL_refuses_824 : decode cL_refuses 824 = .ok (.goto 17, 3) := by decide +kernel
theorem dL_refuses_827 : decode cL_refuses 827 = .ok (.iload 8, 2) := by decide +kernel
theorem dL_refuses_829 : decode cL_refuses 829 = .ok (.iconst 1, 1) := by decide +kernel
theorem dL_refuses_830 : decode cL_refuses 830 = .ok (.if_icmp .ne 9, 3) := by decide +kernel
theorem dL_refuses_833 : decode cL_refuses 833 = .ok (.sipush 1001, 3) := by decide +kernel
theorem dL_refuses_836 : decode cL_refuses 836 = .ok (.goto 5, 3) := by decide +kernel
theorem dL_refuses_839 : decode cL_refuses 839 = .ok (.iload 9, 2) := by decide +kernel
theorem dL_refuses_841 : decode cL_refuses 841 = .ok (.iconst 0, 1) := by decide +kernel
theorem dL_refuses_842 : decode cL_refuses 842 = .ok (.invokestatic 85, 3) := by decide +kernel
theorem dL_refuses_845 : decode cL_refuses 845 = .ok (.iload 6, 2) := by decide +kernel
theorem dL_refuses_847 : decode cL_refuses 847 = .ok (.if_icmp .ne 261, 3) := by decide +kernel
theorem dL_refuses_850 : decode cL_refuses 850 = .ok (.aload_n 0, 1) := by decide +kernel
theorem dL_refuses_851 : decode cL_refuses 851 = .ok (.bipush 11, 2) := by decide +kernel
theorem dL_refuses_853 : decode cL_refuses 853 = .ok (.iconst 0, 1) := by decide +kernel
theorem dL_refuses_854 : decode cL_refuses 854 = .ok (.iconst 0, 1) := by decide +kernel
theorem dL_refuses_855 : decode cL_refuses 855 = .ok (.iconst 5, 1) := by decide +kernel
theorem dL_refuses_856 : decode cL_refuses 856 = .ok (.iload 13, 2) := by decide +kernel
theorem dL_refuses_858 : decode cL_refuses 858 = .ok (.invokestatic 85, 3) := by decide +kernel
theorem dL_refuses_861 : decode cL_refuses 861 = .ok (.iload 6, 2) := by decide +kernel
theorem dL_refuses_863 : decode cL_refuses 863 = .ok (.if_icmp .ne 245, 3) := by decide +kernel
theorem dL_refuses_866 : decode cL_refuses 866 = .ok (.aload_n 0, 1) := by decide +kernel
theorem dL_refuses_867 : decode cL_refuses 867 = .ok (.bipush 12, 2) := by decide +kernel
theorem dL_refuses_869 : decode cL_refuses 869 = .ok (.iconst 0, 1) := by decide +kernel
theorem dL_refuses_870 : decode cL_refuses 870 = .ok (.iload 8, 2) := by decide +kernel
theorem dL_refuses_872 : decode cL_refuses 872 = .ok (.iconst 1, 1) := by decide +kernel
theorem dL_refuses_873 : decode cL_refuses 873 = .ok (.if_icmp .ne 8, 3) := by decide +kernel
theorem dL_refuses_876 : decode cL_refuses 876 = .ok (.bipush 30, 2) := by decide +kernel
theorem dL_refuses_878 : decode cL_refuses 878 = .ok (.goto 5, 3) := by decide +kernel
theorem dL_refuses_881 : decode cL_refuses 881 = .ok (.iload 9, 2) := by decide +kernel
theorem dL_refuses_883 : decode cL_refuses 883 = .ok (.iconst (-1), 1) := by decide +kernel
theorem dL_refuses_884 : decode cL_refuses 884 = .ok (.iconst 0, 1) := by decide +kernel
theorem dL_refuses_885 : decode cL_refuses 885 = .ok (.invokestatic 85, 3) := by decide +kernel
theorem dL_refuses_888 : decode cL_refuses 888 = .ok (.iload 5, 2) := by decide +kernel
theorem dL_refuses_890 : decode cL_refuses 890 = .ok (.if_icmp .ne 218, 3) := by decide +kernel
theorem dL_refuses_893 : decode cL_refuses 893 = .ok (.aload_n 0, 1) := by decide +kernel
theorem dL_refuses_894 : decode cL_refuses 894 = .ok (.bipush 13, 2) := by decide +kernel
theorem dL_refuses_896 : decode cL_refuses 896 = .ok (.iload 8, 2) := by decide +kernel
theorem dL_refuses_898 : decode cL_refuses 898 = .ok (.ifCond .ne 7, 3) := by decide +kernel
theorem dL_refuses_901 : decode cL_refuses 901 = .ok (.iconst 0, 1) := by decide +kernel
theorem dL_refuses_902 : decode cL_refuses 902 = .ok (.goto 17, 3) := by decide +kernel
theorem dL_refuses_905 : decode cL_refuses 905 = .ok (.iload 8, 2) := by decide +kernel
theorem dL_refuses_907 : decode cL_refuses 907 = .ok (.iconst 1, 1) := by decide +kernel
theorem dL_refuses_908 : decode cL_refuses 908 = .ok (.if_icmp .ne 9, 3) := by decide +kernel
theorem dL_refuses_911 : decode cL_refuses 911 = .ok (.sipush 1001, 3) := by decide +kernel
theorem dL_refuses_914 : decode cL_refuses 914 = .ok (.goto 5, 3) := by decide +kernel
theorem dL_refuses_917 : decode cL_refuses 917 = .ok (.iload 9, 2) := by decide +kernel
theorem dL_refuses_919 : decode cL_refuses 919 = .ok (.iconst 0, 1) := by decide +kernel
theorem dL_refuses_920 : decode cL_refuses 920 = .ok (.iconst 0, 1) := by decide +kernel
theorem dL_refuses_921 : decode cL_refuses 921 = .ok (.iconst 0, 1) := by decide +kernel
theorem dL_refuses_922 : decode cL_refuses 922 = .ok (.invokestatic 85, 3) := by decide +kernel
theorem dL_refuses_925 : decode cL_refuses 925 = .ok (.iload 6, 2) := by decide +kernel
theorem dL_refuses_927 : decode cL_refuses 927 = .ok (.if_icmp .ne 181, 3) := by decide +kernel
theorem dL_refuses_930 : decode cL_refuses 930 = .ok (.aload_n 0, 1) := by decide +kernel
theorem dL_refuses_931 : decode cL_refuses 931 = .ok (.bipush 14, 2) := by decide +kernel
theorem dL_refuses_933 : decode cL_refuses 933 = .ok (.iload 11, 2) := by decide +kernel
theorem dL_refuses_935 : decode cL_refuses 935 = .ok (.iconst 0, 1) := by decide +kernel
theorem dL_refuses_936 : decode cL_refuses 936 = .ok (.iconst 0, 1) := by decide +kernel
theorem dL_refuses_937 : decode cL_refuses 937 = .ok (.iconst 0, 1) := by decide +kernel
theorem dL_refuses_938 : decode cL_refuses 938 = .ok (.invokestatic 85, 3) := by decide +kernel
theorem dL_refuses_941 : decode cL_refuses 941 = .ok (.iload 6, 2) := by decide +kernel
theorem dL_refuses_943 : decode cL_refuses 943 = .ok (.if_icmp .ne 165, 3) := by decide +kernel
theorem dL_refuses_946 : decode cL_refuses 946 = .ok (.aload_n 0, 1) := by decide +kernel
theorem dL_refuses_947 : decode cL_refuses 947 = .ok (.bipush 15, 2) := by decide +kernel
theorem dL_refuses_949 : decode cL_refuses 949 = .ok (.iload 10, 2) := by decide +kernel
theorem dL_refuses_951 : decode cL_refuses 951 = .ok (.iconst 0, 1) := by decide +kernel
theorem dL_refuses_952 : decode cL_refuses 952 = .ok (.iconst 0, 1) := by decide +kernel
theorem dL_refuses_953 : decode cL_refuses 953 = .ok (.iconst 0, 1) := by decide +kernel
theorem dL_refuses_954 : decode cL_refuses 954 = .ok (.invokestatic 85, 3) := by decide +kernel
theorem dL_refuses_957 : decode cL_refuses 957 = .ok (.iload 6, 2) := by decide +kernel
theorem dL_refuses_959 : decode cL_refuses 959 = .ok (.if_icmp .ne 149, 3) := by decide +kernel
theorem dL_refuses_962 : decode cL_refuses 962 = .ok (.aload_n 0, 1) := by decide +kernel
theorem dL_refuses_963 : decode cL_refuses 963 = .ok (.bipush 15, 2) := by decide +kernel
theorem dL_refuses_965 : decode cL_refuses 965 = .ok (.iconst 0, 1) := by decide +kernel
theorem dL_refuses_966 : decode cL_refuses 966 = .ok (.iload 12, 2) := by decide +kernel
theorem dL_refuses_968 : decode cL_refuses 968 = .ok (.iconst 0, 1) := by decide +kernel
theorem dL_refuses_969 : decode cL_refuses 969 = .ok (.iconst 0, 1) := by decide +kernel
theorem dL_refuses_970 : decode cL_refuses 970 = .ok (.invokestatic 85, 3) := by decide +kernel
theorem dL_refuses_973 : decode cL_refuses 973 = .ok (.iload 6, 2) := by decide +kernel
theorem dL_refuses_975 : decode cL_refuses 975 = .ok (.if_icmp .ne 133, 3) := by decide +kernel
theorem dL_refuses_978 : decode cL_refuses 978 = .ok (.aload_n 0, 1) := by decide +kernel
theorem dL_refuses_979 : decode cL_refuses 979 = .ok (.bipush 15, 2) := by decide +kernel
theorem dL_refuses_981 : decode cL_refuses 981 = .ok (.iconst 0, 1) := by decide +kernel
theorem dL_refuses_982 : decode cL_refuses 982 = .ok (.iconst 0, 1) := by decide +kernel
theorem dL_refuses_983 : decode cL_refuses 983 = .ok (.iload 13, 2) := by decide +kernel
theorem dL_refuses_985 : decode cL_refuses 985 = .ok (.iconst 0, 1) := by decide +kernel
theorem dL_refuses_986 : decode cL_refuses 986 = .ok (.invokestatic 85, 3) := by decide +kernel
theorem dL_refuses_989 : decode cL_refuses 989 = .ok (.iload 6, 2) := by decide +kernel
theorem dL_refuses_991 : decode cL_refuses 991 = .ok (.if_icmp .ne 117, 3) := by decide +kernel
theorem dL_refuses_994 : decode cL_refuses 994 = .ok (.aload_n 0, 1) := by decide +kernel
theorem dL_refuses_995 : decode cL_refuses 995 = .ok (.bipush 16, 2) := by decide +kernel
theorem dL_refuses_997 : decode cL_refuses 997 = .ok (.iload 11, 2) := by decide +kernel
theorem dL_refuses_999 : decode cL_refuses 999 = .ok (.iconst 0, 1) := by decide +kernel
theorem dL_refuses_1000 : decode cL_refuses 1000 = .ok (.iconst 0, 1) := by decide +kernel
theorem dL_refuses_1001 : decode cL_refuses 1001 = .ok (.iconst 0, 1) := by decide +kernel
theorem dL_refuses_1002 : decode cL_refuses 1002 = .ok (.invokestatic 85, 3) := by decide +kernel
theorem dL_refuses_1005 : decode cL_refuses 1005 = .ok (.iload 6, 2) := by decide +kernel
theorem dL_refuses_1007 : decode cL_refuses 1007 = .ok (.if_icmp .ne 101, 3) := by decide +kernel
theorem dL_refuses_1010 : decode cL_refuses 1010 = .ok (.aload_n 0, 1) := by decide +kernel
theorem dL_refuses_1011 : decode cL_refuses 1011 = .ok (.bipush 16, 2) := by decide +kernel
theorem dL_refuses_1013 : decode cL_refuses 1013 = .ok (.iconst 0, 1) := by decide +kernel
theorem dL_refuses_1014 : decode cL_refuses 1014 = .ok (.iconst 0, 1) := by decide +kernel
theorem dL_refuses_1015 : decode cL_refuses 1015 = .ok (.iconst 0, 1) := by decide +kernel
theorem dL_refuses_1016 : decode cL_refuses 1016 = .ok (.iconst 0, 1) := by decide +kernel
theorem dL_refuses_1017 : decode cL_refuses 1017 = .ok (.invokestatic 85, 3) := by decide +kernel
theorem dL_refuses_1020 : decode cL_refuses 1020 = .ok (.sipush (-9003), 3) := by decide +kernel
theorem dL_refuses_1023 : decode cL_refuses 1023 = .ok (.if_icmp .ne 85, 3) := by decide +kernel
theorem dL_refuses_1026 : decode cL_refuses 1026 = .ok (.aload_n 0, 1) := by decide +kernel
theorem dL_refuses_1027 : decode cL_refuses 1027 = .ok (.bipush 17, 2) := by decide +kernel
theorem dL_refuses_1029 : decode cL_refuses 1029 = .ok (.iload 10, 2) := by decide +kernel
theorem dL_refuses_1031 : decode cL_refuses 1031 = .ok (.iconst 0, 1) := by decide +kernel
theorem dL_refuses_1032 : decode cL_refuses 1032 = .ok (.iconst 0, 1) := by decide +kernel
theorem dL_refuses_1033 : decode cL_refuses 1033 = .ok (.iconst 0, 1) := by decide +kernel
theorem dL_refuses_1034 : decode cL_refuses 1034 = .ok (.invokestatic 85, 3) := by decide +kernel
theorem dL_refuses_1037 : decode cL_refuses 1037 = .ok (.iload 6, 2) := by decide +kernel
theorem dL_refuses_1039 : decode cL_refuses 1039 = .ok (.if_icmp .ne 69, 3) := by decide +kernel
theorem dL_refuses_1042 : decode cL_refuses 1042 = .ok (.aload_n 0, 1) := by decide +kernel
theorem dL_refuses_1043 : decode cL_refuses 1043 = .ok (.bipush 17, 2) := by decide +kernel
theorem dL_refuses_1045 : decode cL_refuses 1045 = .ok (.iconst 0, 1) := by decide +kernel
theorem dL_refuses_1046 : decode cL_refuses 1046 = .ok (.iload 11, 2) := by decide +kernel
theorem dL_refuses_1048 : decode cL_refuses 1048 = .ok (.iconst 0, 1) := by decide +kernel
theorem dL_refuses_1049 : decode cL_refuses 1049 = .ok (.iconst 0, 1) := by decide +kernel
theorem dL_refuses_1050 : decode cL_refuses 1050 = .ok (.invokestatic 85, 3) := by decide +kernel
theorem dL_refuses_1053 : decode cL_refuses 1053 = .ok (.iload 6, 2) := by decide +kernel
theorem dL_refuses_1055 : decode cL_refuses 1055 = .ok (.if_icmp .ne 53, 3) := by decide +kernel
theorem dL_refuses_1058 : decode cL_refuses 1058 = .ok (.aload_n 0, 1) := by decide +kernel
theorem dL_refuses_1059 : decode cL_refuses 1059 = .ok (.bipush 17, 2) := by decide +kernel
theorem dL_refuses_1061 : decode cL_refuses 1061 = .ok (.iconst 0, 1) := by decide +kernel
theorem dL_refuses_1062 : decode cL_refuses 1062 = .ok (.iconst 0, 1) := by decide +kernel
theorem dL_refuses_1063 : decode cL_refuses 1063 = .ok (.iload 13, 2) := by decide +kernel
theorem dL_refuses_1065 : decode cL_refuses 1065 = .ok (.iconst 0, 1) := by decide +kernel
theorem dL_refuses_1066 : decode cL_refuses 1066 = .ok (.invokestatic 85, 3) := by decide +kernel
theorem dL_refuses_1069 : decode cL_refuses 1069 = .ok (.iload 6, 2) := by decide +kernel
theorem dL_refuses_1071 : decode cL_refuses 1071 = .ok (.if_icmp .ne 37, 3) := by decide +kernel
theorem dL_refuses_1074 : decode cL_refuses 1074 = .ok (.aload_n 0, 1) := by decide +kernel
theorem dL_refuses_1075 : decode cL_refuses 1075 = .ok (.bipush 17, 2) := by decide +kernel
theorem dL_refuses_1077 : decode cL_refuses 1077 = .ok (.iconst 0, 1) := by decide +kernel
theorem dL_refuses_1078 : decode cL_refuses 1078 = .ok (.iconst 0, 1) := by decide +kernel
theorem dL_refuses_1079 : decode cL_refuses 1079 = .ok (.iconst 0, 1) := by decide +kernel
theorem dL_refuses_1080 : decode cL_refuses 1080 = .ok (.iload 13, 2) := by decide +kernel
theorem dL_refuses_1082 : decode cL_refuses 1082 = .ok (.invokestatic 85, 3) := by decide +kernel
theorem dL_refuses_1085 : decode cL_refuses 1085 = .ok (.iload 6, 2) := by decide +kernel
theorem dL_refuses_1087 : decode cL_refuses 1087 = .ok (.if_icmp .ne 21, 3) := by decide +kernel
theorem dL_refuses_1090 : decode cL_refuses 1090 = .ok (.aload_n 0, 1) := by decide +kernel
theorem dL_refuses_1091 : decode cL_refuses 1091 = .ok (.bipush 17, 2) := by decide +kernel
theorem dL_refuses_1093 : decode cL_refuses 1093 = .ok (.iconst 0, 1) := by decide +kernel
theorem dL_refuses_1094 : decode cL_refuses 1094 = .ok (.iconst 0, 1) := by decide +kernel
theorem dL_refuses_1095 : decode cL_refuses 1095 = .ok (.iconst 0, 1) := by decide +kernel
theorem dL_refuses_1096 : decode cL_refuses 1096 = .ok (.iconst 0, 1) := by decide +kernel
theorem dL_refuses_1097 : decode cL_refuses 1097 = .ok (.invokestatic 85, 3) := by decide +kernel
theorem dL_refuses_1100 : decode cL_refuses 1100 = .ok (.iconst 1, 1) := by decide +kernel
theorem dL_refuses_1101 : decode cL_refuses 1101 = .ok (.if_icmp .ne 7, 3) := by decide +kernel
theorem dL_refuses_1104 : decode cL_refuses 1104 = .ok (.iconst 1, 1) := by decide +kernel
theorem dL_refuses_1105 : decode cL_refuses 1105 = .ok (.goto 4, 3) := by decide +kernel
theorem dL_refuses_1108 : decode cL_refuses 1108 = .ok (.iconst 0, 1) := by decide +kernel
theorem dL_refuses_1109 : decode cL_refuses 1109 = .ok (.istore 15, 2) := by decide +kernel
theorem dL_refuses_1111 : decode cL_refuses 1111 = .ok (.iload 15, 2) := by decide +kernel
theorem dL_refuses_1113 : decode cL_refuses 1113 = .ok (.ifCond .ne 5, 3) := by decide +kernel
theorem dL_refuses_1116 : decode cL_refuses 1116 = .ok (.iconst 0, 1) := by decide +kernel
theorem dL_refuses_1117 : decode cL_refuses 1117 = .ok (.ireturn, 1) := by decide +kernel
theorem dL_refuses_1118 : decode cL_refuses 1118 = .ok (.iinc 8 1, 3) := by decide +kernel
theorem dL_refuses_1121 : decode cL_refuses 1121 = .ok (.goto (-1081), 3) := by decide +kernel
theorem dL_refuses_1124 : decode cL_refuses 1124 = .ok (.aload_n 0, 1) := by decide +kernel
theorem dL_refuses_1125 : decode cL_refuses 1125 = .ok (.invokevirtual 77, 3) := by decide +kernel
theorem dL_refuses_1128 : decode cL_refuses 1128 = .ok (.iload_n 1, 1) := by decide +kernel
theorem dL_refuses_1129 : decode cL_refuses 1129 = .ok (.if_icmp .ne 34, 3) := by decide +kernel
theorem dL_refuses_1132 : decode cL_refuses 1132 = .ok (.aload_n 0, 1) := by decide +kernel
theorem dL_refuses_1133 : decode cL_refuses 1133 = .ok (.iconst 0, 1) := by decide +kernel
theorem dL_refuses_1134 : decode cL_refuses 1134 = .ok (.invokevirtual 37, 3) := by decide +kernel
theorem dL_refuses_1137 : decode cL_refuses 1137 = .ok (.iload_n 2, 1) := by decide +kernel
theorem dL_refuses_1138 : decode cL_refuses 1138 = .ok (.if_icmp .ne 25, 3) := by decide +kernel
theorem dL_refuses_1141 : decode cL_refuses 1141 = .ok (.aload_n 0, 1) := by decide +kernel
theorem dL_refuses_1142 : decode cL_refuses 1142 = .ok (.invokevirtual 81, 3) := by decide +kernel
theorem dL_refuses_1145 : decode cL_refuses 1145 = .ok (.iload_n 3, 1) := by decide +kernel
theorem dL_refuses_1146 : decode cL_refuses 1146 = .ok (.if_icmp .ne 17, 3) := by decide +kernel
theorem dL_refuses_1149 : decode cL_refuses 1149 = .ok (.aload_n 0, 1) := by decide +kernel
theorem dL_refuses_1150 : decode cL_refuses 1150 = .ok (.iconst 0, 1) := by decide +kernel
theorem dL_refuses_1151 : decode cL_refuses 1151 = .ok (.invokevirtual 58, 3) := by decide +kernel
theorem dL_refuses_1154 : decode cL_refuses 1154 = .ok (.iload 4, 2) := by decide +kernel
theorem dL_refuses_1156 : decode cL_refuses 1156 = .ok (.if_icmp .ne 7, 3) := by decide +kernel
theorem dL_refuses_1159 : decode cL_refuses 1159 = .ok (.iconst 1, 1) := by decide +kernel
theorem dL_refuses_1160 : decode cL_refuses 1160 = .ok (.goto 4, 3) := by decide +kernel
theorem dL_refuses_1163 : decode cL_refuses 1163 = .ok (.iconst 0, 1) := by decide +kernel
theorem dL_refuses_1164 : decode cL_refuses 1164 = .ok (.ireturn, 1) := by decide +kernel
theorem dL_order_0 : decode cL_order 0 = .ok (.iload_n 2, 1) := by decide +kernel
theorem dL_order_1 : decode cL_order 1 = .ok (.ifCond .ne 7, 3) := by decide +kernel
theorem dL_order_4 : decode cL_order 4 = .ok (.iconst 0, 1) := by decide +kernel
theorem dL_order_5 : decode cL_order 5 = .ok (.goto 21, 3) := by decide +kernel
theorem dL_order_8 : decode cL_order 8 = .ok (.iload_n 3, 1) := by decide +kernel
theorem dL_order_9 : decode cL_order 9 = .ok (.ifCond .ne 7, 3) := by decide +kernel
theorem dL_order_12 : decode cL_order 12 = .ok (.iconst 1, 1) := by decide +kernel
theorem dL_order_13 : decode cL_order 13 = .ok (.goto 13, 3) := by decide +kernel
theorem dL_order_16 : decode cL_order 16 = .ok (.iload 4, 2) := by decide +kernel
theorem dL_order_18 : decode cL_order 18 = .ok (.ifCond .ne 7, 3) := by decide +kernel
theorem dL_order_21 : decode cL_order 21 = .ok (.iconst 2, 1) := by decide +kernel
theorem dL_order_22 : decode cL_order 22 = .ok (.goto 4, 3) := by decide +kernel
theorem dL_order_25 : decode cL_order 25 = .ok (.iconst 3, 1) := by decide +kernel
theorem dL_order_26 : decode cL_order 26 = .ok (.istore 5, 2) := by decide +kernel
theorem dL_order_28 : decode cL_order 28 = .ok (.aload_n 0, 1) := by decide +kernel
theorem dL_order_29 : decode cL_order 29 = .ok (.iload_n 1, 1) := by decide +kernel
theorem dL_order_30 : decode cL_order 30 = .ok (.invokevirtual 37, 3) := by decide +kernel
theorem dL_order_33 : decode cL_order 33 = .ok (.iload 5, 2) := by decide +kernel
theorem dL_order_35 : decode cL_order 35 = .ok (.if_icmp .ne 56, 3) := by decide +kernel
theorem dL_order_38 : decode cL_order 38 = .ok (.iload 5, 2) := by decide +kernel
theorem dL_order_40 : decode cL_order 40 = .ok (.iconst 1, 1) := by decide +kernel
theorem dL_order_41 : decode cL_order 41 = .ok (.if_icmp .lt 13, 3) := by decide +kernel
theorem dL_order_44 : decode cL_order 44 = .ok (.aload_n 0, 1) := by decide +kernel
theorem dL_order_45 : decode cL_order 45 = .ok (.iload_n 1, 1) := by decide +kernel
theorem dL_order_46 : decode cL_order 46 = .ok (.iconst 0, 1) := by decide +kernel
theorem dL_order_47 : decode cL_order 47 = .ok (.invokevirtual 40, 3) := by decide +kernel
theorem dL_order_50 : decode cL_order 50 = .ok (.iload_n 2, 1) := by decide +kernel
theorem dL_order_51 : decode cL_order 51 = .ok (.if_icmp .ne 40, 3) := by decide +kernel
theorem dL_order_54 : decode cL_order 54 = .ok (.iload 5, 2) := by decide +kernel
theorem dL_order_56 : decode cL_order 56 = .ok (.iconst 2, 1) := by decide +kernel
theorem dL_order_57 : decode cL_order 57 = .ok (.if_icmp .lt 13, 3) := by decide +kernel
theorem dL_order_60 : decode cL_order 60 = .ok (.aload_n 0, 1) := by decide +kernel
theorem dL_order_61 : decode cL_order 61 = .ok (.iload_n 1, 1) := by decide +kernel
theorem dL_order_62 : decode cL_order 62 = .ok (.iconst 1, 1) := by decide +kernel
theorem dL_order_63 : decode cL_order 63 = .ok (.invokevirtual 40, 3) := by decide +kernel
theorem dL_order_66 : decode cL_order 66 = .ok (.iload_n 3, 1) := by decide +kernel
theorem dL_order_67 : decode cL_order 67 = .ok (.if_icmp .ne 24, 3) := by decide +kernel
theorem dL_order_70 : decode cL_order 70 = .ok (.iload 5, 2) := by decide +kernel
theorem dL_order_72 : decode cL_order 72 = .ok (.iconst 3, 1) := by decide +kernel
theorem dL_order_73 : decode cL_order 73 = .ok (.if_icmp .lt 14, 3) := by decide +kernel
theorem dL_order_76 : decode cL_order 76 = .ok (.aload_n 0, 1) := by decide +kernel
theorem dL_order_77 : decode cL_order 77 = .ok (.iload_n 1, 1) := by decide +kernel
theorem dL_order_78 : decode cL_order 78 = .ok (.iconst 2, 1) := by decide +kernel
theorem dL_order_79 : decode cL_order 79 = .ok (.invokevirtual 40, 3) := by decide +kernel
theorem dL_order_82 : decode cL_order 82 = .ok (.iload 4, 2) := by decide +kernel
theorem dL_order_84 : decode cL_order 84 = .ok (.if_icmp .ne 7, 3) := by decide +kernel
theorem dL_order_87 : decode cL_order 87 = .ok (.iconst 1, 1) := by decide +kernel
theorem dL_order_88 : decode cL_order 88 = .ok (.goto 4, 3) := by decide +kernel
theorem dL_order_91 : decode cL_order 91 = .ok (.iconst 0, 1) := by decide +kernel
theorem dL_order_92 : decode cL_order 92 = .ok (.ireturn, 1) := by decide +kernel
theorem dL_trees_0 : decode cL_trees 0 = .ok (.new 8, 3) := by decide +kernel
theorem dL_trees_3 : decode cL_trees 3 = .ok (.dup, 1) := by decide +kernel
theorem dL_trees_4 : decode cL_trees 4 = .ok (.invokespecial 91, 3) := by decide +kernel
theorem dL_trees_7 : decode cL_trees 7 = .ok (.astore_n 0, 1) := by decide +kernel
theorem dL_trees_8 : decode cL_trees 8 = .ok (.aload_n 0, 1) := by decide +kernel
theorem dL_trees_9 : decode cL_trees 9 = .ok (.invokevirtual 77, 3) := by decide +kernel
theorem dL_trees_12 : decode cL_trees 12 = .ok (.ifCond .ne 366, 3) := by decide +kernel
theorem dL_trees_15 : decode cL_trees 15 = .ok (.aload_n 0, 1) := by decide +kernel
theorem dL_trees_16 : decode cL_trees 16 = .ok (.iconst 0, 1) := by decide +kernel
theorem dL_trees_17 : decode cL_trees 17 = .ok (.invokevirtual 31, 3) := by decide +kernel
theorem dL_trees_20 : decode cL_trees 20 = .ok (.iconst 2, 1) := by decide +kernel
theorem dL_trees_21 : decode cL_trees 21 = .ok (.if_icmp .ne 357, 3) := by decide +kernel
theorem dL_trees_24 : decode cL_trees 24 = .ok (.aload_n 0, 1) := by decide +kernel
theorem dL_trees_25 : decode cL_trees 25 = .ok (.sipush 9999, 3) := by decide +kernel
theorem dL_trees_28 : decode cL_trees 28 = .ok (.invokevirtual 31, 3) := by decide +kernel
theorem dL_trees_31 : decode cL_trees 31 = .ok (.iconst (-1), 1) := by decide +kernel
theorem dL_trees_32 : decode cL_trees 32 = .ok (.if_icmp .ne 346, 3) := by decide +kernel
theorem dL_trees_35 : decode cL_trees 35 = .ok (.aload_n 0, 1) := by decide +kernel
theorem dL_trees_36 : decode cL_trees 36 = .ok (.iconst 0, 1) := by decide +kernel
theorem dL_trees_37 : decode cL_trees 37 = .ok (.invokevirtual 37, 3) := by decide +kernel
theorem dL_trees_40 : decode cL_trees 40 = .ok (.ifCond .ne 338, 3) := by decide +kernel
theorem dL_trees_43 : decode cL_trees 43 = .ok (.aload_n 0, 1) := by decide +kernel
theorem dL_trees_44 : decode cL_trees 44 = .ok (.invokevirtual 81, 3) := by decide +kernel
theorem dL_trees_47 : decode cL_trees 47 = .ok (.ifCond .ne 331, 3) := by decide +kernel
theorem dL_trees_50 : decode cL_trees 50 = .ok (.aload_n 0, 1) := by decide +kernel
theorem dL_trees_51 : decode cL_trees 51 = .ok (.invokestatic 92, 3) := by decide +kernel
theorem dL_trees_54 : decode cL_trees 54 = .ok (.ifCond .eq 324, 3) := by decide +kernel
theorem dL_trees_57 : decode cL_trees 57 = .ok (.aload_n 0, 1) := by decide +kernel
theorem dL_trees_58 : decode cL_trees 58 = .ok (.iconst 0, 1) := by decide +kernel
theorem dL_trees_59 : decode cL_trees 59 = .ok (.iconst 1, 1) := by decide +kernel
theorem dL_trees_60 : decode cL_trees 60 = .ok (.iconst 0, 1) := by decide +kernel
theorem dL_trees_61 : decode cL_trees 61 = .ok (.invokevirtual 7, 3) := by decide +kernel
theorem dL_trees_64 : decode cL_trees 64 = .ok (.ifCond .ne 314, 3) := by decide +kernel
theorem dL_trees_67 : decode cL_trees 67 = .ok (.aload_n 0, 1) := by decide +kernel
theorem dL_trees_68 : decode cL_trees 68 = .ok (.iconst 3, 1) := by decide +kernel
theorem dL_trees_69 : decode cL_trees 69 = .ok (.bipush 12, 2) := by decide +kernel
theorem dL_trees_71 : decode cL_trees 71 = .ok (.iconst 0, 1) := by decide +kernel
theorem dL_trees_72 : decode cL_trees 72 = .ok (.invokevirtual 7, 3) := by decide +kernel
theorem dL_trees_75 : decode cL_trees 75 = .ok (.ifCond .ne 303, 3) := by decide +kernel
theorem dL_trees_78 : decode cL_trees 78 = .ok (.aload_n 0, 1) := by decide +kernel
theorem dL_trees_79 : decode cL_trees 79 = .ok (.iconst 0, 1) := by decide +kernel
theorem dL_trees_80 : decode cL_trees 80 = .ok (.bipush 121, 2) := by decide +kernel
theorem dL_trees_82 : decode cL_trees 82 = .ok (.bipush 7, 2) := by decide +kernel
theorem dL_trees_84 : decode cL_trees 84 = .ok (.iconst (-1), 1) := by decide +kernel
theorem dL_trees_85 : decode cL_trees 85 = .ok (.iconst 0, 1) := by decide +kernel
theorem dL_trees_86 : decode cL_trees 86 = .ok (.invokevirtual 13, 3) := by decide +kernel
theorem dL_trees_89 : decode cL_trees 89 = .ok (.ifCond .ne 289, 3) := by decide +kernel
theorem dL_trees_92 : decode cL_trees 92 = .ok (.aload_n 0, 1) := by decide +kernel
theorem dL_trees_93 : decode cL_trees 93 = .ok (.iconst 0, 1) := by decide +kernel
theorem dL_trees_94 : decode cL_trees 94 = .ok (.bipush 122, 2) := by decide +kernel
theorem dL_trees_96 : decode cL_trees 96 = .ok (.bipush 8, 2) := by decide +kernel
theorem dL_trees_98 : decode cL_trees 98 = .ok (.iconst (-1), 1) := by decide +kernel
theorem dL_trees_99 : decode cL_trees 99 = .ok (.iconst 0, 1) := by decide +kernel
theorem dL_trees_100 : decode cL_trees 100 = .ok (.invokevirtual 13, 3) := by decide +kernel
theorem dL_trees_103 : decode cL_trees 103 = .ok (.ifCond .ne 275, 3) := by decide +kernel
theorem dL_trees_106 : decode cL_trees 106 = .ok (.aload_n 0, 1) := by decide +kernel
theorem dL_trees_107 : decode cL_trees 107 = .ok (.iconst 0, 1) := by decide +kernel
theorem dL_trees_108 : decode cL_trees 108 = .ok (.bipush 11, 2) := by decide +kernel
theorem dL_trees_110 : decode cL_trees 110 = .ok (.iconst 5, 1) := by decide +kernel
theorem dL_trees_111 : decode cL_trees 111 = .ok (.iconst (-1), 1) := by decide +kernel
theorem dL_trees_112 : decode cL_trees 112 = .ok (.iconst 0, 1) := by decide +kernel
theorem dL_trees_113 : decode cL_trees 113 = .ok (.invokevirtual 13, 3) := by decide +kernel
theorem dL_trees_116 : decode cL_trees 116 = .ok (.ifCond .ne 262, 3) := by decide +kernel
theorem dL_trees_119 : decode cL_trees 119 = .ok (.aload_n 0, 1) := by decide +kernel
theorem dL_trees_120 : decode cL_trees 120 = .ok (.invokevirtual 77, 3) := by decide +kernel
theorem dL_trees_123 : decode cL_trees 123 = .ok (.iconst 5, 1) := by decide +kernel
theorem dL_trees_124 : decode cL_trees 124 = .ok (.if_icmp .ne 254, 3) := by decide +kernel
theorem dL_trees_127 : decode cL_trees 127 = .ok (.aload_n 0, 1) := by decide +kernel
theorem dL_trees_128 : decode cL_trees 128 = .ok (.iconst 1, 1) := by decide +kernel
theorem dL_trees_129 : decode cL_trees 129 = .ok (.bipush 12, 2) := by decide +kernel
theorem dL_trees_131 : decode cL_trees 131 = .ok (.bipush 11, 2) := by decide +kernel
theorem dL_trees_133 : decode cL_trees 133 = .ok (.iconst 0, 1) := by decide +kernel
theorem dL_trees_134 : decode cL_trees 134 = .ok (.invokestatic 96, 3) := by decide +kernel
theorem dL_trees_137 : decode cL_trees 137 = .ok (.ifCond .eq 241, 3) := by decide +kernel
theorem dL_trees_140 : decode cL_trees 140 = .ok (.aload_n 0, 1) := by decide +kernel
theorem dL_trees_141 : decode cL_trees 141 = .ok (.bipush 12, 2) := by decide +kernel
theorem dL_trees_143 : decode cL_trees 143 = .ok (.bipush 121, 2) := by decide +kernel
theorem dL_trees_145 : decode cL_trees 145 = .ok (.bipush 122, 2) := by decide +kernel
theorem dL_trees_147 : decode cL_trees 147 = .ok (.iconst 0, 1) := by decide +kernel
theorem dL_trees_148 : decode cL_trees 148 = .ok (.invokestatic 96, 3) := by decide +kernel
theorem dL_trees_151 : decode cL_trees 151 = .ok (.ifCond .eq 227, 3) := by decide +kernel
theorem dL_trees_154 : decode cL_trees 154 = .ok (.aload_n 0, 1) := by decide +kernel
theorem dL_trees_155 : decode cL_trees 155 = .ok (.iconst 0, 1) := by decide +kernel
theorem dL_trees_156 : decode cL_trees 156 = .ok (.iconst 1, 1) := by decide +kernel
theorem dL_trees_157 : decode cL_trees 157 = .ok (.iconst 0, 1) := by decide +kernel
theorem dL_trees_158 : decode cL_trees 158 = .ok (.iconst 0, 1) := by decide +kernel
theorem dL_trees_159 : decode cL_trees 159 = .ok (.invokestatic 96, 3) := by decide +kernel
theorem dL_trees_162 : decode cL_trees 162 = .ok (.ifCond .eq 216, 3) := by decide +kernel
theorem dL_trees_165 : decode cL_trees 165 = .ok (.aload_n 0, 1) := by decide +kernel
theorem dL_trees_166 : decode cL_trees 166 = .ok (.iconst 0, 1) := by decide +kernel
theorem dL_trees_167 : decode cL_trees 167 = .ok (.bipush 11, 2) := by decide +kernel
theorem dL_trees_169 : decode cL_trees 169 = .ok (.iconst 0, 1) := by decide +kernel
theorem dL_trees_170 : decode cL_trees 170 = .ok (.iconst 0, 1) := by decide +kernel
theorem dL_trees_171 : decode cL_trees 171 = .ok (.invokevirtual 44, 3) := by decide +kernel
theorem dL_trees_174 : decode cL_trees 174 = .ok (.ifCond .ne 204, 3) := by decide +kernel
theorem dL_trees_177 : decode cL_trees 177 = .ok (.aload_n 0, 1) := by decide +kernel
theorem dL_trees_178 : decode cL_trees 178 = .ok (.iconst 1, 1) := by decide +kernel
theorem dL_trees_179 : decode cL_trees 179 = .ok (.bipush 11, 2) := by decide +kernel
theorem dL_trees_181 : decode cL_trees 181 = .ok (.bipush 12, 2) := by decide +kernel
theorem dL_trees_183 : decode cL_trees 183 = .ok (.iconst 0, 1) := by decide +kernel
theorem dL_trees_184 : decode cL_trees 184 = .ok (.invokestatic 96, 3) := by decide +kernel
theorem dL_trees_187 : decode cL_trees 187 = .ok (.ifCond .eq 191, 3) := by decide +kernel
theorem dL_trees_190 : decode cL_trees 190 = .ok (.aload_n 0, 1) := by decide +kernel
theorem dL_trees_191 : decode cL_trees 191 = .ok (.bipush 12, 2) := by decide +kernel
theorem dL_trees_193 : decode cL_trees 193 = .ok (.invokevirtual 31, 3) := by decide +kernel
theorem dL_trees_196 : decode cL_trees 196 = .ok (.iconst 2, 1) := by decide +kernel
theorem dL_trees_197 : decode cL_trees 197 = .ok (.if_icmp .ne 181, 3) := by decide +kernel
theorem dL_trees_200 : decode cL_trees 200 = .ok (.aload_n 0, 1) := by decide +kernel
theorem dL_trees_201 : decode cL_trees 201 = .ok (.bipush 11, 2) := by decide +kernel
theorem dL_trees_203 : decode cL_trees 203 = .ok (.invokevirtual 31, 3) := by decide +kernel
theorem dL_trees_206 : decode cL_trees 206 = .ok (.iconst 1, 1) := by decide +kernel
theorem dL_trees_207 : decode cL_trees 207 = .ok (.if_icmp .ne 171, 3) := by decide +kernel
theorem dL_trees_210 : decode cL_trees 210 = .ok (.aload_n 0, 1) := by decide +kernel
theorem dL_trees_211 : decode cL_trees 211 = .ok (.bipush 121, 2) := by decide +kernel
theorem dL_trees_213 : decode cL_trees 213 = .ok (.invokevirtual 34, 3) := by decide +kernel
theorem dL_trees_216 : decode cL_trees 216 = .ok (.bipush 7, 2) := by decide +kernel
theorem dL_trees_218 : decode cL_trees 218 = .ok (.if_icmp .ne 160, 3) := by decide +kernel
theorem dL_trees_221 : decode cL_trees 221 = .ok (.aload_n 0, 1) := by decide +kernel
theorem dL_trees_222 : decode cL_trees 222 = .ok (.bipush 12, 2) := by decide +kernel
theorem dL_trees_224 : decode cL_trees 224 = .ok (.invokevirtual 34, 3) := by decide +kernel
theorem dL_trees_227 : decode cL_trees 227 = .ok (.iconst (-1), 1) := by decide +kernel
theorem dL_trees_228 : decode cL_trees 228 = .ok (.if_icmp .ne 150, 3) := by decide +kernel
theorem dL_trees_231 : decode cL_trees 231 = .ok (.aload_n 0, 1) := by decide +kernel
theorem dL_trees_232 : decode cL_trees 232 = .ok (.bipush 13, 2) := by decide +kernel
theorem dL_trees_234 : decode cL_trees 234 = .ok (.invokevirtual 34, 3) := by decide +kernel
theorem dL_trees_237 : decode cL_trees 237 = .ok (.iconst (-1), 1) := by decide +kernel
theorem dL_trees_238 : decode cL_trees 238 = .ok (.if_icmp .ne 140, 3) := by decide +kernel
theorem dL_trees_241 : decode cL_trees 241 = .ok (.aload_n 0, 1) := by decide +kernel
theorem dL_trees_242 : decode cL_trees 242 = .ok (.iconst 0, 1) := by decide +kernel
theorem dL_trees_243 : decode cL_trees 243 = .ok (.bipush 11, 2) := by decide +kernel
theorem dL_trees_245 : decode cL_trees 245 = .ok (.bipush 6, 2) := by decide +kernel
theorem dL_trees_247 : decode cL_trees 247 = .ok (.iconst 5, 1) := by decide +kernel
theorem dL_trees_248 : decode cL_trees 248 = .ok (.iconst 0, 1) := by decide +kernel
theorem dL_trees_249 : decode cL_trees 249 = .ok (.invokevirtual 13, 3) := by decide +kernel
theorem dL_trees_252 : decode cL_trees 252 = .ok (.ifCond .ne 126, 3) := by decide +kernel
theorem dL_trees_255 : decode cL_trees 255 = .ok (.aload_n 0, 1) := by decide +kernel
theorem dL_trees_256 : decode cL_trees 256 = .ok (.iconst 0, 1) := by decide +kernel
theorem dL_trees_257 : decode cL_trees 257 = .ok (.bipush 11, 2) := by decide +kernel
theorem dL_trees_259 : decode cL_trees 259 = .ok (.bipush 9, 2) := by decide +kernel
theorem dL_trees_261 : decode cL_trees 261 = .ok (.iconst 5, 1) := by decide +kernel
theorem dL_trees_262 : decode cL_trees 262 = .ok (.iconst 0, 1) := by decide +kernel
theorem dL_trees_263 : decode cL_trees 263 = .ok (.invokevirtual 13, 3) := by decide +kernel
theorem dL_trees_266 : decode cL_trees 266 = .ok (.iconst 3, 1) := by decide +kernel
theorem dL_trees_267 : decode cL_trees 267 = .ok (.if_icmp .ne 111, 3) := by decide +kernel
theorem dL_trees_270 : decode cL_trees 270 = .ok (.aload_n 0, 1) := by decide +kernel
theorem dL_trees_271 : decode cL_trees 271 = .ok (.bipush 11, 2) := by decide +kernel
theorem dL_trees_273 : decode cL_trees 273 = .ok (.invokevirtual 34, 3) := by decide +kernel
theorem dL_trees_276 : decode cL_trees 276 = .ok (.bipush 6, 2) := by decide +kernel
theorem dL_trees_278 : decode cL_trees 278 = .ok (.if_icmp .ne 100, 3) := by decide +kernel
theorem dL_trees_281 : decode cL_trees 281 = .ok (.aload_n 0, 1) := by decide +kernel
theorem dL_trees_282 : decode cL_trees 282 = .ok (.iconst 0, 1) := by decide +kernel
theorem dL_trees_283 : decode cL_trees 283 = .ok (.bipush 12, 2) := by decide +kernel
theorem dL_trees_285 : decode cL_trees 285 = .ok (.iconst 1, 1) := by decide +kernel
theorem dL_trees_286 : decode cL_trees 286 = .ok (.iconst (-1), 1) := by decide +kernel
theorem dL_trees_287 : decode cL_trees 287 = .ok (.iconst 0, 1) := by decide +kernel
theorem dL_trees_288 : decode cL_trees 288 = .ok (.invokevirtual 13, 3) := by decide +kernel
theorem dL_trees_291 : decode cL_trees 291 = .ok (.iconst 2, 1) := by decide +kernel
theorem dL_trees_292 : decode cL_trees 292 = .ok (.if_icmp .ne 86, 3) := by decide +kernel
theorem dL_trees_295 : decode cL_trees 295 = .ok (.aload_n 0, 1) := by decide +kernel
theorem dL_trees_296 : decode cL_trees 296 = .ok (.iconst 0, 1) := by decide +kernel
theorem dL_trees_297 : decode cL_trees 297 = .ok (.bipush 111, 2) := by decide +kernel
theorem dL_trees_299 : decode cL_trees 299 = .ok (.iconst 1, 1) := by decide +kernel
theorem dL_trees_300 : decode cL_trees 300 = .ok (.iconst (-1), 1) := by decide +kernel
theorem dL_trees_301 : decode cL_trees 301 = .ok (.iconst 0, 1) := by decide +kernel
theorem dL_trees_302 : decode cL_trees 302 = .ok (.invokevirtual 13, 3) := by decide +kernel
theorem dL_trees_305 : decode cL_trees 305 = .ok (.iconst 1, 1) := by decide +kernel
theorem dL_trees_306 : decode cL_trees 306 = .ok (.if_icmp .ne 72, 3) := by decide +kernel
theorem dL_trees_309 : decode cL_trees 309 = .ok (.aload_n 0, 1) := by decide +kernel
theorem dL_trees_310 : decode cL_trees 310 = .ok (.iconst 0, 1) := by decide +kernel
theorem dL_trees_311 : decode cL_trees 311 = .ok (.bipush 13, 2) := by decide +kernel
theorem dL_trees_313 : decode cL_trees 313 = .ok (.iconst 1, 1) := by decide +kernel
theorem dL_trees_314 : decode cL_trees 314 = .ok (.iconst 3, 1) := by decide +kernel
theorem dL_trees_315 : decode cL_trees 315 = .ok (.iconst 0, 1) := by decide +kernel
theorem dL_trees_316 : decode cL_trees 316 = .ok (.invokevirtual 13, 3) := by decide +kernel
theorem dL_trees_319 : decode cL_trees 319 = .ok (.iconst 3, 1) := by decide +kernel
theorem dL_trees_320 : decode cL_trees 320 = .ok (.if_icmp .ne 58, 3) := by decide +kernel
theorem dL_trees_323 : decode cL_trees 323 = .ok (.aload_n 0, 1) := by decide +kernel
theorem dL_trees_324 : decode cL_trees 324 = .ok (.iconst 0, 1) := by decide +kernel
theorem dL_trees_325 : decode cL_trees 325 = .ok (.bipush 11, 2) := by decide +kernel
theorem dL_trees_327 : decode cL_trees 327 = .ok (.iconst 0, 1) := by decide +kernel
theorem dL_trees_328 : decode cL_trees 328 = .ok (.invokevirtual 7, 3) := by decide +kernel
theorem dL_trees_331 : decode cL_trees 331 = .ok (.iconst 2, 1) := by decide +kernel
theorem dL_trees_332 : decode cL_trees 332 = .ok (.if_icmp .ne 46, 3) := by decide +kernel
theorem dL_trees_335 : decode cL_trees 335 = .ok (.aload_n 0, 1) := by decide +kernel
theorem dL_trees_336 : decode cL_trees 336 = .ok (.iconst 0, 1) := by decide +kernel
theorem dL_trees_337 : decode cL_trees 337 = .ok (.bipush 21, 2) := by decide +kernel
theorem dL_trees_339 : decode cL_trees 339 = .ok (.iconst 0, 1) := by decide +kernel
theorem dL_trees_340 : decode cL_trees 340 = .ok (.invokevirtual 7, 3) := by decide +kernel
theorem dL_trees_343 : decode cL_trees 343 = .ok (.iconst 1, 1) := by decide +kernel
theorem dL_trees_344 : decode cL_trees 344 = .ok (.if_icmp .ne 34, 3) := by decide +kernel
theorem dL_trees_347 : decode cL_trees 347 = .ok (.aload_n 0, 1) := by decide +kernel
theorem dL_trees_348 : decode cL_trees 348 = .ok (.iconst 0, 1) := by decide +kernel
theorem dL_trees_349 : decode cL_trees 349 = .ok (.bipush 111, 2) := by decide +kernel
theorem dL_trees_351 : decode cL_trees 351 = .ok (.iconst 0, 1) := by decide +kernel
theorem dL_trees_352 : decode cL_trees 352 = .ok (.invokevirtual 7, 3) := by decide +kernel
theorem dL_trees_355 : decode cL_trees 355 = .ok (.iconst 1, 1) := by decide +kernel
theorem dL_trees_356 : decode cL_trees 356 = .ok (.if_icmp .ne 22, 3) := by decide +kernel
theorem dL_trees_359 : decode cL_trees 359 = .ok (.aload_n 0, 1) := by decide +kernel
theorem dL_trees_360 : decode cL_trees 360 = .ok (.iconst 0, 1) := by decide +kernel
theorem dL_trees_361 : decode cL_trees 361 = .ok (.bipush 13, 2) := by decide +kernel
theorem dL_trees_363 : decode cL_trees 363 = .ok (.iconst 0, 1) := by decide +kernel
theorem dL_trees_364 : decode cL_trees 364 = .ok (.invokevirtual 17, 3) := by decide +kernel
theorem dL_trees_367 : decode cL_trees 367 = .ok (.iconst 1, 1) := by decide +kernel
theorem dL_trees_368 : decode cL_trees 368 = .ok (.if_icmp .ne 10, 3) := by decide +kernel
theorem dL_trees_371 : decode cL_trees 371 = .ok (.aload_n 0, 1) := by decide +kernel
theorem dL_trees_372 : decode cL_trees 372 = .ok (.invokestatic 92, 3) := by decide +kernel
theorem dL_trees_375 : decode cL_trees 375 = .ok (.ifCond .ne 5, 3) := by decide +kernel
theorem dL_trees_378 : decode cL_trees 378 = .ok (.iconst 0, 1) := by decide +kernel
theorem dL_trees_379 : decode cL_trees 379 = .ok (.ireturn, 1) := by decide +kernel
theorem dL_trees_380 : decode cL_trees 380 = .ok (.aload_n 0, 1) := by decide +kernel
theorem dL_trees_381 : decode cL_trees 381 = .ok (.bipush 11, 2) := by decide +kernel
theorem dL_trees_383 : decode cL_trees 383 = .ok (.invokevirtual 65, 3) := by decide +kernel
theorem dL_trees_386 : decode cL_trees 386 = .ok (.ifCond .ne 356, 3) := by decide +kernel
theorem dL_trees_389 : decode cL_trees 389 = .ok (.aload_n 0, 1) := by decide +kernel
theorem dL_trees_390 : decode cL_trees 390 = .ok (.iconst 0, 1) := by decide +kernel
theorem dL_trees_391 : decode cL_trees 391 = .ok (.bipush 11, 2) := by decide +kernel
theorem dL_trees_393 : decode cL_trees 393 = .ok (.iconst 1, 1) := by decide +kernel
theorem dL_trees_394 : decode cL_trees 394 = .ok (.bipush 6, 2) := by decide +kernel
theorem dL_trees_396 : decode cL_trees 396 = .ok (.iconst 0, 1) := by decide +kernel
theorem dL_trees_397 : decode cL_trees 397 = .ok (.invokevirtual 13, 3) := by decide +kernel
theorem dL_trees_400 : decode cL_trees 400 = .ok (.ifCond .ne 342, 3) := by decide +kernel
theorem dL_trees_403 : decode cL_trees 403 = .ok (.aload_n 0, 1) := by decide +kernel
theorem dL_trees_404 : decode cL_trees 404 = .ok (.bipush 11, 2) := by decide +kernel
theorem dL_trees_406 : decode cL_trees 406 = .ok (.invokevirtual 65, 3) := by decide +kernel
theorem dL_trees_409 : decode cL_trees 409 = .ok (.iconst 1, 1) := by decide +kernel
theorem dL_trees_410 : decode cL_trees 410 = .ok (.if_icmp .ne 332, 3) := by decide +kernel
theorem dL_trees_413 : decode cL_trees 413 = .ok (.aload_n 0, 1) := by decide +kernel
theorem dL_trees_414 : decode cL_trees 414 = .ok (.iconst 0, 1) := by decide +kernel
theorem dL_trees_415 : decode cL_trees 415 = .ok (.bipush 11, 2) := by decide +kernel
theorem dL_trees_417 : decode cL_trees 417 = .ok (.iconst 0, 1) := by decide +kernel
theorem dL_trees_418 : decode cL_trees 418 = .ok (.iconst 0, 1) := by decide +kernel
theorem dL_trees_419 : decode cL_trees 419 = .ok (.invokevirtual 68, 3) := by decide +kernel
theorem dL_trees_422 : decode cL_trees 422 = .ok (.ifCond .ne 320, 3) := by decide +kernel
theorem dL_trees_425 : decode cL_trees 425 = .ok (.aload_n 0, 1) := by decide +kernel
theorem dL_trees_426 : decode cL_trees 426 = .ok (.bipush 11, 2) := by decide +kernel
theorem dL_trees_428 : decode cL_trees 428 = .ok (.invokevirtual 34, 3) := by decide +kernel
theorem dL_trees_431 : decode cL_trees 431 = .ok (.bipush 6, 2) := by decide +kernel
theorem dL_trees_433 : decode cL_trees 433 = .ok (.if_icmp .ne 309, 3) := by decide +kernel
theorem dL_trees_436 : decode cL_trees 436 = .ok (.aload_n 0, 1) := by decide +kernel
theorem dL_trees_437 : decode cL_trees 437 = .ok (.iconst 0, 1) := by decide +kernel
theorem dL_trees_438 : decode cL_trees 438 = .ok (.bipush 11, 2) := by decide +kernel
theorem dL_trees_440 : decode cL_trees 440 = .ok (.iconst 2, 1) := by decide +kernel
theorem dL_trees_441 : decode cL_trees 441 = .ok (.iconst 0, 1) := by decide +kernel
theorem dL_trees_442 : decode cL_trees 442 = .ok (.invokevirtual 68, 3) := by decide +kernel
theorem dL_trees_445 : decode cL_trees 445 = .ok (.iconst 1, 1) := by decide +kernel
theorem dL_trees_446 : decode cL_trees 446 = .ok (.if_icmp .ne 296, 3) := by decide +kernel
theorem dL_trees_449 : decode cL_trees 449 = .ok (.aload_n 0, 1) := by decide +kernel
theorem dL_trees_450 : decode cL_trees 450 = .ok (.iconst 0, 1) := by decide +kernel
theorem dL_trees_451 : decode cL_trees 451 = .ok (.bipush 12, 2) := by decide +kernel
theorem dL_trees_453 : decode cL_trees 453 = .ok (.iconst 0, 1) := by decide +kernel
theorem dL_trees_454 : decode cL_trees 454 = .ok (.iconst 0, 1) := by decide +kernel
theorem dL_trees_455 : decode cL_trees 455 = .ok (.invokevirtual 68, 3) := by decide +kernel
theorem dL_trees_458 : decode cL_trees 458 = .ok (.iconst 1, 1) := by decide +kernel
theorem dL_trees_459 : decode cL_trees 459 = .ok (.if_icmp .ne 283, 3) := by decide +kernel
theorem dL_trees_462 : decode cL_trees 462 = .ok (.aload_n 0, 1) := by decide +kernel
theorem dL_trees_463 : decode cL_trees 463 = .ok (.bipush 16, 2) := by decide +kernel
theorem dL_trees_465 : decode cL_trees 465 = .ok (.bipush 12, 2) := by decide +kernel
theorem dL_trees_467 : decode cL_trees 467 = .ok (.iconst 0, 1) := by decide +kernel
theorem dL_trees_468 : decode cL_trees 468 = .ok (.iconst 0, 1) := by decide +kernel
theorem dL_trees_469 : decode cL_trees 469 = .ok (.iconst 0, 1) := by decide +kernel
theorem dL_trees_470 : decode cL_trees 470 = .ok (.invokestatic 85, 3) := by decide +kernel
theorem dL_trees_473 : decode cL_trees 473 = .ok (.sipush (-9003), 3) := by decide +kernel
theorem dL_trees_476 : decode cL_trees 476 = .ok (.if_icmp .ne 266, 3) := by decide +kernel
theorem dL_trees_479 : decode cL_trees 479 = .ok (.aload_n 0, 1) := by decide +kernel
theorem dL_trees_480 : decode cL_trees 480 = .ok (.iconst 0, 1) := by decide +kernel
theorem dL_trees_481 : decode cL_trees 481 = .ok (.iconst 1, 1) := by decide +kernel
theorem dL_trees_482 : decode cL_trees 482 = .ok (.iconst 2, 1) := by decide +kernel
theorem dL_trees_483 : decode cL_trees 483 = .ok (.iconst 0, 1) := by decide +kernel
theorem dL_trees_484 : decode cL_trees 484 = .ok (.iconst 0, 1) := by decide +kernel
theorem dL_trees_485 : decode cL_trees 485 = .ok (.invokevirtual 24, 3) := by decide +kernel
theorem dL_trees_488 : decode cL_trees 488 = .ok (.ifCond .ne 254, 3) := by decide +kernel
theorem dL_trees_491 : decode cL_trees 491 = .ok (.aload_n 0, 1) := by decide +kernel
theorem dL_trees_492 : decode cL_trees 492 = .ok (.invokevirtual 77, 3) := by decide +kernel
theorem dL_trees_495 : decode cL_trees 495 = .ok (.bipush 10, 2) := by decide +kernel
theorem dL_trees_497 : decode cL_trees 497 = .ok (.if_icmp .ne 245, 3) := by decide +kernel
theorem dL_trees_500 : decode cL_trees 500 = .ok (.aload_n 0, 1) := by decide +kernel
theorem dL_trees_501 : decode cL_trees 501 = .ok (.iconst 2, 1) := by decide +kernel
theorem dL_trees_502 : decode cL_trees 502 = .ok (.bipush 21, 2) := by decide +kernel
theorem dL_trees_504 : decode cL_trees 504 = .ok (.bipush 22, 2) := by decide +kernel
theorem dL_trees_506 : decode cL_trees 506 = .ok (.iconst 0, 1) := by decide +kernel
theorem dL_trees_507 : decode cL_trees 507 = .ok (.invokestatic 96, 3) := by decide +kernel
theorem dL_trees_510 : decode cL_trees 510 = .ok (.ifCond .eq 232, 3) := by decide +kernel
theorem dL_trees_513 : decode cL_trees 513 = .ok (.aload_n 0, 1) := by decide +kernel
theorem dL_trees_514 : decode cL_trees 514 = .ok (.bipush 22, 2) := by decide +kernel
theorem dL_trees_516 : decode cL_trees 516 = .ok (.sipush 221, 3) := by decide +kernel
theorem dL_trees_519 : decode cL_trees 519 = .ok (.sipush 222, 3) := by decide +kernel
theorem dL_trees_522 : decode cL_trees 522 = .ok (.iconst 0, 1) := by decide +kernel
theorem dL_trees_523 : decode cL_trees 523 = .ok (.invokestatic 96, 3) := by decide +kernel
theorem dL_trees_526 : decode cL_trees 526 = .ok (.ifCond .eq 216, 3) := by decide +kernel
theorem dL_trees_529 : decode cL_trees 529 = .ok (.aload_n 0, 1) := by decide +kernel
theorem dL_trees_530 : decode cL_trees 530 = .ok (.sipush 221, 3) := by decide +kernel
theorem dL_trees_533 : decode cL_trees 533 = .ok (.invokevirtual 34, 3) := by decide +kernel
theorem dL_trees_536 : decode cL_trees 536 = .ok (.bipush 7, 2) := by decide +kernel
theorem dL_trees_538 : decode cL_trees 538 = .ok (.if_icmp .ne 204, 3) := by decide +kernel
theorem dL_trees_541 : decode cL_trees 541 = .ok (.aload_n 0, 1) := by decide +kernel
theorem dL_trees_542 : decode cL_trees 542 = .ok (.bipush 21, 2) := by decide +kernel
theorem dL_trees_544 : decode cL_trees 544 = .ok (.invokevirtual 34, 3) := by decide +kernel
theorem dL_trees_547 : decode cL_trees 547 = .ok (.bipush 6, 2) := by decide +kernel
theorem dL_trees_549 : decode cL_trees 549 = .ok (.if_icmp .ne 193, 3) := by decide +kernel
theorem dL_trees_552 : decode cL_trees 552 = .ok (.aload_n 0, 1) := by decide +kernel
theorem dL_trees_553 : decode cL_trees 553 = .ok (.iconst 0, 1) := by decide +kernel
theorem dL_trees_554 : decode cL_trees 554 = .ok (.bipush 21, 2) := by decide +kernel
theorem dL_trees_556 : decode cL_trees 556 = .ok (.iconst 0, 1) := by decide +kernel
theorem dL_trees_557 : decode cL_trees 557 = .ok (.iconst 0, 1) := by decide +kernel
theorem dL_trees_558 : decode cL_trees 558 = .ok (.invokevirtual 68, 3) := by decide +kernel
theorem dL_trees_561 : decode cL_trees 561 = .ok (.iconst 1, 1) := by decide +kernel
theorem dL_trees_562 : decode cL_trees 562 = .ok (.if_icmp .ne 180, 3) := by decide +kernel
theorem dL_trees_565 : decode cL_trees 565 = .ok (.aload_n 0, 1) := by decide +kernel
theorem dL_trees_566 : decode cL_trees 566 = .ok (.iconst 0, 1) := by decide +kernel
theorem dL_trees_567 : decode cL_trees 567 = .ok (.iconst 1, 1) := by decide +kernel
theorem dL_trees_568 : decode cL_trees 568 = .ok (.iconst 2, 1) := by decide +kernel
theorem dL_trees_569 : decode cL_trees 569 = .ok (.iconst 0, 1) := by decide +kernel
theorem dL_trees_570 : decode cL_trees 570 = .ok (.iconst 0, 1) := by decide +kernel
theorem dL_trees_571 : decode cL_trees 571 = .ok (.invokevirtual 24, 3) := by decide +kernel
theorem dL_trees_574 : decode cL_trees 574 = .ok (.iconst 2, 1) := by decide +kernel
theorem dL_trees_575 : decode cL_trees 575 = .ok (.if_icmp .ne 167, 3) := by decide +kernel
theorem dL_trees_578 : decode cL_trees 578 = .ok (.aload_n 0, 1) := by decide +kernel
theorem dL_trees_579 : decode cL_trees 579 = .ok (.iconst 0, 1) := by decide +kernel
theorem dL_trees_580 : decode cL_trees 580 = .ok (.iconst 3, 1) := by decide +kernel
theorem dL_trees_581 : decode cL_trees 581 = .ok (.iconst 4, 1) := by decide +kernel
theorem dL_trees_582 : decode cL_trees 582 = .ok (.iconst 0, 1) := by decide +kernel
theorem dL_trees_583 : decode cL_trees 583 = .ok (.iconst 0, 1) := by decide +kernel
theorem dL_trees_584 : decode cL_trees 584 = .ok (.invokevirtual 24, 3) := by decide +kernel
theorem dL_trees_587 : decode cL_trees 587 = .ok (.iconst 1, 1) := by decide +kernel
theorem dL_trees_588 : decode cL_trees 588 = .ok (.if_icmp .ne 154, 3) := by decide +kernel
theorem dL_trees_591 : decode cL_trees 591 = .ok (.aload_n 0, 1) := by decide +kernel
theorem dL_trees_592 : decode cL_trees 592 = .ok (.iconst 0, 1) := by decide +kernel
theorem dL_trees_593 : decode cL_trees 593 = .ok (.iconst 1, 1) := by decide +kernel
theorem dL_trees_594 : decode cL_trees 594 = .ok (.bipush 31, 2) := by decide +kernel
theorem dL_trees_596 : decode cL_trees 596 = .ok (.iconst 0, 1) := by decide +kernel
theorem dL_trees_597 : decode cL_trees 597 = .ok (.iconst 0, 1) := by decide +kernel
theorem dL_trees_598 : decode cL_trees 598 = .ok (.invokevirtual 24, 3) := by decide +kernel
theorem dL_trees_601 : decode cL_trees 601 = .ok (.iconst 1, 1) := by decide +kernel
theorem dL_trees_602 : decode cL_trees 602 = .ok (.if_icmp .ne 140, 3) := by decide +kernel
theorem dL_trees_605 : decode cL_trees 605 = .ok (.aload_n 0, 1) := by decide +kernel
theorem dL_trees_606 : decode cL_trees 606 = .ok (.iconst 0, 1) := by decide +kernel
theorem dL_trees_607 : decode cL_trees 607 = .ok (.bipush 12, 2) := by decide +kernel
theorem dL_trees_609 : decode cL_trees 609 = .ok (.sipush 224, 3) := by decide +kernel
theorem dL_trees_612 : decode cL_trees 612 = .ok (.iconst 0, 1) := by decide +kernel
theorem dL_trees_613 : decode cL_trees 613 = .ok (.iconst 0, 1) := by decide +kernel
theorem dL_trees_614 : decode cL_trees 614 = .ok (.invokevirtual 24, 3) := by decide +kernel
theorem dL_trees_617 : decode cL_trees 617 = .ok (.ifCond .ne 125, 3) := by decide +kernel
theorem dL_trees_620 : decode cL_trees 620 = .ok (.aload_n 0, 1) := by decide +kernel
theorem dL_trees_621 : decode cL_trees 621 = .ok (.sipush 2242, 3) := by decide +kernel
theorem dL_trees_624 : decode cL_trees 624 = .ok (.invokevirtual 34, 3) := by decide +kernel
theorem dL_trees_627 : decode cL_trees 627 = .ok (.bipush 8, 2) := by decide +kernel
theorem dL_trees_629 : decode cL_trees 629 = .ok (.if_icmp .ne 113, 3) := by decide +kernel
theorem dL_trees_632 : decode cL_trees 632 = .ok (.aload_n 0, 1) := by decide +kernel
theorem dL_trees_633 : decode cL_trees 633 = .ok (.bipush 22, 2) := by decide +kernel
theorem dL_trees_635 : decode cL_trees 635 = .ok (.sipush 221, 3) := by decide +kernel
theorem dL_trees_638 : decode cL_trees 638 = .ok (.sipush 222, 3) := by decide +kernel
theorem dL_trees_641 : decode cL_trees 641 = .ok (.sipush 224, 3) := by decide +kernel
theorem dL_trees_644 : decode cL_trees 644 = .ok (.invokestatic 96, 3) := by decide +kernel
theorem dL_trees_647 : decode cL_trees 647 = .ok (.ifCond .eq 95, 3) := by decide +kernel
theorem dL_trees_650 : decode cL_trees 650 = .ok (.aload_n 0, 1) := by decide +kernel
theorem dL_trees_651 : decode cL_trees 651 = .ok (.iconst 0, 1) := by decide +kernel
theorem dL_trees_652 : decode cL_trees 652 = .ok (.iconst 1, 1) := by decide +kernel
theorem dL_trees_653 : decode cL_trees 653 = .ok (.sipush 225, 3) := by decide +kernel
theorem dL_trees_656 : decode cL_trees 656 = .ok (.iconst 0, 1) := by decide +kernel
theorem dL_trees_657 : decode cL_trees 657 = .ok (.iconst 0, 1) := by decide +kernel
theorem dL_trees_658 : decode cL_trees 658 = .ok (.invokevirtual 24, 3) := by decide +kernel
theorem dL_trees_661 : decode cL_trees 661 = .ok (.iconst 1, 1) := by decide +kernel
theorem dL_trees_662 : decode cL_trees 662 = .ok (.if_icmp .ne 80, 3) := by decide +kernel
theorem dL_trees_665 : decode cL_trees 665 = .ok (.aload_n 0, 1) := by decide +kernel
theorem dL_trees_666 : decode cL_trees 666 = .ok (.iconst 0, 1) := by decide +kernel
theorem dL_trees_667 : decode cL_trees 667 = .ok (.sipush 224, 3) := by decide +kernel
theorem dL_trees_670 : decode cL_trees 670 = .ok (.iconst 1, 1) := by decide +kernel
theorem dL_trees_671 : decode cL_trees 671 = .ok (.iconst 0, 1) := by decide +kernel
theorem dL_trees_672 : decode cL_trees 672 = .ok (.invokevirtual 44, 3) := by decide +kernel
theorem dL_trees_675 : decode cL_trees 675 = .ok (.ifCond .ne 67, 3) := by decide +kernel
theorem dL_trees_678 : decode cL_trees 678 = .ok (.aload_n 0, 1) := by decide +kernel
theorem dL_trees_679 : decode cL_trees 679 = .ok (.bipush 22, 2) := by decide +kernel
theorem dL_trees_681 : decode cL_trees 681 = .ok (.sipush 221, 3) := by decide +kernel
theorem dL_trees_684 : decode cL_trees 684 = .ok (.sipush 224, 3) := by decide +kernel
theorem dL_trees_687 : decode cL_trees 687 = .ok (.sipush 222, 3) := by decide +kernel
theorem dL_trees_690 : decode cL_trees 690 = .ok (.invokestatic 96, 3) := by decide +kernel
theorem dL_trees_693 : decode cL_trees 693 = .ok (.ifCond .eq 49, 3) := by decide +kernel
theorem dL_trees_696 : decode cL_trees 696 = .ok (.aload_n 0, 1) := by decide +kernel
theorem dL_trees_697 : decode cL_trees 697 = .ok (.iconst 0, 1) := by decide +kernel
theorem dL_trees_698 : decode cL_trees 698 = .ok (.sipush 221, 3) := by decide +kernel
theorem dL_trees_701 : decode cL_trees 701 = .ok (.bipush 99, 2) := by decide +kernel
theorem dL_trees_703 : decode cL_trees 703 = .ok (.iconst 0, 1) := by decide +kernel
theorem dL_trees_704 : decode cL_trees 704 = .ok (.invokevirtual 44, 3) := by decide +kernel
theorem dL_trees_707 : decode cL_trees 707 = .ok (.ifCond .ne 35, 3) := by decide +kernel
theorem dL_trees_710 : decode cL_trees 710 = .ok (.aload_n 0, 1) := by decide +kernel
theorem dL_trees_711 : decode cL_trees 711 = .ok (.bipush 22, 2) := by decide +kernel
theorem dL_trees_713 : decode cL_trees 713 = .ok (.sipush 224, 3) := by decide +kernel
theorem dL_trees_716 : decode cL_trees 716 = .ok (.sipush 222, 3) := by decide +kernel
theorem dL_trees_719 : decode cL_trees 719 = .ok (.sipush 221, 3) := by decide +kernel
theorem dL_trees_722 : decode cL_trees 722 = .ok (.invokestatic 96, 3) := by decide +kernel
theorem dL_trees_725 : decode cL_trees 725 = .ok (.ifCond .eq 17, 3) := by decide +kernel
theorem dL_trees_728 : decode cL_trees 728 = .ok (.aload_n 0, 1) := by decide +kernel
theorem dL_trees_729 : decode cL_trees 729 = .ok (.iconst 0, 1) := by decide +kernel
theorem dL_trees_730 : decode cL_trees 730 = .ok (.sipush 229, 3) := by decide +kernel
theorem dL_trees_733 : decode cL_trees 733 = .ok (.iconst 0, 1) := by decide +kernel
theorem dL_trees_734 : decode cL_trees 734 = .ok (.iconst 0, 1) := by decide +kernel
theorem dL_trees_735 : decode cL_trees 735 = .ok (.invokevirtual 44, 3) := by decide +kernel
theorem dL_trees_738 : decode cL_trees 738 = .ok (.iconst 1, 1) := by decide +kernel
theorem dL_trees_739 : decode cL_trees 739 = .ok (.if_icmp .eq 5, 3) := by decide +kernel
theorem dL_trees_742 : decode cL_trees 742 = .ok (.iconst 0, 1) := by decide +kernel
theorem dL_trees_743 : decode cL_trees 743 = .ok (.ireturn, 1) := by decide +kernel
theorem dL_trees_744 : decode cL_trees 744 = .ok (.aload_n 0, 1) := by decide +kernel
theorem dL_trees_745 : decode cL_trees 745 = .ok (.iconst 0, 1) := by decide +kernel
theorem dL_trees_746 : decode cL_trees 746 = .ok (.bipush 11, 2) := by decide +kernel
theorem dL_trees_748 : decode cL_trees 748 = .ok (.bipush 23, 2) := by decide +kernel
theorem dL_trees_750 : decode cL_trees 750 = .ok (.iconst 0, 1) := by decide +kernel
theorem dL_trees_751 : decode cL_trees 751 = .ok (.iconst 0, 1) := by decide +kernel
theorem dL_trees_752 : decode cL_trees 752 = .ok (.invokevirtual 28, 3) := by decide +kernel
theorem dL_trees_755 : decode cL_trees 755 = .ok (.ifCond .ne 262, 3) := by decide +kernel
theorem dL_trees_758 : decode cL_trees 758 = .ok (.aload_n 0, 1) := by decide +kernel
theorem dL_trees_759 : decode cL_trees 759 = .ok (.bipush 11, 2) := by decide +kernel
theorem dL_trees_761 : decode cL_trees 761 = .ok (.invokevirtual 31, 3) := by decide +kernel
theorem dL_trees_764 : decode cL_trees 764 = .ok (.iconst (-1), 1) := by decide +kernel
theorem dL_trees_765 : decode cL_trees 765 = .ok (.if_icmp .ne 252, 3) := by decide +kernel
theorem dL_trees_768 : decode cL_trees 768 = .ok (.aload_n 0, 1) := by decide +kernel
theorem dL_trees_769 : decode cL_trees 769 = .ok (.bipush 23, 2) := by decide +kernel
theorem dL_trees_771 : decode cL_trees 771 = .ok (.invokevirtual 34, 3) := by decide +kernel
theorem dL_trees_774 : decode cL_trees 774 = .ok (.bipush 6, 2) := by decide +kernel
theorem dL_trees_776 : decode cL_trees 776 = .ok (.if_icmp .ne 241, 3) := by decide +kernel
theorem dL_trees_779 : decode cL_trees 779 = .ok (.aload_n 0, 1) := by decide +kernel
theorem dL_trees_780 : decode cL_trees 780 = .ok (.iconst 0, 1) := by decide +kernel
theorem dL_trees_781 : decode cL_trees 781 = .ok (.bipush 23, 2) := by decide +kernel
theorem dL_trees_783 : decode cL_trees 783 = .ok (.iconst 1, 1) := by decide +kernel
theorem dL_trees_784 : decode cL_trees 784 = .ok (.iconst 0, 1) := by decide +kernel
theorem dL_trees_785 : decode cL_trees 785 = .ok (.invokevirtual 68, 3) := by decide +kernel
theorem dL_trees_788 : decode cL_trees 788 = .ok (.ifCond .ne 229, 3) := by decide +kernel
theorem dL_trees_791 : decode cL_trees 791 = .ok (.aload_n 0, 1) := by decide +kernel
theorem dL_trees_792 : decode cL_trees 792 = .ok (.bipush 23, 2) := by decide +kernel
theorem dL_trees_794 : decode cL_trees 794 = .ok (.invokevirtual 34, 3) := by decide +kernel
theorem dL_trees_797 : decode cL_trees 797 = .ok (.iconst 1, 1) := by decide +kernel
theorem dL_trees_798 : decode cL_trees 798 = .ok (.if_icmp .ne 219, 3) := by decide +kernel
theorem dL_trees_801 : decode cL_trees 801 = .ok (.aload_n 0, 1) := by decide +kernel
theorem dL_trees_802 : decode cL_trees 802 = .ok (.iconst 2, 1) := by decide +kernel
theorem dL_trees_803 : decode cL_trees 803 = .ok (.bipush 21, 2) := by decide +kernel
theorem dL_trees_805 : decode cL_trees 805 = .ok (.bipush 22, 2) := by decide +kernel
theorem dL_trees_807 : decode cL_trees 807 = .ok (.bipush 23, 2) := by decide +kernel
theorem dL_trees_809 : decode cL_trees 809 = .ok (.invokestatic 96, 3) := by decide +kernel
theorem dL_trees_812 : decode cL_trees 812 = .ok (.ifCond .eq 205, 3) := by decide +kernel
theorem dL_trees_815 : decode cL_trees 815 = .ok (.aload_n 0, 1) := by decide +kernel
theorem dL_trees_816 : decode cL_trees 816 = .ok (.iconst 0, 1) := by decide +kernel
theorem dL_trees_817 : decode cL_trees 817 = .ok (.bipush 23, 2) := by decide +kernel
theorem dL_trees_819 : decode cL_trees 819 = .ok (.bipush 21, 2) := by decide +kernel
theorem dL_trees_821 : decode cL_trees 821 = .ok (.iconst 0, 1) := by decide +kernel
theorem dL_trees_822 : decode cL_trees 822 = .ok (.iconst 0, 1) := by decide +kernel
theorem dL_trees_823 : decode cL_trees 823 = .ok (.invokevirtual 28, 3) := by decide +kernel
theorem dL_trees_826 : decode cL_trees 826 = .ok (.iconst 2, 1) := by decide +kernel
theorem dL_trees_827 : decode cL_trees 827 = .ok (.if_icmp .ne 190, 3) := by decide +kernel
theorem dL_trees_830 : decode cL_trees 830 = .ok (.aload_n 0, 1) := by decide +kernel
theorem dL_trees_831 : decode cL_trees 831 = .ok (.iconst 0, 1) := by decide +kernel
theorem dL_trees_832 : decode cL_trees 832 = .ok (.bipush 23, 2) := by decide +kernel
theorem dL_trees_834 : decode cL_trees 834 = .ok (.bipush 21, 2) := by decide +kernel
theorem dL_trees_836 : decode cL_trees 836 = .ok (.iconst 1, 1) := by decide +kernel
theorem dL_trees_837 : decode cL_trees 837 = .ok (.iconst 0, 1) := by decide +kernel
theorem dL_trees_838 : decode cL_trees 838 = .ok (.invokevirtual 28, 3) := by decide +kernel
theorem dL_trees_841 : decode cL_trees 841 = .ok (.ifCond .ne 176, 3) := by decide +kernel
theorem dL_trees_844 : decode cL_trees 844 = .ok (.aload_n 0, 1) := by decide +kernel
theorem dL_trees_845 : decode cL_trees 845 = .ok (.iconst 2, 1) := by decide +kernel
theorem dL_trees_846 : decode cL_trees 846 = .ok (.bipush 22, 2) := by decide +kernel
theorem dL_trees_848 : decode cL_trees 848 = .ok (.bipush 21, 2) := by decide +kernel
theorem dL_trees_850 : decode cL_trees 850 = .ok (.iconst 0, 1) := by decide +kernel
theorem dL_trees_851 : decode cL_trees 851 = .ok (.invokestatic 96, 3) := by decide +kernel
theorem dL_trees_854 : decode cL_trees 854 = .ok (.ifCond .eq 163, 3) := by decide +kernel
theorem dL_trees_857 : decode cL_trees 857 = .ok (.aload_n 0, 1) := by decide +kernel
theorem dL_trees_858 : decode cL_trees 858 = .ok (.bipush 21, 2) := by decide +kernel
theorem dL_trees_860 : decode cL_trees 860 = .ok (.invokevirtual 34, 3) := by decide +kernel
theorem dL_trees_863 : decode cL_trees 863 = .ok (.iconst 1, 1) := by decide +kernel
theorem dL_trees_864 : decode cL_trees 864 = .ok (.if_icmp .ne 153, 3) := by decide +kernel
theorem dL_trees_867 : decode cL_trees 867 = .ok (.aload_n 0, 1) := by decide +kernel
theorem dL_trees_868 : decode cL_trees 868 = .ok (.iconst 0, 1) := by decide +kernel
theorem dL_trees_869 : decode cL_trees 869 = .ok (.bipush 21, 2) := by decide +kernel
theorem dL_trees_871 : decode cL_trees 871 = .ok (.iconst 0, 1) := by decide +kernel
theorem dL_trees_872 : decode cL_trees 872 = .ok (.iconst 0, 1) := by decide +kernel
theorem dL_trees_873 : decode cL_trees 873 = .ok (.invokevirtual 68, 3) := by decide +kernel
theorem dL_trees_876 : decode cL_trees 876 = .ok (.ifCond .ne 141, 3) := by decide +kernel
theorem dL_trees_879 : decode cL_trees 879 = .ok (.aload_n 0, 1) := by decide +kernel
theorem dL_trees_880 : decode cL_trees 880 = .ok (.bipush 21, 2) := by decide +kernel
theorem dL_trees_882 : decode cL_trees 882 = .ok (.invokevirtual 34, 3) := by decide +kernel
theorem dL_trees_885 : decode cL_trees 885 = .ok (.bipush 6, 2) := by decide +kernel
theorem dL_trees_887 : decode cL_trees 887 = .ok (.if_icmp .ne 130, 3) := by decide +kernel
theorem dL_trees_890 : decode cL_trees 890 = .ok (.aload_n 0, 1) := by decide +kernel
theorem dL_trees_891 : decode cL_trees 891 = .ok (.iconst 0, 1) := by decide +kernel
theorem dL_trees_892 : decode cL_trees 892 = .ok (.iconst 2, 1) := by decide +kernel
theorem dL_trees_893 : decode cL_trees 893 = .ok (.iconst 1, 1) := by decide +kernel
theorem dL_trees_894 : decode cL_trees 894 = .ok (.iconst 1, 1) := by decide +kernel
theorem dL_trees_895 : decode cL_trees 895 = .ok (.iconst 0, 1) := by decide +kernel
theorem dL_trees_896 : decode cL_trees 896 = .ok (.invokevirtual 28, 3) := by decide +kernel
theorem dL_trees_899 : decode cL_trees 899 = .ok (.ifCond .ne 118, 3) := by decide +kernel
theorem dL_trees_902 : decode cL_trees 902 = .ok (.aload_n 0, 1) := by decide +kernel
theorem dL_trees_903 : decode cL_trees 903 = .ok (.iconst 2, 1) := by decide +kernel
theorem dL_trees_904 : decode cL_trees 904 = .ok (.invokevirtual 31, 3) := by decide +kernel
theorem dL_trees_907 : decode cL_trees 907 = .ok (.iconst (-1), 1) := by decide +kernel
theorem dL_trees_908 : decode cL_trees 908 = .ok (.if_icmp .ne 109, 3) := by decide +kernel
theorem dL_trees_911 : decode cL_trees 911 = .ok (.aload_n 0, 1) := by decide +kernel
theorem dL_trees_912 : decode cL_trees 912 = .ok (.iconst 0, 1) := by decide +kernel
theorem dL_trees_913 : decode cL_trees 913 = .ok (.iconst 1, 1) := by decide +kernel
theorem dL_trees_914 : decode cL_trees 914 = .ok (.iconst 0, 1) := by decide +kernel
theorem dL_trees_915 : decode cL_trees 915 = .ok (.iconst 0, 1) := by decide +kernel
theorem dL_trees_916 : decode cL_trees 916 = .ok (.invokestatic 96, 3) := by decide +kernel
theorem dL_trees_919 : decode cL_trees 919 = .ok (.ifCond .eq 98, 3) := by decide +kernel
theorem dL_trees_922 : decode cL_trees 922 = .ok (.aload_n 0, 1) := by decide +kernel
theorem dL_trees_923 : decode cL_trees 923 = .ok (.iconst 1, 1) := by decide +kernel
theorem dL_trees_924 : decode cL_trees 924 = .ok (.bipush 12, 2) := by decide +kernel
theorem dL_trees_926 : decode cL_trees 926 = .ok (.bipush 11, 2) := by decide +kernel
theorem dL_trees_928 : decode cL_trees 928 = .ok (.iconst 0, 1) := by decide +kernel
theorem dL_trees_929 : decode cL_trees 929 = .ok (.invokestatic 96, 3) := by decide +kernel
theorem dL_trees_932 : decode cL_trees 932 = .ok (.ifCond .eq 85, 3) := by decide +kernel
theorem dL_trees_935 : decode cL_trees 935 = .ok (.aload_n 0, 1) := by decide +kernel
theorem dL_trees_936 : decode cL_trees 936 = .ok (.bipush 12, 2) := by decide +kernel
theorem dL_trees_938 : decode cL_trees 938 = .ok (.bipush 124, 2) := by decide +kernel
theorem dL_trees_940 : decode cL_trees 940 = .ok (.bipush 122, 2) := by decide +kernel
theorem dL_trees_942 : decode cL_trees 942 = .ok (.bipush 121, 2) := by decide +kernel
theorem dL_trees_944 : decode cL_trees 944 = .ok (.invokestatic 96, 3) := by decide +kernel
theorem dL_trees_947 : decode cL_trees 947 = .ok (.ifCond .eq 70, 3) := by decide +kernel
theorem dL_trees_950 : decode cL_trees 950 = .ok (.aload_n 0, 1) := by decide +kernel
theorem dL_trees_951 : decode cL_trees 951 = .ok (.sipush 1242, 3) := by decide +kernel
theorem dL_trees_954 : decode cL_trees 954 = .ok (.invokevirtual 34, 3) := by decide +kernel
theorem dL_trees_957 : decode cL_trees 957 = .ok (.bipush 8, 2) := by decide +kernel
theorem dL_trees_959 : decode cL_trees 959 = .ok (.if_icmp .ne 58, 3) := by decide +kernel
theorem dL_trees_962 : decode cL_trees 962 = .ok (.aload_n 0, 1) := by decide +kernel
theorem dL_trees_963 : decode cL_trees 963 = .ok (.bipush 11, 2) := by decide +kernel
theorem dL_trees_965 : decode cL_trees 965 = .ok (.invokevirtual 34, 3) := by decide +kernel
theorem dL_trees_968 : decode cL_trees 968 = .ok (.bipush 6, 2) := by decide +kernel
theorem dL_trees_970 : decode cL_trees 970 = .ok (.if_icmp .ne 47, 3) := by decide +kernel
theorem dL_trees_973 : decode cL_trees 973 = .ok (.aload_n 0, 1) := by decide +kernel
theorem dL_trees_974 : decode cL_trees 974 = .ok (.invokevirtual 77, 3) := by decide +kernel
theorem dL_trees_977 : decode cL_trees 977 = .ok (.bipush 8, 2) := by decide +kernel
theorem dL_trees_979 : decode cL_trees 979 = .ok (.if_icmp .ne 38, 3) := by decide +kernel
theorem dL_trees_982 : decode cL_trees 982 = .ok (.aload_n 0, 1) := by decide +kernel
theorem dL_trees_983 : decode cL_trees 983 = .ok (.iconst 2, 1) := by decide +kernel
theorem dL_trees_984 : decode cL_trees 984 = .ok (.iconst 1, 1) := by decide +kernel
theorem dL_trees_985 : decode cL_trees 985 = .ok (.iconst 0, 1) := by decide +kernel
theorem dL_trees_986 : decode cL_trees 986 = .ok (.invokevirtual 17, 3) := by decide +kernel
theorem dL_trees_989 : decode cL_trees 989 = .ok (.ifCond .ne 28, 3) := by decide +kernel
theorem dL_trees_992 : decode cL_trees 992 = .ok (.aload_n 0, 1) := by decide +kernel
theorem dL_trees_993 : decode cL_trees 993 = .ok (.invokevirtual 77, 3) := by decide +kernel
theorem dL_trees_996 : decode cL_trees 996 = .ok (.ifCond .ne 21, 3) := by decide +kernel
theorem dL_trees_999 : decode cL_trees 999 = .ok (.aload_n 0, 1) := by decide +kernel
theorem dL_trees_1000 : decode cL_trees 1000 = .ok (.invokevirtual 81, 3) := by decide +kernel
theorem dL_trees_1003 : decode cL_trees 1003 = .ok (.ifCond .ne 14, 3) := by decide +kernel
theorem dL_trees_1006 : decode cL_trees 1006 = .ok (.aload_n 0, 1) := by decide +kernel
theorem dL_trees_1007 : decode cL_trees 1007 = .ok (.invokestatic 92, 3) := by decide +kernel
theorem dL_trees_1010 : decode cL_trees 1010 = .ok (.ifCond .eq 7, 3) := by decide +kernel
theorem dL_trees_1013 : decode cL_trees 1013 = .ok (.iconst 1, 1) := by decide +kernel
theorem dL_trees_1014 : decode cL_trees 1014 = .ok (.goto 4, 3) := by decide +kernel
theorem dL_trees_1017 : decode cL_trees 1017 = .ok (.iconst 0, 1) := by decide +kernel
theorem dL_trees_1018 : decode cL_trees 1018 = .ok (.ireturn, 1) := by decide +kernel
theorem dL_shelf_0 : decode cL_shelf 0 = .ok (.aload_n 0, 1) := by decide +kernel
theorem dL_shelf_1 : decode cL_shelf 1 = .ok (.iconst 0, 1) := by decide +kernel
theorem dL_shelf_2 : decode cL_shelf 2 = .ok (.iconst 1, 1) := by decide +kernel
theorem dL_shelf_3 : decode cL_shelf 3 = .ok (.iconst 0, 1) := by decide +kernel
theorem dL_shelf_4 : decode cL_shelf 4 = .ok (.invokevirtual 7, 3) := by decide +kernel
theorem dL_shelf_7 : decode cL_shelf 7 = .ok (.ifCond .ne 59, 3) := by decide +kernel
theorem dL_shelf_10 : decode cL_shelf 10 = .ok (.aload_n 0, 1) := by decide +kernel
theorem dL_shelf_11 : decode cL_shelf 11 = .ok (.iconst 0, 1) := by decide +kernel
theorem dL_shelf_12 : decode cL_shelf 12 = .ok (.bipush 11, 2) := by decide +kernel
theorem dL_shelf_14 : decode cL_shelf 14 = .ok (.iconst 5, 1) := by decide +kernel
theorem dL_shelf_15 : decode cL_shelf 15 = .ok (.iconst (-1), 1) := by decide +kernel
theorem dL_shelf_16 : decode cL_shelf 16 = .ok (.iconst 0, 1) := by decide +kernel
theorem dL_shelf_17 : decode cL_shelf 17 = .ok (.invokevirtual 13, 3) := by decide +kernel
theorem dL_shelf_20 : decode cL_shelf 20 = .ok (.ifCond .ne 46, 3) := by decide +kernel
theorem dL_shelf_23 : decode cL_shelf 23 = .ok (.aload_n 0, 1) := by decide +kernel
theorem dL_shelf_24 : decode cL_shelf 24 = .ok (.iconst 0, 1) := by decide +kernel
theorem dL_shelf_25 : decode cL_shelf 25 = .ok (.bipush 12, 2) := by decide +kernel
theorem dL_shelf_27 : decode cL_shelf 27 = .ok (.iconst 0, 1) := by decide +kernel
theorem dL_shelf_28 : decode cL_shelf 28 = .ok (.invokevirtual 7, 3) := by decide +kernel
theorem dL_shelf_31 : decode cL_shelf 31 = .ok (.ifCond .ne 35, 3) := by decide +kernel
theorem dL_shelf_34 : decode cL_shelf 34 = .ok (.aload_n 0, 1) := by decide +kernel
theorem dL_shelf_35 : decode cL_shelf 35 = .ok (.iconst 0, 1) := by decide +kernel
theorem dL_shelf_36 : decode cL_shelf 36 = .ok (.bipush 121, 2) := by decide +kernel
theorem dL_shelf_38 : decode cL_shelf 38 = .ok (.bipush 7, 2) := by decide +kernel
theorem dL_shelf_40 : decode cL_shelf 40 = .ok (.iconst (-1), 1) := by decide +kernel
theorem dL_shelf_41 : decode cL_shelf 41 = .ok (.iconst 0, 1) := by decide +kernel
theorem dL_shelf_42 : decode cL_shelf 42 = .ok (.invokevirtual 13, 3) := by decide +kernel
theorem dL_shelf_45 : decode cL_shelf 45 = .ok (.ifCond .ne 21, 3) := by decide +kernel
theorem dL_shelf_48 : decode cL_shelf 48 = .ok (.aload_n 0, 1) := by decide +kernel
theorem dL_shelf_49 : decode cL_shelf 49 = .ok (.iconst 0, 1) := by decide +kernel
theorem dL_shelf_50 : decode cL_shelf 50 = .ok (.bipush 122, 2) := by decide +kernel
theorem dL_shelf_52 : decode cL_shelf 52 = .ok (.bipush 8, 2) := by decide +kernel
theorem dL_shelf_54 : decode cL_shelf 54 = .ok (.iconst (-1), 1) := by decide +kernel
theorem dL_shelf_55 : decode cL_shelf 55 = .ok (.iconst 0, 1) := by decide +kernel
theorem dL_shelf_56 : decode cL_shelf 56 = .ok (.invokevirtual 13, 3) := by decide +kernel
theorem dL_shelf_59 : decode cL_shelf 59 = .ok (.ifCond .ne 7, 3) := by decide +kernel
theorem dL_shelf_62 : decode cL_shelf 62 = .ok (.iconst 1, 1) := by decide +kernel
theorem dL_shelf_63 : decode cL_shelf 63 = .ok (.goto 4, 3) := by decide +kernel
theorem dL_shelf_66 : decode cL_shelf 66 = .ok (.iconst 0, 1) := by decide +kernel
theorem dL_shelf_67 : decode cL_shelf 67 = .ok (.ireturn, 1) := by decide +kernel
theorem dL_locks_0 : decode cL_locks 0 = .ok (.new 8, 3) := by decide +kernel
theorem dL_locks_3 : decode cL_locks 3 = .ok (.dup, 1) := by decide +kernel
theorem dL_locks_4 : decode cL_locks 4 = .ok (.invokespecial 91, 3) := by decide +kernel
theorem dL_locks_7 : decode cL_locks 7 = .ok (.astore_n 0, 1) := by decide +kernel
theorem dL_locks_8 : decode cL_locks 8 = .ok (.aload_n 0, 1) := by decide +kernel
theorem dL_locks_9 : decode cL_locks 9 = .ok (.invokestatic 99, 3) := by decide +kernel
theorem dL_locks_12 : decode cL_locks 12 = .ok (.ifCond .eq 357, 3) := by decide +kernel
theorem dL_locks_15 : decode cL_locks 15 = .ok (.aload_n 0, 1) := by decide +kernel
theorem dL_locks_16 : decode cL_locks 16 = .ok (.iconst 1, 1) := by decide +kernel
theorem dL_locks_17 : decode cL_locks 17 = .ok (.bipush 121, 2) := by decide +kernel
theorem dL_locks_19 : decode cL_locks 19 = .ok (.iconst 0, 1) := by decide +kernel
theorem dL_locks_20 : decode cL_locks 20 = .ok (.iconst 0, 1) := by decide +kernel
theorem dL_locks_21 : decode cL_locks 21 = .ok (.bipush 100, 2) := by decide +kernel
theorem dL_locks_23 : decode cL_locks 23 = .ok (.iconst 0, 1) := by decide +kernel
theorem dL_locks_24 : decode cL_locks 24 = .ok (.invokevirtual 48, 3) := by decide +kernel
theorem dL_locks_27 : decode cL_locks 27 = .ok (.ifCond .ne 342, 3) := by decide +kernel
theorem dL_locks_30 : decode cL_locks 30 = .ok (.aload_n 0, 1) := by decide +kernel
theorem dL_locks_31 : decode cL_locks 31 = .ok (.bipush 121, 2) := by decide +kernel
theorem dL_locks_33 : decode cL_locks 33 = .ok (.invokevirtual 58, 3) := by decide +kernel
theorem dL_locks_36 : decode cL_locks 36 = .ok (.iconst 1, 1) := by decide +kernel
theorem dL_locks_37 : decode cL_locks 37 = .ok (.if_icmp .ne 332, 3) := by decide +kernel
theorem dL_locks_40 : decode cL_locks 40 = .ok (.aload_n 0, 1) := by decide +kernel
theorem dL_locks_41 : decode cL_locks 41 = .ok (.bipush 12, 2) := by decide +kernel
theorem dL_locks_43 : decode cL_locks 43 = .ok (.invokevirtual 58, 3) := by decide +kernel
theorem dL_locks_46 : decode cL_locks 46 = .ok (.ifCond .ne 323, 3) := by decide +kernel
theorem dL_locks_49 : decode cL_locks 49 = .ok (.aload_n 0, 1) := by decide +kernel
theorem dL_locks_50 : decode cL_locks 50 = .ok (.iconst 1, 1) := by decide +kernel
theorem dL_locks_51 : decode cL_locks 51 = .ok (.bipush 121, 2) := by decide +kernel
theorem dL_locks_53 : decode cL_locks 53 = .ok (.iconst 1, 1) := by decide +kernel
theorem dL_locks_54 : decode cL_locks 54 = .ok (.invokevirtual 61, 3) := by decide +kernel
theorem dL_locks_57 : decode cL_locks 57 = .ok (.ifCond .eq 312, 3) := by decide +kernel
theorem dL_locks_60 : decode cL_locks 60 = .ok (.aload_n 0, 1) := by decide +kernel
theorem dL_locks_61 : decode cL_locks 61 = .ok (.iconst 1, 1) := by decide +kernel
theorem dL_locks_62 : decode cL_locks 62 = .ok (.bipush 121, 2) := by decide +kernel
theorem dL_locks_64 : decode cL_locks 64 = .ok (.iconst 0, 1) := by decide +kernel
theorem dL_locks_65 : decode cL_locks 65 = .ok (.invokevirtual 61, 3) := by decide +kernel
theorem dL_locks_68 : decode cL_locks 68 = .ok (.ifCond .ne 301, 3) := by decide +kernel
theorem dL_locks_71 : decode cL_locks 71 = .ok (.aload_n 0, 1) := by decide +kernel
theorem dL_locks_72 : decode cL_locks 72 = .ok (.iconst 0, 1) := by decide +kernel
theorem dL_locks_73 : decode cL_locks 73 = .ok (.bipush 121, 2) := by decide +kernel
theorem dL_locks_75 : decode cL_locks 75 = .ok (.iconst 1, 1) := by decide +kernel
theorem dL_locks_76 : decode cL_locks 76 = .ok (.invokevirtual 61, 3) := by decide +kernel
theorem dL_locks_79 : decode cL_locks 79 = .ok (.ifCond .ne 290, 3) := by decide +kernel
theorem dL_locks_82 : decode cL_locks 82 = .ok (.aload_n 0, 1) := by decide +kernel
theorem dL_locks_83 : decode cL_locks 83 = .ok (.iconst 0, 1) := by decide +kernel
theorem dL_locks_84 : decode cL_locks 84 = .ok (.bipush 122, 2) := by decide +kernel
theorem dL_locks_86 : decode cL_locks 86 = .ok (.iconst 0, 1) := by decide +kernel
theorem dL_locks_87 : decode cL_locks 87 = .ok (.invokevirtual 61, 3) := by decide +kernel
theorem dL_locks_90 : decode cL_locks 90 = .ok (.ifCond .eq 279, 3) := by decide +kernel
theorem dL_locks_93 : decode cL_locks 93 = .ok (.aload_n 0, 1) := by decide +kernel
theorem dL_locks_94 : decode cL_locks 94 = .ok (.iconst 0, 1) := by decide +kernel
theorem dL_locks_95 : decode cL_locks 95 = .ok (.bipush 121, 2) := by decide +kernel
theorem dL_locks_97 : decode cL_locks 97 = .ok (.bipush 9, 2) := by decide +kernel
theorem dL_locks_99 : decode cL_locks 99 = .ok (.iconst (-1), 1) := by decide +kernel
theorem dL_locks_100 : decode cL_locks 100 = .ok (.iconst 0, 1) := by decide +kernel
theorem dL_locks_101 : decode cL_locks 101 = .ok (.invokevirtual 13, 3) := by decide +kernel
theorem dL_locks_104 : decode cL_locks 104 = .ok (.iconst 4, 1) := by decide +kernel
theorem dL_locks_105 : decode cL_locks 105 = .ok (.if_icmp .ne 264, 3) := by decide +kernel
theorem dL_locks_108 : decode cL_locks 108 = .ok (.aload_n 0, 1) := by decide +kernel
theorem dL_locks_109 : decode cL_locks 109 = .ok (.iconst 1, 1) := by decide +kernel
theorem dL_locks_110 : decode cL_locks 110 = .ok (.bipush 121, 2) := by decide +kernel
theorem dL_locks_112 : decode cL_locks 112 = .ok (.bipush 9, 2) := by decide +kernel
theorem dL_locks_114 : decode cL_locks 114 = .ok (.iconst (-1), 1) := by decide +kernel
theorem dL_locks_115 : decode cL_locks 115 = .ok (.iconst 3, 1) := by decide +kernel
theorem dL_locks_116 : decode cL_locks 116 = .ok (.invokevirtual 13, 3) := by decide +kernel
theorem dL_locks_119 : decode cL_locks 119 = .ok (.ifCond .ne 250, 3) := by decide +kernel
theorem dL_locks_122 : decode cL_locks 122 = .ok (.aload_n 0, 1) := by decide +kernel
theorem dL_locks_123 : decode cL_locks 123 = .ok (.iconst 0, 1) := by decide +kernel
theorem dL_locks_124 : decode cL_locks 124 = .ok (.bipush 121, 2) := by decide +kernel
theorem dL_locks_126 : decode cL_locks 126 = .ok (.bipush 9, 2) := by decide +kernel
theorem dL_locks_128 : decode cL_locks 128 = .ok (.bipush 8, 2) := by decide +kernel
theorem dL_locks_130 : decode cL_locks 130 = .ok (.iconst 0, 1) := by decide +kernel
theorem dL_locks_131 : decode cL_locks 131 = .ok (.invokevirtual 13, 3) := by decide +kernel
theorem dL_locks_134 : decode cL_locks 134 = .ok (.iconst 3, 1) := by decide +kernel
theorem dL_locks_135 : decode cL_locks 135 = .ok (.if_icmp .ne 234, 3) := by decide +kernel
theorem dL_locks_138 : decode cL_locks 138 = .ok (.aload_n 0, 1) := by decide +kernel
theorem dL_locks_139 : decode cL_locks 139 = .ok (.iconst 0, 1) := by decide +kernel
theorem dL_locks_140 : decode cL_locks 140 = .ok (.bipush 121, 2) := by decide +kernel
theorem dL_locks_142 : decode cL_locks 142 = .ok (.iconst 0, 1) := by decide +kernel
theorem dL_locks_143 : decode cL_locks 143 = .ok (.iconst 0, 1) := by decide +kernel
theorem dL_locks_144 : decode cL_locks 144 = .ok (.invokevirtual 68, 3) := by decide +kernel
theorem dL_locks_147 : decode cL_locks 147 = .ok (.iconst 1, 1) := by decide +kernel
theorem dL_locks_148 : decode cL_locks 148 = .ok (.if_icmp .ne 221, 3) := by decide +kernel
theorem dL_locks_151 : decode cL_locks 151 = .ok (.aload_n 0, 1) := by decide +kernel
theorem dL_locks_152 : decode cL_locks 152 = .ok (.invokestatic 92, 3) := by decide +kernel
theorem dL_locks_155 : decode cL_locks 155 = .ok (.ifCond .eq 214, 3) := by decide +kernel
theorem dL_locks_158 : decode cL_locks 158 = .ok (.aload_n 0, 1) := by decide +kernel
theorem dL_locks_159 : decode cL_locks 159 = .ok (.iconst 0, 1) := by decide +kernel
theorem dL_locks_160 : decode cL_locks 160 = .ok (.iconst 1, 1) := by decide +kernel
theorem dL_locks_161 : decode cL_locks 161 = .ok (.iconst 0, 1) := by decide +kernel
theorem dL_locks_162 : decode cL_locks 162 = .ok (.invokevirtual 17, 3) := by decide +kernel
theorem dL_locks_165 : decode cL_locks 165 = .ok (.bipush 6, 2) := by decide +kernel
theorem dL_locks_167 : decode cL_locks 167 = .ok (.if_icmp .ne 202, 3) := by decide +kernel
theorem dL_locks_170 : decode cL_locks 170 = .ok (.aload_n 0, 1) := by decide +kernel
theorem dL_locks_171 : decode cL_locks 171 = .ok (.invokevirtual 81, 3) := by decide +kernel
theorem dL_locks_174 : decode cL_locks 174 = .ok (.iconst 1, 1) := by decide +kernel
theorem dL_locks_175 : decode cL_locks 175 = .ok (.if_icmp .ne 194, 3) := by decide +kernel
theorem dL_locks_178 : decode cL_locks 178 = .ok (.aload_n 0, 1) := by decide +kernel
theorem dL_locks_179 : decode cL_locks 179 = .ok (.iconst 0, 1) := by decide +kernel
theorem dL_locks_180 : decode cL_locks 180 = .ok (.invokevirtual 20, 3) := by decide +kernel
theorem dL_locks_183 : decode cL_locks 183 = .ok (.bipush 121, 2) := by decide +kernel
theorem dL_locks_185 : decode cL_locks 185 = .ok (.if_icmp .ne 184, 3) := by decide +kernel
theorem dL_locks_188 : decode cL_locks 188 = .ok (.aload_n 0, 1) := by decide +kernel
theorem dL_locks_189 : decode cL_locks 189 = .ok (.invokevirtual 77, 3) := by decide +kernel
theorem dL_locks_192 : decode cL_locks 192 = .ok (.iconst 3, 1) := by decide +kernel
theorem dL_locks_193 : decode cL_locks 193 = .ok (.if_icmp .ne 176, 3) := by decide +kernel
theorem dL_locks_196 : decode cL_locks 196 = .ok (.aload_n 0, 1) := by decide +kernel
theorem dL_locks_197 : decode cL_locks 197 = .ok (.bipush 11, 2) := by decide +kernel
theorem dL_locks_199 : decode cL_locks 199 = .ok (.invokevirtual 31, 3) := by decide +kernel
theorem dL_locks_202 : decode cL_locks 202 = .ok (.iconst (-1), 1) := by decide +kernel
theorem dL_locks_203 : decode cL_locks 203 = .ok (.if_icmp .ne 166, 3) := by decide +kernel
theorem dL_locks_206 : decode cL_locks 206 = .ok (.aload_n 0, 1) := by decide +kernel
theorem dL_locks_207 : decode cL_locks 207 = .ok (.bipush 122, 2) := by decide +kernel
theorem dL_locks_209 : decode cL_locks 209 = .ok (.invokevirtual 31, 3) := by decide +kernel
theorem dL_locks_212 : decode cL_locks 212 = .ok (.iconst (-1), 1) := by decide +kernel
theorem dL_locks_213 : decode cL_locks 213 = .ok (.if_icmp .ne 156, 3) := by decide +kernel
theorem dL_locks_216 : decode cL_locks 216 = .ok (.aload_n 0, 1) := by decide +kernel
theorem dL_locks_217 : decode cL_locks 217 = .ok (.bipush 12, 2) := by decide +kernel
theorem dL_locks_219 : decode cL_locks 219 = .ok (.invokevirtual 31, 3) := by decide +kernel
theorem dL_locks_222 : decode cL_locks 222 = .ok (.iconst 2, 1) := by decide +kernel
theorem dL_locks_223 : decode cL_locks 223 = .ok (.if_icmp .ne 146, 3) := by decide +kernel
theorem dL_locks_226 : decode cL_locks 226 = .ok (.aload_n 0, 1) := by decide +kernel
theorem dL_locks_227 : decode cL_locks 227 = .ok (.iconst 0, 1) := by decide +kernel
theorem dL_locks_228 : decode cL_locks 228 = .ok (.bipush 12, 2) := by decide +kernel
theorem dL_locks_230 : decode cL_locks 230 = .ok (.iconst 0, 1) := by decide +kernel
theorem dL_locks_231 : decode cL_locks 231 = .ok (.invokevirtual 17, 3) := by decide +kernel
theorem dL_locks_234 : decode cL_locks 234 = .ok (.bipush 6, 2) := by decide +kernel
theorem dL_locks_236 : decode cL_locks 236 = .ok (.if_icmp .ne 133, 3) := by decide +kernel
theorem dL_locks_239 : decode cL_locks 239 = .ok (.aload_n 0, 1) := by decide +kernel
theorem dL_locks_240 : decode cL_locks 240 = .ok (.invokevirtual 81, 3) := by decide +kernel
theorem dL_locks_243 : decode cL_locks 243 = .ok (.iconst 1, 1) := by decide +kernel
theorem dL_locks_244 : decode cL_locks 244 = .ok (.if_icmp .ne 125, 3) := by decide +kernel
theorem dL_locks_247 : decode cL_locks 247 = .ok (.aload_n 0, 1) := by decide +kernel
theorem dL_locks_248 : decode cL_locks 248 = .ok (.iconst 0, 1) := by decide +kernel
theorem dL_locks_249 : decode cL_locks 249 = .ok (.bipush 121, 2) := by decide +kernel
theorem dL_locks_251 : decode cL_locks 251 = .ok (.iconst 0, 1) := by decide +kernel
theorem dL_locks_252 : decode cL_locks 252 = .ok (.invokevirtual 17, 3) := by decide +kernel
theorem dL_locks_255 : decode cL_locks 255 = .ok (.iconst 4, 1) := by decide +kernel
theorem dL_locks_256 : decode cL_locks 256 = .ok (.if_icmp .ne 113, 3) := by decide +kernel
theorem dL_locks_259 : decode cL_locks 259 = .ok (.aload_n 0, 1) := by decide +kernel
theorem dL_locks_260 : decode cL_locks 260 = .ok (.invokevirtual 81, 3) := by decide +kernel
theorem dL_locks_263 : decode cL_locks 263 = .ok (.ifCond .ne 106, 3) := by decide +kernel
theorem dL_locks_266 : decode cL_locks 266 = .ok (.aload_n 0, 1) := by decide +kernel
theorem dL_locks_267 : decode cL_locks 267 = .ok (.iconst 0, 1) := by decide +kernel
theorem dL_locks_268 : decode cL_locks 268 = .ok (.bipush 121, 2) := by decide +kernel
theorem dL_locks_270 : decode cL_locks 270 = .ok (.bipush 13, 2) := by decide +kernel
theorem dL_locks_272 : decode cL_locks 272 = .ok (.iconst 0, 1) := by decide +kernel
theorem dL_locks_273 : decode cL_locks 273 = .ok (.iconst 0, 1) := by decide +kernel
theorem dL_locks_274 : decode cL_locks 274 = .ok (.invokevirtual 24, 3) := by decide +kernel
theorem dL_locks_277 : decode cL_locks 277 = .ok (.ifCond .ne 92, 3) := by decide +kernel
theorem dL_locks_280 : decode cL_locks 280 = .ok (.aload_n 0, 1) := by decide +kernel
theorem dL_locks_281 : decode cL_locks 281 = .ok (.bipush 13, 2) := by decide +kernel
theorem dL_locks_283 : decode cL_locks 283 = .ok (.invokevirtual 58, 3) := by decide +kernel
theorem dL_locks_286 : decode cL_locks 286 = .ok (.ifCond .ne 83, 3) := by decide +kernel
theorem dL_locks_289 : decode cL_locks 289 = .ok (.aload_n 0, 1) := by decide +kernel
theorem dL_locks_290 : decode cL_locks 290 = .ok (.iconst 0, 1) := by decide +kernel
theorem dL_locks_291 : decode cL_locks 291 = .ok (.bipush 121, 2) := by decide +kernel
theorem dL_locks_293 : decode cL_locks 293 = .ok (.bipush 14, 2) := by decide +kernel
theorem dL_locks_295 : decode cL_locks 295 = .ok (.iconst 0, 1) := by decide +kernel
theorem dL_locks_296 : decode cL_locks 296 = .ok (.iconst 0, 1) := by decide +kernel
theorem dL_locks_297 : decode cL_locks 297 = .ok (.invokevirtual 28, 3) := by decide +kernel
theorem dL_locks_300 : decode cL_locks 300 = .ok (.iconst 4, 1) := by decide +kernel
theorem dL_locks_301 : decode cL_locks 301 = .ok (.if_icmp .ne 68, 3) := by decide +kernel
theorem dL_locks_304 : decode cL_locks 304 = .ok (.aload_n 0, 1) := by decide +kernel
theorem dL_locks_305 : decode cL_locks 305 = .ok (.iconst 0, 1) := by decide +kernel
theorem dL_locks_306 : decode cL_locks 306 = .ok (.bipush 13, 2) := by decide +kernel
theorem dL_locks_308 : decode cL_locks 308 = .ok (.bipush 121, 2) := by decide +kernel
theorem dL_locks_310 : decode cL_locks 310 = .ok (.iconst 1, 1) := by decide +kernel
theorem dL_locks_311 : decode cL_locks 311 = .ok (.iconst 0, 1) := by decide +kernel
theorem dL_locks_312 : decode cL_locks 312 = .ok (.invokevirtual 24, 3) := by decide +kernel
theorem dL_locks_315 : decode cL_locks 315 = .ok (.iconst 4, 1) := by decide +kernel
theorem dL_locks_316 : decode cL_locks 316 = .ok (.if_icmp .ne 53, 3) := by decide +kernel
theorem dL_locks_319 : decode cL_locks 319 = .ok (.aload_n 0, 1) := by decide +kernel
theorem dL_locks_320 : decode cL_locks 320 = .ok (.iconst 1, 1) := by decide +kernel
theorem dL_locks_321 : decode cL_locks 321 = .ok (.bipush 13, 2) := by decide +kernel
theorem dL_locks_323 : decode cL_locks 323 = .ok (.bipush 121, 2) := by decide +kernel
theorem dL_locks_325 : decode cL_locks 325 = .ok (.iconst 1, 1) := by decide +kernel
theorem dL_locks_326 : decode cL_locks 326 = .ok (.iconst 1, 1) := by decide +kernel
theorem dL_locks_327 : decode cL_locks 327 = .ok (.invokevirtual 24, 3) := by decide +kernel
theorem dL_locks_330 : decode cL_locks 330 = .ok (.ifCond .ne 39, 3) := by decide +kernel
theorem dL_locks_333 : decode cL_locks 333 = .ok (.aload_n 0, 1) := by decide +kernel
theorem dL_locks_334 : decode cL_locks 334 = .ok (.bipush 121, 2) := by decide +kernel
theorem dL_locks_336 : decode cL_locks 336 = .ok (.invokevirtual 58, 3) := by decide +kernel
theorem dL_locks_339 : decode cL_locks 339 = .ok (.ifCond .ne 30, 3) := by decide +kernel
theorem dL_locks_342 : decode cL_locks 342 = .ok (.aload_n 0, 1) := by decide +kernel
theorem dL_locks_343 : decode cL_locks 343 = .ok (.bipush 121, 2) := by decide +kernel
theorem dL_locks_345 : decode cL_locks 345 = .ok (.invokevirtual 34, 3) := by decide +kernel
theorem dL_locks_348 : decode cL_locks 348 = .ok (.bipush 9, 2) := by decide +kernel
theorem dL_locks_350 : decode cL_locks 350 = .ok (.if_icmp .ne 19, 3) := by decide +kernel
theorem dL_locks_353 : decode cL_locks 353 = .ok (.aload_n 0, 1) := by decide +kernel
theorem dL_locks_354 : decode cL_locks 354 = .ok (.bipush 12, 2) := by decide +kernel
theorem dL_locks_356 : decode cL_locks 356 = .ok (.iconst 1, 1) := by decide +kernel
theorem dL_locks_357 : decode cL_locks 357 = .ok (.iconst 0, 1) := by decide +kernel
theorem dL_locks_358 : decode cL_locks 358 = .ok (.iconst 5, 1) := by decide +kernel
theorem dL_locks_359 : decode cL_locks 359 = .ok (.iconst 0, 1) := by decide +kernel
theorem dL_locks_360 : decode cL_locks 360 = .ok (.invokestatic 85, 3) := by decide +kernel
theorem dL_locks_363 : decode cL_locks 363 = .ok (.sipush (-9001), 3) := by decide +kernel
theorem dL_locks_366 : decode cL_locks 366 = .ok (.if_icmp .eq 5, 3) := by decide +kernel
theorem dL_locks_369 : decode cL_locks 369 = .ok (.iconst 0, 1) := by decide +kernel
theorem dL_locks_370 : decode cL_locks 370 = .ok (.ireturn, 1) := by decide +kernel
theorem dL_locks_371 : decode cL_locks 371 = .ok (.aload_n 0, 1) := by decide +kernel
theorem dL_locks_372 : decode cL_locks 372 = .ok (.iconst 1, 1) := by decide +kernel
theorem dL_locks_373 : decode cL_locks 373 = .ok (.bipush 121, 2) := by decide +kernel
theorem dL_locks_375 : decode cL_locks 375 = .ok (.iconst 0, 1) := by decide +kernel
theorem dL_locks_376 : decode cL_locks 376 = .ok (.iconst 0, 1) := by decide +kernel
theorem dL_locks_377 : decode cL_locks 377 = .ok (.bipush 100, 2) := by decide +kernel
theorem dL_locks_379 : decode cL_locks 379 = .ok (.iconst 0, 1) := by decide +kernel
theorem dL_locks_380 : decode cL_locks 380 = .ok (.invokevirtual 48, 3) := by decide +kernel
theorem dL_locks_383 : decode cL_locks 383 = .ok (.iconst 1, 1) := by decide +kernel
theorem dL_locks_384 : decode cL_locks 384 = .ok (.if_icmp .ne 432, 3) := by decide +kernel
theorem dL_locks_387 : decode cL_locks 387 = .ok (.aload_n 0, 1) := by decide +kernel
theorem dL_locks_388 : decode cL_locks 388 = .ok (.bipush 19, 2) := by decide +kernel
theorem dL_locks_390 : decode cL_locks 390 = .ok (.iconst 2, 1) := by decide +kernel
theorem dL_locks_391 : decode cL_locks 391 = .ok (.bipush 12, 2) := by decide +kernel
theorem dL_locks_393 : decode cL_locks 393 = .ok (.iconst 1, 1) := by decide +kernel
theorem dL_locks_394 : decode cL_locks 394 = .ok (.iconst 0, 1) := by decide +kernel
theorem dL_locks_395 : decode cL_locks 395 = .ok (.invokestatic 85, 3) := by decide +kernel
theorem dL_locks_398 : decode cL_locks 398 = .ok (.sipush (-9003), 3) := by decide +kernel
theorem dL_locks_401 : decode cL_locks 401 = .ok (.if_icmp .ne 415, 3) := by decide +kernel
theorem dL_locks_404 : decode cL_locks 404 = .ok (.aload_n 0, 1) := by decide +kernel
theorem dL_locks_405 : decode cL_locks 405 = .ok (.iconst 2, 1) := by decide +kernel
theorem dL_locks_406 : decode cL_locks 406 = .ok (.bipush 12, 2) := by decide +kernel
theorem dL_locks_408 : decode cL_locks 408 = .ok (.iconst 1, 1) := by decide +kernel
theorem dL_locks_409 : decode cL_locks 409 = .ok (.iconst 0, 1) := by decide +kernel
theorem dL_locks_410 : decode cL_locks 410 = .ok (.bipush 50, 2) := by decide +kernel
theorem dL_locks_412 : decode cL_locks 412 = .ok (.iconst 0, 1) := by decide +kernel
theorem dL_locks_413 : decode cL_locks 413 = .ok (.invokevirtual 48, 3) := by decide +kernel
theorem dL_locks_416 : decode cL_locks 416 = .ok (.iconst 2, 1) := by decide +kernel
theorem dL_locks_417 : decode cL_locks 417 = .ok (.if_icmp .ne 399, 3) := by decide +kernel
theorem dL_locks_420 : decode cL_locks 420 = .ok (.aload_n 0, 1) := by decide +kernel
theorem dL_locks_421 : decode cL_locks 421 = .ok (.bipush 19, 2) := by decide +kernel
theorem dL_locks_423 : decode cL_locks 423 = .ok (.iconst 3, 1) := by decide +kernel
theorem dL_locks_424 : decode cL_locks 424 = .ok (.bipush 12, 2) := by decide +kernel
theorem dL_locks_426 : decode cL_locks 426 = .ok (.iconst 1, 1) := by decide +kernel
theorem dL_locks_427 : decode cL_locks 427 = .ok (.iconst 0, 1) := by decide +kernel
theorem dL_locks_428 : decode cL_locks 428 = .ok (.invokestatic 85, 3) := by decide +kernel
theorem dL_locks_431 : decode cL_locks 431 = .ok (.sipush (-9003), 3) := by decide +kernel
theorem dL_locks_434 : decode cL_locks 434 = .ok (.if_icmp .ne 382, 3) := by decide +kernel
theorem dL_locks_437 : decode cL_locks 437 = .ok (.aload_n 0, 1) := by decide +kernel
theorem dL_locks_438 : decode cL_locks 438 = .ok (.iconst 3, 1) := by decide +kernel
theorem dL_locks_439 : decode cL_locks 439 = .ok (.bipush 12, 2) := by decide +kernel
theorem dL_locks_441 : decode cL_locks 441 = .ok (.iconst 1, 1) := by decide +kernel
theorem dL_locks_442 : decode cL_locks 442 = .ok (.iconst 0, 1) := by decide +kernel
theorem dL_locks_443 : decode cL_locks 443 = .ok (.bipush 10, 2) := by decide +kernel
theorem dL_locks_445 : decode cL_locks 445 = .ok (.iconst 0, 1) := by decide +kernel
theorem dL_locks_446 : decode cL_locks 446 = .ok (.invokevirtual 48, 3) := by decide +kernel
theorem dL_locks_449 : decode cL_locks 449 = .ok (.iconst 3, 1) := by decide +kernel
theorem dL_locks_450 : decode cL_locks 450 = .ok (.if_icmp .ne 366, 3) := by decide +kernel
theorem dL_locks_453 : decode cL_locks 453 = .ok (.aload_n 0, 1) := by decide +kernel
theorem dL_locks_454 : decode cL_locks 454 = .ok (.bipush 11, 2) := by decide +kernel
theorem dL_locks_456 : decode cL_locks 456 = .ok (.iconst 3, 1) := by decide +kernel
theorem dL_locks_457 : decode cL_locks 457 = .ok (.bipush 12, 2) := by decide +kernel
theorem dL_locks_459 : decode cL_locks 459 = .ok (.iconst 5, 1) := by decide +kernel
theorem dL_locks_460 : decode cL_locks 460 = .ok (.iconst 0, 1) := by decide +kernel
theorem dL_locks_461 : decode cL_locks 461 = .ok (.invokestatic 85, 3) := by decide +kernel
theorem dL_locks_464 : decode cL_locks 464 = .ok (.sipush (-9003), 3) := by decide +kernel
theorem dL_locks_467 : decode cL_locks 467 = .ok (.if_icmp .ne 349, 3) := by decide +kernel
theorem dL_locks_470 : decode cL_locks 470 = .ok (.aload_n 0, 1) := by decide +kernel
theorem dL_locks_471 : decode cL_locks 471 = .ok (.bipush 11, 2) := by decide +kernel
theorem dL_locks_473 : decode cL_locks 473 = .ok (.iconst 2, 1) := by decide +kernel
theorem dL_locks_474 : decode cL_locks 474 = .ok (.bipush 12, 2) := by decide +kernel
theorem dL_locks_476 : decode cL_locks 476 = .ok (.iconst 5, 1) := by decide +kernel
theorem dL_locks_477 : decode cL_locks 477 = .ok (.iconst 4, 1) := by decide +kernel
theorem dL_locks_478 : decode cL_locks 478 = .ok (.invokestatic 85, 3) := by decide +kernel
theorem dL_locks_481 : decode cL_locks 481 = .ok (.sipush (-9003), 3) := by decide +kernel
theorem dL_locks_484 : decode cL_locks 484 = .ok (.if_icmp .ne 332, 3) := by decide +kernel
theorem dL_locks_487 : decode cL_locks 487 = .ok (.aload_n 0, 1) := by decide +kernel
theorem dL_locks_488 : decode cL_locks 488 = .ok (.bipush 12, 2) := by decide +kernel
theorem dL_locks_490 : decode cL_locks 490 = .ok (.invokevirtual 58, 3) := by decide +kernel
theorem dL_locks_493 : decode cL_locks 493 = .ok (.bipush 12, 2) := by decide +kernel
theorem dL_locks_495 : decode cL_locks 495 = .ok (.if_icmp .ne 321, 3) := by decide +kernel
theorem dL_locks_498 : decode cL_locks 498 = .ok (.aload_n 0, 1) := by decide +kernel
theorem dL_locks_499 : decode cL_locks 499 = .ok (.iconst 2, 1) := by decide +kernel
theorem dL_locks_500 : decode cL_locks 500 = .ok (.bipush 12, 2) := by decide +kernel
theorem dL_locks_502 : decode cL_locks 502 = .ok (.iconst 4, 1) := by decide +kernel
theorem dL_locks_503 : decode cL_locks 503 = .ok (.invokevirtual 61, 3) := by decide +kernel
theorem dL_locks_506 : decode cL_locks 506 = .ok (.ifCond .eq 310, 3) := by decide +kernel
theorem dL_locks_509 : decode cL_locks 509 = .ok (.aload_n 0, 1) := by decide +kernel
theorem dL_locks_510 : decode cL_locks 510 = .ok (.iconst 3, 1) := by decide +kernel
theorem dL_locks_511 : decode cL_locks 511 = .ok (.bipush 12, 2) := by decide +kernel
theorem dL_locks_513 : decode cL_locks 513 = .ok (.bipush 8, 2) := by decide +kernel
theorem dL_locks_515 : decode cL_locks 515 = .ok (.invokevirtual 61, 3) := by decide +kernel
theorem dL_locks_518 : decode cL_locks 518 = .ok (.ifCond .eq 298, 3) := by decide +kernel
theorem dL_locks_521 : decode cL_locks 521 = .ok (.aload_n 0, 1) := by decide +kernel
theorem dL_locks_522 : decode cL_locks 522 = .ok (.iconst 3, 1) := by decide +kernel
theorem dL_locks_523 : decode cL_locks 523 = .ok (.bipush 12, 2) := by decide +kernel
theorem dL_locks_525 : decode cL_locks 525 = .ok (.iconst 4, 1) := by decide +kernel
theorem dL_locks_526 : decode cL_locks 526 = .ok (.invokevirtual 61, 3) := by decide +kernel
theorem dL_locks_529 : decode cL_locks 529 = .ok (.ifCond .ne 287, 3) := by decide +kernel
theorem dL_locks_532 : decode cL_locks 532 = .ok (.aload_n 0, 1) := by decide +kernel
theorem dL_locks_533 : decode cL_locks 533 = .ok (.iconst 0, 1) := by decide +kernel
theorem dL_locks_534 : decode cL_locks 534 = .ok (.bipush 123, 2) := by decide +kernel
theorem dL_locks_536 : decode cL_locks 536 = .ok (.iconst 1, 1) := by decide +kernel
theorem dL_locks_537 : decode cL_locks 537 = .ok (.iconst (-1), 1) := by decide +kernel
theorem dL_locks_538 : decode cL_locks 538 = .ok (.iconst 0, 1) := by decide +kernel
theorem dL_locks_539 : decode cL_locks 539 = .ok (.invokevirtual 13, 3) := by decide +kernel
theorem dL_locks_542 : decode cL_locks 542 = .ok (.iconst 4, 1) := by decide +kernel
theorem dL_locks_543 : decode cL_locks 543 = .ok (.if_icmp .ne 273, 3) := by decide +kernel
theorem dL_locks_546 : decode cL_locks 546 = .ok (.aload_n 0, 1) := by decide +kernel
theorem dL_locks_547 : decode cL_locks 547 = .ok (.iconst 1, 1) := by decide +kernel
theorem dL_locks_548 : decode cL_locks 548 = .ok (.bipush 123, 2) := by decide +kernel
theorem dL_locks_550 : decode cL_locks 550 = .ok (.iconst 2, 1) := by decide +kernel
theorem dL_locks_551 : decode cL_locks 551 = .ok (.invokevirtual 7, 3) := by decide +kernel
theorem dL_locks_554 : decode cL_locks 554 = .ok (.iconst 4, 1) := by decide +kernel
theorem dL_locks_555 : decode cL_locks 555 = .ok (.if_icmp .ne 261, 3) := by decide +kernel
theorem dL_locks_558 : decode cL_locks 558 = .ok (.aload_n 0, 1) := by decide +kernel
theorem dL_locks_559 : decode cL_locks 559 = .ok (.iconst 2, 1) := by decide +kernel
theorem dL_locks_560 : decode cL_locks 560 = .ok (.bipush 123, 2) := by decide +kernel
theorem dL_locks_562 : decode cL_locks 562 = .ok (.iconst 1, 1) := by decide +kernel
theorem dL_locks_563 : decode cL_locks 563 = .ok (.iconst (-1), 1) := by decide +kernel
theorem dL_locks_564 : decode cL_locks 564 = .ok (.iconst 4, 1) := by decide +kernel
theorem dL_locks_565 : decode cL_locks 565 = .ok (.invokevirtual 13, 3) := by decide +kernel
theorem dL_locks_568 : decode cL_locks 568 = .ok (.ifCond .ne 248, 3) := by decide +kernel
theorem dL_locks_571 : decode cL_locks 571 = .ok (.aload_n 0, 1) := by decide +kernel
theorem dL_locks_572 : decode cL_locks 572 = .ok (.bipush 11, 2) := by decide +kernel
theorem dL_locks_574 : decode cL_locks 574 = .ok (.iconst 0, 1) := by decide +kernel
theorem dL_locks_575 : decode cL_locks 575 = .ok (.bipush 124, 2) := by decide +kernel
theorem dL_locks_577 : decode cL_locks 577 = .ok (.iconst 5, 1) := by decide +kernel
theorem dL_locks_578 : decode cL_locks 578 = .ok (.iconst 0, 1) := by decide +kernel
theorem dL_locks_579 : decode cL_locks 579 = .ok (.invokestatic 85, 3) := by decide +kernel
theorem dL_locks_582 : decode cL_locks 582 = .ok (.sipush (-9003), 3) := by decide +kernel
theorem dL_locks_585 : decode cL_locks 585 = .ok (.if_icmp .ne 231, 3) := by decide +kernel
theorem dL_locks_588 : decode cL_locks 588 = .ok (.aload_n 0, 1) := by decide +kernel
theorem dL_locks_589 : decode cL_locks 589 = .ok (.iconst 2, 1) := by decide +kernel
theorem dL_locks_590 : decode cL_locks 590 = .ok (.bipush 124, 2) := by decide +kernel
theorem dL_locks_592 : decode cL_locks 592 = .ok (.iconst 0, 1) := by decide +kernel
theorem dL_locks_593 : decode cL_locks 593 = .ok (.iconst 1, 1) := by decide +kernel
theorem dL_locks_594 : decode cL_locks 594 = .ok (.iconst 5, 1) := by decide +kernel
theorem dL_locks_595 : decode cL_locks 595 = .ok (.iconst 4, 1) := by decide +kernel
theorem dL_locks_596 : decode cL_locks 596 = .ok (.invokevirtual 48, 3) := by decide +kernel
theorem dL_locks_599 : decode cL_locks 599 = .ok (.iconst 4, 1) := by decide +kernel
theorem dL_locks_600 : decode cL_locks 600 = .ok (.if_icmp .ne 216, 3) := by decide +kernel
theorem dL_locks_603 : decode cL_locks 603 = .ok (.aload_n 0, 1) := by decide +kernel
theorem dL_locks_604 : decode cL_locks 604 = .ok (.bipush 124, 2) := by decide +kernel
theorem dL_locks_606 : decode cL_locks 606 = .ok (.invokevirtual 34, 3) := by decide +kernel
theorem dL_locks_609 : decode cL_locks 609 = .ok (.ifCond .ne 207, 3) := by decide +kernel
theorem dL_locks_612 : decode cL_locks 612 = .ok (.aload_n 0, 1) := by decide +kernel
theorem dL_locks_613 : decode cL_locks 613 = .ok (.bipush 124, 2) := by decide +kernel
theorem dL_locks_615 : decode cL_locks 615 = .ok (.invokevirtual 31, 3) := by decide +kernel
theorem dL_locks_618 : decode cL_locks 618 = .ok (.iconst 1, 1) := by decide +kernel
theorem dL_locks_619 : decode cL_locks 619 = .ok (.if_icmp .ne 197, 3) := by decide +kernel
theorem dL_locks_622 : decode cL_locks 622 = .ok (.aload_n 0, 1) := by decide +kernel
theorem dL_locks_623 : decode cL_locks 623 = .ok (.bipush 12, 2) := by decide +kernel
theorem dL_locks_625 : decode cL_locks 625 = .ok (.bipush 121, 2) := by decide +kernel
theorem dL_locks_627 : decode cL_locks 627 = .ok (.bipush 123, 2) := by decide +kernel
theorem dL_locks_629 : decode cL_locks 629 = .ok (.bipush 124, 2) := by decide +kernel
theorem dL_locks_631 : decode cL_locks 631 = .ok (.invokestatic 96, 3) := by decide +kernel
theorem dL_locks_634 : decode cL_locks 634 = .ok (.ifCond .eq 182, 3) := by decide +kernel
theorem dL_locks_637 : decode cL_locks 637 = .ok (.aload_n 0, 1) := by decide +kernel
theorem dL_locks_638 : decode cL_locks 638 = .ok (.iconst 0, 1) := by decide +kernel
theorem dL_locks_639 : decode cL_locks 639 = .ok (.bipush 124, 2) := by decide +kernel
theorem dL_locks_641 : decode cL_locks 641 = .ok (.iconst 0, 1) := by decide +kernel
theorem dL_locks_642 : decode cL_locks 642 = .ok (.iconst 0, 1) := by decide +kernel
theorem dL_locks_643 : decode cL_locks 643 = .ok (.invokevirtual 44, 3) := by decide +kernel
theorem dL_locks_646 : decode cL_locks 646 = .ok (.iconst 4, 1) := by decide +kernel
theorem dL_locks_647 : decode cL_locks 647 = .ok (.if_icmp .ne 169, 3) := by decide +kernel
theorem dL_locks_650 : decode cL_locks 650 = .ok (.aload_n 0, 1) := by decide +kernel
theorem dL_locks_651 : decode cL_locks 651 = .ok (.iconst 3, 1) := by decide +kernel
theorem dL_locks_652 : decode cL_locks 652 = .ok (.bipush 124, 2) := by decide +kernel
theorem dL_locks_654 : decode cL_locks 654 = .ok (.iconst 0, 1) := by decide +kernel
theorem dL_locks_655 : decode cL_locks 655 = .ok (.bipush 8, 2) := by decide +kernel
theorem dL_locks_657 : decode cL_locks 657 = .ok (.invokevirtual 44, 3) := by decide +kernel
theorem dL_locks_660 : decode cL_locks 660 = .ok (.ifCond .ne 156, 3) := by decide +kernel
theorem dL_locks_663 : decode cL_locks 663 = .ok (.aload_n 0, 1) := by decide +kernel
theorem dL_locks_664 : decode cL_locks 664 = .ok (.bipush 12, 2) := by decide +kernel
theorem dL_locks_666 : decode cL_locks 666 = .ok (.bipush 124, 2) := by decide +kernel
theorem dL_locks_668 : decode cL_locks 668 = .ok (.bipush 121, 2) := by decide +kernel
theorem dL_locks_670 : decode cL_locks 670 = .ok (.bipush 123, 2) := by decide +kernel
theorem dL_locks_672 : decode cL_locks 672 = .ok (.invokestatic 96, 3) := by decide +kernel
theorem dL_locks_675 : decode cL_locks 675 = .ok (.ifCond .eq 141, 3) := by decide +kernel
theorem dL_locks_678 : decode cL_locks 678 = .ok (.aload_n 0, 1) := by decide +kernel
theorem dL_locks_679 : decode cL_locks 679 = .ok (.invokestatic 92, 3) := by decide +kernel
theorem dL_locks_682 : decode cL_locks 682 = .ok (.ifCond .eq 134, 3) := by decide +kernel
theorem dL_locks_685 : decode cL_locks 685 = .ok (.aload_n 0, 1) := by decide +kernel
theorem dL_locks_686 : decode cL_locks 686 = .ok (.iconst 4, 1) := by decide +kernel
theorem dL_locks_687 : decode cL_locks 687 = .ok (.invokevirtual 55, 3) := by decide +kernel
theorem dL_locks_690 : decode cL_locks 690 = .ok (.ifCond .ne 126, 3) := by decide +kernel
theorem dL_locks_693 : decode cL_locks 693 = .ok (.aload_n 0, 1) := by decide +kernel
theorem dL_locks_694 : decode cL_locks 694 = .ok (.iconst 1, 1) := by decide +kernel
theorem dL_locks_695 : decode cL_locks 695 = .ok (.invokevirtual 55, 3) := by decide +kernel
theorem dL_locks_698 : decode cL_locks 698 = .ok (.iconst 1, 1) := by decide +kernel
theorem dL_locks_699 : decode cL_locks 699 = .ok (.if_icmp .ne 117, 3) := by decide +kernel
theorem dL_locks_702 : decode cL_locks 702 = .ok (.aload_n 0, 1) := by decide +kernel
theorem dL_locks_703 : decode cL_locks 703 = .ok (.bipush 12, 2) := by decide +kernel
theorem dL_locks_705 : decode cL_locks 705 = .ok (.iconst 2, 1) := by decide +kernel
theorem dL_locks_706 : decode cL_locks 706 = .ok (.iconst 4, 1) := by decide +kernel
theorem dL_locks_707 : decode cL_locks 707 = .ok (.iconst 5, 1) := by decide +kernel
theorem dL_locks_708 : decode cL_locks 708 = .ok (.iconst 0, 1) := by decide +kernel
theorem dL_locks_709 : decode cL_locks 709 = .ok (.invokestatic 85, 3) := by decide +kernel
theorem dL_locks_712 : decode cL_locks 712 = .ok (.sipush (-9001), 3) := by decide +kernel
theorem dL_locks_715 : decode cL_locks 715 = .ok (.if_icmp .ne 101, 3) := by decide +kernel
theorem dL_locks_718 : decode cL_locks 718 = .ok (.aload_n 0, 1) := by decide +kernel
theorem dL_locks_719 : decode cL_locks 719 = .ok (.bipush 124, 2) := by decide +kernel
theorem dL_locks_721 : decode cL_locks 721 = .ok (.invokevirtual 58, 3) := by decide +kernel
theorem dL_locks_724 : decode cL_locks 724 = .ok (.ifCond .ne 92, 3) := by decide +kernel
theorem dL_locks_727 : decode cL_locks 727 = .ok (.aload_n 0, 1) := by decide +kernel
theorem dL_locks_728 : decode cL_locks 728 = .ok (.iconst 5, 1) := by decide +kernel
theorem dL_locks_729 : decode cL_locks 729 = .ok (.invokevirtual 55, 3) := by decide +kernel
theorem dL_locks_732 : decode cL_locks 732 = .ok (.iconst 1, 1) := by decide +kernel
theorem dL_locks_733 : decode cL_locks 733 = .ok (.if_icmp .ne 83, 3) := by decide +kernel
theorem dL_locks_736 : decode cL_locks 736 = .ok (.aload_n 0, 1) := by decide +kernel
theorem dL_locks_737 : decode cL_locks 737 = .ok (.iconst 2, 1) := by decide +kernel
theorem dL_locks_738 : decode cL_locks 738 = .ok (.iconst 2, 1) := by decide +kernel
theorem dL_locks_739 : decode cL_locks 739 = .ok (.bipush 100, 2) := by decide +kernel
theorem dL_locks_741 : decode cL_locks 741 = .ok (.invokevirtual 52, 3) := by decide +kernel
theorem dL_locks_744 : decode cL_locks 744 = .ok (.bipush 40, 2) := by decide +kernel
theorem dL_locks_746 : decode cL_locks 746 = .ok (.if_icmp .ne 70, 3) := by decide +kernel
theorem dL_locks_749 : decode cL_locks 749 = .ok (.aload_n 0, 1) := by decide +kernel
theorem dL_locks_750 : decode cL_locks 750 = .ok (.bipush 12, 2) := by decide +kernel
theorem dL_locks_752 : decode cL_locks 752 = .ok (.iconst 3, 1) := by decide +kernel
theorem dL_locks_753 : decode cL_locks 753 = .ok (.iconst 2, 1) := by decide +kernel
theorem dL_locks_754 : decode cL_locks 754 = .ok (.iconst 5, 1) := by decide +kernel
theorem dL_locks_755 : decode cL_locks 755 = .ok (.iconst 0, 1) := by decide +kernel
theorem dL_locks_756 : decode cL_locks 756 = .ok (.invokestatic 85, 3) := by decide +kernel
theorem dL_locks_759 : decode cL_locks 759 = .ok (.sipush (-9003), 3) := by decide +kernel
theorem dL_locks_762 : decode cL_locks 762 = .ok (.if_icmp .ne 54, 3) := by decide +kernel
theorem dL_locks_765 : decode cL_locks 765 = .ok (.aload_n 0, 1) := by decide +kernel
theorem dL_locks_766 : decode cL_locks 766 = .ok (.bipush 12, 2) := by decide +kernel
theorem dL_locks_768 : decode cL_locks 768 = .ok (.iconst 2, 1) := by decide +kernel
theorem dL_locks_769 : decode cL_locks 769 = .ok (.iconst 2, 1) := by decide +kernel
theorem dL_locks_770 : decode cL_locks 770 = .ok (.sipush 1001, 3) := by decide +kernel
theorem dL_locks_773 : decode cL_locks 773 = .ok (.iconst 0, 1) := by decide +kernel
theorem dL_locks_774 : decode cL_locks 774 = .ok (.invokestatic 85, 3) := by decide +kernel
theorem dL_locks_777 : decode cL_locks 777 = .ok (.sipush (-9002), 3) := by decide +kernel
theorem dL_locks_780 : decode cL_locks 780 = .ok (.if_icmp .ne 36, 3) := by decide +kernel
theorem dL_locks_783 : decode cL_locks 783 = .ok (.aload_n 0, 1) := by decide +kernel
theorem dL_locks_784 : decode cL_locks 784 = .ok (.iconst 2, 1) := by decide +kernel
theorem dL_locks_785 : decode cL_locks 785 = .ok (.iconst 2, 1) := by decide +kernel
theorem dL_locks_786 : decode cL_locks 786 = .ok (.iconst 0, 1) := by decide +kernel
theorem dL_locks_787 : decode cL_locks 787 = .ok (.invokevirtual 52, 3) := by decide +kernel
theorem dL_locks_790 : decode cL_locks 790 = .ok (.bipush 100, 2) := by decide +kernel
theorem dL_locks_792 : decode cL_locks 792 = .ok (.if_icmp .ne 24, 3) := by decide +kernel
theorem dL_locks_795 : decode cL_locks 795 = .ok (.aload_n 0, 1) := by decide +kernel
theorem dL_locks_796 : decode cL_locks 796 = .ok (.bipush 12, 2) := by decide +kernel
theorem dL_locks_798 : decode cL_locks 798 = .ok (.invokevirtual 58, 3) := by decide +kernel
theorem dL_locks_801 : decode cL_locks 801 = .ok (.ifCond .ne 15, 3) := by decide +kernel
theorem dL_locks_804 : decode cL_locks 804 = .ok (.aload_n 0, 1) := by decide +kernel
theorem dL_locks_805 : decode cL_locks 805 = .ok (.iconst 1, 1) := by decide +kernel
theorem dL_locks_806 : decode cL_locks 806 = .ok (.iconst 1, 1) := by decide +kernel
theorem dL_locks_807 : decode cL_locks 807 = .ok (.iconst 0, 1) := by decide +kernel
theorem dL_locks_808 : decode cL_locks 808 = .ok (.invokevirtual 52, 3) := by decide +kernel
theorem dL_locks_811 : decode cL_locks 811 = .ok (.bipush 90, 2) := by decide +kernel
theorem dL_locks_813 : decode cL_locks 813 = .ok (.if_icmp .eq 5, 3) := by decide +kernel
theorem dL_locks_816 : decode cL_locks 816 = .ok (.iconst 0, 1) := by decide +kernel
theorem dL_locks_817 : decode cL_locks 817 = .ok (.ireturn, 1) := by decide +kernel
theorem dL_locks_818 : decode cL_locks 818 = .ok (.aload_n 0, 1) := by decide +kernel
theorem dL_locks_819 : decode cL_locks 819 = .ok (.iconst 1, 1) := by decide +kernel
theorem dL_locks_820 : decode cL_locks 820 = .ok (.iconst 1, 1) := by decide +kernel
theorem dL_locks_821 : decode cL_locks 821 = .ok (.iconst 1, 1) := by decide +kernel
theorem dL_locks_822 : decode cL_locks 822 = .ok (.iconst 1, 1) := by decide +kernel
theorem dL_locks_823 : decode cL_locks 823 = .ok (.sipush 1000, 3) := by decide +kernel
theorem dL_locks_826 : decode cL_locks 826 = .ok (.iconst 0, 1) := by decide +kernel
theorem dL_locks_827 : decode cL_locks 827 = .ok (.invokevirtual 48, 3) := by decide +kernel
theorem dL_locks_830 : decode cL_locks 830 = .ok (.iconst 5, 1) := by decide +kernel
theorem dL_locks_831 : decode cL_locks 831 = .ok (.if_icmp .ne 299, 3) := by decide +kernel
theorem dL_locks_834 : decode cL_locks 834 = .ok (.aload_n 0, 1) := by decide +kernel
theorem dL_locks_835 : decode cL_locks 835 = .ok (.iconst 2, 1) := by decide +kernel
theorem dL_locks_836 : decode cL_locks 836 = .ok (.bipush 12, 2) := by decide +kernel
theorem dL_locks_838 : decode cL_locks 838 = .ok (.iconst 1, 1) := by decide +kernel
theorem dL_locks_839 : decode cL_locks 839 = .ok (.iconst 1, 1) := by decide +kernel
theorem dL_locks_840 : decode cL_locks 840 = .ok (.sipush 1000, 3) := by decide +kernel
theorem dL_locks_843 : decode cL_locks 843 = .ok (.iconst 0, 1) := by decide +kernel
theorem dL_locks_844 : decode cL_locks 844 = .ok (.invokevirtual 48, 3) := by decide +kernel
theorem dL_locks_847 : decode cL_locks 847 = .ok (.bipush 6, 2) := by decide +kernel
theorem dL_locks_849 : decode cL_locks 849 = .ok (.if_icmp .ne 281, 3) := by decide +kernel
theorem dL_locks_852 : decode cL_locks 852 = .ok (.aload_n 0, 1) := by decide +kernel
theorem dL_locks_853 : decode cL_locks 853 = .ok (.bipush 121, 2) := by decide +kernel
theorem dL_locks_855 : decode cL_locks 855 = .ok (.invokevirtual 58, 3) := by decide +kernel
theorem dL_locks_858 : decode cL_locks 858 = .ok (.bipush 96, 2) := by decide +kernel
theorem dL_locks_860 : decode cL_locks 860 = .ok (.if_icmp .ne 270, 3) := by decide +kernel
theorem dL_locks_863 : decode cL_locks 863 = .ok (.aload_n 0, 1) := by decide +kernel
theorem dL_locks_864 : decode cL_locks 864 = .ok (.iconst 1, 1) := by decide +kernel
theorem dL_locks_865 : decode cL_locks 865 = .ok (.bipush 121, 2) := by decide +kernel
theorem dL_locks_867 : decode cL_locks 867 = .ok (.bipush 32, 2) := by decide +kernel
theorem dL_locks_869 : decode cL_locks 869 = .ok (.invokevirtual 61, 3) := by decide +kernel
theorem dL_locks_872 : decode cL_locks 872 = .ok (.ifCond .eq 258, 3) := by decide +kernel
theorem dL_locks_875 : decode cL_locks 875 = .ok (.aload_n 0, 1) := by decide +kernel
theorem dL_locks_876 : decode cL_locks 876 = .ok (.iconst 2, 1) := by decide +kernel
theorem dL_locks_877 : decode cL_locks 877 = .ok (.bipush 121, 2) := by decide +kernel
theorem dL_locks_879 : decode cL_locks 879 = .ok (.bipush 32, 2) := by decide +kernel
theorem dL_locks_881 : decode cL_locks 881 = .ok (.invokevirtual 61, 3) := by decide +kernel
theorem dL_locks_884 : decode cL_locks 884 = .ok (.ifCond .ne 246, 3) := by decide +kernel
theorem dL_locks_887 : decode cL_locks 887 = .ok (.aload_n 0, 1) := by decide +kernel
theorem dL_locks_888 : decode cL_locks 888 = .ok (.iconst 2, 1) := by decide +kernel
theorem dL_locks_889 : decode cL_locks 889 = .ok (.bipush 121, 2) := by decide +kernel
theorem dL_locks_891 : decode cL_locks 891 = .ok (.bipush 64, 2) := by decide +kernel
theorem dL_locks_893 : decode cL_locks 893 = .ok (.invokevirtual 61, 3) := by decide +kernel
theorem dL_locks_896 : decode cL_locks 896 = .ok (.ifCond .eq 234, 3) := by decide +kernel
theorem dL_locks_899 : decode cL_locks 899 = .ok (.aload_n 0, 1) := by decide +kernel
theorem dL_locks_900 : decode cL_locks 900 = .ok (.iconst 1, 1) := by decide +kernel
theorem dL_locks_901 : decode cL_locks 901 = .ok (.invokevirtual 58, 3) := by decide +kernel
theorem dL_locks_904 : decode cL_locks 904 = .ok (.bipush 32, 2) := by decide +kernel
theorem dL_locks_906 : decode cL_locks 906 = .ok (.if_icmp .ne 224, 3) := by decide +kernel
theorem dL_locks_909 : decode cL_locks 909 = .ok (.aload_n 0, 1) := by decide +kernel
theorem dL_locks_910 : decode cL_locks 910 = .ok (.bipush 19, 2) := by decide +kernel
theorem dL_locks_912 : decode cL_locks 912 = .ok (.invokevirtual 58, 3) := by decide +kernel
theorem dL_locks_915 : decode cL_locks 915 = .ok (.bipush 32, 2) := by decide +kernel
theorem dL_locks_917 : decode cL_locks 917 = .ok (.if_icmp .ne 213, 3) := by decide +kernel
theorem dL_locks_920 : decode cL_locks 920 = .ok (.aload_n 0, 1) := by decide +kernel
theorem dL_locks_921 : decode cL_locks 921 = .ok (.iconst 0, 1) := by decide +kernel
theorem dL_locks_922 : decode cL_locks 922 = .ok (.bipush 19, 2) := by decide +kernel
theorem dL_locks_924 : decode cL_locks 924 = .ok (.iconst 1, 1) := by decide +kernel
theorem dL_locks_925 : decode cL_locks 925 = .ok (.iconst (-1), 1) := by decide +kernel
theorem dL_locks_926 : decode cL_locks 926 = .ok (.iconst 0, 1) := by decide +kernel
theorem dL_locks_927 : decode cL_locks 927 = .ok (.invokevirtual 13, 3) := by decide +kernel
theorem dL_locks_930 : decode cL_locks 930 = .ok (.iconst 4, 1) := by decide +kernel
theorem dL_locks_931 : decode cL_locks 931 = .ok (.if_icmp .ne 199, 3) := by decide +kernel
theorem dL_locks_934 : decode cL_locks 934 = .ok (.aload_n 0, 1) := by decide +kernel
theorem dL_locks_935 : decode cL_locks 935 = .ok (.iconst 0, 1) := by decide +kernel
theorem dL_locks_936 : decode cL_locks 936 = .ok (.iconst 2, 1) := by decide +kernel
theorem dL_locks_937 : decode cL_locks 937 = .ok (.iconst 1, 1) := by decide +kernel
theorem dL_locks_938 : decode cL_locks 938 = .ok (.iconst (-1), 1) := by decide +kernel
theorem dL_locks_939 : decode cL_locks 939 = .ok (.iconst 0, 1) := by decide +kernel
theorem dL_locks_940 : decode cL_locks 940 = .ok (.invokevirtual 13, 3) := by decide +kernel
theorem dL_locks_943 : decode cL_locks 943 = .ok (.ifCond .ne 187, 3) := by decide +kernel
theorem dL_locks_946 : decode cL_locks 946 = .ok (.aload_n 0, 1) := by decide +kernel
theorem dL_locks_947 : decode cL_locks 947 = .ok (.iconst 0, 1) := by decide +kernel
theorem dL_locks_948 : decode cL_locks 948 = .ok (.iconst 2, 1) := by decide +kernel
theorem dL_locks_949 : decode cL_locks 949 = .ok (.bipush 19, 2) := by decide +kernel
theorem dL_locks_951 : decode cL_locks 951 = .ok (.iconst 0, 1) := by decide +kernel
theorem dL_locks_952 : decode cL_locks 952 = .ok (.iconst 0, 1) := by decide +kernel
theorem dL_locks_953 : decode cL_locks 953 = .ok (.invokevirtual 28, 3) := by decide +kernel
theorem dL_locks_956 : decode cL_locks 956 = .ok (.iconst 4, 1) := by decide +kernel
theorem dL_locks_957 : decode cL_locks 957 = .ok (.if_icmp .ne 173, 3) := by decide +kernel
theorem dL_locks_960 : decode cL_locks 960 = .ok (.aload_n 0, 1) := by decide +kernel
theorem dL_locks_961 : decode cL_locks 961 = .ok (.iconst 1, 1) := by decide +kernel
theorem dL_locks_962 : decode cL_locks 962 = .ok (.iconst 2, 1) := by decide +kernel
theorem dL_locks_963 : decode cL_locks 963 = .ok (.bipush 19, 2) := by decide +kernel
theorem dL_locks_965 : decode cL_locks 965 = .ok (.iconst 0, 1) := by decide +kernel
theorem dL_locks_966 : decode cL_locks 966 = .ok (.bipush 32, 2) := by decide +kernel
theorem dL_locks_968 : decode cL_locks 968 = .ok (.invokevirtual 28, 3) := by decide +kernel
theorem dL_locks_971 : decode cL_locks 971 = .ok (.ifCond .ne 159, 3) := by decide +kernel
theorem dL_locks_974 : decode cL_locks 974 = .ok (.aload_n 0, 1) := by decide +kernel
theorem dL_locks_975 : decode cL_locks 975 = .ok (.iconst 2, 1) := by decide +kernel
theorem dL_locks_976 : decode cL_locks 976 = .ok (.bipush 12, 2) := by decide +kernel
theorem dL_locks_978 : decode cL_locks 978 = .ok (.bipush 64, 2) := by decide +kernel
theorem dL_locks_980 : decode cL_locks 980 = .ok (.invokevirtual 17, 3) := by decide +kernel
theorem dL_locks_983 : decode cL_locks 983 = .ok (.iconst 4, 1) := by decide +kernel
theorem dL_locks_984 : decode cL_locks 984 = .ok (.if_icmp .ne 146, 3) := by decide +kernel
theorem dL_locks_987 : decode cL_locks 987 = .ok (.aload_n 0, 1) := by decide +kernel
theorem dL_locks_988 : decode cL_locks 988 = .ok (.iconst 1, 1) := by decide +kernel
theorem dL_locks_989 : decode cL_locks 989 = .ok (.bipush 12, 2) := by decide +kernel
theorem dL_locks_991 : decode cL_locks 991 = .ok (.bipush 32, 2) := by decide +kernel
theorem dL_locks_993 : decode cL_locks 993 = .ok (.invokevirtual 17, 3) := by decide +kernel
theorem dL_locks_996 : decode cL_locks 996 = .ok (.ifCond .ne 134, 3) := by decide +kernel
theorem dL_locks_999 : decode cL_locks 999 = .ok (.aload_n 0, 1) := by decide +kernel
theorem dL_locks_1000 : decode cL_locks 1000 = .ok (.bipush 12, 2) := by decide +kernel
theorem dL_locks_1002 : decode cL_locks 1002 = .ok (.invokevirtual 58, 3) := by decide +kernel
theorem dL_locks_1005 : decode cL_locks 1005 = .ok (.bipush 32, 2) := by decide +kernel
theorem dL_locks_1007 : decode cL_locks 1007 = .ok (.if_icmp .ne 123, 3) := by decide +kernel
theorem dL_locks_1010 : decode cL_locks 1010 = .ok (.aload_n 0, 1) := by decide +kernel
theorem dL_locks_1011 : decode cL_locks 1011 = .ok (.bipush 12, 2) := by decide +kernel
theorem dL_locks_1013 : decode cL_locks 1013 = .ok (.iconst 2, 1) := by decide +kernel
theorem dL_locks_1014 : decode cL_locks 1014 = .ok (.bipush 6, 2) := by decide +kernel
theorem dL_locks_1016 : decode cL_locks 1016 = .ok (.iconst 5, 1) := by decide +kernel
theorem dL_locks_1017 : decode cL_locks 1017 = .ok (.iconst 0, 1) := by decide +kernel
theorem dL_locks_1018 : decode cL_locks 1018 = .ok (.invokestatic 85, 3) := by decide +kernel
theorem dL_locks_1021 : decode cL_locks 1021 = .ok (.sipush (-9001), 3) := by decide +kernel
theorem dL_locks_1024 : decode cL_locks 1024 = .ok (.if_icmp .ne 106, 3) := by decide +kernel
theorem dL_locks_1027 : decode cL_locks 1027 = .ok (.aload_n 0, 1) := by decide +kernel
theorem dL_locks_1028 : decode cL_locks 1028 = .ok (.invokevirtual 77, 3) := by decide +kernel
theorem dL_locks_1031 : decode cL_locks 1031 = .ok (.iconst 3, 1) := by decide +kernel
theorem dL_locks_1032 : decode cL_locks 1032 = .ok (.if_icmp .ne 98, 3) := by decide +kernel
theorem dL_locks_1035 : decode cL_locks 1035 = .ok (.aload_n 0, 1) := by decide +kernel
theorem dL_locks_1036 : decode cL_locks 1036 = .ok (.iconst 3, 1) := by decide +kernel
theorem dL_locks_1037 : decode cL_locks 1037 = .ok (.iconst 0, 1) := by decide +kernel
theorem dL_locks_1038 : decode cL_locks 1038 = .ok (.iconst 1, 1) := by decide +kernel
theorem dL_locks_1039 : decode cL_locks 1039 = .ok (.iconst 0, 1) := by decide +kernel
theorem dL_locks_1040 : decode cL_locks 1040 = .ok (.bipush 7, 2) := by decide +kernel
theorem dL_locks_1042 : decode cL_locks 1042 = .ok (.iconst 0, 1) := by decide +kernel
theorem dL_locks_1043 : decode cL_locks 1043 = .ok (.invokevirtual 48, 3) := by decide +kernel
theorem dL_locks_1046 : decode cL_locks 1046 = .ok (.bipush 7, 2) := by decide +kernel
theorem dL_locks_1048 : decode cL_locks 1048 = .ok (.if_icmp .ne 82, 3) := by decide +kernel
theorem dL_locks_1051 : decode cL_locks 1051 = .ok (.aload_n 0, 1) := by decide +kernel
theorem dL_locks_1052 : decode cL_locks 1052 = .ok (.bipush 19, 2) := by decide +kernel
theorem dL_locks_1054 : decode cL_locks 1054 = .ok (.iconst 3, 1) := by decide +kernel
theorem dL_locks_1055 : decode cL_locks 1055 = .ok (.iconst 0, 1) := by decide +kernel
theorem dL_locks_1056 : decode cL_locks 1056 = .ok (.iconst 1, 1) := by decide +kernel
theorem dL_locks_1057 : decode cL_locks 1057 = .ok (.iconst 0, 1) := by decide +kernel
theorem dL_locks_1058 : decode cL_locks 1058 = .ok (.invokestatic 85, 3) := by decide +kernel
theorem dL_locks_1061 : decode cL_locks 1061 = .ok (.bipush 8, 2) := by decide +kernel
theorem dL_locks_1063 : decode cL_locks 1063 = .ok (.if_icmp .ne 67, 3) := by decide +kernel
theorem dL_locks_1066 : decode cL_locks 1066 = .ok (.aload_n 0, 1) := by decide +kernel
theorem dL_locks_1067 : decode cL_locks 1067 = .ok (.iconst 0, 1) := by decide +kernel
theorem dL_locks_1068 : decode cL_locks 1068 = .ok (.invokevirtual 58, 3) := by decide +kernel
theorem dL_locks_1071 : decode cL_locks 1071 = .ok (.sipush 384, 3) := by decide +kernel
theorem dL_locks_1074 : decode cL_locks 1074 = .ok (.if_icmp .ne 56, 3) := by decide +kernel
theorem dL_locks_1077 : decode cL_locks 1077 = .ok (.aload_n 0, 1) := by decide +kernel
theorem dL_locks_1078 : decode cL_locks 1078 = .ok (.iconst 5, 1) := by decide +kernel
theorem dL_locks_1079 : decode cL_locks 1079 = .ok (.invokevirtual 58, 3) := by decide +kernel
theorem dL_locks_1082 : decode cL_locks 1082 = .ok (.sipush 256, 3) := by decide +kernel
theorem dL_locks_1085 : decode cL_locks 1085 = .ok (.if_icmp .ne 45, 3) := by decide +kernel
theorem dL_locks_1088 : decode cL_locks 1088 = .ok (.aload_n 0, 1) := by decide +kernel
theorem dL_locks_1089 : decode cL_locks 1089 = .ok (.iconst 0, 1) := by decide +kernel
theorem dL_locks_1090 : decode cL_locks 1090 = .ok (.iconst 5, 1) := by decide +kernel
theorem dL_locks_1091 : decode cL_locks 1091 = .ok (.iconst 0, 1) := by decide +kernel
theorem dL_locks_1092 : decode cL_locks 1092 = .ok (.invokevirtual 7, 3) := by decide +kernel
theorem dL_locks_1095 : decode cL_locks 1095 = .ok (.iconst 4, 1) := by decide +kernel
theorem dL_locks_1096 : decode cL_locks 1096 = .ok (.if_icmp .ne 34, 3) := by decide +kernel
theorem dL_locks_1099 : decode cL_locks 1099 = .ok (.aload_n 0, 1) := by decide +kernel
theorem dL_locks_1100 : decode cL_locks 1100 = .ok (.iconst 3, 1) := by decide +kernel
theorem dL_locks_1101 : decode cL_locks 1101 = .ok (.iconst 5, 1) := by decide +kernel
theorem dL_locks_1102 : decode cL_locks 1102 = .ok (.sipush 256, 3) := by decide +kernel
theorem dL_locks_1105 : decode cL_locks 1105 = .ok (.invokevirtual 7, 3) := by decide +kernel
theorem dL_locks_1108 : decode cL_locks 1108 = .ok (.ifCond .ne 22, 3) := by decide +kernel
theorem dL_locks_1111 : decode cL_locks 1111 = .ok (.aload_n 0, 1) := by decide +kernel
theorem dL_locks_1112 : decode cL_locks 1112 = .ok (.bipush 7, 2) := by decide +kernel
theorem dL_locks_1114 : decode cL_locks 1114 = .ok (.invokevirtual 55, 3) := by decide +kernel
theorem dL_locks_1117 : decode cL_locks 1117 = .ok (.iconst 1, 1) := by decide +kernel
theorem dL_locks_1118 : decode cL_locks 1118 = .ok (.if_icmp .ne 12, 3) := by decide +kernel
theorem dL_locks_1121 : decode cL_locks 1121 = .ok (.aload_n 0, 1) := by decide +kernel
theorem dL_locks_1122 : decode cL_locks 1122 = .ok (.iconst 3, 1) := by decide +kernel
theorem dL_locks_1123 : decode cL_locks 1123 = .ok (.invokevirtual 55, 3) := by decide +kernel
theorem dL_locks_1126 : decode cL_locks 1126 = .ok (.iconst 1, 1) := by decide +kernel
theorem dL_locks_1127 : decode cL_locks 1127 = .ok (.if_icmp .eq 5, 3) := by decide +kernel
theorem dL_locks_1130 : decode cL_locks 1130 = .ok (.iconst 0, 1) := by decide +kernel
theorem dL_locks_1131 : decode cL_locks 1131 = .ok (.ireturn, 1) := by decide +kernel
theorem dL_locks_1132 : decode cL_locks 1132 = .ok (.aload_n 0, 1) := by decide +kernel
theorem dL_locks_1133 : decode cL_locks 1133 = .ok (.sipush 1000, 3) := by decide +kernel
theorem dL_locks_1136 : decode cL_locks 1136 = .ok (.invokevirtual 55, 3) := by decide +kernel
theorem dL_locks_1139 : decode cL_locks 1139 = .ok (.iconst 1, 1) := by decide +kernel
theorem dL_locks_1140 : decode cL_locks 1140 = .ok (.if_icmp .ne 54, 3) := by decide +kernel
theorem dL_locks_1143 : decode cL_locks 1143 = .ok (.aload_n 0, 1) := by decide +kernel
theorem dL_locks_1144 : decode cL_locks 1144 = .ok (.iconst 1, 1) := by decide +kernel
theorem dL_locks_1145 : decode cL_locks 1145 = .ok (.invokevirtual 58, 3) := by decide +kernel
theorem dL_locks_1148 : decode cL_locks 1148 = .ok (.ifCond .ne 46, 3) := by decide +kernel
theorem dL_locks_1151 : decode cL_locks 1151 = .ok (.aload_n 0, 1) := by decide +kernel
theorem dL_locks_1152 : decode cL_locks 1152 = .ok (.iconst 0, 1) := by decide +kernel
theorem dL_locks_1153 : decode cL_locks 1153 = .ok (.bipush 19, 2) := by decide +kernel
theorem dL_locks_1155 : decode cL_locks 1155 = .ok (.bipush 51, 2) := by decide +kernel
theorem dL_locks_1157 : decode cL_locks 1157 = .ok (.iconst 0, 1) := by decide +kernel
theorem dL_locks_1158 : decode cL_locks 1158 = .ok (.iconst 0, 1) := by decide +kernel
theorem dL_locks_1159 : decode cL_locks 1159 = .ok (.invokevirtual 28, 3) := by decide +kernel
theorem dL_locks_1162 : decode cL_locks 1162 = .ok (.ifCond .ne 32, 3) := by decide +kernel
theorem dL_locks_1165 : decode cL_locks 1165 = .ok (.aload_n 0, 1) := by decide +kernel
theorem dL_locks_1166 : decode cL_locks 1166 = .ok (.iconst 0, 1) := by decide +kernel
theorem dL_locks_1167 : decode cL_locks 1167 = .ok (.iconst 1, 1) := by decide +kernel
theorem dL_locks_1168 : decode cL_locks 1168 = .ok (.iconst 0, 1) := by decide +kernel
theorem dL_locks_1169 : decode cL_locks 1169 = .ok (.invokevirtual 17, 3) := by decide +kernel
theorem dL_locks_1172 : decode cL_locks 1172 = .ok (.ifCond .ne 22, 3) := by decide +kernel
theorem dL_locks_1175 : decode cL_locks 1175 = .ok (.aload_n 0, 1) := by decide +kernel
theorem dL_locks_1176 : decode cL_locks 1176 = .ok (.invokevirtual 77, 3) := by decide +kernel
theorem dL_locks_1179 : decode cL_locks 1179 = .ok (.iconst 2, 1) := by decide +kernel
theorem dL_locks_1180 : decode cL_locks 1180 = .ok (.if_icmp .ne 14, 3) := by decide +kernel
theorem dL_locks_1183 : decode cL_locks 1183 = .ok (.aload_n 0, 1) := by decide +kernel
theorem dL_locks_1184 : decode cL_locks 1184 = .ok (.invokestatic 92, 3) := by decide +kernel
theorem dL_locks_1187 : decode cL_locks 1187 = .ok (.ifCond .eq 7, 3) := by decide +kernel
theorem dL_locks_1190 : decode cL_locks 1190 = .ok (.iconst 1, 1) := by decide +kernel
theorem dL_locks_1191 : decode cL_locks 1191 = .ok (.goto 4, 3) := by decide +kernel
theorem dL_locks_1194 : decode cL_locks 1194 = .ok (.iconst 0, 1) := by decide +kernel
theorem dL_locks_1195 : decode cL_locks 1195 = .ok (.ireturn, 1) := by decide +kernel
theorem dL_partly_0 : decode cL_partly 0 = .ok (.new 8, 3) := by decide +kernel
theorem dL_partly_3 : decode cL_partly 3 = .ok (.dup, 1) := by decide +kernel
theorem dL_partly_4 : decode cL_partly 4 = .ok (.invokespecial 91, 3) := by decide +kernel
theorem dL_partly_7 : decode cL_partly 7 = .ok (.astore_n 0, 1) := by decide +kernel
theorem dL_partly_8 : decode cL_partly 8 = .ok (.aload_n 0, 1) := by decide +kernel
theorem dL_partly_9 : decode cL_partly 9 = .ok (.invokestatic 99, 3) := by decide +kernel
theorem dL_partly_12 : decode cL_partly 12 = .ok (.ifCond .eq 222, 3) := by decide +kernel
theorem dL_partly_15 : decode cL_partly 15 = .ok (.aload_n 0, 1) := by decide +kernel
theorem dL_partly_16 : decode cL_partly 16 = .ok (.iconst 0, 1) := by decide +kernel
theorem dL_partly_17 : decode cL_partly 17 = .ok (.bipush 13, 2) := by decide +kernel
theorem dL_partly_19 : decode cL_partly 19 = .ok (.iconst 0, 1) := by decide +kernel
theorem dL_partly_20 : decode cL_partly 20 = .ok (.invokevirtual 7, 3) := by decide +kernel
theorem dL_partly_23 : decode cL_partly 23 = .ok (.ifCond .ne 211, 3) := by decide +kernel
theorem dL_partly_26 : decode cL_partly 26 = .ok (.aload_n 0, 1) := by decide +kernel
theorem dL_partly_27 : decode cL_partly 27 = .ok (.iconst 0, 1) := by decide +kernel
theorem dL_partly_28 : decode cL_partly 28 = .ok (.sipush 131, 3) := by decide +kernel
theorem dL_partly_31 : decode cL_partly 31 = .ok (.iconst 3, 1) := by decide +kernel
theorem dL_partly_32 : decode cL_partly 32 = .ok (.iconst (-1), 1) := by decide +kernel
theorem dL_partly_33 : decode cL_partly 33 = .ok (.iconst 0, 1) := by decide +kernel
theorem dL_partly_34 : decode cL_partly 34 = .ok (.invokevirtual 13, 3) := by decide +kernel
theorem dL_partly_37 : decode cL_partly 37 = .ok (.ifCond .ne 197, 3) := by decide +kernel
theorem dL_partly_40 : decode cL_partly 40 = .ok (.aload_n 0, 1) := by decide +kernel
theorem dL_partly_41 : decode cL_partly 41 = .ok (.iconst 2, 1) := by decide +kernel
theorem dL_partly_42 : decode cL_partly 42 = .ok (.bipush 12, 2) := by decide +kernel
theorem dL_partly_44 : decode cL_partly 44 = .ok (.iconst 0, 1) := by decide +kernel
theorem dL_partly_45 : decode cL_partly 45 = .ok (.iconst 0, 1) := by decide +kernel
theorem dL_partly_46 : decode cL_partly 46 = .ok (.bipush 9, 2) := by decide +kernel
theorem dL_partly_48 : decode cL_partly 48 = .ok (.iconst 0, 1) := by decide +kernel
theorem dL_partly_49 : decode cL_partly 49 = .ok (.invokevirtual 48, 3) := by decide +kernel
theorem dL_partly_52 : decode cL_partly 52 = .ok (.ifCond .ne 182, 3) := by decide +kernel
theorem dL_partly_55 : decode cL_partly 55 = .ok (.aload_n 0, 1) := by decide +kernel
theorem dL_partly_56 : decode cL_partly 56 = .ok (.iconst 2, 1) := by decide +kernel
theorem dL_partly_57 : decode cL_partly 57 = .ok (.sipush 131, 3) := by decide +kernel
theorem dL_partly_60 : decode cL_partly 60 = .ok (.iconst 0, 1) := by decide +kernel
theorem dL_partly_61 : decode cL_partly 61 = .ok (.iconst 0, 1) := by decide +kernel
theorem dL_partly_62 : decode cL_partly 62 = .ok (.bipush 9, 2) := by decide +kernel
theorem dL_partly_64 : decode cL_partly 64 = .ok (.iconst 0, 1) := by decide +kernel
theorem dL_partly_65 : decode cL_partly 65 = .ok (.invokevirtual 48, 3) := by decide +kernel
theorem dL_partly_68 : decode cL_partly 68 = .ok (.iconst 1, 1) := by decide +kernel
theorem dL_partly_69 : decode cL_partly 69 = .ok (.if_icmp .ne 165, 3) := by decide +kernel
theorem dL_partly_72 : decode cL_partly 72 = .ok (.aload_n 0, 1) := by decide +kernel
theorem dL_partly_73 : decode cL_partly 73 = .ok (.iconst 3, 1) := by decide +kernel
theorem dL_partly_74 : decode cL_partly 74 = .ok (.bipush 11, 2) := by decide +kernel
theorem dL_partly_76 : decode cL_partly 76 = .ok (.iconst 0, 1) := by decide +kernel
theorem dL_partly_77 : decode cL_partly 77 = .ok (.iconst 0, 1) := by decide +kernel
theorem dL_partly_78 : decode cL_partly 78 = .ok (.bipush 9, 2) := by decide +kernel
theorem dL_partly_80 : decode cL_partly 80 = .ok (.iconst 0, 1) := by decide +kernel
theorem dL_partly_81 : decode cL_partly 81 = .ok (.invokevirtual 48, 3) := by decide +kernel
theorem dL_partly_84 : decode cL_partly 84 = .ok (.iconst 2, 1) := by decide +kernel
theorem dL_partly_85 : decode cL_partly 85 = .ok (.if_icmp .ne 149, 3) := by decide +kernel
theorem dL_partly_88 : decode cL_partly 88 = .ok (.aload_n 0, 1) := by decide +kernel
theorem dL_partly_89 : decode cL_partly 89 = .ok (.iconst 0, 1) := by decide +kernel
theorem dL_partly_90 : decode cL_partly 90 = .ok (.iconst 1, 1) := by decide +kernel
theorem dL_partly_91 : decode cL_partly 91 = .ok (.iconst 0, 1) := by decide +kernel
theorem dL_partly_92 : decode cL_partly 92 = .ok (.invokevirtual 17, 3) := by decide +kernel
theorem dL_partly_95 : decode cL_partly 95 = .ok (.bipush 6, 2) := by decide +kernel
theorem dL_partly_97 : decode cL_partly 97 = .ok (.if_icmp .ne 137, 3) := by decide +kernel
theorem dL_partly_100 : decode cL_partly 100 = .ok (.aload_n 0, 1) := by decide +kernel
theorem dL_partly_101 : decode cL_partly 101 = .ok (.invokevirtual 81, 3) := by decide +kernel
theorem dL_partly_104 : decode cL_partly 104 = .ok (.iconst 3, 1) := by decide +kernel
theorem dL_partly_105 : decode cL_partly 105 = .ok (.if_icmp .ne 129, 3) := by decide +kernel
theorem dL_partly_108 : decode cL_partly 108 = .ok (.aload_n 0, 1) := by decide +kernel
theorem dL_partly_109 : decode cL_partly 109 = .ok (.iconst 0, 1) := by decide +kernel
theorem dL_partly_110 : decode cL_partly 110 = .ok (.invokevirtual 20, 3) := by decide +kernel
theorem dL_partly_113 : decode cL_partly 113 = .ok (.bipush 11, 2) := by decide +kernel
theorem dL_partly_115 : decode cL_partly 115 = .ok (.if_icmp .ne 119, 3) := by decide +kernel
theorem dL_partly_118 : decode cL_partly 118 = .ok (.aload_n 0, 1) := by decide +kernel
theorem dL_partly_119 : decode cL_partly 119 = .ok (.iconst 1, 1) := by decide +kernel
theorem dL_partly_120 : decode cL_partly 120 = .ok (.invokevirtual 20, 3) := by decide +kernel
theorem dL_partly_123 : decode cL_partly 123 = .ok (.bipush 12, 2) := by decide +kernel
theorem dL_partly_125 : decode cL_partly 125 = .ok (.if_icmp .ne 109, 3) := by decide +kernel
theorem dL_partly_128 : decode cL_partly 128 = .ok (.aload_n 0, 1) := by decide +kernel
theorem dL_partly_129 : decode cL_partly 129 = .ok (.iconst 2, 1) := by decide +kernel
theorem dL_partly_130 : decode cL_partly 130 = .ok (.invokevirtual 20, 3) := by decide +kernel
theorem dL_partly_133 : decode cL_partly 133 = .ok (.sipush 131, 3) := by decide +kernel
theorem dL_partly_136 : decode cL_partly 136 = .ok (.if_icmp .ne 98, 3) := by decide +kernel
theorem dL_partly_139 : decode cL_partly 139 = .ok (.aload_n 0, 1) := by decide +kernel
theorem dL_partly_140 : decode cL_partly 140 = .ok (.invokevirtual 77, 3) := by decide +kernel
theorem dL_partly_143 : decode cL_partly 143 = .ok (.iconst 5, 1) := by decide +kernel
theorem dL_partly_144 : decode cL_partly 144 = .ok (.if_icmp .ne 90, 3) := by decide +kernel
theorem dL_partly_147 : decode cL_partly 147 = .ok (.aload_n 0, 1) := by decide +kernel
theorem dL_partly_148 : decode cL_partly 148 = .ok (.bipush 12, 2) := by decide +kernel
theorem dL_partly_150 : decode cL_partly 150 = .ok (.invokevirtual 37, 3) := by decide +kernel
theorem dL_partly_153 : decode cL_partly 153 = .ok (.ifCond .ne 81, 3) := by decide +kernel
theorem dL_partly_156 : decode cL_partly 156 = .ok (.aload_n 0, 1) := by decide +kernel
theorem dL_partly_157 : decode cL_partly 157 = .ok (.iconst 2, 1) := by decide +kernel
theorem dL_partly_158 : decode cL_partly 158 = .ok (.iconst 1, 1) := by decide +kernel
theorem dL_partly_159 : decode cL_partly 159 = .ok (.iconst 3, 1) := by decide +kernel
theorem dL_partly_160 : decode cL_partly 160 = .ok (.invokevirtual 17, 3) := by decide +kernel
theorem dL_partly_163 : decode cL_partly 163 = .ok (.bipush 6, 2) := by decide +kernel
theorem dL_partly_165 : decode cL_partly 165 = .ok (.if_icmp .ne 69, 3) := by decide +kernel
theorem dL_partly_168 : decode cL_partly 168 = .ok (.aload_n 0, 1) := by decide +kernel
theorem dL_partly_169 : decode cL_partly 169 = .ok (.invokevirtual 81, 3) := by decide +kernel
theorem dL_partly_172 : decode cL_partly 172 = .ok (.iconst 1, 1) := by decide +kernel
theorem dL_partly_173 : decode cL_partly 173 = .ok (.if_icmp .ne 61, 3) := by decide +kernel
theorem dL_partly_176 : decode cL_partly 176 = .ok (.aload_n 0, 1) := by decide +kernel
theorem dL_partly_177 : decode cL_partly 177 = .ok (.iconst 0, 1) := by decide +kernel
theorem dL_partly_178 : decode cL_partly 178 = .ok (.invokevirtual 20, 3) := by decide +kernel
theorem dL_partly_181 : decode cL_partly 181 = .ok (.bipush 11, 2) := by decide +kernel
theorem dL_partly_183 : decode cL_partly 183 = .ok (.if_icmp .ne 51, 3) := by decide +kernel
theorem dL_partly_186 : decode cL_partly 186 = .ok (.aload_n 0, 1) := by decide +kernel
theorem dL_partly_187 : decode cL_partly 187 = .ok (.invokevirtual 77, 3) := by decide +kernel
theorem dL_partly_190 : decode cL_partly 190 = .ok (.iconst 2, 1) := by decide +kernel
theorem dL_partly_191 : decode cL_partly 191 = .ok (.if_icmp .ne 43, 3) := by decide +kernel
theorem dL_partly_194 : decode cL_partly 194 = .ok (.aload_n 0, 1) := by decide +kernel
theorem dL_partly_195 : decode cL_partly 195 = .ok (.iconst 3, 1) := by decide +kernel
theorem dL_partly_196 : decode cL_partly 196 = .ok (.iconst 1, 1) := by decide +kernel
theorem dL_partly_197 : decode cL_partly 197 = .ok (.iconst 4, 1) := by decide +kernel
theorem dL_partly_198 : decode cL_partly 198 = .ok (.invokevirtual 17, 3) := by decide +kernel
theorem dL_partly_201 : decode cL_partly 201 = .ok (.ifCond .ne 33, 3) := by decide +kernel
theorem dL_partly_204 : decode cL_partly 204 = .ok (.aload_n 0, 1) := by decide +kernel
theorem dL_partly_205 : decode cL_partly 205 = .ok (.invokevirtual 81, 3) := by decide +kernel
theorem dL_partly_208 : decode cL_partly 208 = .ok (.ifCond .ne 26, 3) := by decide +kernel
theorem dL_partly_211 : decode cL_partly 211 = .ok (.aload_n 0, 1) := by decide +kernel
theorem dL_partly_212 : decode cL_partly 212 = .ok (.invokevirtual 77, 3) := by decide +kernel
theorem dL_partly_215 : decode cL_partly 215 = .ok (.ifCond .ne 19, 3) := by decide +kernel
theorem dL_partly_218 : decode cL_partly 218 = .ok (.aload_n 0, 1) := by decide +kernel
theorem dL_partly_219 : decode cL_partly 219 = .ok (.bipush 11, 2) := by decide +kernel
theorem dL_partly_221 : decode cL_partly 221 = .ok (.invokevirtual 58, 3) := by decide +kernel
theorem dL_partly_224 : decode cL_partly 224 = .ok (.ifCond .ne 10, 3) := by decide +kernel
theorem dL_partly_227 : decode cL_partly 227 = .ok (.aload_n 0, 1) := by decide +kernel
theorem dL_partly_228 : decode cL_partly 228 = .ok (.invokestatic 92, 3) := by decide +kernel
theorem dL_partly_231 : decode cL_partly 231 = .ok (.ifCond .ne 5, 3) := by decide +kernel
theorem dL_partly_234 : decode cL_partly 234 = .ok (.iconst 0, 1) := by decide +kernel
theorem dL_partly_235 : decode cL_partly 235 = .ok (.ireturn, 1) := by decide +kernel
theorem dL_partly_236 : decode cL_partly 236 = .ok (.iconst 1, 1) := by decide +kernel
theorem dL_partly_237 : decode cL_partly 237 = .ok (.istore_n 1, 1) := by decide +kernel
theorem dL_partly_238 : decode cL_partly 238 = .ok (.iload_n 1, 1) := by decide +kernel
theorem dL_partly_239 : decode cL_partly 239 = .ok (.bipush 61, 2) := by decide +kernel
theorem dL_partly_241 : decode cL_partly 241 = .ok (.if_icmp .ge 52, 3) := by decide +kernel
theorem dL_partly_244 : decode cL_partly 244 = .ok (.aload_n 0, 1) := by decide +kernel
theorem dL_partly_245 : decode cL_partly 245 = .ok (.iconst 0, 1) := by decide +kernel
theorem dL_partly_246 : decode cL_partly 246 = .ok (.iload_n 1, 1) := by decide +kernel
theorem dL_partly_247 : decode cL_partly 247 = .ok (.bipush 10, 2) := by decide +kernel
theorem dL_partly_249 : decode cL_partly 249 = .ok (.if_icmp .ge 7, 3) := by decide +kernel
theorem dL_partly_252 : decode cL_partly 252 = .ok (.iload_n 1, 1) := by decide +kernel
theorem dL_partly_253 : decode cL_partly 253 = .ok (.goto 25, 3) := by decide +kernel
theorem dL_partly_256 : decode cL_partly 256 = .ok (.bipush 10, 2) := by decide +kernel
theorem dL_partly_258 : decode cL_partly 258 = .ok (.iload_n 1, 1) := by decide +kernel
theorem dL_partly_259 : decode cL_partly 259 = .ok (.bipush 10, 2) := by decide +kernel
theorem dL_partly_261 : decode cL_partly 261 = .ok (.isub, 1) := by decide +kernel
theorem dL_partly_262 : decode cL_partly 262 = .ok (.bipush 9, 2) := by decide +kernel
theorem dL_partly_264 : decode cL_partly 264 = .ok (.idiv, 1) := by decide +kernel
theorem dL_partly_265 : decode cL_partly 265 = .ok (.iconst 1, 1) := by decide +kernel
theorem dL_partly_266 : decode cL_partly 266 = .ok (.iadd, 1) := by decide +kernel
theorem dL_partly_267 : decode cL_partly 267 = .ok (.imul, 1) := by decide +kernel
theorem dL_partly_268 : decode cL_partly 268 = .ok (.iload_n 1, 1) := by decide +kernel
theorem dL_partly_269 : decode cL_partly 269 = .ok (.bipush 10, 2) := by decide +kernel
theorem dL_partly_271 : decode cL_partly 271 = .ok (.isub, 1) := by decide +kernel
theorem dL_partly_272 : decode cL_partly 272 = .ok (.bipush 9, 2) := by decide +kernel
theorem dL_partly_274 : decode cL_partly 274 = .ok (.irem, 1) := by decide +kernel
theorem dL_partly_275 : decode cL_partly 275 = .ok (.iadd, 1) := by decide +kernel
theorem dL_partly_276 : decode cL_partly 276 = .ok (.iconst 1, 1) := by decide +kernel
theorem dL_partly_277 : decode cL_partly 277 = .ok (.iadd, 1) := by decide +kernel
theorem dL_partly_278 : decode cL_partly 278 = .ok (.iconst 0, 1) := by decide +kernel
theorem dL_partly_279 : decode cL_partly 279 = .ok (.invokevirtual 7, 3) := by decide +kernel
theorem dL_partly_282 : decode cL_partly 282 = .ok (.ifCond .eq 5, 3) := by decide +kernel
theorem dL_partly_285 : decode cL_partly 285 = .ok (.iconst 0, 1) := by decide +kernel
theorem dL_partly_286 : decode cL_partly 286 = .ok (.ireturn, 1) := by decide +kernel
theorem dL_partly_287 : decode cL_partly 287 = .ok (.iinc 1 1, 3) := by decide +kernel
theorem dL_partly_290 : decode cL_partly 290 = .ok (.goto (-52), 3) := by decide +kernel
theorem dL_partly_293 : decode cL_partly 293 = .ok (.aload_n 0, 1) := by decide +kernel
theorem dL_partly_294 : decode cL_partly 294 = .ok (.invokevirtual 77, 3) := by decide +kernel
theorem dL_partly_297 : decode cL_partly 297 = .ok (.bipush 60, 2) := by decide +kernel
theorem dL_partly_299 : decode cL_partly 299 = .ok (.if_icmp .ne 153, 3) := by decide +kernel
theorem dL_partly_302 : decode cL_partly 302 = .ok (.aload_n 0, 1) := by decide +kernel
theorem dL_partly_303 : decode cL_partly 303 = .ok (.iconst 0, 1) := by decide +kernel
theorem dL_partly_304 : decode cL_partly 304 = .ok (.bipush 67, 2) := by decide +kernel
theorem dL_partly_306 : decode cL_partly 306 = .ok (.iconst 0, 1) := by decide +kernel
theorem dL_partly_307 : decode cL_partly 307 = .ok (.invokevirtual 7, 3) := by decide +kernel
theorem dL_partly_310 : decode cL_partly 310 = .ok (.iconst 5, 1) := by decide +kernel
theorem dL_partly_311 : decode cL_partly 311 = .ok (.if_icmp .ne 141, 3) := by decide +kernel
theorem dL_partly_314 : decode cL_partly 314 = .ok (.aload_n 0, 1) := by decide +kernel
theorem dL_partly_315 : decode cL_partly 315 = .ok (.iconst 0, 1) := by decide +kernel
theorem dL_partly_316 : decode cL_partly 316 = .ok (.bipush 67, 2) := by decide +kernel
theorem dL_partly_318 : decode cL_partly 318 = .ok (.iconst 1, 1) := by decide +kernel
theorem dL_partly_319 : decode cL_partly 319 = .ok (.iconst (-1), 1) := by decide +kernel
theorem dL_partly_320 : decode cL_partly 320 = .ok (.iconst 0, 1) := by decide +kernel
theorem dL_partly_321 : decode cL_partly 321 = .ok (.invokevirtual 13, 3) := by decide +kernel
theorem dL_partly_324 : decode cL_partly 324 = .ok (.iconst 5, 1) := by decide +kernel
theorem dL_partly_325 : decode cL_partly 325 = .ok (.if_icmp .ne 127, 3) := by decide +kernel
theorem dL_partly_328 : decode cL_partly 328 = .ok (.aload_n 0, 1) := by decide +kernel
theorem dL_partly_329 : decode cL_partly 329 = .ok (.bipush 11, 2) := by decide +kernel
theorem dL_partly_331 : decode cL_partly 331 = .ok (.iconst 0, 1) := by decide +kernel
theorem dL_partly_332 : decode cL_partly 332 = .ok (.bipush 67, 2) := by decide +kernel
theorem dL_partly_334 : decode cL_partly 334 = .ok (.iconst 5, 1) := by decide +kernel
theorem dL_partly_335 : decode cL_partly 335 = .ok (.iconst 0, 1) := by decide +kernel
theorem dL_partly_336 : decode cL_partly 336 = .ok (.invokestatic 85, 3) := by decide +kernel
theorem dL_partly_339 : decode cL_partly 339 = .ok (.sipush (-9003), 3) := by decide +kernel
theorem dL_partly_342 : decode cL_partly 342 = .ok (.if_icmp .ne 110, 3) := by decide +kernel
theorem dL_partly_345 : decode cL_partly 345 = .ok (.aload_n 0, 1) := by decide +kernel
theorem dL_partly_346 : decode cL_partly 346 = .ok (.iconst 0, 1) := by decide +kernel
theorem dL_partly_347 : decode cL_partly 347 = .ok (.bipush 11, 2) := by decide +kernel
theorem dL_partly_349 : decode cL_partly 349 = .ok (.bipush 67, 2) := by decide +kernel
theorem dL_partly_351 : decode cL_partly 351 = .ok (.iconst 0, 1) := by decide +kernel
theorem dL_partly_352 : decode cL_partly 352 = .ok (.iconst 0, 1) := by decide +kernel
theorem dL_partly_353 : decode cL_partly 353 = .ok (.invokevirtual 24, 3) := by decide +kernel
theorem dL_partly_356 : decode cL_partly 356 = .ok (.iconst 5, 1) := by decide +kernel
theorem dL_partly_357 : decode cL_partly 357 = .ok (.if_icmp .ne 95, 3) := by decide +kernel
theorem dL_partly_360 : decode cL_partly 360 = .ok (.aload_n 0, 1) := by decide +kernel
theorem dL_partly_361 : decode cL_partly 361 = .ok (.iconst 0, 1) := by decide +kernel
theorem dL_partly_362 : decode cL_partly 362 = .ok (.bipush 11, 2) := by decide +kernel
theorem dL_partly_364 : decode cL_partly 364 = .ok (.bipush 12, 2) := by decide +kernel
theorem dL_partly_366 : decode cL_partly 366 = .ok (.iconst 1, 1) := by decide +kernel
theorem dL_partly_367 : decode cL_partly 367 = .ok (.iconst 0, 1) := by decide +kernel
theorem dL_partly_368 : decode cL_partly 368 = .ok (.invokevirtual 24, 3) := by decide +kernel
theorem dL_partly_371 : decode cL_partly 371 = .ok (.ifCond .ne 81, 3) := by decide +kernel
theorem dL_partly_374 : decode cL_partly 374 = .ok (.aload_n 0, 1) := by decide +kernel
theorem dL_partly_375 : decode cL_partly 375 = .ok (.iconst 0, 1) := by decide +kernel
theorem dL_partly_376 : decode cL_partly 376 = .ok (.iconst 1, 1) := by decide +kernel
theorem dL_partly_377 : decode cL_partly 377 = .ok (.bipush 9, 2) := by decide +kernel
theorem dL_partly_379 : decode cL_partly 379 = .ok (.iconst 1, 1) := by decide +kernel
theorem dL_partly_380 : decode cL_partly 380 = .ok (.iconst 0, 1) := by decide +kernel
theorem dL_partly_381 : decode cL_partly 381 = .ok (.invokevirtual 24, 3) := by decide +kernel
theorem dL_partly_384 : decode cL_partly 384 = .ok (.iconst 5, 1) := by decide +kernel
theorem dL_partly_385 : decode cL_partly 385 = .ok (.if_icmp .ne 67, 3) := by decide +kernel
theorem dL_partly_388 : decode cL_partly 388 = .ok (.aload_n 0, 1) := by decide +kernel
theorem dL_partly_389 : decode cL_partly 389 = .ok (.iconst 0, 1) := by decide +kernel
theorem dL_partly_390 : decode cL_partly 390 = .ok (.bipush 61, 2) := by decide +kernel
theorem dL_partly_392 : decode cL_partly 392 = .ok (.bipush 67, 2) := by decide +kernel
theorem dL_partly_394 : decode cL_partly 394 = .ok (.iconst 0, 1) := by decide +kernel
theorem dL_partly_395 : decode cL_partly 395 = .ok (.iconst 0, 1) := by decide +kernel
theorem dL_partly_396 : decode cL_partly 396 = .ok (.invokevirtual 28, 3) := by decide +kernel
theorem dL_partly_399 : decode cL_partly 399 = .ok (.ifCond .ne 53, 3) := by decide +kernel
theorem dL_partly_402 : decode cL_partly 402 = .ok (.aload_n 0, 1) := by decide +kernel
theorem dL_partly_403 : decode cL_partly 403 = .ok (.iconst 0, 1) := by decide +kernel
theorem dL_partly_404 : decode cL_partly 404 = .ok (.iconst 2, 1) := by decide +kernel
theorem dL_partly_405 : decode cL_partly 405 = .ok (.iconst 0, 1) := by decide +kernel
theorem dL_partly_406 : decode cL_partly 406 = .ok (.invokevirtual 17, 3) := by decide +kernel
theorem dL_partly_409 : decode cL_partly 409 = .ok (.ifCond .ne 43, 3) := by decide +kernel
theorem dL_partly_412 : decode cL_partly 412 = .ok (.aload_n 0, 1) := by decide +kernel
theorem dL_partly_413 : decode cL_partly 413 = .ok (.invokevirtual 77, 3) := by decide +kernel
theorem dL_partly_416 : decode cL_partly 416 = .ok (.bipush 50, 2) := by decide +kernel
theorem dL_partly_418 : decode cL_partly 418 = .ok (.if_icmp .ne 34, 3) := by decide +kernel
theorem dL_partly_421 : decode cL_partly 421 = .ok (.aload_n 0, 1) := by decide +kernel
theorem dL_partly_422 : decode cL_partly 422 = .ok (.iconst 0, 1) := by decide +kernel
theorem dL_partly_423 : decode cL_partly 423 = .ok (.iconst 1, 1) := by decide +kernel
theorem dL_partly_424 : decode cL_partly 424 = .ok (.iconst 2, 1) := by decide +kernel
theorem dL_partly_425 : decode cL_partly 425 = .ok (.iconst 0, 1) := by decide +kernel
theorem dL_partly_426 : decode cL_partly 426 = .ok (.iconst 0, 1) := by decide +kernel
theorem dL_partly_427 : decode cL_partly 427 = .ok (.invokevirtual 24, 3) := by decide +kernel
theorem dL_partly_430 : decode cL_partly 430 = .ok (.ifCond .ne 22, 3) := by decide +kernel
theorem dL_partly_433 : decode cL_partly 433 = .ok (.aload_n 0, 1) := by decide +kernel
theorem dL_partly_434 : decode cL_partly 434 = .ok (.iconst 2, 1) := by decide +kernel
theorem dL_partly_435 : decode cL_partly 435 = .ok (.invokevirtual 37, 3) := by decide +kernel
theorem dL_partly_438 : decode cL_partly 438 = .ok (.bipush 9, 2) := by decide +kernel
theorem dL_partly_440 : decode cL_partly 440 = .ok (.if_icmp .ne 12, 3) := by decide +kernel
theorem dL_partly_443 : decode cL_partly 443 = .ok (.aload_n 0, 1) := by decide +kernel
theorem dL_partly_444 : decode cL_partly 444 = .ok (.invokevirtual 77, 3) := by decide +kernel
theorem dL_partly_447 : decode cL_partly 447 = .ok (.bipush 60, 2) := by decide +kernel
theorem dL_partly_449 : decode cL_partly 449 = .ok (.if_icmp .eq 5, 3) := by decide +kernel
theorem dL_partly_452 : decode cL_partly 452 = .ok (.iconst 0, 1) := by decide +kernel
theorem dL_partly_453 : decode cL_partly 453 = .ok (.ireturn, 1) := by decide +kernel
theorem dL_partly_454 : decode cL_partly 454 = .ok (.iconst 3, 1) := by decide +kernel
theorem dL_partly_455 : decode cL_partly 455 = .ok (.istore_n 1, 1) := by decide +kernel
theorem dL_partly_456 : decode cL_partly 456 = .ok (.iload_n 1, 1) := by decide +kernel
theorem dL_partly_457 : decode cL_partly 457 = .ok (.bipush 31, 2) := by decide +kernel
theorem dL_partly_459 : decode cL_partly 459 = .ok (.if_icmp .ge 37, 3) := by decide +kernel
theorem dL_partly_462 : decode cL_partly 462 = .ok (.aload_n 0, 1) := by decide +kernel
theorem dL_partly_463 : decode cL_partly 463 = .ok (.bipush 19, 2) := by decide +kernel
theorem dL_partly_465 : decode cL_partly 465 = .ok (.iconst 0, 1) := by decide +kernel
theorem dL_partly_466 : decode cL_partly 466 = .ok (.iconst 3, 1) := by decide +kernel
theorem dL_partly_467 : decode cL_partly 467 = .ok (.iconst 1, 1) := by decide +kernel
theorem dL_partly_468 : decode cL_partly 468 = .ok (.iconst 0, 1) := by decide +kernel
theorem dL_partly_469 : decode cL_partly 469 = .ok (.invokestatic 85, 3) := by decide +kernel
theorem dL_partly_472 : decode cL_partly 472 = .ok (.iload_n 1, 1) := by decide +kernel
theorem dL_partly_473 : decode cL_partly 473 = .ok (.bipush 30, 2) := by decide +kernel
theorem dL_partly_475 : decode cL_partly 475 = .ok (.if_icmp .ge 7, 3) := by decide +kernel
theorem dL_partly_478 : decode cL_partly 478 = .ok (.iload_n 1, 1) := by decide +kernel
theorem dL_partly_479 : decode cL_partly 479 = .ok (.goto 6, 3) := by decide +kernel
theorem dL_partly_482 : decode cL_partly 482 = .ok (.sipush (-9003), 3) := by decide +kernel
theorem dL_partly_485 : decode cL_partly 485 = .ok (.if_icmp .eq 5, 3) := by decide +kernel
theorem dL_partly_488 : decode cL_partly 488 = .ok (.iconst 0, 1) := by decide +kernel
theorem dL_partly_489 : decode cL_partly 489 = .ok (.ireturn, 1) := by decide +kernel
theorem dL_partly_490 : decode cL_partly 490 = .ok (.iinc 1 1, 3) := by decide +kernel
theorem dL_partly_493 : decode cL_partly 493 = .ok (.goto (-37), 3) := by decide +kernel
theorem dL_partly_496 : decode cL_partly 496 = .ok (.aload_n 0, 1) := by decide +kernel
theorem dL_partly_497 : decode cL_partly 497 = .ok (.iconst 0, 1) := by decide +kernel
theorem dL_partly_498 : decode cL_partly 498 = .ok (.bipush 9, 2) := by decide +kernel
theorem dL_partly_500 : decode cL_partly 500 = .ok (.iconst 0, 1) := by decide +kernel
theorem dL_partly_501 : decode cL_partly 501 = .ok (.invokevirtual 17, 3) := by decide +kernel
theorem dL_partly_504 : decode cL_partly 504 = .ok (.ifCond .ne 159, 3) := by decide +kernel
theorem dL_partly_507 : decode cL_partly 507 = .ok (.aload_n 0, 1) := by decide +kernel
theorem dL_partly_508 : decode cL_partly 508 = .ok (.iconst 1, 1) := by decide +kernel
theorem dL_partly_509 : decode cL_partly 509 = .ok (.bipush 9, 2) := by decide +kernel
theorem dL_partly_511 : decode cL_partly 511 = .ok (.iconst 4, 1) := by decide +kernel
theorem dL_partly_512 : decode cL_partly 512 = .ok (.iconst (-1), 1) := by decide +kernel
theorem dL_partly_513 : decode cL_partly 513 = .ok (.iconst 0, 1) := by decide +kernel
theorem dL_partly_514 : decode cL_partly 514 = .ok (.invokevirtual 13, 3) := by decide +kernel
theorem dL_partly_517 : decode cL_partly 517 = .ok (.ifCond .ne 146, 3) := by decide +kernel
theorem dL_partly_520 : decode cL_partly 520 = .ok (.aload_n 0, 1) := by decide +kernel
theorem dL_partly_521 : decode cL_partly 521 = .ok (.bipush 9, 2) := by decide +kernel
theorem dL_partly_523 : decode cL_partly 523 = .ok (.invokevirtual 65, 3) := by decide +kernel
theorem dL_partly_526 : decode cL_partly 526 = .ok (.ifCond .ne 137, 3) := by decide +kernel
theorem dL_partly_529 : decode cL_partly 529 = .ok (.aload_n 0, 1) := by decide +kernel
theorem dL_partly_530 : decode cL_partly 530 = .ok (.bipush 9, 2) := by decide +kernel
theorem dL_partly_532 : decode cL_partly 532 = .ok (.invokevirtual 65, 3) := by decide +kernel
theorem dL_partly_535 : decode cL_partly 535 = .ok (.aload_n 0, 1) := by decide +kernel
theorem dL_partly_536 : decode cL_partly 536 = .ok (.bipush 9, 2) := by decide +kernel
theorem dL_partly_538 : decode cL_partly 538 = .ok (.invokevirtual 65, 3) := by decide +kernel
theorem dL_partly_541 : decode cL_partly 541 = .ok (.iadd, 1) := by decide +kernel
theorem dL_partly_542 : decode cL_partly 542 = .ok (.aload_n 0, 1) := by decide +kernel
theorem dL_partly_543 : decode cL_partly 543 = .ok (.bipush 9, 2) := by decide +kernel
theorem dL_partly_545 : decode cL_partly 545 = .ok (.invokevirtual 65, 3) := by decide +kernel
theorem dL_partly_548 : decode cL_partly 548 = .ok (.iadd, 1) := by decide +kernel
theorem dL_partly_549 : decode cL_partly 549 = .ok (.aload_n 0, 1) := by decide +kernel
theorem dL_partly_550 : decode cL_partly 550 = .ok (.bipush 9, 2) := by decide +kernel
theorem dL_partly_552 : decode cL_partly 552 = .ok (.invokevirtual 65, 3) := by decide +kernel
theorem dL_partly_555 : decode cL_partly 555 = .ok (.iadd, 1) := by decide +kernel
theorem dL_partly_556 : decode cL_partly 556 = .ok (.bipush 10, 2) := by decide +kernel
theorem dL_partly_558 : decode cL_partly 558 = .ok (.if_icmp .ne 105, 3) := by decide +kernel
theorem dL_partly_561 : decode cL_partly 561 = .ok (.aload_n 0, 1) := by decide +kernel
theorem dL_partly_562 : decode cL_partly 562 = .ok (.bipush 9, 2) := by decide +kernel
theorem dL_partly_564 : decode cL_partly 564 = .ok (.invokevirtual 65, 3) := by decide +kernel
theorem dL_partly_567 : decode cL_partly 567 = .ok (.aload_n 0, 1) := by decide +kernel
theorem dL_partly_568 : decode cL_partly 568 = .ok (.bipush 9, 2) := by decide +kernel
theorem dL_partly_570 : decode cL_partly 570 = .ok (.invokevirtual 65, 3) := by decide +kernel
theorem dL_partly_573 : decode cL_partly 573 = .ok (.iadd, 1) := by decide +kernel
theorem dL_partly_574 : decode cL_partly 574 = .ok (.aload_n 0, 1) := by decide +kernel
theorem dL_partly_575 : decode cL_partly 575 = .ok (.bipush 9, 2) := by decide +kernel
theorem dL_partly_577 : decode cL_partly 577 = .ok (.invokevirtual 65, 3) := by decide +kernel
theorem dL_partly_580 : decode cL_partly 580 = .ok (.iadd, 1) := by decide +kernel
theorem dL_partly_581 : decode cL_partly 581 = .ok (.aload_n 0, 1) := by decide +kernel
theorem dL_partly_582 : decode cL_partly 582 = .ok (.bipush 9, 2) := by decide +kernel
theorem dL_partly_584 : decode cL_partly 584 = .ok (.invokevirtual 65, 3) := by decide +kernel
theorem dL_partly_587 : decode cL_partly 587 = .ok (.iadd, 1) := by decide +kernel
theorem dL_partly_588 : decode cL_partly 588 = .ok (.aload_n 0, 1) := by decide +kernel
theorem dL_partly_589 : decode cL_partly 589 = .ok (.bipush 9, 2) := by decide +kernel
theorem dL_partly_591 : decode cL_partly 591 = .ok (.invokevirtual 65, 3) := by decide +kernel
theorem dL_partly_594 : decode cL_partly 594 = .ok (.iadd, 1) := by decide +kernel
theorem dL_partly_595 : decode cL_partly 595 = .ok (.bipush 35, 2) := by decide +kernel
theorem dL_partly_597 : decode cL_partly 597 = .ok (.if_icmp .ne 66, 3) := by decide +kernel
theorem dL_partly_600 : decode cL_partly 600 = .ok (.aload_n 0, 1) := by decide +kernel
theorem dL_partly_601 : decode cL_partly 601 = .ok (.bipush 16, 2) := by decide +kernel
theorem dL_partly_603 : decode cL_partly 603 = .ok (.bipush 9, 2) := by decide +kernel
theorem dL_partly_605 : decode cL_partly 605 = .ok (.iconst 0, 1) := by decide +kernel
theorem dL_partly_606 : decode cL_partly 606 = .ok (.iconst 0, 1) := by decide +kernel
theorem dL_partly_607 : decode cL_partly 607 = .ok (.iconst 0, 1) := by decide +kernel
theorem dL_partly_608 : decode cL_partly 608 = .ok (.invokestatic 85, 3) := by decide +kernel
theorem dL_partly_611 : decode cL_partly 611 = .ok (.sipush (-9003), 3) := by decide +kernel
theorem dL_partly_614 : decode cL_partly 614 = .ok (.if_icmp .ne 49, 3) := by decide +kernel
theorem dL_partly_617 : decode cL_partly 617 = .ok (.aload_n 0, 1) := by decide +kernel
theorem dL_partly_618 : decode cL_partly 618 = .ok (.bipush 10, 2) := by decide +kernel
theorem dL_partly_620 : decode cL_partly 620 = .ok (.invokevirtual 55, 3) := by decide +kernel
theorem dL_partly_623 : decode cL_partly 623 = .ok (.bipush 27, 2) := by decide +kernel
theorem dL_partly_625 : decode cL_partly 625 = .ok (.if_icmp .ne 38, 3) := by decide +kernel
theorem dL_partly_628 : decode cL_partly 628 = .ok (.aload_n 0, 1) := by decide +kernel
theorem dL_partly_629 : decode cL_partly 629 = .ok (.iconst 3, 1) := by decide +kernel
theorem dL_partly_630 : decode cL_partly 630 = .ok (.invokevirtual 58, 3) := by decide +kernel
theorem dL_partly_633 : decode cL_partly 633 = .ok (.ifCond .ne 30, 3) := by decide +kernel
theorem dL_partly_636 : decode cL_partly 636 = .ok (.aload_n 0, 1) := by decide +kernel
theorem dL_partly_637 : decode cL_partly 637 = .ok (.bipush 11, 2) := by decide +kernel
theorem dL_partly_639 : decode cL_partly 639 = .ok (.iconst 0, 1) := by decide +kernel
theorem dL_partly_640 : decode cL_partly 640 = .ok (.iconst 3, 1) := by decide +kernel
theorem dL_partly_641 : decode cL_partly 641 = .ok (.iconst 5, 1) := by decide +kernel
theorem dL_partly_642 : decode cL_partly 642 = .ok (.iconst 0, 1) := by decide +kernel
theorem dL_partly_643 : decode cL_partly 643 = .ok (.invokestatic 85, 3) := by decide +kernel
theorem dL_partly_646 : decode cL_partly 646 = .ok (.sipush (-9003), 3) := by decide +kernel
theorem dL_partly_649 : decode cL_partly 649 = .ok (.if_icmp .ne 14, 3) := by decide +kernel
theorem dL_partly_652 : decode cL_partly 652 = .ok (.aload_n 0, 1) := by decide +kernel
theorem dL_partly_653 : decode cL_partly 653 = .ok (.invokestatic 92, 3) := by decide +kernel
theorem dL_partly_656 : decode cL_partly 656 = .ok (.ifCond .eq 7, 3) := by decide +kernel
theorem dL_partly_659 : decode cL_partly 659 = .ok (.iconst 1, 1) := by decide +kernel
theorem dL_partly_660 : decode cL_partly 660 = .ok (.goto 4, 3) := by decide +kernel
theorem dL_partly_663 : decode cL_partly 663 = .ok (.iconst 0, 1) := by decide +kernel
theorem dL_partly_664 : decode cL_partly 664 = .ok (.ireturn, 1) := by decide +kernel
