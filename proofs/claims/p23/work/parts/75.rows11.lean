theorem dL_partly_101 : decode cL_partly 101 = .ok (.invokevirtual 81, 3) := by decide +kernel
theorem dL_partly_104 : decode cL_partly 104 = .ok (.iconst 3, 1) := by decide +kernel
theorem dL_partly_105 : decode cL_partly 105 = .ok (.if_icmp .ne 129, 3) := by decide +kernel
theorem dL_partly_108 : decode cL_partly 108 = .ok (.aload_n 0, 1) := by decide +kernel
theorem dL_partly_109 : decode cL_partly 109 = .ok (.iconst 0, 1) := by decide +kernel
theorem dL_partly_110 : decode cL_partly 110 = .ok (.invokevirtual 20, 3) := by decide +kernel
theorem dL_partly_113 : decode cL_partly 113 = .ok (.bipush 11, 2) := by decide +kernel
theorem dL_partly_115 : decode cL_partly 115 = .ok (.if_icmp .ne 119, 3) := by decide +kernel
theorem dL_partly_118 : decode cL_partly 118 = .ok (.aload_n 0, 1) := by decide +kernel
theorem dL_partly_119 : decode cL_partly 119 = .ok (.iconst 1, 1) := by decide +kernel
theorem dL_partly_120 : decode cL_partly 120 = .ok (.invokevirtual 20, 3) := by decide +kernel
theorem dL_partly_123 : decode cL_partly 123 = .ok (.bipush 12, 2) := by decide +kernel
theorem dL_partly_125 : decode cL_partly 125 = .ok (.if_icmp .ne 109, 3) := by decide +kernel
theorem dL_partly_128 : decode cL_partly 128 = .ok (.aload_n 0, 1) := by decide +kernel
theorem dL_partly_129 : decode cL_partly 129 = .ok (.iconst 2, 1) := by decide +kernel
theorem dL_partly_130 : decode cL_partly 130 = .ok (.invokevirtual 20, 3) := by decide +kernel
theorem dL_partly_133 : decode cL_partly 133 = .ok (.sipush 131, 3) := by decide +kernel
theorem dL_partly_136 : decode cL_partly 136 = .ok (.if_icmp .ne 98, 3) := by decide +kernel
theorem dL_partly_139 : decode cL_partly 139 = .ok (.aload_n 0, 1) := by decide +kernel
theorem dL_partly_140 : decode cL_partly 140 = .ok (.invokevirtual 77, 3) := by decide +kernel
theorem dL_partly_143 : decode cL_partly 143 = .ok (.iconst 5, 1) := by decide +kernel
theorem dL_partly_144 : decode cL_partly 144 = .ok (.if_icmp .ne 90, 3) := by decide +kernel
theorem dL_partly_147 : decode cL_partly 147 = .ok (.aload_n 0, 1) := by decide +kernel
theorem dL_partly_148 : decode cL_partly 148 = .ok (.bipush 12, 2) := by decide +kernel
theorem dL_partly_150 : decode cL_partly 150 = .ok (.invokevirtual 37, 3) := by decide +kernel
theorem dL_partly_153 : decode cL_partly 153 = .ok (.ifCond .ne 81, 3) := by decide +kernel
theorem dL_partly_156 : decode cL_partly 156 = .ok (.aload_n 0, 1) := by decide +kernel
theorem dL_partly_157 : decode cL_partly 157 = .ok (.iconst 2, 1) := by decide +kernel
theorem dL_partly_158 : decode cL_partly 158 = .ok (.iconst 1, 1) := by decide +kernel
theorem dL_partly_159 : decode cL_partly 159 = .ok (.iconst 3, 1) := by decide +kernel
theorem dL_partly_160 : decode cL_partly 160 = .ok (.invokevirtual 17, 3) := by decide +kernel
theorem dL_partly_163 : decode cL_partly 163 = .ok (.bipush 6, 2) := by decide +kernel
theorem dL_partly_165 : decode cL_partly 165 = .ok (.if_icmp .ne 69, 3) := by decide +kernel
theorem dL_partly_168 : decode cL_partly 168 = .ok (.aload_n 0, 1) := by decide +kernel
theorem dL_partly_169 : decode cL_partly 169 = .ok (.invokevirtual 81, 3) := by decide +kernel
theorem dL_partly_172 : decode cL_partly 172 = .ok (.iconst 1, 1) := by decide +kernel
theorem dL_partly_173 : decode cL_partly 173 = .ok (.if_icmp .ne 61, 3) := by decide +kernel
theorem dL_partly_176 : decode cL_partly 176 = .ok (.aload_n 0, 1) := by decide +kernel
theorem dL_partly_177 : decode cL_partly 177 = .ok (.iconst 0, 1) := by decide +kernel
theorem dL_partly_178 : decode cL_partly 178 = .ok (.invokevirtual 20, 3) := by decide +kernel
theorem dL_partly_181 : decode cL_partly 181 = .ok (.bipush 11, 2) := by decide +kernel
theorem dL_partly_183 : decode cL_partly 183 = .ok (.if_icmp .ne 51, 3) := by decide +kernel
theorem dL_partly_186 : decode cL_partly 186 = .ok (.aload_n 0, 1) := by decide +kernel
theorem dL_partly_187 : decode cL_partly 187 = .ok (.invokevirtual 77, 3) := by decide +kernel
theorem dL_partly_190 : decode cL_partly 190 = .ok (.iconst 2, 1) := by decide +kernel
theorem dL_partly_191 : decode cL_partly 191 = .ok (.if_icmp .ne 43, 3) := by decide +kernel
theorem dL_partly_194 : decode cL_partly 194 = .ok (.aload_n 0, 1) := by decide +kernel
theorem dL_partly_195 : decode cL_partly 195 = .ok (.iconst 3, 1) := by decide +kernel
theorem dL_partly_196 : decode cL_partly 196 = .ok (.iconst 1, 1) := by decide +kernel
theorem dL_partly_197 : decode cL_partly 197 = .ok (.iconst 4, 1) := by decide +kernel
theorem dL_partly_198 : decode cL_partly 198 = .ok (.invokevirtual 17, 3) := by decide +kernel
theorem dL_partly_201 : decode cL_partly 201 = .ok (.ifCond .ne 33, 3) := by decide +kernel
theorem dL_partly_204 : decode cL_partly 204 = .ok (.aload_n 0, 1) := by decide +kernel
theorem dL_partly_205 : decode cL_partly 205 = .ok (.invokevirtual 81, 3) := by decide +kernel
theorem dL_partly_208 : decode cL_partly 208 = .ok (.ifCond .ne 26, 3) := by decide +kernel
theorem dL_partly_211 : decode cL_partly 211 = .ok (.aload_n 0, 1) := by decide +kernel
theorem dL_partly_212 : decode cL_partly 212 = .ok (.invokevirtual 77, 3) := by decide +kernel
theorem dL_partly_215 : decode cL_partly 215 = .ok (.ifCond .ne 19, 3) := by decide +kernel
theorem dL_partly_218 : decode cL_partly 218 = .ok (.aload_n 0, 1) := by decide +kernel
theorem dL_partly_219 : decode cL_partly 219 = .ok (.bipush 11, 2) := by decide +kernel
theorem dL_partly_221 : decode cL_partly 221 = .ok (.invokevirtual 58, 3) := by decide +kernel
theorem dL_partly_224 : decode cL_partly 224 = .ok (.ifCond .ne 10, 3) := by decide +kernel
theorem dL_partly_227 : decode cL_partly 227 = .ok (.aload_n 0, 1) := by decide +kernel
theorem dL_partly_228 : decode cL_partly 228 = .ok (.invokestatic 92, 3) := by decide +kernel
theorem dL_partly_231 : decode cL_partly 231 = .ok (.ifCond .ne 5, 3) := by decide +kernel
theorem dL_partly_234 : decode cL_partly 234 = .ok (.iconst 0, 1) := by decide +kernel
theorem dL_partly_235 : decode cL_partly 235 = .ok (.ireturn, 1) := by decide +kernel
theorem dL_partly_236 : decode cL_partly 236 = .ok (.iconst 1, 1) := by decide +kernel
theorem dL_partly_237 : decode cL_partly 237 = .ok (.istore_n 1, 1) := by decide +kernel
theorem dL_partly_238 : decode cL_partly 238 = .ok (.iload_n 1, 1) := by decide +kernel
theorem dL_partly_239 : decode cL_partly 239 = .ok (.bipush 61, 2) := by decide +kernel
theorem dL_partly_241 : decode cL_partly 241 = .ok (.if_icmp .ge 52, 3) := by decide +kernel
theorem dL_partly_244 : decode cL_partly 244 = .ok (.aload_n 0, 1) := by decide +kernel
theorem dL_partly_245 : decode cL_partly 245 = .ok (.iconst 0, 1) := by decide +kernel
theorem dL_partly_246 : decode cL_partly 246 = .ok (.iload_n 1, 1) := by decide +kernel
theorem dL_partly_247 : decode cL_partly 247 = .ok (.bipush 10, 2) := by decide +kernel
theorem dL_partly_249 : decode cL_partly 249 = .ok (.if_icmp .ge 7, 3) := by decide +kernel
theorem dL_partly_252 : decode cL_partly 252 = .ok (.iload_n 1, 1) := by decide +kernel
theorem dL_partly_253 : decode cL_partly 253 = .ok (.goto 25, 3) := by decide +kernel
theorem dL_partly_256 : decode cL_partly 256 = .ok (.bipush 10, 2) := by decide +kernel
theorem dL_partly_258 : decode cL_partly 258 = .ok (.iload_n 1, 1) := by decide +kernel
theorem dL_partly_259 : decode cL_partly 259 = .ok (.bipush 10, 2) := by decide +kernel
theorem dL_partly_261 : decode cL_partly 261 = .ok (.isub, 1) := by decide +kernel
theorem dL_partly_262 : decode cL_partly 262 = .ok (.bipush 9, 2) := by decide +kernel
theorem dL_partly_264 : decode cL_partly 264 = .ok (.idiv, 1) := by decide +kernel
theorem dL_partly_265 : decode cL_partly 265 = .ok (.iconst 1, 1) := by decide +kernel
theorem dL_partly_266 : decode cL_partly 266 = .ok (.iadd, 1) := by decide +kernel
theorem dL_partly_267 : decode cL_partly 267 = .ok (.imul, 1) := by decide +kernel
theorem dL_partly_268 : decode cL_partly 268 = .ok (.iload_n 1, 1) := by decide +kernel
theorem dL_partly_269 : decode cL_partly 269 = .ok (.bipush 10, 2) := by decide +kernel
theorem dL_partly_271 : decode cL_partly 271 = .ok (.isub, 1) := by decide +kernel
theorem dL_partly_272 : decode cL_partly 272 = .ok (.bipush 9, 2) := by decide +kernel
theorem dL_partly_274 : decode cL_partly 274 = .ok (.irem, 1) := by decide +kernel
theorem dL_partly_275 : decode cL_partly 275 = .ok (.iadd, 1) := by decide +kernel
theorem dL_partly_276 : decode cL_partly 276 = .ok (.iconst 1, 1) := by decide +kernel
theorem dL_partly_277 : decode cL_partly 277 = .ok (.iadd, 1) := by decide +kernel
theorem dL_partly_278 : decode cL_partly 278 = .ok (.iconst 0, 1) := by decide +kernel
theorem dL_partly_279 : decode cL_partly 279 = .ok (.invokevirtual 7, 3) := by decide +kernel
theorem dL_partly_282 : decode cL_partly 282 = .ok (.ifCond .eq 5, 3) := by decide +kernel
theorem dL_partly_285 : decode cL_partly 285 = .ok (.iconst 0, 1) := by decide +kernel
theorem dL_partly_286 : decode cL_partly 286 = .ok (.ireturn, 1) := by decide +kernel
theorem dL_partly_287 : decode cL_partly 287 = .ok (.iinc 1 1, 3) := by decide +kernel
theorem dL_partly_290 : decode cL_partly 290 = .ok (.goto (-52), 3) := by decide +kernel
theorem dL_partly_293 : decode cL_partly 293 = .ok (.aload_n 0, 1) := by decide +kernel
theorem dL_partly_294 : decode cL_partly 294 = .ok (.invokevirtual 77, 3) := by decide +kernel
theorem dL_partly_297 : decode cL_partly 297 = .ok (.bipush 60, 2) := by decide +kernel
theorem dL_partly_299 : decode cL_partly 299 = .ok (.if_icmp .ne 153, 3) := by decide +kernel
theorem dL_partly_302 : decode cL_partly 302 = .ok (.aload_n 0, 1) := by decide +kernel
theorem dL_partly_303 : decode cL_partly 303 = .ok (.iconst 0, 1) := by decide +kernel
theorem dL_partly_304 : decode cL_partly 304 = .ok (.bipush 67, 2) := by decide +kernel
theorem dL_partly_306 : decode cL_partly 306 = .ok (.iconst 0, 1) := by decide +kernel
theorem dL_partly_307 : decode cL_partly 307 = .ok (.invokevirtual 7, 3) := by decide +kernel
theorem dL_partly_310 : decode cL_partly 310 = .ok (.iconst 5, 1) := by decide +kernel
theorem dL_partly_311 : decode cL_partly 311 = .ok (.if_icmp .ne 141, 3) := by decide +kernel
theorem dL_partly_314 : decode cL_partly 314 = .ok (.aload_n 0, 1) := by decide +kernel
theorem dL_partly_315 : decode cL_partly 315 = .ok (.iconst 0, 1) := by decide +kernel
theorem dL_partly_316 : decode cL_partly 316 = .ok (.bipush 67, 2) := by decide +kernel
theorem dL_partly_318 : decode cL_partly 318 = .ok (.iconst 1, 1) := by decide +kernel
theorem dL_partly_319 : decode cL_partly 319 = .ok (.iconst (-1), 1) := by decide +kernel
theorem dL_partly_320 : decode cL_partly 320 = .ok (.iconst 0, 1) := by decide +kernel
theorem dL_partly_321 : decode cL_partly 321 = .ok (.invokevirtual 13, 3) := by decide +kernel
theorem dL_partly_324 : decode cL_partly 324 = .ok (.iconst 5, 1) := by decide +kernel
theorem dL_partly_325 : decode cL_partly 325 = .ok (.if_icmp .ne 127, 3) := by decide +kernel
theorem dL_partly_328 : decode cL_partly 328 = .ok (.aload_n 0, 1) := by decide +kernel
theorem dL_partly_329 : decode cL_partly 329 = .ok (.bipush 11, 2) := by decide +kernel
theorem dL_partly_331 : decode cL_partly 331 = .ok (.iconst 0, 1) := by decide +kernel
theorem dL_partly_332 : decode cL_partly 332 = .ok (.bipush 67, 2) := by decide +kernel
theorem dL_partly_334 : decode cL_partly 334 = .ok (.iconst 5, 1) := by decide +kernel
theorem dL_partly_335 : decode cL_partly 335 = .ok (.iconst 0, 1) := by decide +kernel
theorem dL_partly_336 : decode cL_partly 336 = .ok (.invokestatic 85, 3) := by decide +kernel
theorem dL_partly_339 : decode cL_partly 339 = .ok (.sipush (-9003), 3) := by decide +kernel
theorem dL_partly_342 : decode cL_partly 342 = .ok (.if_icmp .ne 110, 3) := by decide +kernel
theorem dL_partly_345 : decode cL_partly 345 = .ok (.aload_n 0, 1) := by decide +kernel
theorem dL_partly_346 : decode cL_partly 346 = .ok (.iconst 0, 1) := by decide +kernel
theorem dL_partly_347 : decode cL_partly 347 = .ok (.bipush 11, 2) := by decide +kernel
theorem dL_partly_349 : decode cL_partly 349 = .ok (.bipush 67, 2) := by decide +kernel
theorem dL_partly_351 : decode cL_partly 351 = .ok (.iconst 0, 1) := by decide +kernel
theorem dL_partly_352 : decode cL_partly 352 = .ok (.iconst 0, 1) := by decide +kernel
theorem dL_partly_353 : decode cL_partly 353 = .ok (.invokevirtual 24, 3) := by decide +kernel
theorem dL_partly_356 : decode cL_partly 356 = .ok (.iconst 5, 1) := by decide +kernel
theorem dL_partly_357 : decode cL_partly 357 = .ok (.if_icmp .ne 95, 3) := by decide +kernel
theorem dL_partly_360 : decode cL_partly 360 = .ok (.aload_n 0, 1) := by decide +kernel
theorem dL_partly_361 : decode cL_partly 361 = .ok (.iconst 0, 1) := by decide +kernel
theorem dL_partly_362 : decode cL_partly 362 = .ok (.bipush 11, 2) := by decide +kernel
theorem dL_partly_364 : decode cL_partly 364 = .ok (.bipush 12, 2) := by decide +kernel
theorem dL_partly_366 : decode cL_partly 366 = .ok (.iconst 1, 1) := by decide +kernel
theorem dL_partly_367 : decode cL_partly 367 = .ok (.iconst 0, 1) := by decide +kernel
theorem dL_partly_368 : decode cL_partly 368 = .ok (.invokevirtual 24, 3) := by decide +kernel
theorem dL_partly_371 : decode cL_partly 371 = .ok (.ifCond .ne 81, 3) := by decide +kernel
theorem dL_partly_374 : decode cL_partly 374 = .ok (.aload_n 0, 1) := by decide +kernel
theorem dL_partly_375 : decode cL_partly 375 = .ok (.iconst 0, 1) := by decide +kernel
theorem dL_partly_376 : decode cL_partly 376 = .ok (.iconst 1, 1) := by decide +kernel
theorem dL_partly_377 : decode cL_partly 377 = .ok (.bipush 9, 2) := by decide +kernel
theorem dL_partly_379 : decode cL_partly 379 = .ok (.iconst 1, 1) := by decide +kernel
theorem dL_partly_380 : decode cL_partly 380 = .ok (.iconst 0, 1) := by decide +kernel
theorem dL_partly_381 : decode cL_partly 381 = .ok (.invokevirtual 24, 3) := by decide +kernel
theorem dL_partly_384 : decode cL_partly 384 = .ok (.iconst 5, 1) := by decide +kernel
theorem dL_partly_385 : decode cL_partly 385 = .ok (.if_icmp .ne 67, 3) := by decide +kernel
theorem dL_partly_388 : decode cL_partly 388 = .ok (.aload_n 0, 1) := by decide +kernel
theorem dL_partly_389 : decode cL_partly 389 = .ok (.iconst 0, 1) := by decide +kernel
theorem dL_partly_390 : decode cL_partly 390 = .ok (.bipush 61, 2) := by decide +kernel
theorem dL_partly_392 : decode cL_partly 392 = .ok (.bipush 67, 2) := by decide +kernel
theorem dL_partly_394 : decode cL_partly 394 = .ok (.iconst 0, 1) := by decide +kernel
theorem dL_partly_395 : decode cL_partly 395 = .ok (.iconst 0, 1) := by decide +kernel
theorem dL_partly_396 : decode cL_partly 396 = .ok (.invokevirtual 28, 3) := by decide +kernel
theorem dL_partly_399 : decode cL_partly 399 = .ok (.ifCond .ne 53, 3) := by decide +kernel
theorem dL_partly_402 : decode cL_partly 402 = .ok (.aload_n 0, 1) := by decide +kernel
theorem dL_partly_403 : decode cL_partly 403 = .ok (.iconst 0, 1) := by decide +kernel
theorem dL_partly_404 : decode cL_partly 404 = .ok (.iconst 2, 1) := by decide +kernel
theorem dL_partly_405 : decode cL_partly 405 = .ok (.iconst 0, 1) := by decide +kernel
theorem dL_partly_406 : decode cL_partly 406 = .ok (.invokevirtual 17, 3) := by decide +kernel
theorem dL_partly_409 : decode cL_partly 409 = .ok (.ifCond .ne 43, 3) := by decide +kernel
theorem dL_partly_412 : decode cL_partly 412 = .ok (.aload_n 0, 1) := by decide +kernel
theorem dL_partly_413 : decode cL_partly 413 = .ok (.invokevirtual 77, 3) := by decide +kernel
theorem dL_partly_416 : decode cL_partly 416 = .ok (.bipush 50, 2) := by decide +kernel
theorem dL_partly_418 : decode cL_partly 418 = .ok (.if_icmp .ne 34, 3) := by decide +kernel
theorem dL_partly_421 : decode cL_partly 421 = .ok (.aload_n 0, 1) := by decide +kernel
theorem dL_partly_422 : decode cL_partly 422 = .ok (.iconst 0, 1) := by decide +kernel
theorem dL_partly_423 : decode cL_partly 423 = .ok (.iconst 1, 1) := by decide +kernel
theorem dL_partly_424 : decode cL_partly 424 = .ok (.iconst 2, 1) := by decide +kernel
theorem dL_partly_425 : decode cL_partly 425 = .ok (.iconst 0, 1) := by decide +kernel
theorem dL_partly_426 : decode cL_partly 426 = .ok (.iconst 0, 1) := by decide +kernel
theorem dL_partly_427 : decode cL_partly 427 = .ok (.invokevirtual 24, 3) := by decide +kernel
theorem dL_partly_430 : decode cL_partly 430 = .ok (.ifCond .ne 22, 3) := by decide +kernel
theorem dL_partly_433 : decode cL_partly 433 = .ok (.aload_n 0, 1) := by decide +kernel
theorem dL_partly_434 : decode cL_partly 434 = .ok (.iconst 2, 1) := by decide +kernel
theorem dL_partly_435 : decode cL_partly 435 = .ok (.invokevirtual 37, 3) := by decide +kernel
theorem dL_partly_438 : decode cL_partly 438 = .ok (.bipush 9, 2) := by decide +kernel
theorem dL_partly_440 : decode cL_partly 440 = .ok (.if_icmp .ne 12, 3) := by decide +kernel
theorem dL_partly_443 : decode cL_partly 443 = .ok (.aload_n 0, 1) := by decide +kernel
theorem dL_partly_444 : decode cL_partly 444 = .ok (.invokevirtual 77, 3) := by decide +kernel
theorem dL_partly_447 : decode cL_partly 447 = .ok (.bipush 60, 2) := by decide +kernel
theorem dL_partly_449 : decode cL_partly 449 = .ok (.if_icmp .eq 5, 3) := by decide +kernel
theorem dL_partly_452 : decode cL_partly 452 = .ok (.iconst 0, 1) := by decide +kernel
theorem dL_partly_453 : decode cL_partly 453 = .ok (.ireturn, 1) := by decide +kernel
theorem dL_partly_454 : decode cL_partly 454 = .ok (.iconst 3, 1) := by decide +kernel
theorem dL_partly_455 : decode cL_partly 455 = .ok (.istore_n 1, 1) := by decide +kernel
theorem dL_partly_456 : decode cL_partly 456 = .ok (.iload_n 1, 1) := by decide +kernel
theorem dL_partly_457 : decode cL_partly 457 = .ok (.bipush 31, 2) := by decide +kernel
theorem dL_partly_459 : decode cL_partly 459 = .ok (.if_icmp .ge 37, 3) := by decide +kernel
