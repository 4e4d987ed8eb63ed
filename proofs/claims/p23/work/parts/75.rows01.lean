theorem dL_act_366 : decode cL_act 366 = .ok (.iload 5, 2) := by decide +kernel
theorem dL_act_368 : decode cL_act 368 = .ok (.invokevirtual 48, 3) := by decide +kernel
theorem dL_act_371 : decode cL_act 371 = .ok (.goto 13, 3) := by decide +kernel
theorem dL_act_374 : decode cL_act 374 = .ok (.aload_n 0, 1) := by decide +kernel
theorem dL_act_375 : decode cL_act 375 = .ok (.iconst 0, 1) := by decide +kernel
theorem dL_act_376 : decode cL_act 376 = .ok (.iload_n 2, 1) := by decide +kernel
theorem dL_act_377 : decode cL_act 377 = .ok (.iload_n 3, 1) := by decide +kernel
theorem dL_act_378 : decode cL_act 378 = .ok (.iconst 1, 1) := by decide +kernel
theorem dL_act_379 : decode cL_act 379 = .ok (.iload 4, 2) := by decide +kernel
theorem dL_act_381 : decode cL_act 381 = .ok (.invokevirtual 24, 3) := by decide +kernel
theorem dL_act_384 : decode cL_act 384 = .ok (.ireturn, 1) := by decide +kernel
theorem dL_act_385 : decode cL_act 385 = .ok (.astore 6, 2) := by decide +kernel
theorem dL_act_387 : decode cL_act 387 = .ok (.sipush (-9001), 3) := by decide +kernel
theorem dL_act_390 : decode cL_act 390 = .ok (.ireturn, 1) := by decide +kernel
theorem dL_act_391 : decode cL_act 391 = .ok (.astore 6, 2) := by decide +kernel
theorem dL_act_393 : decode cL_act 393 = .ok (.sipush (-9002), 3) := by decide +kernel
theorem dL_act_396 : decode cL_act 396 = .ok (.ireturn, 1) := by decide +kernel
theorem dL_act_397 : decode cL_act 397 = .ok (.astore 6, 2) := by decide +kernel
theorem dL_act_399 : decode cL_act 399 = .ok (.sipush (-9003), 3) := by decide +kernel
theorem dL_act_402 : decode cL_act 402 = .ok (.ireturn, 1) := by decide +kernel
theorem dL_refuses_0 : decode cL_refuses 0 = .ok (.aload_n 0, 1) := by decide +kernel
theorem dL_refuses_1 : decode cL_refuses 1 = .ok (.invokevirtual 77, 3) := by decide +kernel
theorem dL_refuses_4 : decode cL_refuses 4 = .ok (.istore_n 1, 1) := by decide +kernel
theorem dL_refuses_5 : decode cL_refuses 5 = .ok (.aload_n 0, 1) := by decide +kernel
theorem dL_refuses_6 : decode cL_refuses 6 = .ok (.iconst 0, 1) := by decide +kernel
theorem dL_refuses_7 : decode cL_refuses 7 = .ok (.invokevirtual 37, 3) := by decide +kernel
theorem dL_refuses_10 : decode cL_refuses 10 = .ok (.istore_n 2, 1) := by decide +kernel
theorem dL_refuses_11 : decode cL_refuses 11 = .ok (.aload_n 0, 1) := by decide +kernel
theorem dL_refuses_12 : decode cL_refuses 12 = .ok (.invokevirtual 81, 3) := by decide +kernel
theorem dL_refuses_15 : decode cL_refuses 15 = .ok (.istore_n 3, 1) := by decide +kernel
theorem dL_refuses_16 : decode cL_refuses 16 = .ok (.aload_n 0, 1) := by decide +kernel
theorem dL_refuses_17 : decode cL_refuses 17 = .ok (.iconst 0, 1) := by decide +kernel
theorem dL_refuses_18 : decode cL_refuses 18 = .ok (.invokevirtual 58, 3) := by decide +kernel
theorem dL_refuses_21 : decode cL_refuses 21 = .ok (.istore 4, 2) := by decide +kernel
theorem dL_refuses_23 : decode cL_refuses 23 = .ok (.sipush (-9001), 3) := by decide +kernel
theorem dL_refuses_26 : decode cL_refuses 26 = .ok (.istore 5, 2) := by decide +kernel
theorem dL_refuses_28 : decode cL_refuses 28 = .ok (.sipush (-9002), 3) := by decide +kernel
theorem dL_refuses_31 : decode cL_refuses 31 = .ok (.istore 6, 2) := by decide +kernel
theorem dL_refuses_33 : decode cL_refuses 33 = .ok (.ldc 84, 2) := by decide +kernel
theorem dL_refuses_35 : decode cL_refuses 35 = .ok (.istore 7, 2) := by decide +kernel
theorem dL_refuses_37 : decode cL_refuses 37 = .ok (.iconst 0, 1) := by decide +kernel
theorem dL_refuses_38 : decode cL_refuses 38 = .ok (.istore 8, 2) := by decide +kernel
theorem dL_refuses_40 : decode cL_refuses 40 = .ok (.iload 8, 2) := by decide +kernel
theorem dL_refuses_42 : decode cL_refuses 42 = .ok (.iconst 4, 1) := by decide +kernel
theorem dL_refuses_43 : decode cL_refuses 43 = .ok (.if_icmp .ge 1081, 3) := by decide +kernel
theorem dL_refuses_46 : decode cL_refuses 46 = .ok (.iload 8, 2) := by decide +kernel
theorem dL_refuses_48 : decode cL_refuses 48 = .ok (.ifCond .ne 7, 3) := by decide +kernel
theorem dL_refuses_51 : decode cL_refuses 51 = .ok (.iconst (-1), 1) := by decide +kernel
theorem dL_refuses_52 : decode cL_refuses 52 = .ok (.goto 19, 3) := by decide +kernel
theorem dL_refuses_55 : decode cL_refuses 55 = .ok (.iload 8, 2) := by decide +kernel
theorem dL_refuses_57 : decode cL_refuses 57 = .ok (.iconst 2, 1) := by decide +kernel
theorem dL_refuses_58 : decode cL_refuses 58 = .ok (.if_icmp .ne 8, 3) := by decide +kernel
theorem dL_refuses_61 : decode cL_refuses 61 = .ok (.iload 7, 2) := by decide +kernel
theorem dL_refuses_63 : decode cL_refuses 63 = .ok (.goto 8, 3) := by decide +kernel
theorem dL_refuses_66 : decode cL_refuses 66 = .ok (.iload 7, 2) := by decide +kernel
theorem dL_refuses_68 : decode cL_refuses 68 = .ok (.ineg, 1) := by decide +kernel
theorem dL_refuses_69 : decode cL_refuses 69 = .ok (.iconst 1, 1) := by decide +kernel
theorem dL_refuses_70 : decode cL_refuses 70 = .ok (.isub, 1) := by decide +kernel
theorem dL_refuses_71 : decode cL_refuses 71 = .ok (.istore 9, 2) := by decide +kernel
theorem dL_refuses_73 : decode cL_refuses 73 = .ok (.iload 8, 2) := by decide +kernel
theorem dL_refuses_75 : decode cL_refuses 75 = .ok (.iconst 1, 1) := by decide +kernel
theorem dL_refuses_76 : decode cL_refuses 76 = .ok (.if_icmp .ne 7, 3) := by decide +kernel
theorem dL_refuses_79 : decode cL_refuses 79 = .ok (.iconst 4, 1) := by decide +kernel
theorem dL_refuses_80 : decode cL_refuses 80 = .ok (.goto 5, 3) := by decide +kernel
theorem dL_refuses_83 : decode cL_refuses 83 = .ok (.iload 9, 2) := by decide +kernel
theorem dL_refuses_85 : decode cL_refuses 85 = .ok (.istore 10, 2) := by decide +kernel
theorem dL_refuses_87 : decode cL_refuses 87 = .ok (.iload 8, 2) := by decide +kernel
theorem dL_refuses_89 : decode cL_refuses 89 = .ok (.ifCond .ne 8, 3) := by decide +kernel
theorem dL_refuses_92 : decode cL_refuses 92 = .ok (.bipush 10, 2) := by decide +kernel
theorem dL_refuses_94 : decode cL_refuses 94 = .ok (.goto 17, 3) := by decide +kernel
theorem dL_refuses_97 : decode cL_refuses 97 = .ok (.iload 8, 2) := by decide +kernel
theorem dL_refuses_99 : decode cL_refuses 99 = .ok (.iconst 1, 1) := by decide +kernel
theorem dL_refuses_100 : decode cL_refuses 100 = .ok (.if_icmp .ne 9, 3) := by decide +kernel
theorem dL_refuses_103 : decode cL_refuses 103 = .ok (.sipush 10111, 3) := by decide +kernel
theorem dL_refuses_106 : decode cL_refuses 106 = .ok (.goto 5, 3) := by decide +kernel
theorem dL_refuses_109 : decode cL_refuses 109 = .ok (.iload 9, 2) := by decide +kernel
theorem dL_refuses_111 : decode cL_refuses 111 = .ok (.istore 11, 2) := by decide +kernel
theorem dL_refuses_113 : decode cL_refuses 113 = .ok (.iload 8, 2) := by decide +kernel
theorem dL_refuses_115 : decode cL_refuses 115 = .ok (.ifCond .ne 7, 3) := by decide +kernel
theorem dL_refuses_118 : decode cL_refuses 118 = .ok (.iconst (-1), 1) := by decide +kernel
theorem dL_refuses_119 : decode cL_refuses 119 = .ok (.goto 28, 3) := by decide +kernel
theorem dL_refuses_122 : decode cL_refuses 122 = .ok (.iload 8, 2) := by decide +kernel
theorem dL_refuses_124 : decode cL_refuses 124 = .ok (.iconst 1, 1) := by decide +kernel
theorem dL_refuses_125 : decode cL_refuses 125 = .ok (.if_icmp .ne 8, 3) := by decide +kernel
theorem dL_refuses_128 : decode cL_refuses 128 = .ok (.bipush 101, 2) := by decide +kernel
theorem dL_refuses_130 : decode cL_refuses 130 = .ok (.goto 17, 3) := by decide +kernel
theorem dL_refuses_133 : decode cL_refuses 133 = .ok (.iload 8, 2) := by decide +kernel
theorem dL_refuses_135 : decode cL_refuses 135 = .ok (.iconst 2, 1) := by decide +kernel
theorem dL_refuses_136 : decode cL_refuses 136 = .ok (.if_icmp .ne 9, 3) := by decide +kernel
theorem dL_refuses_139 : decode cL_refuses 139 = .ok (.sipush 1011, 3) := by decide +kernel
theorem dL_refuses_142 : decode cL_refuses 142 = .ok (.goto 5, 3) := by decide +kernel
theorem dL_refuses_145 : decode cL_refuses 145 = .ok (.iload 9, 2) := by decide +kernel
theorem dL_refuses_147 : decode cL_refuses 147 = .ok (.istore 12, 2) := by decide +kernel
theorem dL_refuses_149 : decode cL_refuses 149 = .ok (.iload 8, 2) := by decide +kernel
theorem dL_refuses_151 : decode cL_refuses 151 = .ok (.iconst 2, 1) := by decide +kernel
theorem dL_refuses_152 : decode cL_refuses 152 = .ok (.if_icmp .ge 7, 3) := by decide +kernel
theorem dL_refuses_155 : decode cL_refuses 155 = .ok (.iconst (-1), 1) := by decide +kernel
theorem dL_refuses_156 : decode cL_refuses 156 = .ok (.goto 17, 3) := by decide +kernel
theorem dL_refuses_159 : decode cL_refuses 159 = .ok (.iload 8, 2) := by decide +kernel
theorem dL_refuses_161 : decode cL_refuses 161 = .ok (.iconst 2, 1) := by decide +kernel
theorem dL_refuses_162 : decode cL_refuses 162 = .ok (.if_icmp .ne 9, 3) := by decide +kernel
theorem dL_refuses_165 : decode cL_refuses 165 = .ok (.iload 7, 2) := by decide +kernel
theorem dL_refuses_167 : decode cL_refuses 167 = .ok (.ineg, 1) := by decide +kernel
theorem dL_refuses_168 : decode cL_refuses 168 = .ok (.goto 5, 3) := by decide +kernel
theorem dL_refuses_171 : decode cL_refuses 171 = .ok (.iload 9, 2) := by decide +kernel
theorem dL_refuses_173 : decode cL_refuses 173 = .ok (.istore 13, 2) := by decide +kernel
theorem dL_refuses_175 : decode cL_refuses 175 = .ok (.iload 8, 2) := by decide +kernel
theorem dL_refuses_177 : decode cL_refuses 177 = .ok (.iconst 1, 1) := by decide +kernel
theorem dL_refuses_178 : decode cL_refuses 178 = .ok (.if_icmp .ne 9, 3) := by decide +kernel
theorem dL_refuses_181 : decode cL_refuses 181 = .ok (.sipush 1000, 3) := by decide +kernel
theorem dL_refuses_184 : decode cL_refuses 184 = .ok (.goto 5, 3) := by decide +kernel
theorem dL_refuses_187 : decode cL_refuses 187 = .ok (.iload 9, 2) := by decide +kernel
theorem dL_refuses_189 : decode cL_refuses 189 = .ok (.istore 14, 2) := by decide +kernel
theorem dL_refuses_191 : decode cL_refuses 191 = .ok (.aload_n 0, 1) := by decide +kernel
theorem dL_refuses_192 : decode cL_refuses 192 = .ok (.iconst 0, 1) := by decide +kernel
theorem dL_refuses_193 : decode cL_refuses 193 = .ok (.iload 10, 2) := by decide +kernel
theorem dL_refuses_195 : decode cL_refuses 195 = .ok (.iconst 1, 1) := by decide +kernel
theorem dL_refuses_196 : decode cL_refuses 196 = .ok (.iconst 0, 1) := by decide +kernel
theorem dL_refuses_197 : decode cL_refuses 197 = .ok (.iconst 0, 1) := by decide +kernel
theorem dL_refuses_198 : decode cL_refuses 198 = .ok (.invokestatic 85, 3) := by decide +kernel
theorem dL_refuses_201 : decode cL_refuses 201 = .ok (.iload 6, 2) := by decide +kernel
theorem dL_refuses_203 : decode cL_refuses 203 = .ok (.if_icmp .ne 253, 3) := by decide +kernel
theorem dL_refuses_206 : decode cL_refuses 206 = .ok (.aload_n 0, 1) := by decide +kernel
theorem dL_refuses_207 : decode cL_refuses 207 = .ok (.iconst 0, 1) := by decide +kernel
theorem dL_refuses_208 : decode cL_refuses 208 = .ok (.iconst 0, 1) := by decide +kernel
theorem dL_refuses_209 : decode cL_refuses 209 = .ok (.iconst 0, 1) := by decide +kernel
theorem dL_refuses_210 : decode cL_refuses 210 = .ok (.iconst 0, 1) := by decide +kernel
theorem dL_refuses_211 : decode cL_refuses 211 = .ok (.iconst 0, 1) := by decide +kernel
theorem dL_refuses_212 : decode cL_refuses 212 = .ok (.invokestatic 85, 3) := by decide +kernel
theorem dL_refuses_215 : decode cL_refuses 215 = .ok (.iload 6, 2) := by decide +kernel
theorem dL_refuses_217 : decode cL_refuses 217 = .ok (.if_icmp .ne 239, 3) := by decide +kernel
theorem dL_refuses_220 : decode cL_refuses 220 = .ok (.aload_n 0, 1) := by decide +kernel
theorem dL_refuses_221 : decode cL_refuses 221 = .ok (.iconst 0, 1) := by decide +kernel
theorem dL_refuses_222 : decode cL_refuses 222 = .ok (.iconst 0, 1) := by decide +kernel
theorem dL_refuses_223 : decode cL_refuses 223 = .ok (.iconst 1, 1) := by decide +kernel
theorem dL_refuses_224 : decode cL_refuses 224 = .ok (.iload 13, 2) := by decide +kernel
theorem dL_refuses_226 : decode cL_refuses 226 = .ok (.iconst 0, 1) := by decide +kernel
theorem dL_refuses_227 : decode cL_refuses 227 = .ok (.invokestatic 85, 3) := by decide +kernel
theorem dL_refuses_230 : decode cL_refuses 230 = .ok (.iload 6, 2) := by decide +kernel
theorem dL_refuses_232 : decode cL_refuses 232 = .ok (.if_icmp .ne 224, 3) := by decide +kernel
theorem dL_refuses_235 : decode cL_refuses 235 = .ok (.aload_n 0, 1) := by decide +kernel
theorem dL_refuses_236 : decode cL_refuses 236 = .ok (.iconst 1, 1) := by decide +kernel
theorem dL_refuses_237 : decode cL_refuses 237 = .ok (.iload 10, 2) := by decide +kernel
theorem dL_refuses_239 : decode cL_refuses 239 = .ok (.iconst 1, 1) := by decide +kernel
theorem dL_refuses_240 : decode cL_refuses 240 = .ok (.iconst 0, 1) := by decide +kernel
theorem dL_refuses_241 : decode cL_refuses 241 = .ok (.iconst 0, 1) := by decide +kernel
theorem dL_refuses_242 : decode cL_refuses 242 = .ok (.invokestatic 85, 3) := by decide +kernel
theorem dL_refuses_245 : decode cL_refuses 245 = .ok (.iload 6, 2) := by decide +kernel
theorem dL_refuses_247 : decode cL_refuses 247 = .ok (.if_icmp .ne 209, 3) := by decide +kernel
theorem dL_refuses_250 : decode cL_refuses 250 = .ok (.aload_n 0, 1) := by decide +kernel
theorem dL_refuses_251 : decode cL_refuses 251 = .ok (.iconst 1, 1) := by decide +kernel
theorem dL_refuses_252 : decode cL_refuses 252 = .ok (.iconst 0, 1) := by decide +kernel
theorem dL_refuses_253 : decode cL_refuses 253 = .ok (.iconst 0, 1) := by decide +kernel
theorem dL_refuses_254 : decode cL_refuses 254 = .ok (.iconst 0, 1) := by decide +kernel
theorem dL_refuses_255 : decode cL_refuses 255 = .ok (.iconst 0, 1) := by decide +kernel
theorem dL_refuses_256 : decode cL_refuses 256 = .ok (.invokestatic 85, 3) := by decide +kernel
theorem dL_refuses_259 : decode cL_refuses 259 = .ok (.iload 6, 2) := by decide +kernel
theorem dL_refuses_261 : decode cL_refuses 261 = .ok (.if_icmp .ne 195, 3) := by decide +kernel
theorem dL_refuses_264 : decode cL_refuses 264 = .ok (.aload_n 0, 1) := by decide +kernel
theorem dL_refuses_265 : decode cL_refuses 265 = .ok (.iconst 1, 1) := by decide +kernel
theorem dL_refuses_266 : decode cL_refuses 266 = .ok (.iconst 0, 1) := by decide +kernel
theorem dL_refuses_267 : decode cL_refuses 267 = .ok (.iconst 1, 1) := by decide +kernel
theorem dL_refuses_268 : decode cL_refuses 268 = .ok (.iload 14, 2) := by decide +kernel
theorem dL_refuses_270 : decode cL_refuses 270 = .ok (.iconst 0, 1) := by decide +kernel
theorem dL_refuses_271 : decode cL_refuses 271 = .ok (.invokestatic 85, 3) := by decide +kernel
theorem dL_refuses_274 : decode cL_refuses 274 = .ok (.iload 6, 2) := by decide +kernel
theorem dL_refuses_276 : decode cL_refuses 276 = .ok (.if_icmp .ne 180, 3) := by decide +kernel
theorem dL_refuses_279 : decode cL_refuses 279 = .ok (.aload_n 0, 1) := by decide +kernel
theorem dL_refuses_280 : decode cL_refuses 280 = .ok (.iconst 1, 1) := by decide +kernel
theorem dL_refuses_281 : decode cL_refuses 281 = .ok (.iconst 0, 1) := by decide +kernel
theorem dL_refuses_282 : decode cL_refuses 282 = .ok (.iconst 1, 1) := by decide +kernel
theorem dL_refuses_283 : decode cL_refuses 283 = .ok (.iconst 0, 1) := by decide +kernel
theorem dL_refuses_284 : decode cL_refuses 284 = .ok (.iload 13, 2) := by decide +kernel
theorem dL_refuses_286 : decode cL_refuses 286 = .ok (.invokestatic 85, 3) := by decide +kernel
theorem dL_refuses_289 : decode cL_refuses 289 = .ok (.iload 6, 2) := by decide +kernel
theorem dL_refuses_291 : decode cL_refuses 291 = .ok (.if_icmp .ne 165, 3) := by decide +kernel
theorem dL_refuses_294 : decode cL_refuses 294 = .ok (.aload_n 0, 1) := by decide +kernel
theorem dL_refuses_295 : decode cL_refuses 295 = .ok (.bipush 18, 2) := by decide +kernel
theorem dL_refuses_297 : decode cL_refuses 297 = .ok (.iconst 0, 1) := by decide +kernel
theorem dL_refuses_298 : decode cL_refuses 298 = .ok (.iconst 1, 1) := by decide +kernel
theorem dL_refuses_299 : decode cL_refuses 299 = .ok (.iload 8, 2) := by decide +kernel
theorem dL_refuses_301 : decode cL_refuses 301 = .ok (.ifCond .ne 8, 3) := by decide +kernel
theorem dL_refuses_304 : decode cL_refuses 304 = .ok (.bipush (-2), 2) := by decide +kernel
theorem dL_refuses_306 : decode cL_refuses 306 = .ok (.goto 5, 3) := by decide +kernel
theorem dL_refuses_309 : decode cL_refuses 309 = .ok (.iload 14, 2) := by decide +kernel
theorem dL_refuses_311 : decode cL_refuses 311 = .ok (.iconst 0, 1) := by decide +kernel
theorem dL_refuses_312 : decode cL_refuses 312 = .ok (.invokestatic 85, 3) := by decide +kernel
theorem dL_refuses_315 : decode cL_refuses 315 = .ok (.iload 6, 2) := by decide +kernel
theorem dL_refuses_317 : decode cL_refuses 317 = .ok (.if_icmp .ne 139, 3) := by decide +kernel
theorem dL_refuses_320 : decode cL_refuses 320 = .ok (.aload_n 0, 1) := by decide +kernel
theorem dL_refuses_321 : decode cL_refuses 321 = .ok (.iconst 2, 1) := by decide +kernel
theorem dL_refuses_322 : decode cL_refuses 322 = .ok (.iload 10, 2) := by decide +kernel
theorem dL_refuses_324 : decode cL_refuses 324 = .ok (.iconst 1, 1) := by decide +kernel
theorem dL_refuses_325 : decode cL_refuses 325 = .ok (.iconst 0, 1) := by decide +kernel
theorem dL_refuses_326 : decode cL_refuses 326 = .ok (.iconst 0, 1) := by decide +kernel
theorem dL_refuses_327 : decode cL_refuses 327 = .ok (.invokestatic 85, 3) := by decide +kernel
theorem dL_refuses_330 : decode cL_refuses 330 = .ok (.iload 6, 2) := by decide +kernel
theorem dL_refuses_332 : decode cL_refuses 332 = .ok (.if_icmp .ne 124, 3) := by decide +kernel
theorem dL_refuses_335 : decode cL_refuses 335 = .ok (.aload_n 0, 1) := by decide +kernel
theorem dL_refuses_336 : decode cL_refuses 336 = .ok (.iconst 2, 1) := by decide +kernel
