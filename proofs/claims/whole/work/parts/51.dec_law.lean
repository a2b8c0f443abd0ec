theorem d_LW_law_0 : decode code 0 = .ok (.new 8, 3) := by decide +kernel
theorem d_LW_law_3 : decode code 3 = .ok (.dup, 1) := by decide +kernel
theorem d_LW_law_4 : decode code 4 = .ok (.aload_n 0, 1) := by decide +kernel
theorem d_LW_law_5 : decode code 5 = .ok (.iconst 0, 1) := by decide +kernel
theorem d_LW_law_6 : decode code 6 = .ok (.invokestatic 63, 3) := by decide +kernel
theorem d_LW_law_9 : decode code 9 = .ok (.invokespecial 69, 3) := by decide +kernel
theorem d_LW_law_12 : decode code 12 = .ok (.astore_n 1, 1) := by decide +kernel
theorem d_LW_law_13 : decode code 13 = .ok (.new 72, 3) := by decide +kernel
theorem d_LW_law_16 : decode code 16 = .ok (.dup, 1) := by decide +kernel
theorem d_LW_law_17 : decode code 17 = .ok (.aload_n 0, 1) := by decide +kernel
theorem d_LW_law_18 : decode code 18 = .ok (.iconst 0, 1) := by decide +kernel
theorem d_LW_law_19 : decode code 19 = .ok (.invokestatic 63, 3) := by decide +kernel
theorem d_LW_law_22 : decode code 22 = .ok (.invokespecial 74, 3) := by decide +kernel
theorem d_LW_law_25 : decode code 25 = .ok (.astore_n 2, 1) := by decide +kernel
theorem d_LW_law_26 : decode code 26 = .ok (.iconst 1, 1) := by decide +kernel
theorem d_LW_law_27 : decode code 27 = .ok (.newarray .long, 2) := by decide +kernel
theorem d_LW_law_29 : decode code 29 = .ok (.astore_n 3, 1) := by decide +kernel
theorem d_LW_law_30 : decode code 30 = .ok (.iconst 1, 1) := by decide +kernel
theorem d_LW_law_31 : decode code 31 = .ok (.istore 4, 2) := by decide +kernel
theorem d_LW_law_33 : decode code 33 = .ok (.iload 4, 2) := by decide +kernel
theorem d_LW_law_35 : decode code 35 = .ok (.aload_n 0, 1) := by decide +kernel
theorem d_LW_law_36 : decode code 36 = .ok (.arraylength, 1) := by decide +kernel
theorem d_LW_law_37 : decode code 37 = .ok (.iconst 5, 1) := by decide +kernel
theorem d_LW_law_38 : decode code 38 = .ok (.isub, 1) := by decide +kernel
theorem d_LW_law_39 : decode code 39 = .ok (.if_icmp .gt 1191, 3) := by decide +kernel
theorem d_LW_law_42 : decode code 42 = .ok (.aload_n 0, 1) := by decide +kernel
theorem d_LW_law_43 : decode code 43 = .ok (.iload 4, 2) := by decide +kernel
theorem d_LW_law_45 : decode code 45 = .ok (.iaload, 1) := by decide +kernel
theorem d_LW_law_46 : decode code 46 = .ok (.bipush 15, 2) := by decide +kernel
theorem d_LW_law_48 : decode code 48 = .ok (.iand, 1) := by decide +kernel
theorem d_LW_law_49 : decode code 49 = .ok (.tableswitch 1175 0 15 #[79, 147, 215, 318, 398, 466, 574, 630, 686, 699, 755, 823, 903, 983, 1039, 1107], 79) := by decide +kernel
theorem d_LW_law_128 : decode code 128 = .ok (.aload_n 1, 1) := by decide +kernel
theorem d_LW_law_129 : decode code 129 = .ok (.aload_n 0, 1) := by decide +kernel
theorem d_LW_law_130 : decode code 130 = .ok (.iload 4, 2) := by decide +kernel
theorem d_LW_law_132 : decode code 132 = .ok (.iconst 1, 1) := by decide +kernel
theorem d_LW_law_133 : decode code 133 = .ok (.iadd, 1) := by decide +kernel
theorem d_LW_law_134 : decode code 134 = .ok (.iaload, 1) := by decide +kernel
theorem d_LW_law_135 : decode code 135 = .ok (.aload_n 0, 1) := by decide +kernel
theorem d_LW_law_136 : decode code 136 = .ok (.iload 4, 2) := by decide +kernel
theorem d_LW_law_138 : decode code 138 = .ok (.iconst 2, 1) := by decide +kernel
theorem d_LW_law_139 : decode code 139 = .ok (.iadd, 1) := by decide +kernel
theorem d_LW_law_140 : decode code 140 = .ok (.iaload, 1) := by decide +kernel
theorem d_LW_law_141 : decode code 141 = .ok (.aload_n 3, 1) := by decide +kernel
theorem d_LW_law_142 : decode code 142 = .ok (.invokestatic 75, 3) := by decide +kernel
theorem d_LW_law_145 : decode code 145 = .ok (.istore 5, 2) := by decide +kernel
theorem d_LW_law_147 : decode code 147 = .ok (.aload_n 2, 1) := by decide +kernel
theorem d_LW_law_148 : decode code 148 = .ok (.aload_n 0, 1) := by decide +kernel
theorem d_LW_law_149 : decode code 149 = .ok (.iload 4, 2) := by decide +kernel
theorem d_LW_law_151 : decode code 151 = .ok (.iconst 1, 1) := by decide +kernel
theorem d_LW_law_152 : decode code 152 = .ok (.iadd, 1) := by decide +kernel
theorem d_LW_law_153 : decode code 153 = .ok (.iaload, 1) := by decide +kernel
theorem d_LW_law_154 : decode code 154 = .ok (.aload_n 0, 1) := by decide +kernel
theorem d_LW_law_155 : decode code 155 = .ok (.iload 4, 2) := by decide +kernel
theorem d_LW_law_157 : decode code 157 = .ok (.iconst 2, 1) := by decide +kernel
theorem d_LW_law_158 : decode code 158 = .ok (.iadd, 1) := by decide +kernel
theorem d_LW_law_159 : decode code 159 = .ok (.iaload, 1) := by decide +kernel
theorem d_LW_law_160 : decode code 160 = .ok (.invokevirtual 78, 3) := by decide +kernel
theorem d_LW_law_163 : decode code 163 = .ok (.istore 6, 2) := by decide +kernel
theorem d_LW_law_165 : decode code 165 = .ok (.aload_n 2, 1) := by decide +kernel
theorem d_LW_law_166 : decode code 166 = .ok (.invokevirtual 79, 3) := by decide +kernel
theorem d_LW_law_169 : decode code 169 = .ok (.iload 5, 2) := by decide +kernel
theorem d_LW_law_171 : decode code 171 = .ok (.if_icmp .eq 5, 3) := by decide +kernel
theorem d_LW_law_174 : decode code 174 = .ok (.iconst 0, 1) := by decide +kernel
theorem d_LW_law_175 : decode code 175 = .ok (.ireturn, 1) := by decide +kernel
theorem d_LW_law_176 : decode code 176 = .ok (.iload 5, 2) := by decide +kernel
theorem d_LW_law_178 : decode code 178 = .ok (.ifCond .ne 15, 3) := by decide +kernel
theorem d_LW_law_181 : decode code 181 = .ok (.aload_n 3, 1) := by decide +kernel
theorem d_LW_law_182 : decode code 182 = .ok (.iconst 0, 1) := by decide +kernel
theorem d_LW_law_183 : decode code 183 = .ok (.laload, 1) := by decide +kernel
theorem d_LW_law_184 : decode code 184 = .ok (.iload 6, 2) := by decide +kernel
theorem d_LW_law_186 : decode code 186 = .ok (.i2l, 1) := by decide +kernel
theorem d_LW_law_187 : decode code 187 = .ok (.lcmp, 1) := by decide +kernel
theorem d_LW_law_188 : decode code 188 = .ok (.ifCond .eq 5, 3) := by decide +kernel
theorem d_LW_law_191 : decode code 191 = .ok (.iconst 0, 1) := by decide +kernel
theorem d_LW_law_192 : decode code 192 = .ok (.ireturn, 1) := by decide +kernel
theorem d_LW_law_193 : decode code 193 = .ok (.goto 1031, 3) := by decide +kernel
theorem d_LW_law_196 : decode code 196 = .ok (.aload_n 1, 1) := by decide +kernel
theorem d_LW_law_197 : decode code 197 = .ok (.aload_n 0, 1) := by decide +kernel
theorem d_LW_law_198 : decode code 198 = .ok (.iload 4, 2) := by decide +kernel
theorem d_LW_law_200 : decode code 200 = .ok (.iconst 1, 1) := by decide +kernel
theorem d_LW_law_201 : decode code 201 = .ok (.iadd, 1) := by decide +kernel
theorem d_LW_law_202 : decode code 202 = .ok (.iaload, 1) := by decide +kernel
theorem d_LW_law_203 : decode code 203 = .ok (.aload_n 0, 1) := by decide +kernel
theorem d_LW_law_204 : decode code 204 = .ok (.iload 4, 2) := by decide +kernel
theorem d_LW_law_206 : decode code 206 = .ok (.iconst 2, 1) := by decide +kernel
theorem d_LW_law_207 : decode code 207 = .ok (.iadd, 1) := by decide +kernel
theorem d_LW_law_208 : decode code 208 = .ok (.iaload, 1) := by decide +kernel
theorem d_LW_law_209 : decode code 209 = .ok (.aload_n 3, 1) := by decide +kernel
theorem d_LW_law_210 : decode code 210 = .ok (.invokestatic 83, 3) := by decide +kernel
theorem d_LW_law_213 : decode code 213 = .ok (.istore 5, 2) := by decide +kernel
theorem d_LW_law_215 : decode code 215 = .ok (.aload_n 2, 1) := by decide +kernel
theorem d_LW_law_216 : decode code 216 = .ok (.aload_n 0, 1) := by decide +kernel
theorem d_LW_law_217 : decode code 217 = .ok (.iload 4, 2) := by decide +kernel
theorem d_LW_law_219 : decode code 219 = .ok (.iconst 1, 1) := by decide +kernel
theorem d_LW_law_220 : decode code 220 = .ok (.iadd, 1) := by decide +kernel
theorem d_LW_law_221 : decode code 221 = .ok (.iaload, 1) := by decide +kernel
theorem d_LW_law_222 : decode code 222 = .ok (.aload_n 0, 1) := by decide +kernel
theorem d_LW_law_223 : decode code 223 = .ok (.iload 4, 2) := by decide +kernel
theorem d_LW_law_225 : decode code 225 = .ok (.iconst 2, 1) := by decide +kernel
theorem d_LW_law_226 : decode code 226 = .ok (.iadd, 1) := by decide +kernel
theorem d_LW_law_227 : decode code 227 = .ok (.iaload, 1) := by decide +kernel
theorem d_LW_law_228 : decode code 228 = .ok (.invokevirtual 85, 3) := by decide +kernel
theorem d_LW_law_231 : decode code 231 = .ok (.istore 6, 2) := by decide +kernel
theorem d_LW_law_233 : decode code 233 = .ok (.aload_n 2, 1) := by decide +kernel
theorem d_LW_law_234 : decode code 234 = .ok (.invokevirtual 79, 3) := by decide +kernel
theorem d_LW_law_237 : decode code 237 = .ok (.iload 5, 2) := by decide +kernel
theorem d_LW_law_239 : decode code 239 = .ok (.if_icmp .eq 5, 3) := by decide +kernel
theorem d_LW_law_242 : decode code 242 = .ok (.iconst 0, 1) := by decide +kernel
theorem d_LW_law_243 : decode code 243 = .ok (.ireturn, 1) := by decide +kernel
theorem d_LW_law_244 : decode code 244 = .ok (.iload 5, 2) := by decide +kernel
theorem d_LW_law_246 : decode code 246 = .ok (.ifCond .ne 15, 3) := by decide +kernel
theorem d_LW_law_249 : decode code 249 = .ok (.aload_n 3, 1) := by decide +kernel
theorem d_LW_law_250 : decode code 250 = .ok (.iconst 0, 1) := by decide +kernel
theorem d_LW_law_251 : decode code 251 = .ok (.laload, 1) := by decide +kernel
theorem d_LW_law_252 : decode code 252 = .ok (.iload 6, 2) := by decide +kernel
theorem d_LW_law_254 : decode code 254 = .ok (.i2l, 1) := by decide +kernel
theorem d_LW_law_255 : decode code 255 = .ok (.lcmp, 1) := by decide +kernel
theorem d_LW_law_256 : decode code 256 = .ok (.ifCond .eq 5, 3) := by decide +kernel
theorem d_LW_law_259 : decode code 259 = .ok (.iconst 0, 1) := by decide +kernel
theorem d_LW_law_260 : decode code 260 = .ok (.ireturn, 1) := by decide +kernel
theorem d_LW_law_261 : decode code 261 = .ok (.goto 963, 3) := by decide +kernel
theorem d_LW_law_264 : decode code 264 = .ok (.aload_n 1, 1) := by decide +kernel
theorem d_LW_law_265 : decode code 265 = .ok (.aload_n 0, 1) := by decide +kernel
theorem d_LW_law_266 : decode code 266 = .ok (.iload 4, 2) := by decide +kernel
theorem d_LW_law_268 : decode code 268 = .ok (.iconst 1, 1) := by decide +kernel
theorem d_LW_law_269 : decode code 269 = .ok (.iadd, 1) := by decide +kernel
theorem d_LW_law_270 : decode code 270 = .ok (.iaload, 1) := by decide +kernel
theorem d_LW_law_271 : decode code 271 = .ok (.aload_n 0, 1) := by decide +kernel
theorem d_LW_law_272 : decode code 272 = .ok (.iload 4, 2) := by decide +kernel
theorem d_LW_law_274 : decode code 274 = .ok (.iconst 2, 1) := by decide +kernel
theorem d_LW_law_275 : decode code 275 = .ok (.iadd, 1) := by decide +kernel
theorem d_LW_law_276 : decode code 276 = .ok (.iaload, 1) := by decide +kernel
theorem d_LW_law_277 : decode code 277 = .ok (.aload_n 0, 1) := by decide +kernel
theorem d_LW_law_278 : decode code 278 = .ok (.iload 4, 2) := by decide +kernel
theorem d_LW_law_280 : decode code 280 = .ok (.iconst 3, 1) := by decide +kernel
theorem d_LW_law_281 : decode code 281 = .ok (.iadd, 1) := by decide +kernel
theorem d_LW_law_282 : decode code 282 = .ok (.iaload, 1) := by decide +kernel
theorem d_LW_law_283 : decode code 283 = .ok (.ifCond .eq 7, 3) := by decide +kernel
theorem d_LW_law_286 : decode code 286 = .ok (.iconst 1, 1) := by decide +kernel
theorem d_LW_law_287 : decode code 287 = .ok (.goto 4, 3) := by decide +kernel
theorem d_LW_law_290 : decode code 290 = .ok (.iconst 0, 1) := by decide +kernel
theorem d_LW_law_291 : decode code 291 = .ok (.aload_n 3, 1) := by decide +kernel
theorem d_LW_law_292 : decode code 292 = .ok (.invokestatic 86, 3) := by decide +kernel
theorem d_LW_law_295 : decode code 295 = .ok (.istore 5, 2) := by decide +kernel
theorem d_LW_law_297 : decode code 297 = .ok (.aload_n 2, 1) := by decide +kernel
theorem d_LW_law_298 : decode code 298 = .ok (.aload_n 0, 1) := by decide +kernel
theorem d_LW_law_299 : decode code 299 = .ok (.iload 4, 2) := by decide +kernel
theorem d_LW_law_301 : decode code 301 = .ok (.iconst 1, 1) := by decide +kernel
theorem d_LW_law_302 : decode code 302 = .ok (.iadd, 1) := by decide +kernel
theorem d_LW_law_303 : decode code 303 = .ok (.iaload, 1) := by decide +kernel
theorem d_LW_law_304 : decode code 304 = .ok (.aload_n 0, 1) := by decide +kernel
theorem d_LW_law_305 : decode code 305 = .ok (.iload 4, 2) := by decide +kernel
theorem d_LW_law_307 : decode code 307 = .ok (.iconst 2, 1) := by decide +kernel
theorem d_LW_law_308 : decode code 308 = .ok (.iadd, 1) := by decide +kernel
theorem d_LW_law_309 : decode code 309 = .ok (.iaload, 1) := by decide +kernel
theorem d_LW_law_310 : decode code 310 = .ok (.aload_n 0, 1) := by decide +kernel
theorem d_LW_law_311 : decode code 311 = .ok (.iload 4, 2) := by decide +kernel
theorem d_LW_law_313 : decode code 313 = .ok (.iconst 3, 1) := by decide +kernel
theorem d_LW_law_314 : decode code 314 = .ok (.iadd, 1) := by decide +kernel
theorem d_LW_law_315 : decode code 315 = .ok (.iaload, 1) := by decide +kernel
theorem d_LW_law_316 : decode code 316 = .ok (.ifCond .eq 7, 3) := by decide +kernel
theorem d_LW_law_319 : decode code 319 = .ok (.iconst 1, 1) := by decide +kernel
theorem d_LW_law_320 : decode code 320 = .ok (.goto 4, 3) := by decide +kernel
theorem d_LW_law_323 : decode code 323 = .ok (.iconst 0, 1) := by decide +kernel
theorem d_LW_law_324 : decode code 324 = .ok (.invokevirtual 89, 3) := by decide +kernel
theorem d_LW_law_327 : decode code 327 = .ok (.istore 6, 2) := by decide +kernel
theorem d_LW_law_329 : decode code 329 = .ok (.aload_n 2, 1) := by decide +kernel
theorem d_LW_law_330 : decode code 330 = .ok (.invokevirtual 79, 3) := by decide +kernel
theorem d_LW_law_333 : decode code 333 = .ok (.iload 5, 2) := by decide +kernel
theorem d_LW_law_335 : decode code 335 = .ok (.if_icmp .eq 5, 3) := by decide +kernel
theorem d_LW_law_338 : decode code 338 = .ok (.iconst 0, 1) := by decide +kernel
theorem d_LW_law_339 : decode code 339 = .ok (.ireturn, 1) := by decide +kernel
theorem d_LW_law_340 : decode code 340 = .ok (.iload 5, 2) := by decide +kernel
theorem d_LW_law_342 : decode code 342 = .ok (.ifCond .ne 22, 3) := by decide +kernel
theorem d_LW_law_345 : decode code 345 = .ok (.aload_n 3, 1) := by decide +kernel
theorem d_LW_law_346 : decode code 346 = .ok (.iconst 0, 1) := by decide +kernel
theorem d_LW_law_347 : decode code 347 = .ok (.laload, 1) := by decide +kernel
theorem d_LW_law_348 : decode code 348 = .ok (.iload 6, 2) := by decide +kernel
theorem d_LW_law_350 : decode code 350 = .ok (.ifCond .eq 7, 3) := by decide +kernel
theorem d_LW_law_353 : decode code 353 = .ok (.lconst 1, 1) := by decide +kernel
theorem d_LW_law_354 : decode code 354 = .ok (.goto 4, 3) := by decide +kernel
theorem d_LW_law_357 : decode code 357 = .ok (.lconst 0, 1) := by decide +kernel
theorem d_LW_law_358 : decode code 358 = .ok (.lcmp, 1) := by decide +kernel
theorem d_LW_law_359 : decode code 359 = .ok (.ifCond .eq 5, 3) := by decide +kernel
theorem d_LW_law_362 : decode code 362 = .ok (.iconst 0, 1) := by decide +kernel
theorem d_LW_law_363 : decode code 363 = .ok (.ireturn, 1) := by decide +kernel
theorem d_LW_law_364 : decode code 364 = .ok (.goto 860, 3) := by decide +kernel
theorem d_LW_law_367 : decode code 367 = .ok (.aload_n 1, 1) := by decide +kernel
theorem d_LW_law_368 : decode code 368 = .ok (.aload_n 0, 1) := by decide +kernel
theorem d_LW_law_369 : decode code 369 = .ok (.iload 4, 2) := by decide +kernel
theorem d_LW_law_371 : decode code 371 = .ok (.iconst 1, 1) := by decide +kernel
theorem d_LW_law_372 : decode code 372 = .ok (.iadd, 1) := by decide +kernel
theorem d_LW_law_373 : decode code 373 = .ok (.iaload, 1) := by decide +kernel
theorem d_LW_law_374 : decode code 374 = .ok (.aload_n 0, 1) := by decide +kernel
theorem d_LW_law_375 : decode code 375 = .ok (.iload 4, 2) := by decide +kernel
theorem d_LW_law_377 : decode code 377 = .ok (.iconst 2, 1) := by decide +kernel
theorem d_LW_law_378 : decode code 378 = .ok (.iadd, 1) := by decide +kernel
theorem d_LW_law_379 : decode code 379 = .ok (.iaload, 1) := by decide +kernel
theorem d_LW_law_380 : decode code 380 = .ok (.aload_n 0, 1) := by decide +kernel
theorem d_LW_law_381 : decode code 381 = .ok (.iload 4, 2) := by decide +kernel
theorem d_LW_law_383 : decode code 383 = .ok (.iconst 3, 1) := by decide +kernel
theorem d_LW_law_384 : decode code 384 = .ok (.iadd, 1) := by decide +kernel
theorem d_LW_law_385 : decode code 385 = .ok (.iaload, 1) := by decide +kernel
theorem d_LW_law_386 : decode code 386 = .ok (.aload_n 3, 1) := by decide +kernel
theorem d_LW_law_387 : decode code 387 = .ok (.invokestatic 90, 3) := by decide +kernel
theorem d_LW_law_390 : decode code 390 = .ok (.istore 5, 2) := by decide +kernel
theorem d_LW_law_392 : decode code 392 = .ok (.aload_n 2, 1) := by decide +kernel
theorem d_LW_law_393 : decode code 393 = .ok (.aload_n 0, 1) := by decide +kernel
theorem d_LW_law_394 : decode code 394 = .ok (.iload 4, 2) := by decide +kernel
theorem d_LW_law_396 : decode code 396 = .ok (.iconst 1, 1) := by decide +kernel
theorem d_LW_law_397 : decode code 397 = .ok (.iadd, 1) := by decide +kernel
theorem d_LW_law_398 : decode code 398 = .ok (.iaload, 1) := by decide +kernel
theorem d_LW_law_399 : decode code 399 = .ok (.aload_n 0, 1) := by decide +kernel
theorem d_LW_law_400 : decode code 400 = .ok (.iload 4, 2) := by decide +kernel
theorem d_LW_law_402 : decode code 402 = .ok (.iconst 2, 1) := by decide +kernel
theorem d_LW_law_403 : decode code 403 = .ok (.iadd, 1) := by decide +kernel
theorem d_LW_law_404 : decode code 404 = .ok (.iaload, 1) := by decide +kernel
theorem d_LW_law_405 : decode code 405 = .ok (.aload_n 0, 1) := by decide +kernel
theorem d_LW_law_406 : decode code 406 = .ok (.iload 4, 2) := by decide +kernel
theorem d_LW_law_408 : decode code 408 = .ok (.iconst 3, 1) := by decide +kernel
theorem d_LW_law_409 : decode code 409 = .ok (.iadd, 1) := by decide +kernel
theorem d_LW_law_410 : decode code 410 = .ok (.iaload, 1) := by decide +kernel
theorem d_LW_law_411 : decode code 411 = .ok (.invokevirtual 93, 3) := by decide +kernel
theorem d_LW_law_414 : decode code 414 = .ok (.istore 6, 2) := by decide +kernel
theorem d_LW_law_416 : decode code 416 = .ok (.aload_n 2, 1) := by decide +kernel
theorem d_LW_law_417 : decode code 417 = .ok (.invokevirtual 79, 3) := by decide +kernel
theorem d_LW_law_420 : decode code 420 = .ok (.iload 5, 2) := by decide +kernel
theorem d_LW_law_422 : decode code 422 = .ok (.if_icmp .eq 5, 3) := by decide +kernel
theorem d_LW_law_425 : decode code 425 = .ok (.iconst 0, 1) := by decide +kernel
theorem d_LW_law_426 : decode code 426 = .ok (.ireturn, 1) := by decide +kernel
theorem d_LW_law_427 : decode code 427 = .ok (.iload 5, 2) := by decide +kernel
theorem d_LW_law_429 : decode code 429 = .ok (.ifCond .ne 15, 3) := by decide +kernel
theorem d_LW_law_432 : decode code 432 = .ok (.aload_n 3, 1) := by decide +kernel
theorem d_LW_law_433 : decode code 433 = .ok (.iconst 0, 1) := by decide +kernel
theorem d_LW_law_434 : decode code 434 = .ok (.laload, 1) := by decide +kernel
theorem d_LW_law_435 : decode code 435 = .ok (.iload 6, 2) := by decide +kernel
theorem d_LW_law_437 : decode code 437 = .ok (.i2l, 1) := by decide +kernel
theorem d_LW_law_438 : decode code 438 = .ok (.lcmp, 1) := by decide +kernel
theorem d_LW_law_439 : decode code 439 = .ok (.ifCond .eq 5, 3) := by decide +kernel
theorem d_LW_law_442 : decode code 442 = .ok (.iconst 0, 1) := by decide +kernel
theorem d_LW_law_443 : decode code 443 = .ok (.ireturn, 1) := by decide +kernel
theorem d_LW_law_444 : decode code 444 = .ok (.goto 780, 3) := by decide +kernel
theorem d_LW_law_447 : decode code 447 = .ok (.aload_n 1, 1) := by decide +kernel
theorem d_LW_law_448 : decode code 448 = .ok (.aload_n 0, 1) := by decide +kernel
theorem d_LW_law_449 : decode code 449 = .ok (.iload 4, 2) := by decide +kernel
theorem d_LW_law_451 : decode code 451 = .ok (.iconst 1, 1) := by decide +kernel
theorem d_LW_law_452 : decode code 452 = .ok (.iadd, 1) := by decide +kernel
theorem d_LW_law_453 : decode code 453 = .ok (.iaload, 1) := by decide +kernel
theorem d_LW_law_454 : decode code 454 = .ok (.aload_n 0, 1) := by decide +kernel
theorem d_LW_law_455 : decode code 455 = .ok (.iload 4, 2) := by decide +kernel
theorem d_LW_law_457 : decode code 457 = .ok (.iconst 2, 1) := by decide +kernel
theorem d_LW_law_458 : decode code 458 = .ok (.iadd, 1) := by decide +kernel
theorem d_LW_law_459 : decode code 459 = .ok (.iaload, 1) := by decide +kernel
theorem d_LW_law_460 : decode code 460 = .ok (.aload_n 3, 1) := by decide +kernel
theorem d_LW_law_461 : decode code 461 = .ok (.invokestatic 94, 3) := by decide +kernel
theorem d_LW_law_464 : decode code 464 = .ok (.istore 5, 2) := by decide +kernel
theorem d_LW_law_466 : decode code 466 = .ok (.aload_n 2, 1) := by decide +kernel
theorem d_LW_law_467 : decode code 467 = .ok (.aload_n 0, 1) := by decide +kernel
theorem d_LW_law_468 : decode code 468 = .ok (.iload 4, 2) := by decide +kernel
theorem d_LW_law_470 : decode code 470 = .ok (.iconst 1, 1) := by decide +kernel
theorem d_LW_law_471 : decode code 471 = .ok (.iadd, 1) := by decide +kernel
theorem d_LW_law_472 : decode code 472 = .ok (.iaload, 1) := by decide +kernel
theorem d_LW_law_473 : decode code 473 = .ok (.aload_n 0, 1) := by decide +kernel
theorem d_LW_law_474 : decode code 474 = .ok (.iload 4, 2) := by decide +kernel
theorem d_LW_law_476 : decode code 476 = .ok (.iconst 2, 1) := by decide +kernel
theorem d_LW_law_477 : decode code 477 = .ok (.iadd, 1) := by decide +kernel
theorem d_LW_law_478 : decode code 478 = .ok (.iaload, 1) := by decide +kernel
theorem d_LW_law_479 : decode code 479 = .ok (.invokevirtual 96, 3) := by decide +kernel
theorem d_LW_law_482 : decode code 482 = .ok (.istore 6, 2) := by decide +kernel
theorem d_LW_law_484 : decode code 484 = .ok (.aload_n 2, 1) := by decide +kernel
theorem d_LW_law_485 : decode code 485 = .ok (.invokevirtual 79, 3) := by decide +kernel
theorem d_LW_law_488 : decode code 488 = .ok (.iload 5, 2) := by decide +kernel
theorem d_LW_law_490 : decode code 490 = .ok (.if_icmp .eq 5, 3) := by decide +kernel
theorem d_LW_law_493 : decode code 493 = .ok (.iconst 0, 1) := by decide +kernel
theorem d_LW_law_494 : decode code 494 = .ok (.ireturn, 1) := by decide +kernel
theorem d_LW_law_495 : decode code 495 = .ok (.iload 5, 2) := by decide +kernel
theorem d_LW_law_497 : decode code 497 = .ok (.ifCond .ne 15, 3) := by decide +kernel
theorem d_LW_law_500 : decode code 500 = .ok (.aload_n 3, 1) := by decide +kernel
theorem d_LW_law_501 : decode code 501 = .ok (.iconst 0, 1) := by decide +kernel
theorem d_LW_law_502 : decode code 502 = .ok (.laload, 1) := by decide +kernel
theorem d_LW_law_503 : decode code 503 = .ok (.iload 6, 2) := by decide +kernel
theorem d_LW_law_505 : decode code 505 = .ok (.i2l, 1) := by decide +kernel
theorem d_LW_law_506 : decode code 506 = .ok (.lcmp, 1) := by decide +kernel
theorem d_LW_law_507 : decode code 507 = .ok (.ifCond .eq 5, 3) := by decide +kernel
theorem d_LW_law_510 : decode code 510 = .ok (.iconst 0, 1) := by decide +kernel
theorem d_LW_law_511 : decode code 511 = .ok (.ireturn, 1) := by decide +kernel
theorem d_LW_law_512 : decode code 512 = .ok (.goto 712, 3) := by decide +kernel
theorem d_LW_law_515 : decode code 515 = .ok (.aload_n 1, 1) := by decide +kernel
theorem d_LW_law_516 : decode code 516 = .ok (.aload_n 0, 1) := by decide +kernel
theorem d_LW_law_517 : decode code 517 = .ok (.iload 4, 2) := by decide +kernel
theorem d_LW_law_519 : decode code 519 = .ok (.iconst 1, 1) := by decide +kernel
theorem d_LW_law_520 : decode code 520 = .ok (.iadd, 1) := by decide +kernel
theorem d_LW_law_521 : decode code 521 = .ok (.iaload, 1) := by decide +kernel
theorem d_LW_law_522 : decode code 522 = .ok (.aload_n 0, 1) := by decide +kernel
theorem d_LW_law_523 : decode code 523 = .ok (.iload 4, 2) := by decide +kernel
theorem d_LW_law_525 : decode code 525 = .ok (.iconst 2, 1) := by decide +kernel
theorem d_LW_law_526 : decode code 526 = .ok (.iadd, 1) := by decide +kernel
theorem d_LW_law_527 : decode code 527 = .ok (.iaload, 1) := by decide +kernel
theorem d_LW_law_528 : decode code 528 = .ok (.aload_n 0, 1) := by decide +kernel
theorem d_LW_law_529 : decode code 529 = .ok (.iload 4, 2) := by decide +kernel
theorem d_LW_law_531 : decode code 531 = .ok (.iconst 3, 1) := by decide +kernel
theorem d_LW_law_532 : decode code 532 = .ok (.iadd, 1) := by decide +kernel
theorem d_LW_law_533 : decode code 533 = .ok (.iaload, 1) := by decide +kernel
theorem d_LW_law_534 : decode code 534 = .ok (.aload_n 0, 1) := by decide +kernel
theorem d_LW_law_535 : decode code 535 = .ok (.iload 4, 2) := by decide +kernel
theorem d_LW_law_537 : decode code 537 = .ok (.iconst 4, 1) := by decide +kernel
theorem d_LW_law_538 : decode code 538 = .ok (.iadd, 1) := by decide +kernel
theorem d_LW_law_539 : decode code 539 = .ok (.iaload, 1) := by decide +kernel
theorem d_LW_law_540 : decode code 540 = .ok (.ifCond .eq 7, 3) := by decide +kernel
theorem d_LW_law_543 : decode code 543 = .ok (.iconst 1, 1) := by decide +kernel
theorem d_LW_law_544 : decode code 544 = .ok (.goto 4, 3) := by decide +kernel
theorem d_LW_law_547 : decode code 547 = .ok (.iconst 0, 1) := by decide +kernel
theorem d_LW_law_548 : decode code 548 = .ok (.aload_n 3, 1) := by decide +kernel
theorem d_LW_law_549 : decode code 549 = .ok (.invokestatic 97, 3) := by decide +kernel
theorem d_LW_law_552 : decode code 552 = .ok (.istore 5, 2) := by decide +kernel
theorem d_LW_law_554 : decode code 554 = .ok (.aload_n 2, 1) := by decide +kernel
theorem d_LW_law_555 : decode code 555 = .ok (.aload_n 0, 1) := by decide +kernel
theorem d_LW_law_556 : decode code 556 = .ok (.iload 4, 2) := by decide +kernel
theorem d_LW_law_558 : decode code 558 = .ok (.iconst 1, 1) := by decide +kernel
theorem d_LW_law_559 : decode code 559 = .ok (.iadd, 1) := by decide +kernel
theorem d_LW_law_560 : decode code 560 = .ok (.iaload, 1) := by decide +kernel
theorem d_LW_law_561 : decode code 561 = .ok (.aload_n 0, 1) := by decide +kernel
theorem d_LW_law_562 : decode code 562 = .ok (.iload 4, 2) := by decide +kernel
theorem d_LW_law_564 : decode code 564 = .ok (.iconst 2, 1) := by decide +kernel
theorem d_LW_law_565 : decode code 565 = .ok (.iadd, 1) := by decide +kernel
theorem d_LW_law_566 : decode code 566 = .ok (.iaload, 1) := by decide +kernel
theorem d_LW_law_567 : decode code 567 = .ok (.aload_n 0, 1) := by decide +kernel
theorem d_LW_law_568 : decode code 568 = .ok (.iload 4, 2) := by decide +kernel
theorem d_LW_law_570 : decode code 570 = .ok (.iconst 3, 1) := by decide +kernel
theorem d_LW_law_571 : decode code 571 = .ok (.iadd, 1) := by decide +kernel
theorem d_LW_law_572 : decode code 572 = .ok (.iaload, 1) := by decide +kernel
theorem d_LW_law_573 : decode code 573 = .ok (.aload_n 0, 1) := by decide +kernel
theorem d_LW_law_574 : decode code 574 = .ok (.iload 4, 2) := by decide +kernel
theorem d_LW_law_576 : decode code 576 = .ok (.iconst 4, 1) := by decide +kernel
theorem d_LW_law_577 : decode code 577 = .ok (.iadd, 1) := by decide +kernel
theorem d_LW_law_578 : decode code 578 = .ok (.iaload, 1) := by decide +kernel
theorem d_LW_law_579 : decode code 579 = .ok (.ifCond .eq 7, 3) := by decide +kernel
theorem d_LW_law_582 : decode code 582 = .ok (.iconst 1, 1) := by decide +kernel
theorem d_LW_law_583 : decode code 583 = .ok (.goto 4, 3) := by decide +kernel
theorem d_LW_law_586 : decode code 586 = .ok (.iconst 0, 1) := by decide +kernel
theorem d_LW_law_587 : decode code 587 = .ok (.invokevirtual 100, 3) := by decide +kernel
theorem d_LW_law_590 : decode code 590 = .ok (.istore 6, 2) := by decide +kernel
theorem d_LW_law_592 : decode code 592 = .ok (.aload_n 2, 1) := by decide +kernel
theorem d_LW_law_593 : decode code 593 = .ok (.invokevirtual 79, 3) := by decide +kernel
theorem d_LW_law_596 : decode code 596 = .ok (.iload 5, 2) := by decide +kernel
theorem d_LW_law_598 : decode code 598 = .ok (.if_icmp .eq 5, 3) := by decide +kernel
theorem d_LW_law_601 : decode code 601 = .ok (.iconst 0, 1) := by decide +kernel
theorem d_LW_law_602 : decode code 602 = .ok (.ireturn, 1) := by decide +kernel
theorem d_LW_law_603 : decode code 603 = .ok (.iload 5, 2) := by decide +kernel
theorem d_LW_law_605 : decode code 605 = .ok (.ifCond .ne 15, 3) := by decide +kernel
theorem d_LW_law_608 : decode code 608 = .ok (.aload_n 3, 1) := by decide +kernel
theorem d_LW_law_609 : decode code 609 = .ok (.iconst 0, 1) := by decide +kernel
theorem d_LW_law_610 : decode code 610 = .ok (.laload, 1) := by decide +kernel
theorem d_LW_law_611 : decode code 611 = .ok (.iload 6, 2) := by decide +kernel
theorem d_LW_law_613 : decode code 613 = .ok (.i2l, 1) := by decide +kernel
theorem d_LW_law_614 : decode code 614 = .ok (.lcmp, 1) := by decide +kernel
theorem d_LW_law_615 : decode code 615 = .ok (.ifCond .eq 5, 3) := by decide +kernel
theorem d_LW_law_618 : decode code 618 = .ok (.iconst 0, 1) := by decide +kernel
theorem d_LW_law_619 : decode code 619 = .ok (.ireturn, 1) := by decide +kernel
theorem d_LW_law_620 : decode code 620 = .ok (.goto 604, 3) := by decide +kernel
theorem d_LW_law_623 : decode code 623 = .ok (.aload_n 1, 1) := by decide +kernel
theorem d_LW_law_624 : decode code 624 = .ok (.aload_n 0, 1) := by decide +kernel
theorem d_LW_law_625 : decode code 625 = .ok (.iload 4, 2) := by decide +kernel
theorem d_LW_law_627 : decode code 627 = .ok (.iconst 1, 1) := by decide +kernel
theorem d_LW_law_628 : decode code 628 = .ok (.iadd, 1) := by decide +kernel
theorem d_LW_law_629 : decode code 629 = .ok (.iaload, 1) := by decide +kernel
theorem d_LW_law_630 : decode code 630 = .ok (.aload_n 3, 1) := by decide +kernel
theorem d_LW_law_631 : decode code 631 = .ok (.invokestatic 101, 3) := by decide +kernel
theorem d_LW_law_634 : decode code 634 = .ok (.istore 5, 2) := by decide +kernel
theorem d_LW_law_636 : decode code 636 = .ok (.aload_n 2, 1) := by decide +kernel
theorem d_LW_law_637 : decode code 637 = .ok (.aload_n 0, 1) := by decide +kernel
theorem d_LW_law_638 : decode code 638 = .ok (.iload 4, 2) := by decide +kernel
theorem d_LW_law_640 : decode code 640 = .ok (.iconst 1, 1) := by decide +kernel
theorem d_LW_law_641 : decode code 641 = .ok (.iadd, 1) := by decide +kernel
theorem d_LW_law_642 : decode code 642 = .ok (.iaload, 1) := by decide +kernel
theorem d_LW_law_643 : decode code 643 = .ok (.invokevirtual 104, 3) := by decide +kernel
theorem d_LW_law_646 : decode code 646 = .ok (.istore 6, 2) := by decide +kernel
theorem d_LW_law_648 : decode code 648 = .ok (.aload_n 2, 1) := by decide +kernel
theorem d_LW_law_649 : decode code 649 = .ok (.invokevirtual 79, 3) := by decide +kernel
theorem d_LW_law_652 : decode code 652 = .ok (.iload 5, 2) := by decide +kernel
theorem d_LW_law_654 : decode code 654 = .ok (.if_icmp .eq 5, 3) := by decide +kernel
theorem d_LW_law_657 : decode code 657 = .ok (.iconst 0, 1) := by decide +kernel
theorem d_LW_law_658 : decode code 658 = .ok (.ireturn, 1) := by decide +kernel
theorem d_LW_law_659 : decode code 659 = .ok (.iload 5, 2) := by decide +kernel
theorem d_LW_law_661 : decode code 661 = .ok (.ifCond .ne 15, 3) := by decide +kernel
theorem d_LW_law_664 : decode code 664 = .ok (.aload_n 3, 1) := by decide +kernel
theorem d_LW_law_665 : decode code 665 = .ok (.iconst 0, 1) := by decide +kernel
theorem d_LW_law_666 : decode code 666 = .ok (.laload, 1) := by decide +kernel
theorem d_LW_law_667 : decode code 667 = .ok (.iload 6, 2) := by decide +kernel
theorem d_LW_law_669 : decode code 669 = .ok (.i2l, 1) := by decide +kernel
theorem d_LW_law_670 : decode code 670 = .ok (.lcmp, 1) := by decide +kernel
theorem d_LW_law_671 : decode code 671 = .ok (.ifCond .eq 5, 3) := by decide +kernel
theorem d_LW_law_674 : decode code 674 = .ok (.iconst 0, 1) := by decide +kernel
theorem d_LW_law_675 : decode code 675 = .ok (.ireturn, 1) := by decide +kernel
theorem d_LW_law_676 : decode code 676 = .ok (.goto 548, 3) := by decide +kernel
theorem d_LW_law_679 : decode code 679 = .ok (.aload_n 1, 1) := by decide +kernel
theorem d_LW_law_680 : decode code 680 = .ok (.aload_n 0, 1) := by decide +kernel
theorem d_LW_law_681 : decode code 681 = .ok (.iload 4, 2) := by decide +kernel
theorem d_LW_law_683 : decode code 683 = .ok (.iconst 1, 1) := by decide +kernel
theorem d_LW_law_684 : decode code 684 = .ok (.iadd, 1) := by decide +kernel
theorem d_LW_law_685 : decode code 685 = .ok (.iaload, 1) := by decide +kernel
theorem d_LW_law_686 : decode code 686 = .ok (.aload_n 3, 1) := by decide +kernel
theorem d_LW_law_687 : decode code 687 = .ok (.invokestatic 105, 3) := by decide +kernel
theorem d_LW_law_690 : decode code 690 = .ok (.istore 5, 2) := by decide +kernel
theorem d_LW_law_692 : decode code 692 = .ok (.aload_n 2, 1) := by decide +kernel
theorem d_LW_law_693 : decode code 693 = .ok (.aload_n 0, 1) := by decide +kernel
theorem d_LW_law_694 : decode code 694 = .ok (.iload 4, 2) := by decide +kernel
theorem d_LW_law_696 : decode code 696 = .ok (.iconst 1, 1) := by decide +kernel
theorem d_LW_law_697 : decode code 697 = .ok (.iadd, 1) := by decide +kernel
theorem d_LW_law_698 : decode code 698 = .ok (.iaload, 1) := by decide +kernel
theorem d_LW_law_699 : decode code 699 = .ok (.invokevirtual 107, 3) := by decide +kernel
theorem d_LW_law_702 : decode code 702 = .ok (.istore 6, 2) := by decide +kernel
theorem d_LW_law_704 : decode code 704 = .ok (.aload_n 2, 1) := by decide +kernel
theorem d_LW_law_705 : decode code 705 = .ok (.invokevirtual 79, 3) := by decide +kernel
theorem d_LW_law_708 : decode code 708 = .ok (.iload 5, 2) := by decide +kernel
theorem d_LW_law_710 : decode code 710 = .ok (.if_icmp .eq 5, 3) := by decide +kernel
theorem d_LW_law_713 : decode code 713 = .ok (.iconst 0, 1) := by decide +kernel
theorem d_LW_law_714 : decode code 714 = .ok (.ireturn, 1) := by decide +kernel
theorem d_LW_law_715 : decode code 715 = .ok (.iload 5, 2) := by decide +kernel
theorem d_LW_law_717 : decode code 717 = .ok (.ifCond .ne 15, 3) := by decide +kernel
theorem d_LW_law_720 : decode code 720 = .ok (.aload_n 3, 1) := by decide +kernel
theorem d_LW_law_721 : decode code 721 = .ok (.iconst 0, 1) := by decide +kernel
theorem d_LW_law_722 : decode code 722 = .ok (.laload, 1) := by decide +kernel
theorem d_LW_law_723 : decode code 723 = .ok (.iload 6, 2) := by decide +kernel
theorem d_LW_law_725 : decode code 725 = .ok (.i2l, 1) := by decide +kernel
theorem d_LW_law_726 : decode code 726 = .ok (.lcmp, 1) := by decide +kernel
theorem d_LW_law_727 : decode code 727 = .ok (.ifCond .eq 5, 3) := by decide +kernel
theorem d_LW_law_730 : decode code 730 = .ok (.iconst 0, 1) := by decide +kernel
theorem d_LW_law_731 : decode code 731 = .ok (.ireturn, 1) := by decide +kernel
theorem d_LW_law_732 : decode code 732 = .ok (.goto 492, 3) := by decide +kernel
theorem d_LW_law_735 : decode code 735 = .ok (.aload_n 1, 1) := by decide +kernel
theorem d_LW_law_736 : decode code 736 = .ok (.invokevirtual 108, 3) := by decide +kernel
theorem d_LW_law_739 : decode code 739 = .ok (.aload_n 2, 1) := by decide +kernel
theorem d_LW_law_740 : decode code 740 = .ok (.invokevirtual 111, 3) := by decide +kernel
theorem d_LW_law_743 : decode code 743 = .ok (.if_icmp .eq 481, 3) := by decide +kernel
theorem d_LW_law_746 : decode code 746 = .ok (.iconst 0, 1) := by decide +kernel
theorem d_LW_law_747 : decode code 747 = .ok (.ireturn, 1) := by decide +kernel
theorem d_LW_law_748 : decode code 748 = .ok (.aload_n 1, 1) := by decide +kernel
theorem d_LW_law_749 : decode code 749 = .ok (.aload_n 0, 1) := by decide +kernel
theorem d_LW_law_750 : decode code 750 = .ok (.iload 4, 2) := by decide +kernel
theorem d_LW_law_752 : decode code 752 = .ok (.iconst 1, 1) := by decide +kernel
theorem d_LW_law_753 : decode code 753 = .ok (.iadd, 1) := by decide +kernel
theorem d_LW_law_754 : decode code 754 = .ok (.iaload, 1) := by decide +kernel
theorem d_LW_law_755 : decode code 755 = .ok (.aload_n 3, 1) := by decide +kernel
theorem d_LW_law_756 : decode code 756 = .ok (.invokestatic 112, 3) := by decide +kernel
theorem d_LW_law_759 : decode code 759 = .ok (.istore 5, 2) := by decide +kernel
theorem d_LW_law_761 : decode code 761 = .ok (.aload_n 2, 1) := by decide +kernel
theorem d_LW_law_762 : decode code 762 = .ok (.aload_n 0, 1) := by decide +kernel
theorem d_LW_law_763 : decode code 763 = .ok (.iload 4, 2) := by decide +kernel
theorem d_LW_law_765 : decode code 765 = .ok (.iconst 1, 1) := by decide +kernel
theorem d_LW_law_766 : decode code 766 = .ok (.iadd, 1) := by decide +kernel
theorem d_LW_law_767 : decode code 767 = .ok (.iaload, 1) := by decide +kernel
theorem d_LW_law_768 : decode code 768 = .ok (.invokevirtual 114, 3) := by decide +kernel
theorem d_LW_law_771 : decode code 771 = .ok (.istore 6, 2) := by decide +kernel
theorem d_LW_law_773 : decode code 773 = .ok (.aload_n 2, 1) := by decide +kernel
theorem d_LW_law_774 : decode code 774 = .ok (.invokevirtual 79, 3) := by decide +kernel
theorem d_LW_law_777 : decode code 777 = .ok (.iload 5, 2) := by decide +kernel
theorem d_LW_law_779 : decode code 779 = .ok (.if_icmp .eq 5, 3) := by decide +kernel
theorem d_LW_law_782 : decode code 782 = .ok (.iconst 0, 1) := by decide +kernel
theorem d_LW_law_783 : decode code 783 = .ok (.ireturn, 1) := by decide +kernel
theorem d_LW_law_784 : decode code 784 = .ok (.iload 5, 2) := by decide +kernel
theorem d_LW_law_786 : decode code 786 = .ok (.ifCond .ne 15, 3) := by decide +kernel
theorem d_LW_law_789 : decode code 789 = .ok (.aload_n 3, 1) := by decide +kernel
theorem d_LW_law_790 : decode code 790 = .ok (.iconst 0, 1) := by decide +kernel
theorem d_LW_law_791 : decode code 791 = .ok (.laload, 1) := by decide +kernel
theorem d_LW_law_792 : decode code 792 = .ok (.iload 6, 2) := by decide +kernel
theorem d_LW_law_794 : decode code 794 = .ok (.i2l, 1) := by decide +kernel
theorem d_LW_law_795 : decode code 795 = .ok (.lcmp, 1) := by decide +kernel
theorem d_LW_law_796 : decode code 796 = .ok (.ifCond .eq 5, 3) := by decide +kernel
theorem d_LW_law_799 : decode code 799 = .ok (.iconst 0, 1) := by decide +kernel
theorem d_LW_law_800 : decode code 800 = .ok (.ireturn, 1) := by decide +kernel
theorem d_LW_law_801 : decode code 801 = .ok (.goto 423, 3) := by decide +kernel
theorem d_LW_law_804 : decode code 804 = .ok (.aload_n 1, 1) := by decide +kernel
theorem d_LW_law_805 : decode code 805 = .ok (.aload_n 0, 1) := by decide +kernel
theorem d_LW_law_806 : decode code 806 = .ok (.iload 4, 2) := by decide +kernel
theorem d_LW_law_808 : decode code 808 = .ok (.iconst 1, 1) := by decide +kernel
theorem d_LW_law_809 : decode code 809 = .ok (.iadd, 1) := by decide +kernel
theorem d_LW_law_810 : decode code 810 = .ok (.iaload, 1) := by decide +kernel
theorem d_LW_law_811 : decode code 811 = .ok (.aload_n 0, 1) := by decide +kernel
theorem d_LW_law_812 : decode code 812 = .ok (.iload 4, 2) := by decide +kernel
theorem d_LW_law_814 : decode code 814 = .ok (.iconst 2, 1) := by decide +kernel
theorem d_LW_law_815 : decode code 815 = .ok (.iadd, 1) := by decide +kernel
theorem d_LW_law_816 : decode code 816 = .ok (.iaload, 1) := by decide +kernel
theorem d_LW_law_817 : decode code 817 = .ok (.aload_n 3, 1) := by decide +kernel
theorem d_LW_law_818 : decode code 818 = .ok (.invokestatic 115, 3) := by decide +kernel
theorem d_LW_law_821 : decode code 821 = .ok (.istore 5, 2) := by decide +kernel
theorem d_LW_law_823 : decode code 823 = .ok (.aload_n 2, 1) := by decide +kernel
theorem d_LW_law_824 : decode code 824 = .ok (.aload_n 0, 1) := by decide +kernel
theorem d_LW_law_825 : decode code 825 = .ok (.iload 4, 2) := by decide +kernel
theorem d_LW_law_827 : decode code 827 = .ok (.iconst 1, 1) := by decide +kernel
theorem d_LW_law_828 : decode code 828 = .ok (.iadd, 1) := by decide +kernel
theorem d_LW_law_829 : decode code 829 = .ok (.iaload, 1) := by decide +kernel
theorem d_LW_law_830 : decode code 830 = .ok (.aload_n 0, 1) := by decide +kernel
theorem d_LW_law_831 : decode code 831 = .ok (.iload 4, 2) := by decide +kernel
theorem d_LW_law_833 : decode code 833 = .ok (.iconst 2, 1) := by decide +kernel
theorem d_LW_law_834 : decode code 834 = .ok (.iadd, 1) := by decide +kernel
theorem d_LW_law_835 : decode code 835 = .ok (.iaload, 1) := by decide +kernel
theorem d_LW_law_836 : decode code 836 = .ok (.invokevirtual 117, 3) := by decide +kernel
theorem d_LW_law_839 : decode code 839 = .ok (.istore 6, 2) := by decide +kernel
theorem d_LW_law_841 : decode code 841 = .ok (.aload_n 2, 1) := by decide +kernel
theorem d_LW_law_842 : decode code 842 = .ok (.invokevirtual 79, 3) := by decide +kernel
theorem d_LW_law_845 : decode code 845 = .ok (.iload 5, 2) := by decide +kernel
theorem d_LW_law_847 : decode code 847 = .ok (.if_icmp .eq 5, 3) := by decide +kernel
theorem d_LW_law_850 : decode code 850 = .ok (.iconst 0, 1) := by decide +kernel
theorem d_LW_law_851 : decode code 851 = .ok (.ireturn, 1) := by decide +kernel
theorem d_LW_law_852 : decode code 852 = .ok (.iload 5, 2) := by decide +kernel
theorem d_LW_law_854 : decode code 854 = .ok (.ifCond .ne 15, 3) := by decide +kernel
theorem d_LW_law_857 : decode code 857 = .ok (.aload_n 3, 1) := by decide +kernel
theorem d_LW_law_858 : decode code 858 = .ok (.iconst 0, 1) := by decide +kernel
theorem d_LW_law_859 : decode code 859 = .ok (.laload, 1) := by decide +kernel
theorem d_LW_law_860 : decode code 860 = .ok (.iload 6, 2) := by decide +kernel
theorem d_LW_law_862 : decode code 862 = .ok (.i2l, 1) := by decide +kernel
theorem d_LW_law_863 : decode code 863 = .ok (.lcmp, 1) := by decide +kernel
theorem d_LW_law_864 : decode code 864 = .ok (.ifCond .eq 5, 3) := by decide +kernel
theorem d_LW_law_867 : decode code 867 = .ok (.iconst 0, 1) := by decide +kernel
theorem d_LW_law_868 : decode code 868 = .ok (.ireturn, 1) := by decide +kernel
theorem d_LW_law_869 : decode code 869 = .ok (.goto 355, 3) := by decide +kernel
theorem d_LW_law_872 : decode code 872 = .ok (.aload_n 1, 1) := by decide +kernel
theorem d_LW_law_873 : decode code 873 = .ok (.aload_n 0, 1) := by decide +kernel
theorem d_LW_law_874 : decode code 874 = .ok (.iload 4, 2) := by decide +kernel
theorem d_LW_law_876 : decode code 876 = .ok (.iconst 1, 1) := by decide +kernel
theorem d_LW_law_877 : decode code 877 = .ok (.iadd, 1) := by decide +kernel
theorem d_LW_law_878 : decode code 878 = .ok (.iaload, 1) := by decide +kernel
theorem d_LW_law_879 : decode code 879 = .ok (.aload_n 0, 1) := by decide +kernel
theorem d_LW_law_880 : decode code 880 = .ok (.iload 4, 2) := by decide +kernel
theorem d_LW_law_882 : decode code 882 = .ok (.iconst 2, 1) := by decide +kernel
theorem d_LW_law_883 : decode code 883 = .ok (.iadd, 1) := by decide +kernel
theorem d_LW_law_884 : decode code 884 = .ok (.iaload, 1) := by decide +kernel
theorem d_LW_law_885 : decode code 885 = .ok (.aload_n 0, 1) := by decide +kernel
theorem d_LW_law_886 : decode code 886 = .ok (.iload 4, 2) := by decide +kernel
theorem d_LW_law_888 : decode code 888 = .ok (.iconst 3, 1) := by decide +kernel
theorem d_LW_law_889 : decode code 889 = .ok (.iadd, 1) := by decide +kernel
theorem d_LW_law_890 : decode code 890 = .ok (.iaload, 1) := by decide +kernel
theorem d_LW_law_891 : decode code 891 = .ok (.aload_n 3, 1) := by decide +kernel
theorem d_LW_law_892 : decode code 892 = .ok (.invokestatic 118, 3) := by decide +kernel
theorem d_LW_law_895 : decode code 895 = .ok (.istore 5, 2) := by decide +kernel
theorem d_LW_law_897 : decode code 897 = .ok (.aload_n 2, 1) := by decide +kernel
theorem d_LW_law_898 : decode code 898 = .ok (.aload_n 0, 1) := by decide +kernel
theorem d_LW_law_899 : decode code 899 = .ok (.iload 4, 2) := by decide +kernel
theorem d_LW_law_901 : decode code 901 = .ok (.iconst 1, 1) := by decide +kernel
theorem d_LW_law_902 : decode code 902 = .ok (.iadd, 1) := by decide +kernel
theorem d_LW_law_903 : decode code 903 = .ok (.iaload, 1) := by decide +kernel
theorem d_LW_law_904 : decode code 904 = .ok (.aload_n 0, 1) := by decide +kernel
theorem d_LW_law_905 : decode code 905 = .ok (.iload 4, 2) := by decide +kernel
theorem d_LW_law_907 : decode code 907 = .ok (.iconst 2, 1) := by decide +kernel
theorem d_LW_law_908 : decode code 908 = .ok (.iadd, 1) := by decide +kernel
theorem d_LW_law_909 : decode code 909 = .ok (.iaload, 1) := by decide +kernel
theorem d_LW_law_910 : decode code 910 = .ok (.aload_n 0, 1) := by decide +kernel
theorem d_LW_law_911 : decode code 911 = .ok (.iload 4, 2) := by decide +kernel
theorem d_LW_law_913 : decode code 913 = .ok (.iconst 3, 1) := by decide +kernel
theorem d_LW_law_914 : decode code 914 = .ok (.iadd, 1) := by decide +kernel
theorem d_LW_law_915 : decode code 915 = .ok (.iaload, 1) := by decide +kernel
theorem d_LW_law_916 : decode code 916 = .ok (.invokevirtual 120, 3) := by decide +kernel
theorem d_LW_law_919 : decode code 919 = .ok (.istore 6, 2) := by decide +kernel
theorem d_LW_law_921 : decode code 921 = .ok (.aload_n 2, 1) := by decide +kernel
theorem d_LW_law_922 : decode code 922 = .ok (.invokevirtual 79, 3) := by decide +kernel
theorem d_LW_law_925 : decode code 925 = .ok (.iload 5, 2) := by decide +kernel
theorem d_LW_law_927 : decode code 927 = .ok (.if_icmp .eq 5, 3) := by decide +kernel
theorem d_LW_law_930 : decode code 930 = .ok (.iconst 0, 1) := by decide +kernel
theorem d_LW_law_931 : decode code 931 = .ok (.ireturn, 1) := by decide +kernel
theorem d_LW_law_932 : decode code 932 = .ok (.iload 5, 2) := by decide +kernel
theorem d_LW_law_934 : decode code 934 = .ok (.ifCond .ne 15, 3) := by decide +kernel
theorem d_LW_law_937 : decode code 937 = .ok (.aload_n 3, 1) := by decide +kernel
theorem d_LW_law_938 : decode code 938 = .ok (.iconst 0, 1) := by decide +kernel
theorem d_LW_law_939 : decode code 939 = .ok (.laload, 1) := by decide +kernel
theorem d_LW_law_940 : decode code 940 = .ok (.iload 6, 2) := by decide +kernel
theorem d_LW_law_942 : decode code 942 = .ok (.i2l, 1) := by decide +kernel
theorem d_LW_law_943 : decode code 943 = .ok (.lcmp, 1) := by decide +kernel
theorem d_LW_law_944 : decode code 944 = .ok (.ifCond .eq 5, 3) := by decide +kernel
theorem d_LW_law_947 : decode code 947 = .ok (.iconst 0, 1) := by decide +kernel
theorem d_LW_law_948 : decode code 948 = .ok (.ireturn, 1) := by decide +kernel
theorem d_LW_law_949 : decode code 949 = .ok (.goto 275, 3) := by decide +kernel
theorem d_LW_law_952 : decode code 952 = .ok (.aload_n 1, 1) := by decide +kernel
theorem d_LW_law_953 : decode code 953 = .ok (.aload_n 0, 1) := by decide +kernel
theorem d_LW_law_954 : decode code 954 = .ok (.iload 4, 2) := by decide +kernel
theorem d_LW_law_956 : decode code 956 = .ok (.iconst 1, 1) := by decide +kernel
theorem d_LW_law_957 : decode code 957 = .ok (.iadd, 1) := by decide +kernel
theorem d_LW_law_958 : decode code 958 = .ok (.iaload, 1) := by decide +kernel
theorem d_LW_law_959 : decode code 959 = .ok (.aload_n 0, 1) := by decide +kernel
theorem d_LW_law_960 : decode code 960 = .ok (.iload 4, 2) := by decide +kernel
theorem d_LW_law_962 : decode code 962 = .ok (.iconst 2, 1) := by decide +kernel
theorem d_LW_law_963 : decode code 963 = .ok (.iadd, 1) := by decide +kernel
theorem d_LW_law_964 : decode code 964 = .ok (.iaload, 1) := by decide +kernel
theorem d_LW_law_965 : decode code 965 = .ok (.aload_n 0, 1) := by decide +kernel
theorem d_LW_law_966 : decode code 966 = .ok (.iload 4, 2) := by decide +kernel
theorem d_LW_law_968 : decode code 968 = .ok (.iconst 3, 1) := by decide +kernel
theorem d_LW_law_969 : decode code 969 = .ok (.iadd, 1) := by decide +kernel
theorem d_LW_law_970 : decode code 970 = .ok (.iaload, 1) := by decide +kernel
theorem d_LW_law_971 : decode code 971 = .ok (.aload_n 3, 1) := by decide +kernel
theorem d_LW_law_972 : decode code 972 = .ok (.invokestatic 121, 3) := by decide +kernel
theorem d_LW_law_975 : decode code 975 = .ok (.istore 5, 2) := by decide +kernel
theorem d_LW_law_977 : decode code 977 = .ok (.aload_n 2, 1) := by decide +kernel
theorem d_LW_law_978 : decode code 978 = .ok (.aload_n 0, 1) := by decide +kernel
theorem d_LW_law_979 : decode code 979 = .ok (.iload 4, 2) := by decide +kernel
theorem d_LW_law_981 : decode code 981 = .ok (.iconst 1, 1) := by decide +kernel
theorem d_LW_law_982 : decode code 982 = .ok (.iadd, 1) := by decide +kernel
theorem d_LW_law_983 : decode code 983 = .ok (.iaload, 1) := by decide +kernel
theorem d_LW_law_984 : decode code 984 = .ok (.aload_n 0, 1) := by decide +kernel
theorem d_LW_law_985 : decode code 985 = .ok (.iload 4, 2) := by decide +kernel
theorem d_LW_law_987 : decode code 987 = .ok (.iconst 2, 1) := by decide +kernel
theorem d_LW_law_988 : decode code 988 = .ok (.iadd, 1) := by decide +kernel
theorem d_LW_law_989 : decode code 989 = .ok (.iaload, 1) := by decide +kernel
theorem d_LW_law_990 : decode code 990 = .ok (.aload_n 0, 1) := by decide +kernel
theorem d_LW_law_991 : decode code 991 = .ok (.iload 4, 2) := by decide +kernel
theorem d_LW_law_993 : decode code 993 = .ok (.iconst 3, 1) := by decide +kernel
theorem d_LW_law_994 : decode code 994 = .ok (.iadd, 1) := by decide +kernel
theorem d_LW_law_995 : decode code 995 = .ok (.iaload, 1) := by decide +kernel
theorem d_LW_law_996 : decode code 996 = .ok (.invokevirtual 123, 3) := by decide +kernel
theorem d_LW_law_999 : decode code 999 = .ok (.istore 6, 2) := by decide +kernel
theorem d_LW_law_1001 : decode code 1001 = .ok (.aload_n 2, 1) := by decide +kernel
theorem d_LW_law_1002 : decode code 1002 = .ok (.invokevirtual 79, 3) := by decide +kernel
theorem d_LW_law_1005 : decode code 1005 = .ok (.iload 5, 2) := by decide +kernel
theorem d_LW_law_1007 : decode code 1007 = .ok (.if_icmp .eq 5, 3) := by decide +kernel
theorem d_LW_law_1010 : decode code 1010 = .ok (.iconst 0, 1) := by decide +kernel
theorem d_LW_law_1011 : decode code 1011 = .ok (.ireturn, 1) := by decide +kernel
theorem d_LW_law_1012 : decode code 1012 = .ok (.iload 5, 2) := by decide +kernel
theorem d_LW_law_1014 : decode code 1014 = .ok (.ifCond .ne 15, 3) := by decide +kernel
theorem d_LW_law_1017 : decode code 1017 = .ok (.aload_n 3, 1) := by decide +kernel
theorem d_LW_law_1018 : decode code 1018 = .ok (.iconst 0, 1) := by decide +kernel
theorem d_LW_law_1019 : decode code 1019 = .ok (.laload, 1) := by decide +kernel
theorem d_LW_law_1020 : decode code 1020 = .ok (.iload 6, 2) := by decide +kernel
theorem d_LW_law_1022 : decode code 1022 = .ok (.i2l, 1) := by decide +kernel
theorem d_LW_law_1023 : decode code 1023 = .ok (.lcmp, 1) := by decide +kernel
theorem d_LW_law_1024 : decode code 1024 = .ok (.ifCond .eq 5, 3) := by decide +kernel
theorem d_LW_law_1027 : decode code 1027 = .ok (.iconst 0, 1) := by decide +kernel
theorem d_LW_law_1028 : decode code 1028 = .ok (.ireturn, 1) := by decide +kernel
theorem d_LW_law_1029 : decode code 1029 = .ok (.goto 195, 3) := by decide +kernel
theorem d_LW_law_1032 : decode code 1032 = .ok (.aload_n 1, 1) := by decide +kernel
theorem d_LW_law_1033 : decode code 1033 = .ok (.aload_n 0, 1) := by decide +kernel
theorem d_LW_law_1034 : decode code 1034 = .ok (.iload 4, 2) := by decide +kernel
theorem d_LW_law_1036 : decode code 1036 = .ok (.iconst 1, 1) := by decide +kernel
theorem d_LW_law_1037 : decode code 1037 = .ok (.iadd, 1) := by decide +kernel
theorem d_LW_law_1038 : decode code 1038 = .ok (.iaload, 1) := by decide +kernel
theorem d_LW_law_1039 : decode code 1039 = .ok (.aload_n 3, 1) := by decide +kernel
theorem d_LW_law_1040 : decode code 1040 = .ok (.invokestatic 124, 3) := by decide +kernel
theorem d_LW_law_1043 : decode code 1043 = .ok (.istore 5, 2) := by decide +kernel
theorem d_LW_law_1045 : decode code 1045 = .ok (.aload_n 2, 1) := by decide +kernel
theorem d_LW_law_1046 : decode code 1046 = .ok (.aload_n 0, 1) := by decide +kernel
theorem d_LW_law_1047 : decode code 1047 = .ok (.iload 4, 2) := by decide +kernel
theorem d_LW_law_1049 : decode code 1049 = .ok (.iconst 1, 1) := by decide +kernel
theorem d_LW_law_1050 : decode code 1050 = .ok (.iadd, 1) := by decide +kernel
theorem d_LW_law_1051 : decode code 1051 = .ok (.iaload, 1) := by decide +kernel
theorem d_LW_law_1052 : decode code 1052 = .ok (.invokevirtual 126, 3) := by decide +kernel
theorem d_LW_law_1055 : decode code 1055 = .ok (.istore 6, 2) := by decide +kernel
theorem d_LW_law_1057 : decode code 1057 = .ok (.aload_n 2, 1) := by decide +kernel
theorem d_LW_law_1058 : decode code 1058 = .ok (.invokevirtual 79, 3) := by decide +kernel
theorem d_LW_law_1061 : decode code 1061 = .ok (.iload 5, 2) := by decide +kernel
theorem d_LW_law_1063 : decode code 1063 = .ok (.if_icmp .eq 5, 3) := by decide +kernel
theorem d_LW_law_1066 : decode code 1066 = .ok (.iconst 0, 1) := by decide +kernel
theorem d_LW_law_1067 : decode code 1067 = .ok (.ireturn, 1) := by decide +kernel
theorem d_LW_law_1068 : decode code 1068 = .ok (.iload 5, 2) := by decide +kernel
theorem d_LW_law_1070 : decode code 1070 = .ok (.ifCond .ne 15, 3) := by decide +kernel
theorem d_LW_law_1073 : decode code 1073 = .ok (.aload_n 3, 1) := by decide +kernel
theorem d_LW_law_1074 : decode code 1074 = .ok (.iconst 0, 1) := by decide +kernel
theorem d_LW_law_1075 : decode code 1075 = .ok (.laload, 1) := by decide +kernel
theorem d_LW_law_1076 : decode code 1076 = .ok (.iload 6, 2) := by decide +kernel
theorem d_LW_law_1078 : decode code 1078 = .ok (.i2l, 1) := by decide +kernel
theorem d_LW_law_1079 : decode code 1079 = .ok (.lcmp, 1) := by decide +kernel
theorem d_LW_law_1080 : decode code 1080 = .ok (.ifCond .eq 5, 3) := by decide +kernel
theorem d_LW_law_1083 : decode code 1083 = .ok (.iconst 0, 1) := by decide +kernel
theorem d_LW_law_1084 : decode code 1084 = .ok (.ireturn, 1) := by decide +kernel
theorem d_LW_law_1085 : decode code 1085 = .ok (.goto 139, 3) := by decide +kernel
theorem d_LW_law_1088 : decode code 1088 = .ok (.aload_n 1, 1) := by decide +kernel
theorem d_LW_law_1089 : decode code 1089 = .ok (.aload_n 0, 1) := by decide +kernel
theorem d_LW_law_1090 : decode code 1090 = .ok (.iload 4, 2) := by decide +kernel
theorem d_LW_law_1092 : decode code 1092 = .ok (.iconst 1, 1) := by decide +kernel
theorem d_LW_law_1093 : decode code 1093 = .ok (.iadd, 1) := by decide +kernel
theorem d_LW_law_1094 : decode code 1094 = .ok (.iaload, 1) := by decide +kernel
theorem d_LW_law_1095 : decode code 1095 = .ok (.aload_n 0, 1) := by decide +kernel
theorem d_LW_law_1096 : decode code 1096 = .ok (.iload 4, 2) := by decide +kernel
theorem d_LW_law_1098 : decode code 1098 = .ok (.iconst 2, 1) := by decide +kernel
theorem d_LW_law_1099 : decode code 1099 = .ok (.iadd, 1) := by decide +kernel
theorem d_LW_law_1100 : decode code 1100 = .ok (.iaload, 1) := by decide +kernel
theorem d_LW_law_1101 : decode code 1101 = .ok (.aload_n 3, 1) := by decide +kernel
theorem d_LW_law_1102 : decode code 1102 = .ok (.invokestatic 127, 3) := by decide +kernel
theorem d_LW_law_1105 : decode code 1105 = .ok (.istore 5, 2) := by decide +kernel
theorem d_LW_law_1107 : decode code 1107 = .ok (.aload_n 2, 1) := by decide +kernel
theorem d_LW_law_1108 : decode code 1108 = .ok (.aload_n 0, 1) := by decide +kernel
theorem d_LW_law_1109 : decode code 1109 = .ok (.iload 4, 2) := by decide +kernel
theorem d_LW_law_1111 : decode code 1111 = .ok (.iconst 1, 1) := by decide +kernel
theorem d_LW_law_1112 : decode code 1112 = .ok (.iadd, 1) := by decide +kernel
theorem d_LW_law_1113 : decode code 1113 = .ok (.iaload, 1) := by decide +kernel
theorem d_LW_law_1114 : decode code 1114 = .ok (.aload_n 0, 1) := by decide +kernel
theorem d_LW_law_1115 : decode code 1115 = .ok (.iload 4, 2) := by decide +kernel
theorem d_LW_law_1117 : decode code 1117 = .ok (.iconst 2, 1) := by decide +kernel
theorem d_LW_law_1118 : decode code 1118 = .ok (.iadd, 1) := by decide +kernel
theorem d_LW_law_1119 : decode code 1119 = .ok (.iaload, 1) := by decide +kernel
theorem d_LW_law_1120 : decode code 1120 = .ok (.invokevirtual 129, 3) := by decide +kernel
theorem d_LW_law_1123 : decode code 1123 = .ok (.istore 6, 2) := by decide +kernel
theorem d_LW_law_1125 : decode code 1125 = .ok (.aload_n 2, 1) := by decide +kernel
theorem d_LW_law_1126 : decode code 1126 = .ok (.invokevirtual 79, 3) := by decide +kernel
theorem d_LW_law_1129 : decode code 1129 = .ok (.iload 5, 2) := by decide +kernel
theorem d_LW_law_1131 : decode code 1131 = .ok (.if_icmp .eq 5, 3) := by decide +kernel
theorem d_LW_law_1134 : decode code 1134 = .ok (.iconst 0, 1) := by decide +kernel
theorem d_LW_law_1135 : decode code 1135 = .ok (.ireturn, 1) := by decide +kernel
theorem d_LW_law_1136 : decode code 1136 = .ok (.iload 5, 2) := by decide +kernel
theorem d_LW_law_1138 : decode code 1138 = .ok (.ifCond .ne 15, 3) := by decide +kernel
theorem d_LW_law_1141 : decode code 1141 = .ok (.aload_n 3, 1) := by decide +kernel
theorem d_LW_law_1142 : decode code 1142 = .ok (.iconst 0, 1) := by decide +kernel
theorem d_LW_law_1143 : decode code 1143 = .ok (.laload, 1) := by decide +kernel
theorem d_LW_law_1144 : decode code 1144 = .ok (.iload 6, 2) := by decide +kernel
theorem d_LW_law_1146 : decode code 1146 = .ok (.i2l, 1) := by decide +kernel
theorem d_LW_law_1147 : decode code 1147 = .ok (.lcmp, 1) := by decide +kernel
theorem d_LW_law_1148 : decode code 1148 = .ok (.ifCond .eq 5, 3) := by decide +kernel
theorem d_LW_law_1151 : decode code 1151 = .ok (.iconst 0, 1) := by decide +kernel
theorem d_LW_law_1152 : decode code 1152 = .ok (.ireturn, 1) := by decide +kernel
theorem d_LW_law_1153 : decode code 1153 = .ok (.goto 71, 3) := by decide +kernel
theorem d_LW_law_1156 : decode code 1156 = .ok (.aload_n 1, 1) := by decide +kernel
theorem d_LW_law_1157 : decode code 1157 = .ok (.aload_n 0, 1) := by decide +kernel
theorem d_LW_law_1158 : decode code 1158 = .ok (.iload 4, 2) := by decide +kernel
theorem d_LW_law_1160 : decode code 1160 = .ok (.iconst 1, 1) := by decide +kernel
theorem d_LW_law_1161 : decode code 1161 = .ok (.iadd, 1) := by decide +kernel
theorem d_LW_law_1162 : decode code 1162 = .ok (.iaload, 1) := by decide +kernel
theorem d_LW_law_1163 : decode code 1163 = .ok (.aload_n 0, 1) := by decide +kernel
theorem d_LW_law_1164 : decode code 1164 = .ok (.iload 4, 2) := by decide +kernel
theorem d_LW_law_1166 : decode code 1166 = .ok (.iconst 2, 1) := by decide +kernel
theorem d_LW_law_1167 : decode code 1167 = .ok (.iadd, 1) := by decide +kernel
theorem d_LW_law_1168 : decode code 1168 = .ok (.iaload, 1) := by decide +kernel
theorem d_LW_law_1169 : decode code 1169 = .ok (.aload_n 3, 1) := by decide +kernel
theorem d_LW_law_1170 : decode code 1170 = .ok (.invokestatic 130, 3) := by decide +kernel
theorem d_LW_law_1173 : decode code 1173 = .ok (.istore 5, 2) := by decide +kernel
theorem d_LW_law_1175 : decode code 1175 = .ok (.aload_n 2, 1) := by decide +kernel
theorem d_LW_law_1176 : decode code 1176 = .ok (.aload_n 0, 1) := by decide +kernel
theorem d_LW_law_1177 : decode code 1177 = .ok (.iload 4, 2) := by decide +kernel
theorem d_LW_law_1179 : decode code 1179 = .ok (.iconst 1, 1) := by decide +kernel
theorem d_LW_law_1180 : decode code 1180 = .ok (.iadd, 1) := by decide +kernel
theorem d_LW_law_1181 : decode code 1181 = .ok (.iaload, 1) := by decide +kernel
theorem d_LW_law_1182 : decode code 1182 = .ok (.aload_n 0, 1) := by decide +kernel
theorem d_LW_law_1183 : decode code 1183 = .ok (.iload 4, 2) := by decide +kernel
theorem d_LW_law_1185 : decode code 1185 = .ok (.iconst 2, 1) := by decide +kernel
theorem d_LW_law_1186 : decode code 1186 = .ok (.iadd, 1) := by decide +kernel
theorem d_LW_law_1187 : decode code 1187 = .ok (.iaload, 1) := by decide +kernel
theorem d_LW_law_1188 : decode code 1188 = .ok (.invokevirtual 132, 3) := by decide +kernel
theorem d_LW_law_1191 : decode code 1191 = .ok (.istore 6, 2) := by decide +kernel
theorem d_LW_law_1193 : decode code 1193 = .ok (.aload_n 2, 1) := by decide +kernel
theorem d_LW_law_1194 : decode code 1194 = .ok (.invokevirtual 79, 3) := by decide +kernel
theorem d_LW_law_1197 : decode code 1197 = .ok (.iload 5, 2) := by decide +kernel
theorem d_LW_law_1199 : decode code 1199 = .ok (.if_icmp .eq 5, 3) := by decide +kernel
theorem d_LW_law_1202 : decode code 1202 = .ok (.iconst 0, 1) := by decide +kernel
theorem d_LW_law_1203 : decode code 1203 = .ok (.ireturn, 1) := by decide +kernel
theorem d_LW_law_1204 : decode code 1204 = .ok (.iload 5, 2) := by decide +kernel
theorem d_LW_law_1206 : decode code 1206 = .ok (.ifCond .ne 15, 3) := by decide +kernel
theorem d_LW_law_1209 : decode code 1209 = .ok (.aload_n 3, 1) := by decide +kernel
theorem d_LW_law_1210 : decode code 1210 = .ok (.iconst 0, 1) := by decide +kernel
theorem d_LW_law_1211 : decode code 1211 = .ok (.laload, 1) := by decide +kernel
theorem d_LW_law_1212 : decode code 1212 = .ok (.iload 6, 2) := by decide +kernel
theorem d_LW_law_1214 : decode code 1214 = .ok (.i2l, 1) := by decide +kernel
theorem d_LW_law_1215 : decode code 1215 = .ok (.lcmp, 1) := by decide +kernel
theorem d_LW_law_1216 : decode code 1216 = .ok (.ifCond .eq 5, 3) := by decide +kernel
theorem d_LW_law_1219 : decode code 1219 = .ok (.iconst 0, 1) := by decide +kernel
theorem d_LW_law_1220 : decode code 1220 = .ok (.ireturn, 1) := by decide +kernel
theorem d_LW_law_1221 : decode code 1221 = .ok (.goto 3, 3) := by decide +kernel
theorem d_LW_law_1224 : decode code 1224 = .ok (.iinc 4 5, 3) := by decide +kernel
theorem d_LW_law_1227 : decode code 1227 = .ok (.goto (-1194), 3) := by decide +kernel
theorem d_LW_law_1230 : decode code 1230 = .ok (.iconst 1, 1) := by decide +kernel
theorem d_LW_law_1231 : decode code 1231 = .ok (.ireturn, 1) := by decide +kernel
