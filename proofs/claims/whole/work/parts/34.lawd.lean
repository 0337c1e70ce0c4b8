theorem d_law_0 : decode code 0 = .ok (.new 8, 3) := by decide +kernel
theorem d_law_3 : decode code 3 = .ok (.dup, 1) := by decide +kernel
theorem d_law_4 : decode code 4 = .ok (.invokespecial 76, 3) := by decide +kernel
theorem d_law_7 : decode code 7 = .ok (.astore_n 1, 1) := by decide +kernel
theorem d_law_8 : decode code 8 = .ok (.new 77, 3) := by decide +kernel
theorem d_law_11 : decode code 11 = .ok (.dup, 1) := by decide +kernel
theorem d_law_12 : decode code 12 = .ok (.invokespecial 79, 3) := by decide +kernel
theorem d_law_15 : decode code 15 = .ok (.astore_n 2, 1) := by decide +kernel
theorem d_law_16 : decode code 16 = .ok (.iconst 1, 1) := by decide +kernel
theorem d_law_17 : decode code 17 = .ok (.newarray .long, 2) := by decide +kernel
theorem d_law_19 : decode code 19 = .ok (.astore_n 3, 1) := by decide +kernel
theorem d_law_20 : decode code 20 = .ok (.iconst 0, 1) := by decide +kernel
theorem d_law_21 : decode code 21 = .ok (.istore 4, 2) := by decide +kernel
theorem d_law_23 : decode code 23 = .ok (.iload 4, 2) := by decide +kernel
theorem d_law_25 : decode code 25 = .ok (.aload_n 0, 1) := by decide +kernel
theorem d_law_26 : decode code 26 = .ok (.arraylength, 1) := by decide +kernel
theorem d_law_27 : decode code 27 = .ok (.bipush 6, 2) := by decide +kernel
theorem d_law_29 : decode code 29 = .ok (.isub, 1) := by decide +kernel
theorem d_law_30 : decode code 30 = .ok (.if_icmp .gt 1540, 3) := by decide +kernel
theorem d_law_33 : decode code 33 = .ok (.aload_n 0, 1) := by decide +kernel
theorem d_law_34 : decode code 34 = .ok (.iload 4, 2) := by decide +kernel
theorem d_law_36 : decode code 36 = .ok (.iaload, 1) := by decide +kernel
theorem d_law_37 : decode code 37 = .ok (.bipush 31, 2) := by decide +kernel
theorem d_law_39 : decode code 39 = .ok (.iand, 1) := by decide +kernel
theorem d_law_40 : decode code 40 = .ok (.tableswitch 1524 0 17 #[88, 136, 192, 292, 305, 409, 513, 617, 689, 761, 865, 969, 1073, 1153, 1189, 1245, 1337, 1416], 88) := by decide +kernel
theorem d_law_128 : decode code 128 = .ok (.aload_n 1, 1) := by decide +kernel
theorem d_law_129 : decode code 129 = .ok (.aload_n 0, 1) := by decide +kernel
theorem d_law_130 : decode code 130 = .ok (.iload 4, 2) := by decide +kernel
theorem d_law_132 : decode code 132 = .ok (.iconst 1, 1) := by decide +kernel
theorem d_law_133 : decode code 133 = .ok (.iadd, 1) := by decide +kernel
theorem d_law_134 : decode code 134 = .ok (.iaload, 1) := by decide +kernel
theorem d_law_135 : decode code 135 = .ok (.aload_n 0, 1) := by decide +kernel
theorem d_law_136 : decode code 136 = .ok (.iload 4, 2) := by decide +kernel
theorem d_law_138 : decode code 138 = .ok (.iconst 2, 1) := by decide +kernel
theorem d_law_139 : decode code 139 = .ok (.iadd, 1) := by decide +kernel
theorem d_law_140 : decode code 140 = .ok (.iaload, 1) := by decide +kernel
theorem d_law_141 : decode code 141 = .ok (.invokestatic 80, 3) := by decide +kernel
theorem d_law_144 : decode code 144 = .ok (.istore 5, 2) := by decide +kernel
theorem d_law_146 : decode code 146 = .ok (.aload_n 2, 1) := by decide +kernel
theorem d_law_147 : decode code 147 = .ok (.aload_n 0, 1) := by decide +kernel
theorem d_law_148 : decode code 148 = .ok (.iload 4, 2) := by decide +kernel
theorem d_law_150 : decode code 150 = .ok (.iconst 1, 1) := by decide +kernel
theorem d_law_151 : decode code 151 = .ok (.iadd, 1) := by decide +kernel
theorem d_law_152 : decode code 152 = .ok (.iaload, 1) := by decide +kernel
theorem d_law_153 : decode code 153 = .ok (.aload_n 0, 1) := by decide +kernel
theorem d_law_154 : decode code 154 = .ok (.iload 4, 2) := by decide +kernel
theorem d_law_156 : decode code 156 = .ok (.iconst 2, 1) := by decide +kernel
theorem d_law_157 : decode code 157 = .ok (.iadd, 1) := by decide +kernel
theorem d_law_158 : decode code 158 = .ok (.iaload, 1) := by decide +kernel
theorem d_law_159 : decode code 159 = .ok (.invokevirtual 85, 3) := by decide +kernel
theorem d_law_162 : decode code 162 = .ok (.aload_n 2, 1) := by decide +kernel
theorem d_law_163 : decode code 163 = .ok (.invokevirtual 86, 3) := by decide +kernel
theorem d_law_166 : decode code 166 = .ok (.iload 5, 2) := by decide +kernel
theorem d_law_168 : decode code 168 = .ok (.if_icmp .eq 5, 3) := by decide +kernel
theorem d_law_171 : decode code 171 = .ok (.iconst 0, 1) := by decide +kernel
theorem d_law_172 : decode code 172 = .ok (.ireturn, 1) := by decide +kernel
theorem d_law_173 : decode code 173 = .ok (.goto 1391, 3) := by decide +kernel
theorem d_law_176 : decode code 176 = .ok (.aload_n 1, 1) := by decide +kernel
theorem d_law_177 : decode code 177 = .ok (.aload_n 0, 1) := by decide +kernel
theorem d_law_178 : decode code 178 = .ok (.iload 4, 2) := by decide +kernel
theorem d_law_180 : decode code 180 = .ok (.iconst 1, 1) := by decide +kernel
theorem d_law_181 : decode code 181 = .ok (.iadd, 1) := by decide +kernel
theorem d_law_182 : decode code 182 = .ok (.iaload, 1) := by decide +kernel
theorem d_law_183 : decode code 183 = .ok (.aload_n 3, 1) := by decide +kernel
theorem d_law_184 : decode code 184 = .ok (.invokestatic 90, 3) := by decide +kernel
theorem d_law_187 : decode code 187 = .ok (.istore 5, 2) := by decide +kernel
theorem d_law_189 : decode code 189 = .ok (.aload_n 2, 1) := by decide +kernel
theorem d_law_190 : decode code 190 = .ok (.aload_n 0, 1) := by decide +kernel
theorem d_law_191 : decode code 191 = .ok (.iload 4, 2) := by decide +kernel
theorem d_law_193 : decode code 193 = .ok (.iconst 1, 1) := by decide +kernel
theorem d_law_194 : decode code 194 = .ok (.iadd, 1) := by decide +kernel
theorem d_law_195 : decode code 195 = .ok (.iaload, 1) := by decide +kernel
theorem d_law_196 : decode code 196 = .ok (.invokevirtual 93, 3) := by decide +kernel
theorem d_law_199 : decode code 199 = .ok (.istore 6, 2) := by decide +kernel
theorem d_law_201 : decode code 201 = .ok (.aload_n 2, 1) := by decide +kernel
theorem d_law_202 : decode code 202 = .ok (.invokevirtual 86, 3) := by decide +kernel
theorem d_law_205 : decode code 205 = .ok (.iload 5, 2) := by decide +kernel
theorem d_law_207 : decode code 207 = .ok (.if_icmp .eq 5, 3) := by decide +kernel
theorem d_law_210 : decode code 210 = .ok (.iconst 0, 1) := by decide +kernel
theorem d_law_211 : decode code 211 = .ok (.ireturn, 1) := by decide +kernel
theorem d_law_212 : decode code 212 = .ok (.iload 5, 2) := by decide +kernel
theorem d_law_214 : decode code 214 = .ok (.ifCond .ne 15, 3) := by decide +kernel
theorem d_law_217 : decode code 217 = .ok (.aload_n 3, 1) := by decide +kernel
theorem d_law_218 : decode code 218 = .ok (.iconst 0, 1) := by decide +kernel
theorem d_law_219 : decode code 219 = .ok (.laload, 1) := by decide +kernel
theorem d_law_220 : decode code 220 = .ok (.iload 6, 2) := by decide +kernel
theorem d_law_222 : decode code 222 = .ok (.i2l, 1) := by decide +kernel
theorem d_law_223 : decode code 223 = .ok (.lcmp, 1) := by decide +kernel
theorem d_law_224 : decode code 224 = .ok (.ifCond .eq 5, 3) := by decide +kernel
theorem d_law_227 : decode code 227 = .ok (.iconst 0, 1) := by decide +kernel
theorem d_law_228 : decode code 228 = .ok (.ireturn, 1) := by decide +kernel
theorem d_law_229 : decode code 229 = .ok (.goto 1335, 3) := by decide +kernel
theorem d_law_232 : decode code 232 = .ok (.aload_n 1, 1) := by decide +kernel
theorem d_law_233 : decode code 233 = .ok (.aload_n 0, 1) := by decide +kernel
theorem d_law_234 : decode code 234 = .ok (.iload 4, 2) := by decide +kernel
theorem d_law_236 : decode code 236 = .ok (.iconst 1, 1) := by decide +kernel
theorem d_law_237 : decode code 237 = .ok (.iadd, 1) := by decide +kernel
theorem d_law_238 : decode code 238 = .ok (.iaload, 1) := by decide +kernel
theorem d_law_239 : decode code 239 = .ok (.aload_n 0, 1) := by decide +kernel
theorem d_law_240 : decode code 240 = .ok (.iload 4, 2) := by decide +kernel
theorem d_law_242 : decode code 242 = .ok (.iconst 2, 1) := by decide +kernel
theorem d_law_243 : decode code 243 = .ok (.iadd, 1) := by decide +kernel
theorem d_law_244 : decode code 244 = .ok (.iaload, 1) := by decide +kernel
theorem d_law_245 : decode code 245 = .ok (.i2l, 1) := by decide +kernel
theorem d_law_246 : decode code 246 = .ok (.bipush 32, 2) := by decide +kernel
theorem d_law_248 : decode code 248 = .ok (.lshl, 1) := by decide +kernel
theorem d_law_249 : decode code 249 = .ok (.aload_n 0, 1) := by decide +kernel
theorem d_law_250 : decode code 250 = .ok (.iload 4, 2) := by decide +kernel
theorem d_law_252 : decode code 252 = .ok (.iconst 3, 1) := by decide +kernel
theorem d_law_253 : decode code 253 = .ok (.iadd, 1) := by decide +kernel
theorem d_law_254 : decode code 254 = .ok (.iaload, 1) := by decide +kernel
theorem d_law_255 : decode code 255 = .ok (.i2l, 1) := by decide +kernel
theorem d_law_256 : decode code 256 = .ok (.ldc2_w 94, 3) := by decide +kernel
theorem d_law_259 : decode code 259 = .ok (.land, 1) := by decide +kernel
theorem d_law_260 : decode code 260 = .ok (.lor, 1) := by decide +kernel
theorem d_law_261 : decode code 261 = .ok (.aload_n 3, 1) := by decide +kernel
theorem d_law_262 : decode code 262 = .ok (.invokestatic 96, 3) := by decide +kernel
theorem d_law_265 : decode code 265 = .ok (.istore 5, 2) := by decide +kernel
theorem d_law_267 : decode code 267 = .ok (.aload_n 2, 1) := by decide +kernel
theorem d_law_268 : decode code 268 = .ok (.aload_n 0, 1) := by decide +kernel
theorem d_law_269 : decode code 269 = .ok (.iload 4, 2) := by decide +kernel
theorem d_law_271 : decode code 271 = .ok (.iconst 1, 1) := by decide +kernel
theorem d_law_272 : decode code 272 = .ok (.iadd, 1) := by decide +kernel
theorem d_law_273 : decode code 273 = .ok (.iaload, 1) := by decide +kernel
theorem d_law_274 : decode code 274 = .ok (.aload_n 0, 1) := by decide +kernel
theorem d_law_275 : decode code 275 = .ok (.iload 4, 2) := by decide +kernel
theorem d_law_277 : decode code 277 = .ok (.iconst 2, 1) := by decide +kernel
theorem d_law_278 : decode code 278 = .ok (.iadd, 1) := by decide +kernel
theorem d_law_279 : decode code 279 = .ok (.iaload, 1) := by decide +kernel
theorem d_law_280 : decode code 280 = .ok (.i2l, 1) := by decide +kernel
theorem d_law_281 : decode code 281 = .ok (.bipush 32, 2) := by decide +kernel
theorem d_law_283 : decode code 283 = .ok (.lshl, 1) := by decide +kernel
theorem d_law_284 : decode code 284 = .ok (.aload_n 0, 1) := by decide +kernel
theorem d_law_285 : decode code 285 = .ok (.iload 4, 2) := by decide +kernel
theorem d_law_287 : decode code 287 = .ok (.iconst 3, 1) := by decide +kernel
theorem d_law_288 : decode code 288 = .ok (.iadd, 1) := by decide +kernel
theorem d_law_289 : decode code 289 = .ok (.iaload, 1) := by decide +kernel
theorem d_law_290 : decode code 290 = .ok (.i2l, 1) := by decide +kernel
theorem d_law_291 : decode code 291 = .ok (.ldc2_w 94, 3) := by decide +kernel
theorem d_law_294 : decode code 294 = .ok (.land, 1) := by decide +kernel
theorem d_law_295 : decode code 295 = .ok (.lor, 1) := by decide +kernel
theorem d_law_296 : decode code 296 = .ok (.invokevirtual 99, 3) := by decide +kernel
theorem d_law_299 : decode code 299 = .ok (.istore 6, 2) := by decide +kernel
theorem d_law_301 : decode code 301 = .ok (.aload_n 2, 1) := by decide +kernel
theorem d_law_302 : decode code 302 = .ok (.invokevirtual 86, 3) := by decide +kernel
theorem d_law_305 : decode code 305 = .ok (.iload 5, 2) := by decide +kernel
theorem d_law_307 : decode code 307 = .ok (.if_icmp .eq 5, 3) := by decide +kernel
theorem d_law_310 : decode code 310 = .ok (.iconst 0, 1) := by decide +kernel
theorem d_law_311 : decode code 311 = .ok (.ireturn, 1) := by decide +kernel
theorem d_law_312 : decode code 312 = .ok (.iload 5, 2) := by decide +kernel
theorem d_law_314 : decode code 314 = .ok (.ifCond .ne 15, 3) := by decide +kernel
theorem d_law_317 : decode code 317 = .ok (.aload_n 3, 1) := by decide +kernel
theorem d_law_318 : decode code 318 = .ok (.iconst 0, 1) := by decide +kernel
theorem d_law_319 : decode code 319 = .ok (.laload, 1) := by decide +kernel
theorem d_law_320 : decode code 320 = .ok (.iload 6, 2) := by decide +kernel
theorem d_law_322 : decode code 322 = .ok (.i2l, 1) := by decide +kernel
theorem d_law_323 : decode code 323 = .ok (.lcmp, 1) := by decide +kernel
theorem d_law_324 : decode code 324 = .ok (.ifCond .eq 5, 3) := by decide +kernel
theorem d_law_327 : decode code 327 = .ok (.iconst 0, 1) := by decide +kernel
theorem d_law_328 : decode code 328 = .ok (.ireturn, 1) := by decide +kernel
theorem d_law_329 : decode code 329 = .ok (.goto 1235, 3) := by decide +kernel
theorem d_law_332 : decode code 332 = .ok (.aload_n 1, 1) := by decide +kernel
theorem d_law_333 : decode code 333 = .ok (.invokevirtual 100, 3) := by decide +kernel
theorem d_law_336 : decode code 336 = .ok (.aload_n 2, 1) := by decide +kernel
theorem d_law_337 : decode code 337 = .ok (.invokevirtual 103, 3) := by decide +kernel
theorem d_law_340 : decode code 340 = .ok (.if_icmp .eq 1224, 3) := by decide +kernel
theorem d_law_343 : decode code 343 = .ok (.iconst 0, 1) := by decide +kernel
theorem d_law_344 : decode code 344 = .ok (.ireturn, 1) := by decide +kernel
theorem d_law_345 : decode code 345 = .ok (.aload_n 1, 1) := by decide +kernel
theorem d_law_346 : decode code 346 = .ok (.aload_n 0, 1) := by decide +kernel
theorem d_law_347 : decode code 347 = .ok (.iload 4, 2) := by decide +kernel
theorem d_law_349 : decode code 349 = .ok (.iconst 1, 1) := by decide +kernel
theorem d_law_350 : decode code 350 = .ok (.iadd, 1) := by decide +kernel
theorem d_law_351 : decode code 351 = .ok (.iaload, 1) := by decide +kernel
theorem d_law_352 : decode code 352 = .ok (.aload_n 0, 1) := by decide +kernel
theorem d_law_353 : decode code 353 = .ok (.iload 4, 2) := by decide +kernel
theorem d_law_355 : decode code 355 = .ok (.iconst 2, 1) := by decide +kernel
theorem d_law_356 : decode code 356 = .ok (.iadd, 1) := by decide +kernel
theorem d_law_357 : decode code 357 = .ok (.iaload, 1) := by decide +kernel
theorem d_law_358 : decode code 358 = .ok (.aload_n 0, 1) := by decide +kernel
theorem d_law_359 : decode code 359 = .ok (.iload 4, 2) := by decide +kernel
theorem d_law_361 : decode code 361 = .ok (.iconst 3, 1) := by decide +kernel
theorem d_law_362 : decode code 362 = .ok (.iadd, 1) := by decide +kernel
theorem d_law_363 : decode code 363 = .ok (.iaload, 1) := by decide +kernel
theorem d_law_364 : decode code 364 = .ok (.aload_n 0, 1) := by decide +kernel
theorem d_law_365 : decode code 365 = .ok (.iload 4, 2) := by decide +kernel
theorem d_law_367 : decode code 367 = .ok (.iconst 4, 1) := by decide +kernel
theorem d_law_368 : decode code 368 = .ok (.iadd, 1) := by decide +kernel
theorem d_law_369 : decode code 369 = .ok (.iaload, 1) := by decide +kernel
theorem d_law_370 : decode code 370 = .ok (.aload_n 0, 1) := by decide +kernel
theorem d_law_371 : decode code 371 = .ok (.iload 4, 2) := by decide +kernel
theorem d_law_373 : decode code 373 = .ok (.iconst 5, 1) := by decide +kernel
theorem d_law_374 : decode code 374 = .ok (.iadd, 1) := by decide +kernel
theorem d_law_375 : decode code 375 = .ok (.iaload, 1) := by decide +kernel
theorem d_law_376 : decode code 376 = .ok (.aload_n 3, 1) := by decide +kernel
theorem d_law_377 : decode code 377 = .ok (.invokestatic 104, 3) := by decide +kernel
theorem d_law_380 : decode code 380 = .ok (.istore 5, 2) := by decide +kernel
theorem d_law_382 : decode code 382 = .ok (.aload_n 2, 1) := by decide +kernel
theorem d_law_383 : decode code 383 = .ok (.aload_n 0, 1) := by decide +kernel
theorem d_law_384 : decode code 384 = .ok (.iload 4, 2) := by decide +kernel
theorem d_law_386 : decode code 386 = .ok (.iconst 1, 1) := by decide +kernel
theorem d_law_387 : decode code 387 = .ok (.iadd, 1) := by decide +kernel
theorem d_law_388 : decode code 388 = .ok (.iaload, 1) := by decide +kernel
theorem d_law_389 : decode code 389 = .ok (.aload_n 0, 1) := by decide +kernel
theorem d_law_390 : decode code 390 = .ok (.iload 4, 2) := by decide +kernel
theorem d_law_392 : decode code 392 = .ok (.iconst 2, 1) := by decide +kernel
theorem d_law_393 : decode code 393 = .ok (.iadd, 1) := by decide +kernel
theorem d_law_394 : decode code 394 = .ok (.iaload, 1) := by decide +kernel
theorem d_law_395 : decode code 395 = .ok (.aload_n 0, 1) := by decide +kernel
theorem d_law_396 : decode code 396 = .ok (.iload 4, 2) := by decide +kernel
theorem d_law_398 : decode code 398 = .ok (.iconst 3, 1) := by decide +kernel
theorem d_law_399 : decode code 399 = .ok (.iadd, 1) := by decide +kernel
theorem d_law_400 : decode code 400 = .ok (.iaload, 1) := by decide +kernel
theorem d_law_401 : decode code 401 = .ok (.aload_n 0, 1) := by decide +kernel
theorem d_law_402 : decode code 402 = .ok (.iload 4, 2) := by decide +kernel
theorem d_law_404 : decode code 404 = .ok (.iconst 4, 1) := by decide +kernel
theorem d_law_405 : decode code 405 = .ok (.iadd, 1) := by decide +kernel
theorem d_law_406 : decode code 406 = .ok (.iaload, 1) := by decide +kernel
theorem d_law_407 : decode code 407 = .ok (.aload_n 0, 1) := by decide +kernel
theorem d_law_408 : decode code 408 = .ok (.iload 4, 2) := by decide +kernel
theorem d_law_410 : decode code 410 = .ok (.iconst 5, 1) := by decide +kernel
theorem d_law_411 : decode code 411 = .ok (.iadd, 1) := by decide +kernel
theorem d_law_412 : decode code 412 = .ok (.iaload, 1) := by decide +kernel
theorem d_law_413 : decode code 413 = .ok (.invokevirtual 107, 3) := by decide +kernel
theorem d_law_416 : decode code 416 = .ok (.istore 6, 2) := by decide +kernel
theorem d_law_418 : decode code 418 = .ok (.aload_n 2, 1) := by decide +kernel
theorem d_law_419 : decode code 419 = .ok (.invokevirtual 86, 3) := by decide +kernel
theorem d_law_422 : decode code 422 = .ok (.iload 5, 2) := by decide +kernel
theorem d_law_424 : decode code 424 = .ok (.if_icmp .eq 5, 3) := by decide +kernel
theorem d_law_427 : decode code 427 = .ok (.iconst 0, 1) := by decide +kernel
theorem d_law_428 : decode code 428 = .ok (.ireturn, 1) := by decide +kernel
theorem d_law_429 : decode code 429 = .ok (.iload 5, 2) := by decide +kernel
theorem d_law_431 : decode code 431 = .ok (.ifCond .ne 15, 3) := by decide +kernel
theorem d_law_434 : decode code 434 = .ok (.aload_n 3, 1) := by decide +kernel
theorem d_law_435 : decode code 435 = .ok (.iconst 0, 1) := by decide +kernel
theorem d_law_436 : decode code 436 = .ok (.laload, 1) := by decide +kernel
theorem d_law_437 : decode code 437 = .ok (.iload 6, 2) := by decide +kernel
theorem d_law_439 : decode code 439 = .ok (.i2l, 1) := by decide +kernel
theorem d_law_440 : decode code 440 = .ok (.lcmp, 1) := by decide +kernel
theorem d_law_441 : decode code 441 = .ok (.ifCond .eq 5, 3) := by decide +kernel
theorem d_law_444 : decode code 444 = .ok (.iconst 0, 1) := by decide +kernel
theorem d_law_445 : decode code 445 = .ok (.ireturn, 1) := by decide +kernel
theorem d_law_446 : decode code 446 = .ok (.goto 1118, 3) := by decide +kernel
theorem d_law_449 : decode code 449 = .ok (.aload_n 1, 1) := by decide +kernel
theorem d_law_450 : decode code 450 = .ok (.aload_n 0, 1) := by decide +kernel
theorem d_law_451 : decode code 451 = .ok (.iload 4, 2) := by decide +kernel
theorem d_law_453 : decode code 453 = .ok (.iconst 1, 1) := by decide +kernel
theorem d_law_454 : decode code 454 = .ok (.iadd, 1) := by decide +kernel
theorem d_law_455 : decode code 455 = .ok (.iaload, 1) := by decide +kernel
theorem d_law_456 : decode code 456 = .ok (.aload_n 0, 1) := by decide +kernel
theorem d_law_457 : decode code 457 = .ok (.iload 4, 2) := by decide +kernel
theorem d_law_459 : decode code 459 = .ok (.iconst 2, 1) := by decide +kernel
theorem d_law_460 : decode code 460 = .ok (.iadd, 1) := by decide +kernel
theorem d_law_461 : decode code 461 = .ok (.iaload, 1) := by decide +kernel
theorem d_law_462 : decode code 462 = .ok (.aload_n 0, 1) := by decide +kernel
theorem d_law_463 : decode code 463 = .ok (.iload 4, 2) := by decide +kernel
theorem d_law_465 : decode code 465 = .ok (.iconst 3, 1) := by decide +kernel
theorem d_law_466 : decode code 466 = .ok (.iadd, 1) := by decide +kernel
theorem d_law_467 : decode code 467 = .ok (.iaload, 1) := by decide +kernel
theorem d_law_468 : decode code 468 = .ok (.aload_n 0, 1) := by decide +kernel
theorem d_law_469 : decode code 469 = .ok (.iload 4, 2) := by decide +kernel
theorem d_law_471 : decode code 471 = .ok (.iconst 4, 1) := by decide +kernel
theorem d_law_472 : decode code 472 = .ok (.iadd, 1) := by decide +kernel
theorem d_law_473 : decode code 473 = .ok (.iaload, 1) := by decide +kernel
theorem d_law_474 : decode code 474 = .ok (.aload_n 0, 1) := by decide +kernel
theorem d_law_475 : decode code 475 = .ok (.iload 4, 2) := by decide +kernel
theorem d_law_477 : decode code 477 = .ok (.iconst 5, 1) := by decide +kernel
theorem d_law_478 : decode code 478 = .ok (.iadd, 1) := by decide +kernel
theorem d_law_479 : decode code 479 = .ok (.iaload, 1) := by decide +kernel
theorem d_law_480 : decode code 480 = .ok (.aload_n 3, 1) := by decide +kernel
theorem d_law_481 : decode code 481 = .ok (.invokestatic 108, 3) := by decide +kernel
theorem d_law_484 : decode code 484 = .ok (.istore 5, 2) := by decide +kernel
theorem d_law_486 : decode code 486 = .ok (.aload_n 2, 1) := by decide +kernel
theorem d_law_487 : decode code 487 = .ok (.aload_n 0, 1) := by decide +kernel
theorem d_law_488 : decode code 488 = .ok (.iload 4, 2) := by decide +kernel
theorem d_law_490 : decode code 490 = .ok (.iconst 1, 1) := by decide +kernel
theorem d_law_491 : decode code 491 = .ok (.iadd, 1) := by decide +kernel
theorem d_law_492 : decode code 492 = .ok (.iaload, 1) := by decide +kernel
theorem d_law_493 : decode code 493 = .ok (.aload_n 0, 1) := by decide +kernel
theorem d_law_494 : decode code 494 = .ok (.iload 4, 2) := by decide +kernel
theorem d_law_496 : decode code 496 = .ok (.iconst 2, 1) := by decide +kernel
theorem d_law_497 : decode code 497 = .ok (.iadd, 1) := by decide +kernel
theorem d_law_498 : decode code 498 = .ok (.iaload, 1) := by decide +kernel
theorem d_law_499 : decode code 499 = .ok (.aload_n 0, 1) := by decide +kernel
theorem d_law_500 : decode code 500 = .ok (.iload 4, 2) := by decide +kernel
theorem d_law_502 : decode code 502 = .ok (.iconst 3, 1) := by decide +kernel
theorem d_law_503 : decode code 503 = .ok (.iadd, 1) := by decide +kernel
theorem d_law_504 : decode code 504 = .ok (.iaload, 1) := by decide +kernel
theorem d_law_505 : decode code 505 = .ok (.aload_n 0, 1) := by decide +kernel
theorem d_law_506 : decode code 506 = .ok (.iload 4, 2) := by decide +kernel
theorem d_law_508 : decode code 508 = .ok (.iconst 4, 1) := by decide +kernel
theorem d_law_509 : decode code 509 = .ok (.iadd, 1) := by decide +kernel
theorem d_law_510 : decode code 510 = .ok (.iaload, 1) := by decide +kernel
theorem d_law_511 : decode code 511 = .ok (.aload_n 0, 1) := by decide +kernel
theorem d_law_512 : decode code 512 = .ok (.iload 4, 2) := by decide +kernel
theorem d_law_514 : decode code 514 = .ok (.iconst 5, 1) := by decide +kernel
theorem d_law_515 : decode code 515 = .ok (.iadd, 1) := by decide +kernel
theorem d_law_516 : decode code 516 = .ok (.iaload, 1) := by decide +kernel
theorem d_law_517 : decode code 517 = .ok (.invokevirtual 110, 3) := by decide +kernel
theorem d_law_520 : decode code 520 = .ok (.istore 6, 2) := by decide +kernel
theorem d_law_522 : decode code 522 = .ok (.aload_n 2, 1) := by decide +kernel
theorem d_law_523 : decode code 523 = .ok (.invokevirtual 86, 3) := by decide +kernel
theorem d_law_526 : decode code 526 = .ok (.iload 5, 2) := by decide +kernel
theorem d_law_528 : decode code 528 = .ok (.if_icmp .eq 5, 3) := by decide +kernel
theorem d_law_531 : decode code 531 = .ok (.iconst 0, 1) := by decide +kernel
theorem d_law_532 : decode code 532 = .ok (.ireturn, 1) := by decide +kernel
theorem d_law_533 : decode code 533 = .ok (.iload 5, 2) := by decide +kernel
theorem d_law_535 : decode code 535 = .ok (.ifCond .ne 15, 3) := by decide +kernel
theorem d_law_538 : decode code 538 = .ok (.aload_n 3, 1) := by decide +kernel
theorem d_law_539 : decode code 539 = .ok (.iconst 0, 1) := by decide +kernel
theorem d_law_540 : decode code 540 = .ok (.laload, 1) := by decide +kernel
theorem d_law_541 : decode code 541 = .ok (.iload 6, 2) := by decide +kernel
theorem d_law_543 : decode code 543 = .ok (.i2l, 1) := by decide +kernel
theorem d_law_544 : decode code 544 = .ok (.lcmp, 1) := by decide +kernel
theorem d_law_545 : decode code 545 = .ok (.ifCond .eq 5, 3) := by decide +kernel
theorem d_law_548 : decode code 548 = .ok (.iconst 0, 1) := by decide +kernel
theorem d_law_549 : decode code 549 = .ok (.ireturn, 1) := by decide +kernel
theorem d_law_550 : decode code 550 = .ok (.goto 1014, 3) := by decide +kernel
theorem d_law_553 : decode code 553 = .ok (.aload_n 1, 1) := by decide +kernel
theorem d_law_554 : decode code 554 = .ok (.aload_n 0, 1) := by decide +kernel
theorem d_law_555 : decode code 555 = .ok (.iload 4, 2) := by decide +kernel
theorem d_law_557 : decode code 557 = .ok (.iconst 1, 1) := by decide +kernel
theorem d_law_558 : decode code 558 = .ok (.iadd, 1) := by decide +kernel
theorem d_law_559 : decode code 559 = .ok (.iaload, 1) := by decide +kernel
theorem d_law_560 : decode code 560 = .ok (.aload_n 0, 1) := by decide +kernel
theorem d_law_561 : decode code 561 = .ok (.iload 4, 2) := by decide +kernel
theorem d_law_563 : decode code 563 = .ok (.iconst 2, 1) := by decide +kernel
theorem d_law_564 : decode code 564 = .ok (.iadd, 1) := by decide +kernel
theorem d_law_565 : decode code 565 = .ok (.iaload, 1) := by decide +kernel
theorem d_law_566 : decode code 566 = .ok (.aload_n 0, 1) := by decide +kernel
theorem d_law_567 : decode code 567 = .ok (.iload 4, 2) := by decide +kernel
theorem d_law_569 : decode code 569 = .ok (.iconst 3, 1) := by decide +kernel
theorem d_law_570 : decode code 570 = .ok (.iadd, 1) := by decide +kernel
theorem d_law_571 : decode code 571 = .ok (.iaload, 1) := by decide +kernel
theorem d_law_572 : decode code 572 = .ok (.aload_n 0, 1) := by decide +kernel
theorem d_law_573 : decode code 573 = .ok (.iload 4, 2) := by decide +kernel
theorem d_law_575 : decode code 575 = .ok (.iconst 4, 1) := by decide +kernel
theorem d_law_576 : decode code 576 = .ok (.iadd, 1) := by decide +kernel
theorem d_law_577 : decode code 577 = .ok (.iaload, 1) := by decide +kernel
theorem d_law_578 : decode code 578 = .ok (.aload_n 0, 1) := by decide +kernel
theorem d_law_579 : decode code 579 = .ok (.iload 4, 2) := by decide +kernel
theorem d_law_581 : decode code 581 = .ok (.iconst 5, 1) := by decide +kernel
theorem d_law_582 : decode code 582 = .ok (.iadd, 1) := by decide +kernel
theorem d_law_583 : decode code 583 = .ok (.iaload, 1) := by decide +kernel
theorem d_law_584 : decode code 584 = .ok (.aload_n 3, 1) := by decide +kernel
theorem d_law_585 : decode code 585 = .ok (.invokestatic 111, 3) := by decide +kernel
theorem d_law_588 : decode code 588 = .ok (.istore 5, 2) := by decide +kernel
theorem d_law_590 : decode code 590 = .ok (.aload_n 2, 1) := by decide +kernel
theorem d_law_591 : decode code 591 = .ok (.aload_n 0, 1) := by decide +kernel
theorem d_law_592 : decode code 592 = .ok (.iload 4, 2) := by decide +kernel
theorem d_law_594 : decode code 594 = .ok (.iconst 1, 1) := by decide +kernel
theorem d_law_595 : decode code 595 = .ok (.iadd, 1) := by decide +kernel
theorem d_law_596 : decode code 596 = .ok (.iaload, 1) := by decide +kernel
theorem d_law_597 : decode code 597 = .ok (.aload_n 0, 1) := by decide +kernel
theorem d_law_598 : decode code 598 = .ok (.iload 4, 2) := by decide +kernel
theorem d_law_600 : decode code 600 = .ok (.iconst 2, 1) := by decide +kernel
theorem d_law_601 : decode code 601 = .ok (.iadd, 1) := by decide +kernel
theorem d_law_602 : decode code 602 = .ok (.iaload, 1) := by decide +kernel
theorem d_law_603 : decode code 603 = .ok (.aload_n 0, 1) := by decide +kernel
theorem d_law_604 : decode code 604 = .ok (.iload 4, 2) := by decide +kernel
theorem d_law_606 : decode code 606 = .ok (.iconst 3, 1) := by decide +kernel
theorem d_law_607 : decode code 607 = .ok (.iadd, 1) := by decide +kernel
theorem d_law_608 : decode code 608 = .ok (.iaload, 1) := by decide +kernel
theorem d_law_609 : decode code 609 = .ok (.aload_n 0, 1) := by decide +kernel
theorem d_law_610 : decode code 610 = .ok (.iload 4, 2) := by decide +kernel
theorem d_law_612 : decode code 612 = .ok (.iconst 4, 1) := by decide +kernel
theorem d_law_613 : decode code 613 = .ok (.iadd, 1) := by decide +kernel
theorem d_law_614 : decode code 614 = .ok (.iaload, 1) := by decide +kernel
theorem d_law_615 : decode code 615 = .ok (.aload_n 0, 1) := by decide +kernel
theorem d_law_616 : decode code 616 = .ok (.iload 4, 2) := by decide +kernel
theorem d_law_618 : decode code 618 = .ok (.iconst 5, 1) := by decide +kernel
theorem d_law_619 : decode code 619 = .ok (.iadd, 1) := by decide +kernel
theorem d_law_620 : decode code 620 = .ok (.iaload, 1) := by decide +kernel
theorem d_law_621 : decode code 621 = .ok (.invokevirtual 113, 3) := by decide +kernel
theorem d_law_624 : decode code 624 = .ok (.istore 6, 2) := by decide +kernel
theorem d_law_626 : decode code 626 = .ok (.aload_n 2, 1) := by decide +kernel
theorem d_law_627 : decode code 627 = .ok (.invokevirtual 86, 3) := by decide +kernel
theorem d_law_630 : decode code 630 = .ok (.iload 5, 2) := by decide +kernel
theorem d_law_632 : decode code 632 = .ok (.if_icmp .eq 5, 3) := by decide +kernel
theorem d_law_635 : decode code 635 = .ok (.iconst 0, 1) := by decide +kernel
theorem d_law_636 : decode code 636 = .ok (.ireturn, 1) := by decide +kernel
theorem d_law_637 : decode code 637 = .ok (.iload 5, 2) := by decide +kernel
theorem d_law_639 : decode code 639 = .ok (.ifCond .ne 15, 3) := by decide +kernel
theorem d_law_642 : decode code 642 = .ok (.aload_n 3, 1) := by decide +kernel
theorem d_law_643 : decode code 643 = .ok (.iconst 0, 1) := by decide +kernel
theorem d_law_644 : decode code 644 = .ok (.laload, 1) := by decide +kernel
theorem d_law_645 : decode code 645 = .ok (.iload 6, 2) := by decide +kernel
theorem d_law_647 : decode code 647 = .ok (.i2l, 1) := by decide +kernel
theorem d_law_648 : decode code 648 = .ok (.lcmp, 1) := by decide +kernel
theorem d_law_649 : decode code 649 = .ok (.ifCond .eq 5, 3) := by decide +kernel
theorem d_law_652 : decode code 652 = .ok (.iconst 0, 1) := by decide +kernel
theorem d_law_653 : decode code 653 = .ok (.ireturn, 1) := by decide +kernel
theorem d_law_654 : decode code 654 = .ok (.goto 910, 3) := by decide +kernel
theorem d_law_657 : decode code 657 = .ok (.aload_n 1, 1) := by decide +kernel
theorem d_law_658 : decode code 658 = .ok (.aload_n 0, 1) := by decide +kernel
theorem d_law_659 : decode code 659 = .ok (.iload 4, 2) := by decide +kernel
theorem d_law_661 : decode code 661 = .ok (.iconst 1, 1) := by decide +kernel
theorem d_law_662 : decode code 662 = .ok (.iadd, 1) := by decide +kernel
theorem d_law_663 : decode code 663 = .ok (.iaload, 1) := by decide +kernel
theorem d_law_664 : decode code 664 = .ok (.aload_n 0, 1) := by decide +kernel
theorem d_law_665 : decode code 665 = .ok (.iload 4, 2) := by decide +kernel
theorem d_law_667 : decode code 667 = .ok (.iconst 2, 1) := by decide +kernel
theorem d_law_668 : decode code 668 = .ok (.iadd, 1) := by decide +kernel
theorem d_law_669 : decode code 669 = .ok (.iaload, 1) := by decide +kernel
theorem d_law_670 : decode code 670 = .ok (.aload_n 0, 1) := by decide +kernel
theorem d_law_671 : decode code 671 = .ok (.iload 4, 2) := by decide +kernel
theorem d_law_673 : decode code 673 = .ok (.iconst 3, 1) := by decide +kernel
theorem d_law_674 : decode code 674 = .ok (.iadd, 1) := by decide +kernel
theorem d_law_675 : decode code 675 = .ok (.iaload, 1) := by decide +kernel
theorem d_law_676 : decode code 676 = .ok (.aload_n 0, 1) := by decide +kernel
theorem d_law_677 : decode code 677 = .ok (.iload 4, 2) := by decide +kernel
theorem d_law_679 : decode code 679 = .ok (.iconst 4, 1) := by decide +kernel
theorem d_law_680 : decode code 680 = .ok (.iadd, 1) := by decide +kernel
theorem d_law_681 : decode code 681 = .ok (.iaload, 1) := by decide +kernel
theorem d_law_682 : decode code 682 = .ok (.invokestatic 114, 3) := by decide +kernel
theorem d_law_685 : decode code 685 = .ok (.istore 5, 2) := by decide +kernel
theorem d_law_687 : decode code 687 = .ok (.aload_n 2, 1) := by decide +kernel
theorem d_law_688 : decode code 688 = .ok (.aload_n 0, 1) := by decide +kernel
theorem d_law_689 : decode code 689 = .ok (.iload 4, 2) := by decide +kernel
theorem d_law_691 : decode code 691 = .ok (.iconst 1, 1) := by decide +kernel
theorem d_law_692 : decode code 692 = .ok (.iadd, 1) := by decide +kernel
theorem d_law_693 : decode code 693 = .ok (.iaload, 1) := by decide +kernel
theorem d_law_694 : decode code 694 = .ok (.aload_n 0, 1) := by decide +kernel
theorem d_law_695 : decode code 695 = .ok (.iload 4, 2) := by decide +kernel
theorem d_law_697 : decode code 697 = .ok (.iconst 2, 1) := by decide +kernel
theorem d_law_698 : decode code 698 = .ok (.iadd, 1) := by decide +kernel
theorem d_law_699 : decode code 699 = .ok (.iaload, 1) := by decide +kernel
theorem d_law_700 : decode code 700 = .ok (.aload_n 0, 1) := by decide +kernel
theorem d_law_701 : decode code 701 = .ok (.iload 4, 2) := by decide +kernel
theorem d_law_703 : decode code 703 = .ok (.iconst 3, 1) := by decide +kernel
theorem d_law_704 : decode code 704 = .ok (.iadd, 1) := by decide +kernel
theorem d_law_705 : decode code 705 = .ok (.iaload, 1) := by decide +kernel
theorem d_law_706 : decode code 706 = .ok (.aload_n 0, 1) := by decide +kernel
theorem d_law_707 : decode code 707 = .ok (.iload 4, 2) := by decide +kernel
theorem d_law_709 : decode code 709 = .ok (.iconst 4, 1) := by decide +kernel
theorem d_law_710 : decode code 710 = .ok (.iadd, 1) := by decide +kernel
theorem d_law_711 : decode code 711 = .ok (.iaload, 1) := by decide +kernel
theorem d_law_712 : decode code 712 = .ok (.invokevirtual 117, 3) := by decide +kernel
theorem d_law_715 : decode code 715 = .ok (.aload_n 2, 1) := by decide +kernel
theorem d_law_716 : decode code 716 = .ok (.invokevirtual 86, 3) := by decide +kernel
theorem d_law_719 : decode code 719 = .ok (.iload 5, 2) := by decide +kernel
theorem d_law_721 : decode code 721 = .ok (.if_icmp .eq 5, 3) := by decide +kernel
theorem d_law_724 : decode code 724 = .ok (.iconst 0, 1) := by decide +kernel
theorem d_law_725 : decode code 725 = .ok (.ireturn, 1) := by decide +kernel
theorem d_law_726 : decode code 726 = .ok (.goto 838, 3) := by decide +kernel
theorem d_law_729 : decode code 729 = .ok (.aload_n 1, 1) := by decide +kernel
theorem d_law_730 : decode code 730 = .ok (.aload_n 0, 1) := by decide +kernel
theorem d_law_731 : decode code 731 = .ok (.iload 4, 2) := by decide +kernel
theorem d_law_733 : decode code 733 = .ok (.iconst 1, 1) := by decide +kernel
theorem d_law_734 : decode code 734 = .ok (.iadd, 1) := by decide +kernel
theorem d_law_735 : decode code 735 = .ok (.iaload, 1) := by decide +kernel
theorem d_law_736 : decode code 736 = .ok (.aload_n 0, 1) := by decide +kernel
theorem d_law_737 : decode code 737 = .ok (.iload 4, 2) := by decide +kernel
theorem d_law_739 : decode code 739 = .ok (.iconst 2, 1) := by decide +kernel
theorem d_law_740 : decode code 740 = .ok (.iadd, 1) := by decide +kernel
theorem d_law_741 : decode code 741 = .ok (.iaload, 1) := by decide +kernel
theorem d_law_742 : decode code 742 = .ok (.aload_n 0, 1) := by decide +kernel
theorem d_law_743 : decode code 743 = .ok (.iload 4, 2) := by decide +kernel
theorem d_law_745 : decode code 745 = .ok (.iconst 3, 1) := by decide +kernel
theorem d_law_746 : decode code 746 = .ok (.iadd, 1) := by decide +kernel
theorem d_law_747 : decode code 747 = .ok (.iaload, 1) := by decide +kernel
theorem d_law_748 : decode code 748 = .ok (.aload_n 0, 1) := by decide +kernel
theorem d_law_749 : decode code 749 = .ok (.iload 4, 2) := by decide +kernel
theorem d_law_751 : decode code 751 = .ok (.iconst 4, 1) := by decide +kernel
theorem d_law_752 : decode code 752 = .ok (.iadd, 1) := by decide +kernel
theorem d_law_753 : decode code 753 = .ok (.iaload, 1) := by decide +kernel
theorem d_law_754 : decode code 754 = .ok (.invokestatic 118, 3) := by decide +kernel
theorem d_law_757 : decode code 757 = .ok (.istore 5, 2) := by decide +kernel
theorem d_law_759 : decode code 759 = .ok (.aload_n 2, 1) := by decide +kernel
theorem d_law_760 : decode code 760 = .ok (.aload_n 0, 1) := by decide +kernel
theorem d_law_761 : decode code 761 = .ok (.iload 4, 2) := by decide +kernel
theorem d_law_763 : decode code 763 = .ok (.iconst 1, 1) := by decide +kernel
theorem d_law_764 : decode code 764 = .ok (.iadd, 1) := by decide +kernel
theorem d_law_765 : decode code 765 = .ok (.iaload, 1) := by decide +kernel
theorem d_law_766 : decode code 766 = .ok (.aload_n 0, 1) := by decide +kernel
theorem d_law_767 : decode code 767 = .ok (.iload 4, 2) := by decide +kernel
theorem d_law_769 : decode code 769 = .ok (.iconst 2, 1) := by decide +kernel
theorem d_law_770 : decode code 770 = .ok (.iadd, 1) := by decide +kernel
theorem d_law_771 : decode code 771 = .ok (.iaload, 1) := by decide +kernel
theorem d_law_772 : decode code 772 = .ok (.aload_n 0, 1) := by decide +kernel
theorem d_law_773 : decode code 773 = .ok (.iload 4, 2) := by decide +kernel
theorem d_law_775 : decode code 775 = .ok (.iconst 3, 1) := by decide +kernel
theorem d_law_776 : decode code 776 = .ok (.iadd, 1) := by decide +kernel
theorem d_law_777 : decode code 777 = .ok (.iaload, 1) := by decide +kernel
theorem d_law_778 : decode code 778 = .ok (.aload_n 0, 1) := by decide +kernel
theorem d_law_779 : decode code 779 = .ok (.iload 4, 2) := by decide +kernel
theorem d_law_781 : decode code 781 = .ok (.iconst 4, 1) := by decide +kernel
theorem d_law_782 : decode code 782 = .ok (.iadd, 1) := by decide +kernel
theorem d_law_783 : decode code 783 = .ok (.iaload, 1) := by decide +kernel
theorem d_law_784 : decode code 784 = .ok (.invokevirtual 120, 3) := by decide +kernel
theorem d_law_787 : decode code 787 = .ok (.aload_n 2, 1) := by decide +kernel
theorem d_law_788 : decode code 788 = .ok (.invokevirtual 86, 3) := by decide +kernel
theorem d_law_791 : decode code 791 = .ok (.iload 5, 2) := by decide +kernel
theorem d_law_793 : decode code 793 = .ok (.if_icmp .eq 5, 3) := by decide +kernel
theorem d_law_796 : decode code 796 = .ok (.iconst 0, 1) := by decide +kernel
theorem d_law_797 : decode code 797 = .ok (.ireturn, 1) := by decide +kernel
theorem d_law_798 : decode code 798 = .ok (.goto 766, 3) := by decide +kernel
theorem d_law_801 : decode code 801 = .ok (.aload_n 1, 1) := by decide +kernel
theorem d_law_802 : decode code 802 = .ok (.aload_n 0, 1) := by decide +kernel
theorem d_law_803 : decode code 803 = .ok (.iload 4, 2) := by decide +kernel
theorem d_law_805 : decode code 805 = .ok (.iconst 1, 1) := by decide +kernel
theorem d_law_806 : decode code 806 = .ok (.iadd, 1) := by decide +kernel
theorem d_law_807 : decode code 807 = .ok (.iaload, 1) := by decide +kernel
theorem d_law_808 : decode code 808 = .ok (.aload_n 0, 1) := by decide +kernel
theorem d_law_809 : decode code 809 = .ok (.iload 4, 2) := by decide +kernel
theorem d_law_811 : decode code 811 = .ok (.iconst 2, 1) := by decide +kernel
theorem d_law_812 : decode code 812 = .ok (.iadd, 1) := by decide +kernel
theorem d_law_813 : decode code 813 = .ok (.iaload, 1) := by decide +kernel
theorem d_law_814 : decode code 814 = .ok (.aload_n 0, 1) := by decide +kernel
theorem d_law_815 : decode code 815 = .ok (.iload 4, 2) := by decide +kernel
theorem d_law_817 : decode code 817 = .ok (.iconst 3, 1) := by decide +kernel
theorem d_law_818 : decode code 818 = .ok (.iadd, 1) := by decide +kernel
theorem d_law_819 : decode code 819 = .ok (.iaload, 1) := by decide +kernel
theorem d_law_820 : decode code 820 = .ok (.aload_n 0, 1) := by decide +kernel
theorem d_law_821 : decode code 821 = .ok (.iload 4, 2) := by decide +kernel
theorem d_law_823 : decode code 823 = .ok (.iconst 4, 1) := by decide +kernel
theorem d_law_824 : decode code 824 = .ok (.iadd, 1) := by decide +kernel
theorem d_law_825 : decode code 825 = .ok (.iaload, 1) := by decide +kernel
theorem d_law_826 : decode code 826 = .ok (.aload_n 0, 1) := by decide +kernel
theorem d_law_827 : decode code 827 = .ok (.iload 4, 2) := by decide +kernel
theorem d_law_829 : decode code 829 = .ok (.iconst 5, 1) := by decide +kernel
theorem d_law_830 : decode code 830 = .ok (.iadd, 1) := by decide +kernel
theorem d_law_831 : decode code 831 = .ok (.iaload, 1) := by decide +kernel
theorem d_law_832 : decode code 832 = .ok (.aload_n 3, 1) := by decide +kernel
theorem d_law_833 : decode code 833 = .ok (.invokestatic 121, 3) := by decide +kernel
theorem d_law_836 : decode code 836 = .ok (.istore 5, 2) := by decide +kernel
theorem d_law_838 : decode code 838 = .ok (.aload_n 2, 1) := by decide +kernel
theorem d_law_839 : decode code 839 = .ok (.aload_n 0, 1) := by decide +kernel
theorem d_law_840 : decode code 840 = .ok (.iload 4, 2) := by decide +kernel
theorem d_law_842 : decode code 842 = .ok (.iconst 1, 1) := by decide +kernel
theorem d_law_843 : decode code 843 = .ok (.iadd, 1) := by decide +kernel
theorem d_law_844 : decode code 844 = .ok (.iaload, 1) := by decide +kernel
theorem d_law_845 : decode code 845 = .ok (.aload_n 0, 1) := by decide +kernel
theorem d_law_846 : decode code 846 = .ok (.iload 4, 2) := by decide +kernel
theorem d_law_848 : decode code 848 = .ok (.iconst 2, 1) := by decide +kernel
theorem d_law_849 : decode code 849 = .ok (.iadd, 1) := by decide +kernel
theorem d_law_850 : decode code 850 = .ok (.iaload, 1) := by decide +kernel
theorem d_law_851 : decode code 851 = .ok (.aload_n 0, 1) := by decide +kernel
theorem d_law_852 : decode code 852 = .ok (.iload 4, 2) := by decide +kernel
theorem d_law_854 : decode code 854 = .ok (.iconst 3, 1) := by decide +kernel
theorem d_law_855 : decode code 855 = .ok (.iadd, 1) := by decide +kernel
theorem d_law_856 : decode code 856 = .ok (.iaload, 1) := by decide +kernel
theorem d_law_857 : decode code 857 = .ok (.aload_n 0, 1) := by decide +kernel
theorem d_law_858 : decode code 858 = .ok (.iload 4, 2) := by decide +kernel
theorem d_law_860 : decode code 860 = .ok (.iconst 4, 1) := by decide +kernel
theorem d_law_861 : decode code 861 = .ok (.iadd, 1) := by decide +kernel
theorem d_law_862 : decode code 862 = .ok (.iaload, 1) := by decide +kernel
theorem d_law_863 : decode code 863 = .ok (.aload_n 0, 1) := by decide +kernel
theorem d_law_864 : decode code 864 = .ok (.iload 4, 2) := by decide +kernel
theorem d_law_866 : decode code 866 = .ok (.iconst 5, 1) := by decide +kernel
theorem d_law_867 : decode code 867 = .ok (.iadd, 1) := by decide +kernel
theorem d_law_868 : decode code 868 = .ok (.iaload, 1) := by decide +kernel
theorem d_law_869 : decode code 869 = .ok (.invokevirtual 123, 3) := by decide +kernel
theorem d_law_872 : decode code 872 = .ok (.istore 6, 2) := by decide +kernel
theorem d_law_874 : decode code 874 = .ok (.aload_n 2, 1) := by decide +kernel
theorem d_law_875 : decode code 875 = .ok (.invokevirtual 86, 3) := by decide +kernel
theorem d_law_878 : decode code 878 = .ok (.iload 5, 2) := by decide +kernel
theorem d_law_880 : decode code 880 = .ok (.if_icmp .eq 5, 3) := by decide +kernel
theorem d_law_883 : decode code 883 = .ok (.iconst 0, 1) := by decide +kernel
theorem d_law_884 : decode code 884 = .ok (.ireturn, 1) := by decide +kernel
theorem d_law_885 : decode code 885 = .ok (.iload 5, 2) := by decide +kernel
theorem d_law_887 : decode code 887 = .ok (.ifCond .ne 15, 3) := by decide +kernel
theorem d_law_890 : decode code 890 = .ok (.aload_n 3, 1) := by decide +kernel
theorem d_law_891 : decode code 891 = .ok (.iconst 0, 1) := by decide +kernel
theorem d_law_892 : decode code 892 = .ok (.laload, 1) := by decide +kernel
theorem d_law_893 : decode code 893 = .ok (.iload 6, 2) := by decide +kernel
theorem d_law_895 : decode code 895 = .ok (.i2l, 1) := by decide +kernel
theorem d_law_896 : decode code 896 = .ok (.lcmp, 1) := by decide +kernel
theorem d_law_897 : decode code 897 = .ok (.ifCond .eq 5, 3) := by decide +kernel
theorem d_law_900 : decode code 900 = .ok (.iconst 0, 1) := by decide +kernel
theorem d_law_901 : decode code 901 = .ok (.ireturn, 1) := by decide +kernel
theorem d_law_902 : decode code 902 = .ok (.goto 662, 3) := by decide +kernel
theorem d_law_905 : decode code 905 = .ok (.aload_n 1, 1) := by decide +kernel
theorem d_law_906 : decode code 906 = .ok (.aload_n 0, 1) := by decide +kernel
theorem d_law_907 : decode code 907 = .ok (.iload 4, 2) := by decide +kernel
theorem d_law_909 : decode code 909 = .ok (.iconst 1, 1) := by decide +kernel
theorem d_law_910 : decode code 910 = .ok (.iadd, 1) := by decide +kernel
theorem d_law_911 : decode code 911 = .ok (.iaload, 1) := by decide +kernel
theorem d_law_912 : decode code 912 = .ok (.aload_n 0, 1) := by decide +kernel
theorem d_law_913 : decode code 913 = .ok (.iload 4, 2) := by decide +kernel
theorem d_law_915 : decode code 915 = .ok (.iconst 2, 1) := by decide +kernel
theorem d_law_916 : decode code 916 = .ok (.iadd, 1) := by decide +kernel
theorem d_law_917 : decode code 917 = .ok (.iaload, 1) := by decide +kernel
theorem d_law_918 : decode code 918 = .ok (.aload_n 0, 1) := by decide +kernel
theorem d_law_919 : decode code 919 = .ok (.iload 4, 2) := by decide +kernel
theorem d_law_921 : decode code 921 = .ok (.iconst 3, 1) := by decide +kernel
theorem d_law_922 : decode code 922 = .ok (.iadd, 1) := by decide +kernel
theorem d_law_923 : decode code 923 = .ok (.iaload, 1) := by decide +kernel
theorem d_law_924 : decode code 924 = .ok (.aload_n 0, 1) := by decide +kernel
theorem d_law_925 : decode code 925 = .ok (.iload 4, 2) := by decide +kernel
theorem d_law_927 : decode code 927 = .ok (.iconst 4, 1) := by decide +kernel
theorem d_law_928 : decode code 928 = .ok (.iadd, 1) := by decide +kernel
theorem d_law_929 : decode code 929 = .ok (.iaload, 1) := by decide +kernel
theorem d_law_930 : decode code 930 = .ok (.aload_n 0, 1) := by decide +kernel
theorem d_law_931 : decode code 931 = .ok (.iload 4, 2) := by decide +kernel
theorem d_law_933 : decode code 933 = .ok (.iconst 5, 1) := by decide +kernel
theorem d_law_934 : decode code 934 = .ok (.iadd, 1) := by decide +kernel
theorem d_law_935 : decode code 935 = .ok (.iaload, 1) := by decide +kernel
theorem d_law_936 : decode code 936 = .ok (.aload_n 3, 1) := by decide +kernel
theorem d_law_937 : decode code 937 = .ok (.invokestatic 124, 3) := by decide +kernel
theorem d_law_940 : decode code 940 = .ok (.istore 5, 2) := by decide +kernel
theorem d_law_942 : decode code 942 = .ok (.aload_n 2, 1) := by decide +kernel
theorem d_law_943 : decode code 943 = .ok (.aload_n 0, 1) := by decide +kernel
theorem d_law_944 : decode code 944 = .ok (.iload 4, 2) := by decide +kernel
theorem d_law_946 : decode code 946 = .ok (.iconst 1, 1) := by decide +kernel
theorem d_law_947 : decode code 947 = .ok (.iadd, 1) := by decide +kernel
theorem d_law_948 : decode code 948 = .ok (.iaload, 1) := by decide +kernel
theorem d_law_949 : decode code 949 = .ok (.aload_n 0, 1) := by decide +kernel
theorem d_law_950 : decode code 950 = .ok (.iload 4, 2) := by decide +kernel
theorem d_law_952 : decode code 952 = .ok (.iconst 2, 1) := by decide +kernel
theorem d_law_953 : decode code 953 = .ok (.iadd, 1) := by decide +kernel
theorem d_law_954 : decode code 954 = .ok (.iaload, 1) := by decide +kernel
theorem d_law_955 : decode code 955 = .ok (.aload_n 0, 1) := by decide +kernel
theorem d_law_956 : decode code 956 = .ok (.iload 4, 2) := by decide +kernel
theorem d_law_958 : decode code 958 = .ok (.iconst 3, 1) := by decide +kernel
theorem d_law_959 : decode code 959 = .ok (.iadd, 1) := by decide +kernel
theorem d_law_960 : decode code 960 = .ok (.iaload, 1) := by decide +kernel
theorem d_law_961 : decode code 961 = .ok (.aload_n 0, 1) := by decide +kernel
theorem d_law_962 : decode code 962 = .ok (.iload 4, 2) := by decide +kernel
theorem d_law_964 : decode code 964 = .ok (.iconst 4, 1) := by decide +kernel
theorem d_law_965 : decode code 965 = .ok (.iadd, 1) := by decide +kernel
theorem d_law_966 : decode code 966 = .ok (.iaload, 1) := by decide +kernel
theorem d_law_967 : decode code 967 = .ok (.aload_n 0, 1) := by decide +kernel
theorem d_law_968 : decode code 968 = .ok (.iload 4, 2) := by decide +kernel
theorem d_law_970 : decode code 970 = .ok (.iconst 5, 1) := by decide +kernel
theorem d_law_971 : decode code 971 = .ok (.iadd, 1) := by decide +kernel
theorem d_law_972 : decode code 972 = .ok (.iaload, 1) := by decide +kernel
theorem d_law_973 : decode code 973 = .ok (.invokevirtual 126, 3) := by decide +kernel
theorem d_law_976 : decode code 976 = .ok (.istore 6, 2) := by decide +kernel
theorem d_law_978 : decode code 978 = .ok (.aload_n 2, 1) := by decide +kernel
theorem d_law_979 : decode code 979 = .ok (.invokevirtual 86, 3) := by decide +kernel
theorem d_law_982 : decode code 982 = .ok (.iload 5, 2) := by decide +kernel
theorem d_law_984 : decode code 984 = .ok (.if_icmp .eq 5, 3) := by decide +kernel
theorem d_law_987 : decode code 987 = .ok (.iconst 0, 1) := by decide +kernel
theorem d_law_988 : decode code 988 = .ok (.ireturn, 1) := by decide +kernel
theorem d_law_989 : decode code 989 = .ok (.iload 5, 2) := by decide +kernel
theorem d_law_991 : decode code 991 = .ok (.ifCond .ne 15, 3) := by decide +kernel
theorem d_law_994 : decode code 994 = .ok (.aload_n 3, 1) := by decide +kernel
theorem d_law_995 : decode code 995 = .ok (.iconst 0, 1) := by decide +kernel
theorem d_law_996 : decode code 996 = .ok (.laload, 1) := by decide +kernel
theorem d_law_997 : decode code 997 = .ok (.iload 6, 2) := by decide +kernel
theorem d_law_999 : decode code 999 = .ok (.i2l, 1) := by decide +kernel
theorem d_law_1000 : decode code 1000 = .ok (.lcmp, 1) := by decide +kernel
theorem d_law_1001 : decode code 1001 = .ok (.ifCond .eq 5, 3) := by decide +kernel
theorem d_law_1004 : decode code 1004 = .ok (.iconst 0, 1) := by decide +kernel
theorem d_law_1005 : decode code 1005 = .ok (.ireturn, 1) := by decide +kernel
theorem d_law_1006 : decode code 1006 = .ok (.goto 558, 3) := by decide +kernel
theorem d_law_1009 : decode code 1009 = .ok (.aload_n 1, 1) := by decide +kernel
theorem d_law_1010 : decode code 1010 = .ok (.aload_n 0, 1) := by decide +kernel
theorem d_law_1011 : decode code 1011 = .ok (.iload 4, 2) := by decide +kernel
theorem d_law_1013 : decode code 1013 = .ok (.iconst 1, 1) := by decide +kernel
theorem d_law_1014 : decode code 1014 = .ok (.iadd, 1) := by decide +kernel
theorem d_law_1015 : decode code 1015 = .ok (.iaload, 1) := by decide +kernel
theorem d_law_1016 : decode code 1016 = .ok (.aload_n 0, 1) := by decide +kernel
theorem d_law_1017 : decode code 1017 = .ok (.iload 4, 2) := by decide +kernel
theorem d_law_1019 : decode code 1019 = .ok (.iconst 2, 1) := by decide +kernel
theorem d_law_1020 : decode code 1020 = .ok (.iadd, 1) := by decide +kernel
theorem d_law_1021 : decode code 1021 = .ok (.iaload, 1) := by decide +kernel
theorem d_law_1022 : decode code 1022 = .ok (.aload_n 0, 1) := by decide +kernel
theorem d_law_1023 : decode code 1023 = .ok (.iload 4, 2) := by decide +kernel
theorem d_law_1025 : decode code 1025 = .ok (.iconst 3, 1) := by decide +kernel
theorem d_law_1026 : decode code 1026 = .ok (.iadd, 1) := by decide +kernel
theorem d_law_1027 : decode code 1027 = .ok (.iaload, 1) := by decide +kernel
theorem d_law_1028 : decode code 1028 = .ok (.aload_n 0, 1) := by decide +kernel
theorem d_law_1029 : decode code 1029 = .ok (.iload 4, 2) := by decide +kernel
theorem d_law_1031 : decode code 1031 = .ok (.iconst 4, 1) := by decide +kernel
theorem d_law_1032 : decode code 1032 = .ok (.iadd, 1) := by decide +kernel
theorem d_law_1033 : decode code 1033 = .ok (.iaload, 1) := by decide +kernel
theorem d_law_1034 : decode code 1034 = .ok (.aload_n 0, 1) := by decide +kernel
theorem d_law_1035 : decode code 1035 = .ok (.iload 4, 2) := by decide +kernel
theorem d_law_1037 : decode code 1037 = .ok (.iconst 5, 1) := by decide +kernel
theorem d_law_1038 : decode code 1038 = .ok (.iadd, 1) := by decide +kernel
theorem d_law_1039 : decode code 1039 = .ok (.iaload, 1) := by decide +kernel
theorem d_law_1040 : decode code 1040 = .ok (.aload_n 3, 1) := by decide +kernel
theorem d_law_1041 : decode code 1041 = .ok (.invokestatic 127, 3) := by decide +kernel
theorem d_law_1044 : decode code 1044 = .ok (.istore 5, 2) := by decide +kernel
theorem d_law_1046 : decode code 1046 = .ok (.aload_n 2, 1) := by decide +kernel
theorem d_law_1047 : decode code 1047 = .ok (.aload_n 0, 1) := by decide +kernel
theorem d_law_1048 : decode code 1048 = .ok (.iload 4, 2) := by decide +kernel
theorem d_law_1050 : decode code 1050 = .ok (.iconst 1, 1) := by decide +kernel
theorem d_law_1051 : decode code 1051 = .ok (.iadd, 1) := by decide +kernel
theorem d_law_1052 : decode code 1052 = .ok (.iaload, 1) := by decide +kernel
theorem d_law_1053 : decode code 1053 = .ok (.aload_n 0, 1) := by decide +kernel
theorem d_law_1054 : decode code 1054 = .ok (.iload 4, 2) := by decide +kernel
theorem d_law_1056 : decode code 1056 = .ok (.iconst 2, 1) := by decide +kernel
theorem d_law_1057 : decode code 1057 = .ok (.iadd, 1) := by decide +kernel
theorem d_law_1058 : decode code 1058 = .ok (.iaload, 1) := by decide +kernel
theorem d_law_1059 : decode code 1059 = .ok (.aload_n 0, 1) := by decide +kernel
theorem d_law_1060 : decode code 1060 = .ok (.iload 4, 2) := by decide +kernel
theorem d_law_1062 : decode code 1062 = .ok (.iconst 3, 1) := by decide +kernel
theorem d_law_1063 : decode code 1063 = .ok (.iadd, 1) := by decide +kernel
theorem d_law_1064 : decode code 1064 = .ok (.iaload, 1) := by decide +kernel
theorem d_law_1065 : decode code 1065 = .ok (.aload_n 0, 1) := by decide +kernel
theorem d_law_1066 : decode code 1066 = .ok (.iload 4, 2) := by decide +kernel
theorem d_law_1068 : decode code 1068 = .ok (.iconst 4, 1) := by decide +kernel
theorem d_law_1069 : decode code 1069 = .ok (.iadd, 1) := by decide +kernel
theorem d_law_1070 : decode code 1070 = .ok (.iaload, 1) := by decide +kernel
theorem d_law_1071 : decode code 1071 = .ok (.aload_n 0, 1) := by decide +kernel
theorem d_law_1072 : decode code 1072 = .ok (.iload 4, 2) := by decide +kernel
theorem d_law_1074 : decode code 1074 = .ok (.iconst 5, 1) := by decide +kernel
theorem d_law_1075 : decode code 1075 = .ok (.iadd, 1) := by decide +kernel
theorem d_law_1076 : decode code 1076 = .ok (.iaload, 1) := by decide +kernel
theorem d_law_1077 : decode code 1077 = .ok (.invokevirtual 129, 3) := by decide +kernel
theorem d_law_1080 : decode code 1080 = .ok (.istore 6, 2) := by decide +kernel
theorem d_law_1082 : decode code 1082 = .ok (.aload_n 2, 1) := by decide +kernel
theorem d_law_1083 : decode code 1083 = .ok (.invokevirtual 86, 3) := by decide +kernel
theorem d_law_1086 : decode code 1086 = .ok (.iload 5, 2) := by decide +kernel
theorem d_law_1088 : decode code 1088 = .ok (.if_icmp .eq 5, 3) := by decide +kernel
theorem d_law_1091 : decode code 1091 = .ok (.iconst 0, 1) := by decide +kernel
theorem d_law_1092 : decode code 1092 = .ok (.ireturn, 1) := by decide +kernel
theorem d_law_1093 : decode code 1093 = .ok (.iload 5, 2) := by decide +kernel
theorem d_law_1095 : decode code 1095 = .ok (.ifCond .ne 15, 3) := by decide +kernel
theorem d_law_1098 : decode code 1098 = .ok (.aload_n 3, 1) := by decide +kernel
theorem d_law_1099 : decode code 1099 = .ok (.iconst 0, 1) := by decide +kernel
theorem d_law_1100 : decode code 1100 = .ok (.laload, 1) := by decide +kernel
theorem d_law_1101 : decode code 1101 = .ok (.iload 6, 2) := by decide +kernel
theorem d_law_1103 : decode code 1103 = .ok (.i2l, 1) := by decide +kernel
theorem d_law_1104 : decode code 1104 = .ok (.lcmp, 1) := by decide +kernel
theorem d_law_1105 : decode code 1105 = .ok (.ifCond .eq 5, 3) := by decide +kernel
theorem d_law_1108 : decode code 1108 = .ok (.iconst 0, 1) := by decide +kernel
theorem d_law_1109 : decode code 1109 = .ok (.ireturn, 1) := by decide +kernel
theorem d_law_1110 : decode code 1110 = .ok (.goto 454, 3) := by decide +kernel
theorem d_law_1113 : decode code 1113 = .ok (.aload_n 1, 1) := by decide +kernel
theorem d_law_1114 : decode code 1114 = .ok (.aload_n 0, 1) := by decide +kernel
theorem d_law_1115 : decode code 1115 = .ok (.iload 4, 2) := by decide +kernel
theorem d_law_1117 : decode code 1117 = .ok (.iconst 1, 1) := by decide +kernel
theorem d_law_1118 : decode code 1118 = .ok (.iadd, 1) := by decide +kernel
theorem d_law_1119 : decode code 1119 = .ok (.iaload, 1) := by decide +kernel
theorem d_law_1120 : decode code 1120 = .ok (.aload_n 0, 1) := by decide +kernel
theorem d_law_1121 : decode code 1121 = .ok (.iload 4, 2) := by decide +kernel
theorem d_law_1123 : decode code 1123 = .ok (.iconst 2, 1) := by decide +kernel
theorem d_law_1124 : decode code 1124 = .ok (.iadd, 1) := by decide +kernel
theorem d_law_1125 : decode code 1125 = .ok (.iaload, 1) := by decide +kernel
theorem d_law_1126 : decode code 1126 = .ok (.aload_n 0, 1) := by decide +kernel
theorem d_law_1127 : decode code 1127 = .ok (.iload 4, 2) := by decide +kernel
theorem d_law_1129 : decode code 1129 = .ok (.iconst 3, 1) := by decide +kernel
theorem d_law_1130 : decode code 1130 = .ok (.iadd, 1) := by decide +kernel
theorem d_law_1131 : decode code 1131 = .ok (.iaload, 1) := by decide +kernel
theorem d_law_1132 : decode code 1132 = .ok (.aload_n 3, 1) := by decide +kernel
theorem d_law_1133 : decode code 1133 = .ok (.invokestatic 130, 3) := by decide +kernel
theorem d_law_1136 : decode code 1136 = .ok (.istore 5, 2) := by decide +kernel
theorem d_law_1138 : decode code 1138 = .ok (.aload_n 2, 1) := by decide +kernel
theorem d_law_1139 : decode code 1139 = .ok (.aload_n 0, 1) := by decide +kernel
theorem d_law_1140 : decode code 1140 = .ok (.iload 4, 2) := by decide +kernel
theorem d_law_1142 : decode code 1142 = .ok (.iconst 1, 1) := by decide +kernel
theorem d_law_1143 : decode code 1143 = .ok (.iadd, 1) := by decide +kernel
theorem d_law_1144 : decode code 1144 = .ok (.iaload, 1) := by decide +kernel
theorem d_law_1145 : decode code 1145 = .ok (.aload_n 0, 1) := by decide +kernel
theorem d_law_1146 : decode code 1146 = .ok (.iload 4, 2) := by decide +kernel
theorem d_law_1148 : decode code 1148 = .ok (.iconst 2, 1) := by decide +kernel
theorem d_law_1149 : decode code 1149 = .ok (.iadd, 1) := by decide +kernel
theorem d_law_1150 : decode code 1150 = .ok (.iaload, 1) := by decide +kernel
theorem d_law_1151 : decode code 1151 = .ok (.aload_n 0, 1) := by decide +kernel
theorem d_law_1152 : decode code 1152 = .ok (.iload 4, 2) := by decide +kernel
theorem d_law_1154 : decode code 1154 = .ok (.iconst 3, 1) := by decide +kernel
theorem d_law_1155 : decode code 1155 = .ok (.iadd, 1) := by decide +kernel
theorem d_law_1156 : decode code 1156 = .ok (.iaload, 1) := by decide +kernel
theorem d_law_1157 : decode code 1157 = .ok (.invokevirtual 133, 3) := by decide +kernel
theorem d_law_1160 : decode code 1160 = .ok (.istore 6, 2) := by decide +kernel
theorem d_law_1162 : decode code 1162 = .ok (.aload_n 2, 1) := by decide +kernel
theorem d_law_1163 : decode code 1163 = .ok (.invokevirtual 86, 3) := by decide +kernel
theorem d_law_1166 : decode code 1166 = .ok (.iload 5, 2) := by decide +kernel
theorem d_law_1168 : decode code 1168 = .ok (.if_icmp .eq 5, 3) := by decide +kernel
theorem d_law_1171 : decode code 1171 = .ok (.iconst 0, 1) := by decide +kernel
theorem d_law_1172 : decode code 1172 = .ok (.ireturn, 1) := by decide +kernel
theorem d_law_1173 : decode code 1173 = .ok (.iload 5, 2) := by decide +kernel
theorem d_law_1175 : decode code 1175 = .ok (.ifCond .ne 15, 3) := by decide +kernel
theorem d_law_1178 : decode code 1178 = .ok (.aload_n 3, 1) := by decide +kernel
theorem d_law_1179 : decode code 1179 = .ok (.iconst 0, 1) := by decide +kernel
theorem d_law_1180 : decode code 1180 = .ok (.laload, 1) := by decide +kernel
theorem d_law_1181 : decode code 1181 = .ok (.iload 6, 2) := by decide +kernel
theorem d_law_1183 : decode code 1183 = .ok (.i2l, 1) := by decide +kernel
theorem d_law_1184 : decode code 1184 = .ok (.lcmp, 1) := by decide +kernel
theorem d_law_1185 : decode code 1185 = .ok (.ifCond .eq 5, 3) := by decide +kernel
theorem d_law_1188 : decode code 1188 = .ok (.iconst 0, 1) := by decide +kernel
theorem d_law_1189 : decode code 1189 = .ok (.ireturn, 1) := by decide +kernel
theorem d_law_1190 : decode code 1190 = .ok (.goto 374, 3) := by decide +kernel
theorem d_law_1193 : decode code 1193 = .ok (.aload_n 1, 1) := by decide +kernel
theorem d_law_1194 : decode code 1194 = .ok (.aload_n 0, 1) := by decide +kernel
theorem d_law_1195 : decode code 1195 = .ok (.iload 4, 2) := by decide +kernel
theorem d_law_1197 : decode code 1197 = .ok (.iconst 1, 1) := by decide +kernel
theorem d_law_1198 : decode code 1198 = .ok (.iadd, 1) := by decide +kernel
theorem d_law_1199 : decode code 1199 = .ok (.iaload, 1) := by decide +kernel
theorem d_law_1200 : decode code 1200 = .ok (.invokestatic 134, 3) := by decide +kernel
theorem d_law_1203 : decode code 1203 = .ok (.istore 5, 2) := by decide +kernel
theorem d_law_1205 : decode code 1205 = .ok (.aload_n 2, 1) := by decide +kernel
theorem d_law_1206 : decode code 1206 = .ok (.aload_n 0, 1) := by decide +kernel
theorem d_law_1207 : decode code 1207 = .ok (.iload 4, 2) := by decide +kernel
theorem d_law_1209 : decode code 1209 = .ok (.iconst 1, 1) := by decide +kernel
theorem d_law_1210 : decode code 1210 = .ok (.iadd, 1) := by decide +kernel
theorem d_law_1211 : decode code 1211 = .ok (.iaload, 1) := by decide +kernel
theorem d_law_1212 : decode code 1212 = .ok (.invokevirtual 137, 3) := by decide +kernel
theorem d_law_1215 : decode code 1215 = .ok (.aload_n 2, 1) := by decide +kernel
theorem d_law_1216 : decode code 1216 = .ok (.invokevirtual 86, 3) := by decide +kernel
theorem d_law_1219 : decode code 1219 = .ok (.iload 5, 2) := by decide +kernel
theorem d_law_1221 : decode code 1221 = .ok (.if_icmp .eq 5, 3) := by decide +kernel
theorem d_law_1224 : decode code 1224 = .ok (.iconst 0, 1) := by decide +kernel
theorem d_law_1225 : decode code 1225 = .ok (.ireturn, 1) := by decide +kernel
theorem d_law_1226 : decode code 1226 = .ok (.goto 338, 3) := by decide +kernel
theorem d_law_1229 : decode code 1229 = .ok (.aload_n 1, 1) := by decide +kernel
theorem d_law_1230 : decode code 1230 = .ok (.aload_n 0, 1) := by decide +kernel
theorem d_law_1231 : decode code 1231 = .ok (.iload 4, 2) := by decide +kernel
theorem d_law_1233 : decode code 1233 = .ok (.iconst 1, 1) := by decide +kernel
theorem d_law_1234 : decode code 1234 = .ok (.iadd, 1) := by decide +kernel
theorem d_law_1235 : decode code 1235 = .ok (.iaload, 1) := by decide +kernel
theorem d_law_1236 : decode code 1236 = .ok (.aload_n 3, 1) := by decide +kernel
theorem d_law_1237 : decode code 1237 = .ok (.invokestatic 138, 3) := by decide +kernel
theorem d_law_1240 : decode code 1240 = .ok (.istore 5, 2) := by decide +kernel
theorem d_law_1242 : decode code 1242 = .ok (.aload_n 2, 1) := by decide +kernel
theorem d_law_1243 : decode code 1243 = .ok (.aload_n 0, 1) := by decide +kernel
theorem d_law_1244 : decode code 1244 = .ok (.iload 4, 2) := by decide +kernel
theorem d_law_1246 : decode code 1246 = .ok (.iconst 1, 1) := by decide +kernel
theorem d_law_1247 : decode code 1247 = .ok (.iadd, 1) := by decide +kernel
theorem d_law_1248 : decode code 1248 = .ok (.iaload, 1) := by decide +kernel
theorem d_law_1249 : decode code 1249 = .ok (.invokevirtual 140, 3) := by decide +kernel
theorem d_law_1252 : decode code 1252 = .ok (.istore 6, 2) := by decide +kernel
theorem d_law_1254 : decode code 1254 = .ok (.aload_n 2, 1) := by decide +kernel
theorem d_law_1255 : decode code 1255 = .ok (.invokevirtual 86, 3) := by decide +kernel
theorem d_law_1258 : decode code 1258 = .ok (.iload 5, 2) := by decide +kernel
theorem d_law_1260 : decode code 1260 = .ok (.if_icmp .eq 5, 3) := by decide +kernel
theorem d_law_1263 : decode code 1263 = .ok (.iconst 0, 1) := by decide +kernel
theorem d_law_1264 : decode code 1264 = .ok (.ireturn, 1) := by decide +kernel
theorem d_law_1265 : decode code 1265 = .ok (.iload 5, 2) := by decide +kernel
theorem d_law_1267 : decode code 1267 = .ok (.ifCond .ne 15, 3) := by decide +kernel
theorem d_law_1270 : decode code 1270 = .ok (.aload_n 3, 1) := by decide +kernel
theorem d_law_1271 : decode code 1271 = .ok (.iconst 0, 1) := by decide +kernel
theorem d_law_1272 : decode code 1272 = .ok (.laload, 1) := by decide +kernel
theorem d_law_1273 : decode code 1273 = .ok (.iload 6, 2) := by decide +kernel
theorem d_law_1275 : decode code 1275 = .ok (.i2l, 1) := by decide +kernel
theorem d_law_1276 : decode code 1276 = .ok (.lcmp, 1) := by decide +kernel
theorem d_law_1277 : decode code 1277 = .ok (.ifCond .eq 5, 3) := by decide +kernel
theorem d_law_1280 : decode code 1280 = .ok (.iconst 0, 1) := by decide +kernel
theorem d_law_1281 : decode code 1281 = .ok (.ireturn, 1) := by decide +kernel
theorem d_law_1282 : decode code 1282 = .ok (.goto 282, 3) := by decide +kernel
theorem d_law_1285 : decode code 1285 = .ok (.aload_n 1, 1) := by decide +kernel
theorem d_law_1286 : decode code 1286 = .ok (.aload_n 0, 1) := by decide +kernel
theorem d_law_1287 : decode code 1287 = .ok (.iload 4, 2) := by decide +kernel
theorem d_law_1289 : decode code 1289 = .ok (.iconst 1, 1) := by decide +kernel
theorem d_law_1290 : decode code 1290 = .ok (.iadd, 1) := by decide +kernel
theorem d_law_1291 : decode code 1291 = .ok (.iaload, 1) := by decide +kernel
theorem d_law_1292 : decode code 1292 = .ok (.aload_n 0, 1) := by decide +kernel
theorem d_law_1293 : decode code 1293 = .ok (.iload 4, 2) := by decide +kernel
theorem d_law_1295 : decode code 1295 = .ok (.iconst 2, 1) := by decide +kernel
theorem d_law_1296 : decode code 1296 = .ok (.iadd, 1) := by decide +kernel
theorem d_law_1297 : decode code 1297 = .ok (.iaload, 1) := by decide +kernel
theorem d_law_1298 : decode code 1298 = .ok (.aload_n 0, 1) := by decide +kernel
theorem d_law_1299 : decode code 1299 = .ok (.iload 4, 2) := by decide +kernel
theorem d_law_1301 : decode code 1301 = .ok (.iconst 3, 1) := by decide +kernel
theorem d_law_1302 : decode code 1302 = .ok (.iadd, 1) := by decide +kernel
theorem d_law_1303 : decode code 1303 = .ok (.iaload, 1) := by decide +kernel
theorem d_law_1304 : decode code 1304 = .ok (.aload_n 0, 1) := by decide +kernel
theorem d_law_1305 : decode code 1305 = .ok (.iload 4, 2) := by decide +kernel
theorem d_law_1307 : decode code 1307 = .ok (.iconst 4, 1) := by decide +kernel
theorem d_law_1308 : decode code 1308 = .ok (.iadd, 1) := by decide +kernel
theorem d_law_1309 : decode code 1309 = .ok (.iaload, 1) := by decide +kernel
theorem d_law_1310 : decode code 1310 = .ok (.aload_n 3, 1) := by decide +kernel
theorem d_law_1311 : decode code 1311 = .ok (.invokestatic 141, 3) := by decide +kernel
theorem d_law_1314 : decode code 1314 = .ok (.istore 5, 2) := by decide +kernel
theorem d_law_1316 : decode code 1316 = .ok (.aload_n 2, 1) := by decide +kernel
theorem d_law_1317 : decode code 1317 = .ok (.aload_n 0, 1) := by decide +kernel
theorem d_law_1318 : decode code 1318 = .ok (.iload 4, 2) := by decide +kernel
theorem d_law_1320 : decode code 1320 = .ok (.iconst 1, 1) := by decide +kernel
theorem d_law_1321 : decode code 1321 = .ok (.iadd, 1) := by decide +kernel
theorem d_law_1322 : decode code 1322 = .ok (.iaload, 1) := by decide +kernel
theorem d_law_1323 : decode code 1323 = .ok (.aload_n 0, 1) := by decide +kernel
theorem d_law_1324 : decode code 1324 = .ok (.iload 4, 2) := by decide +kernel
theorem d_law_1326 : decode code 1326 = .ok (.iconst 2, 1) := by decide +kernel
theorem d_law_1327 : decode code 1327 = .ok (.iadd, 1) := by decide +kernel
theorem d_law_1328 : decode code 1328 = .ok (.iaload, 1) := by decide +kernel
theorem d_law_1329 : decode code 1329 = .ok (.aload_n 0, 1) := by decide +kernel
theorem d_law_1330 : decode code 1330 = .ok (.iload 4, 2) := by decide +kernel
theorem d_law_1332 : decode code 1332 = .ok (.iconst 3, 1) := by decide +kernel
theorem d_law_1333 : decode code 1333 = .ok (.iadd, 1) := by decide +kernel
theorem d_law_1334 : decode code 1334 = .ok (.iaload, 1) := by decide +kernel
theorem d_law_1335 : decode code 1335 = .ok (.aload_n 0, 1) := by decide +kernel
theorem d_law_1336 : decode code 1336 = .ok (.iload 4, 2) := by decide +kernel
theorem d_law_1338 : decode code 1338 = .ok (.iconst 4, 1) := by decide +kernel
theorem d_law_1339 : decode code 1339 = .ok (.iadd, 1) := by decide +kernel
theorem d_law_1340 : decode code 1340 = .ok (.iaload, 1) := by decide +kernel
theorem d_law_1341 : decode code 1341 = .ok (.invokevirtual 144, 3) := by decide +kernel
theorem d_law_1344 : decode code 1344 = .ok (.istore 6, 2) := by decide +kernel
theorem d_law_1346 : decode code 1346 = .ok (.aload_n 2, 1) := by decide +kernel
theorem d_law_1347 : decode code 1347 = .ok (.invokevirtual 86, 3) := by decide +kernel
theorem d_law_1350 : decode code 1350 = .ok (.iload 5, 2) := by decide +kernel
theorem d_law_1352 : decode code 1352 = .ok (.if_icmp .eq 5, 3) := by decide +kernel
theorem d_law_1355 : decode code 1355 = .ok (.iconst 0, 1) := by decide +kernel
theorem d_law_1356 : decode code 1356 = .ok (.ireturn, 1) := by decide +kernel
theorem d_law_1357 : decode code 1357 = .ok (.iload 5, 2) := by decide +kernel
theorem d_law_1359 : decode code 1359 = .ok (.ifCond .ne 15, 3) := by decide +kernel
theorem d_law_1362 : decode code 1362 = .ok (.aload_n 3, 1) := by decide +kernel
theorem d_law_1363 : decode code 1363 = .ok (.iconst 0, 1) := by decide +kernel
theorem d_law_1364 : decode code 1364 = .ok (.laload, 1) := by decide +kernel
theorem d_law_1365 : decode code 1365 = .ok (.iload 6, 2) := by decide +kernel
theorem d_law_1367 : decode code 1367 = .ok (.i2l, 1) := by decide +kernel
theorem d_law_1368 : decode code 1368 = .ok (.lcmp, 1) := by decide +kernel
theorem d_law_1369 : decode code 1369 = .ok (.ifCond .eq 5, 3) := by decide +kernel
theorem d_law_1372 : decode code 1372 = .ok (.iconst 0, 1) := by decide +kernel
theorem d_law_1373 : decode code 1373 = .ok (.ireturn, 1) := by decide +kernel
theorem d_law_1374 : decode code 1374 = .ok (.goto 190, 3) := by decide +kernel
theorem d_law_1377 : decode code 1377 = .ok (.aload_n 1, 1) := by decide +kernel
theorem d_law_1378 : decode code 1378 = .ok (.aload_n 0, 1) := by decide +kernel
theorem d_law_1379 : decode code 1379 = .ok (.iload 4, 2) := by decide +kernel
theorem d_law_1381 : decode code 1381 = .ok (.iconst 1, 1) := by decide +kernel
theorem d_law_1382 : decode code 1382 = .ok (.iadd, 1) := by decide +kernel
theorem d_law_1383 : decode code 1383 = .ok (.iaload, 1) := by decide +kernel
theorem d_law_1384 : decode code 1384 = .ok (.aload_n 0, 1) := by decide +kernel
theorem d_law_1385 : decode code 1385 = .ok (.iload 4, 2) := by decide +kernel
theorem d_law_1387 : decode code 1387 = .ok (.iconst 2, 1) := by decide +kernel
theorem d_law_1388 : decode code 1388 = .ok (.iadd, 1) := by decide +kernel
theorem d_law_1389 : decode code 1389 = .ok (.iaload, 1) := by decide +kernel
theorem d_law_1390 : decode code 1390 = .ok (.aload_n 0, 1) := by decide +kernel
theorem d_law_1391 : decode code 1391 = .ok (.iload 4, 2) := by decide +kernel
theorem d_law_1393 : decode code 1393 = .ok (.iconst 3, 1) := by decide +kernel
theorem d_law_1394 : decode code 1394 = .ok (.iadd, 1) := by decide +kernel
theorem d_law_1395 : decode code 1395 = .ok (.iaload, 1) := by decide +kernel
theorem d_law_1396 : decode code 1396 = .ok (.aload_n 3, 1) := by decide +kernel
theorem d_law_1397 : decode code 1397 = .ok (.invokestatic 145, 3) := by decide +kernel
theorem d_law_1400 : decode code 1400 = .ok (.istore 5, 2) := by decide +kernel
theorem d_law_1402 : decode code 1402 = .ok (.aload_n 2, 1) := by decide +kernel
theorem d_law_1403 : decode code 1403 = .ok (.aload_n 0, 1) := by decide +kernel
theorem d_law_1404 : decode code 1404 = .ok (.iload 4, 2) := by decide +kernel
theorem d_law_1406 : decode code 1406 = .ok (.iconst 1, 1) := by decide +kernel
theorem d_law_1407 : decode code 1407 = .ok (.iadd, 1) := by decide +kernel
theorem d_law_1408 : decode code 1408 = .ok (.iaload, 1) := by decide +kernel
theorem d_law_1409 : decode code 1409 = .ok (.aload_n 0, 1) := by decide +kernel
theorem d_law_1410 : decode code 1410 = .ok (.iload 4, 2) := by decide +kernel
theorem d_law_1412 : decode code 1412 = .ok (.iconst 2, 1) := by decide +kernel
theorem d_law_1413 : decode code 1413 = .ok (.iadd, 1) := by decide +kernel
theorem d_law_1414 : decode code 1414 = .ok (.iaload, 1) := by decide +kernel
theorem d_law_1415 : decode code 1415 = .ok (.aload_n 0, 1) := by decide +kernel
theorem d_law_1416 : decode code 1416 = .ok (.iload 4, 2) := by decide +kernel
theorem d_law_1418 : decode code 1418 = .ok (.iconst 3, 1) := by decide +kernel
theorem d_law_1419 : decode code 1419 = .ok (.iadd, 1) := by decide +kernel
theorem d_law_1420 : decode code 1420 = .ok (.iaload, 1) := by decide +kernel
theorem d_law_1421 : decode code 1421 = .ok (.invokevirtual 147, 3) := by decide +kernel
theorem d_law_1424 : decode code 1424 = .ok (.lstore 6, 2) := by decide +kernel
theorem d_law_1426 : decode code 1426 = .ok (.aload_n 2, 1) := by decide +kernel
theorem d_law_1427 : decode code 1427 = .ok (.invokevirtual 86, 3) := by decide +kernel
theorem d_law_1430 : decode code 1430 = .ok (.iload 5, 2) := by decide +kernel
theorem d_law_1432 : decode code 1432 = .ok (.if_icmp .eq 5, 3) := by decide +kernel
theorem d_law_1435 : decode code 1435 = .ok (.iconst 0, 1) := by decide +kernel
theorem d_law_1436 : decode code 1436 = .ok (.ireturn, 1) := by decide +kernel
theorem d_law_1437 : decode code 1437 = .ok (.iload 5, 2) := by decide +kernel
theorem d_law_1439 : decode code 1439 = .ok (.ifCond .ne 14, 3) := by decide +kernel
theorem d_law_1442 : decode code 1442 = .ok (.aload_n 3, 1) := by decide +kernel
theorem d_law_1443 : decode code 1443 = .ok (.iconst 0, 1) := by decide +kernel
theorem d_law_1444 : decode code 1444 = .ok (.laload, 1) := by decide +kernel
theorem d_law_1445 : decode code 1445 = .ok (.lload 6, 2) := by decide +kernel
theorem d_law_1447 : decode code 1447 = .ok (.lcmp, 1) := by decide +kernel
theorem d_law_1448 : decode code 1448 = .ok (.ifCond .eq 5, 3) := by decide +kernel
theorem d_law_1451 : decode code 1451 = .ok (.iconst 0, 1) := by decide +kernel
theorem d_law_1452 : decode code 1452 = .ok (.ireturn, 1) := by decide +kernel
theorem d_law_1453 : decode code 1453 = .ok (.goto 111, 3) := by decide +kernel
theorem d_law_1456 : decode code 1456 = .ok (.aload_n 1, 1) := by decide +kernel
theorem d_law_1457 : decode code 1457 = .ok (.aload_n 0, 1) := by decide +kernel
theorem d_law_1458 : decode code 1458 = .ok (.iload 4, 2) := by decide +kernel
theorem d_law_1460 : decode code 1460 = .ok (.iconst 1, 1) := by decide +kernel
theorem d_law_1461 : decode code 1461 = .ok (.iadd, 1) := by decide +kernel
theorem d_law_1462 : decode code 1462 = .ok (.iaload, 1) := by decide +kernel
theorem d_law_1463 : decode code 1463 = .ok (.aload_n 0, 1) := by decide +kernel
theorem d_law_1464 : decode code 1464 = .ok (.iload 4, 2) := by decide +kernel
theorem d_law_1466 : decode code 1466 = .ok (.iconst 2, 1) := by decide +kernel
theorem d_law_1467 : decode code 1467 = .ok (.iadd, 1) := by decide +kernel
theorem d_law_1468 : decode code 1468 = .ok (.iaload, 1) := by decide +kernel
theorem d_law_1469 : decode code 1469 = .ok (.aload_n 0, 1) := by decide +kernel
theorem d_law_1470 : decode code 1470 = .ok (.iload 4, 2) := by decide +kernel
theorem d_law_1472 : decode code 1472 = .ok (.iconst 3, 1) := by decide +kernel
theorem d_law_1473 : decode code 1473 = .ok (.iadd, 1) := by decide +kernel
theorem d_law_1474 : decode code 1474 = .ok (.iaload, 1) := by decide +kernel
theorem d_law_1475 : decode code 1475 = .ok (.aload_n 0, 1) := by decide +kernel
theorem d_law_1476 : decode code 1476 = .ok (.iload 4, 2) := by decide +kernel
theorem d_law_1478 : decode code 1478 = .ok (.iconst 4, 1) := by decide +kernel
theorem d_law_1479 : decode code 1479 = .ok (.iadd, 1) := by decide +kernel
theorem d_law_1480 : decode code 1480 = .ok (.iaload, 1) := by decide +kernel
theorem d_law_1481 : decode code 1481 = .ok (.ifCond .eq 7, 3) := by decide +kernel
theorem d_law_1484 : decode code 1484 = .ok (.iconst 1, 1) := by decide +kernel
theorem d_law_1485 : decode code 1485 = .ok (.goto 4, 3) := by decide +kernel
theorem d_law_1488 : decode code 1488 = .ok (.iconst 0, 1) := by decide +kernel
theorem d_law_1489 : decode code 1489 = .ok (.aload_n 3, 1) := by decide +kernel
theorem d_law_1490 : decode code 1490 = .ok (.invokestatic 148, 3) := by decide +kernel
theorem d_law_1493 : decode code 1493 = .ok (.istore 5, 2) := by decide +kernel
theorem d_law_1495 : decode code 1495 = .ok (.aload_n 2, 1) := by decide +kernel
theorem d_law_1496 : decode code 1496 = .ok (.aload_n 0, 1) := by decide +kernel
theorem d_law_1497 : decode code 1497 = .ok (.iload 4, 2) := by decide +kernel
theorem d_law_1499 : decode code 1499 = .ok (.iconst 1, 1) := by decide +kernel
theorem d_law_1500 : decode code 1500 = .ok (.iadd, 1) := by decide +kernel
theorem d_law_1501 : decode code 1501 = .ok (.iaload, 1) := by decide +kernel
theorem d_law_1502 : decode code 1502 = .ok (.aload_n 0, 1) := by decide +kernel
theorem d_law_1503 : decode code 1503 = .ok (.iload 4, 2) := by decide +kernel
theorem d_law_1505 : decode code 1505 = .ok (.iconst 2, 1) := by decide +kernel
theorem d_law_1506 : decode code 1506 = .ok (.iadd, 1) := by decide +kernel
theorem d_law_1507 : decode code 1507 = .ok (.iaload, 1) := by decide +kernel
theorem d_law_1508 : decode code 1508 = .ok (.aload_n 0, 1) := by decide +kernel
theorem d_law_1509 : decode code 1509 = .ok (.iload 4, 2) := by decide +kernel
theorem d_law_1511 : decode code 1511 = .ok (.iconst 3, 1) := by decide +kernel
theorem d_law_1512 : decode code 1512 = .ok (.iadd, 1) := by decide +kernel
theorem d_law_1513 : decode code 1513 = .ok (.iaload, 1) := by decide +kernel
theorem d_law_1514 : decode code 1514 = .ok (.aload_n 0, 1) := by decide +kernel
theorem d_law_1515 : decode code 1515 = .ok (.iload 4, 2) := by decide +kernel
theorem d_law_1517 : decode code 1517 = .ok (.iconst 4, 1) := by decide +kernel
theorem d_law_1518 : decode code 1518 = .ok (.iadd, 1) := by decide +kernel
theorem d_law_1519 : decode code 1519 = .ok (.iaload, 1) := by decide +kernel
theorem d_law_1520 : decode code 1520 = .ok (.ifCond .eq 7, 3) := by decide +kernel
theorem d_law_1523 : decode code 1523 = .ok (.iconst 1, 1) := by decide +kernel
theorem d_law_1524 : decode code 1524 = .ok (.goto 4, 3) := by decide +kernel
theorem d_law_1527 : decode code 1527 = .ok (.iconst 0, 1) := by decide +kernel
theorem d_law_1528 : decode code 1528 = .ok (.invokevirtual 151, 3) := by decide +kernel
theorem d_law_1531 : decode code 1531 = .ok (.istore 6, 2) := by decide +kernel
theorem d_law_1533 : decode code 1533 = .ok (.aload_n 2, 1) := by decide +kernel
theorem d_law_1534 : decode code 1534 = .ok (.invokevirtual 86, 3) := by decide +kernel
theorem d_law_1537 : decode code 1537 = .ok (.iload 5, 2) := by decide +kernel
theorem d_law_1539 : decode code 1539 = .ok (.if_icmp .eq 5, 3) := by decide +kernel
theorem d_law_1542 : decode code 1542 = .ok (.iconst 0, 1) := by decide +kernel
theorem d_law_1543 : decode code 1543 = .ok (.ireturn, 1) := by decide +kernel
theorem d_law_1544 : decode code 1544 = .ok (.iload 5, 2) := by decide +kernel
theorem d_law_1546 : decode code 1546 = .ok (.ifCond .ne 15, 3) := by decide +kernel
theorem d_law_1549 : decode code 1549 = .ok (.aload_n 3, 1) := by decide +kernel
theorem d_law_1550 : decode code 1550 = .ok (.iconst 0, 1) := by decide +kernel
theorem d_law_1551 : decode code 1551 = .ok (.laload, 1) := by decide +kernel
theorem d_law_1552 : decode code 1552 = .ok (.iload 6, 2) := by decide +kernel
theorem d_law_1554 : decode code 1554 = .ok (.i2l, 1) := by decide +kernel
theorem d_law_1555 : decode code 1555 = .ok (.lcmp, 1) := by decide +kernel
theorem d_law_1556 : decode code 1556 = .ok (.ifCond .eq 5, 3) := by decide +kernel
theorem d_law_1559 : decode code 1559 = .ok (.iconst 0, 1) := by decide +kernel
theorem d_law_1560 : decode code 1560 = .ok (.ireturn, 1) := by decide +kernel
theorem d_law_1561 : decode code 1561 = .ok (.goto 3, 3) := by decide +kernel
theorem d_law_1564 : decode code 1564 = .ok (.iinc 4 6, 3) := by decide +kernel
theorem d_law_1567 : decode code 1567 = .ok (.goto (-1544), 3) := by decide +kernel
theorem d_law_1570 : decode code 1570 = .ok (.iconst 1, 1) := by decide +kernel
theorem d_law_1571 : decode code 1571 = .ok (.ireturn, 1) := by decide +kernel
