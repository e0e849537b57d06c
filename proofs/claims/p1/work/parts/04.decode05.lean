theorem d_W_law_150 : decode b_W_law 150 = .ok (.aload_n 0, 1) := by decide +kernel
theorem d_W_law_151 : decode b_W_law 151 = .ok (.iload 5, 2) := by decide +kernel
theorem d_W_law_153 : decode b_W_law 153 = .ok (.iconst 1, 1) := by decide +kernel
theorem d_W_law_154 : decode b_W_law 154 = .ok (.iadd, 1) := by decide +kernel
theorem d_W_law_155 : decode b_W_law 155 = .ok (.iaload, 1) := by decide +kernel
theorem d_W_law_156 : decode b_W_law 156 = .ok (.aload_n 0, 1) := by decide +kernel
theorem d_W_law_157 : decode b_W_law 157 = .ok (.iload 5, 2) := by decide +kernel
theorem d_W_law_159 : decode b_W_law 159 = .ok (.iconst 2, 1) := by decide +kernel
theorem d_W_law_160 : decode b_W_law 160 = .ok (.iadd, 1) := by decide +kernel
theorem d_W_law_161 : decode b_W_law 161 = .ok (.iaload, 1) := by decide +kernel
theorem d_W_law_162 : decode b_W_law 162 = .ok (.aload_n 0, 1) := by decide +kernel
theorem d_W_law_163 : decode b_W_law 163 = .ok (.iload 5, 2) := by decide +kernel
theorem d_W_law_165 : decode b_W_law 165 = .ok (.iconst 3, 1) := by decide +kernel
theorem d_W_law_166 : decode b_W_law 166 = .ok (.iadd, 1) := by decide +kernel
theorem d_W_law_167 : decode b_W_law 167 = .ok (.iaload, 1) := by decide +kernel
theorem d_W_law_168 : decode b_W_law 168 = .ok (.invokevirtual 84, 3) := by decide +kernel
theorem d_W_law_171 : decode b_W_law 171 = .ok (.istore 7, 2) := by decide +kernel
theorem d_W_law_173 : decode b_W_law 173 = .ok (.aload_n 2, 1) := by decide +kernel
theorem d_W_law_174 : decode b_W_law 174 = .ok (.invokevirtual 85, 3) := by decide +kernel
theorem d_W_law_177 : decode b_W_law 177 = .ok (.iload 6, 2) := by decide +kernel
theorem d_W_law_179 : decode b_W_law 179 = .ok (.if_icmp .eq 5, 3) := by decide +kernel
theorem d_W_law_182 : decode b_W_law 182 = .ok (.iconst 0, 1) := by decide +kernel
theorem d_W_law_183 : decode b_W_law 183 = .ok (.ireturn, 1) := by decide +kernel
theorem d_W_law_184 : decode b_W_law 184 = .ok (.iload 6, 2) := by decide +kernel
theorem d_W_law_186 : decode b_W_law 186 = .ok (.ifCond .ne 15, 3) := by decide +kernel
theorem d_W_law_189 : decode b_W_law 189 = .ok (.aload_n 3, 1) := by decide +kernel
theorem d_W_law_190 : decode b_W_law 190 = .ok (.iconst 0, 1) := by decide +kernel
theorem d_W_law_191 : decode b_W_law 191 = .ok (.laload, 1) := by decide +kernel
theorem d_W_law_192 : decode b_W_law 192 = .ok (.iload 7, 2) := by decide +kernel
theorem d_W_law_194 : decode b_W_law 194 = .ok (.i2l, 1) := by decide +kernel
theorem d_W_law_195 : decode b_W_law 195 = .ok (.lcmp, 1) := by decide +kernel
theorem d_W_law_196 : decode b_W_law 196 = .ok (.ifCond .eq 5, 3) := by decide +kernel
theorem d_W_law_199 : decode b_W_law 199 = .ok (.iconst 0, 1) := by decide +kernel
theorem d_W_law_200 : decode b_W_law 200 = .ok (.ireturn, 1) := by decide +kernel
theorem d_W_law_201 : decode b_W_law 201 = .ok (.goto 1230, 3) := by decide +kernel
theorem d_W_law_204 : decode b_W_law 204 = .ok (.aload_n 1, 1) := by decide +kernel
theorem d_W_law_205 : decode b_W_law 205 = .ok (.aload_n 0, 1) := by decide +kernel
theorem d_W_law_206 : decode b_W_law 206 = .ok (.iload 5, 2) := by decide +kernel
theorem d_W_law_208 : decode b_W_law 208 = .ok (.iconst 1, 1) := by decide +kernel
theorem d_W_law_209 : decode b_W_law 209 = .ok (.iadd, 1) := by decide +kernel
theorem d_W_law_210 : decode b_W_law 210 = .ok (.iaload, 1) := by decide +kernel
theorem d_W_law_211 : decode b_W_law 211 = .ok (.aload_n 3, 1) := by decide +kernel
theorem d_W_law_212 : decode b_W_law 212 = .ok (.invokestatic 89, 3) := by decide +kernel
theorem d_W_law_215 : decode b_W_law 215 = .ok (.istore 6, 2) := by decide +kernel
theorem d_W_law_217 : decode b_W_law 217 = .ok (.aload_n 2, 1) := by decide +kernel
theorem d_W_law_218 : decode b_W_law 218 = .ok (.aload_n 0, 1) := by decide +kernel
theorem d_W_law_219 : decode b_W_law 219 = .ok (.iload 5, 2) := by decide +kernel
theorem d_W_law_221 : decode b_W_law 221 = .ok (.iconst 1, 1) := by decide +kernel
theorem d_W_law_222 : decode b_W_law 222 = .ok (.iadd, 1) := by decide +kernel
theorem d_W_law_223 : decode b_W_law 223 = .ok (.iaload, 1) := by decide +kernel
theorem d_W_law_224 : decode b_W_law 224 = .ok (.invokevirtual 92, 3) := by decide +kernel
theorem d_W_law_227 : decode b_W_law 227 = .ok (.istore 7, 2) := by decide +kernel
theorem d_W_law_229 : decode b_W_law 229 = .ok (.aload_n 2, 1) := by decide +kernel
theorem d_W_law_230 : decode b_W_law 230 = .ok (.invokevirtual 85, 3) := by decide +kernel
theorem d_W_law_233 : decode b_W_law 233 = .ok (.iload 6, 2) := by decide +kernel
theorem d_W_law_235 : decode b_W_law 235 = .ok (.if_icmp .eq 5, 3) := by decide +kernel
theorem d_W_law_238 : decode b_W_law 238 = .ok (.iconst 0, 1) := by decide +kernel
theorem d_W_law_239 : decode b_W_law 239 = .ok (.ireturn, 1) := by decide +kernel
theorem d_W_law_240 : decode b_W_law 240 = .ok (.iload 6, 2) := by decide +kernel
theorem d_W_law_242 : decode b_W_law 242 = .ok (.ifCond .ne 15, 3) := by decide +kernel
theorem d_W_law_245 : decode b_W_law 245 = .ok (.aload_n 3, 1) := by decide +kernel
theorem d_W_law_246 : decode b_W_law 246 = .ok (.iconst 0, 1) := by decide +kernel
theorem d_W_law_247 : decode b_W_law 247 = .ok (.laload, 1) := by decide +kernel
theorem d_W_law_248 : decode b_W_law 248 = .ok (.iload 7, 2) := by decide +kernel
theorem d_W_law_250 : decode b_W_law 250 = .ok (.i2l, 1) := by decide +kernel
theorem d_W_law_251 : decode b_W_law 251 = .ok (.lcmp, 1) := by decide +kernel
theorem d_W_law_252 : decode b_W_law 252 = .ok (.ifCond .eq 5, 3) := by decide +kernel
theorem d_W_law_255 : decode b_W_law 255 = .ok (.iconst 0, 1) := by decide +kernel
theorem d_W_law_256 : decode b_W_law 256 = .ok (.ireturn, 1) := by decide +kernel
theorem d_W_law_257 : decode b_W_law 257 = .ok (.goto 1174, 3) := by decide +kernel
theorem d_W_law_260 : decode b_W_law 260 = .ok (.aload_n 1, 1) := by decide +kernel
theorem d_W_law_261 : decode b_W_law 261 = .ok (.aload_n 0, 1) := by decide +kernel
theorem d_W_law_262 : decode b_W_law 262 = .ok (.iload 5, 2) := by decide +kernel
theorem d_W_law_264 : decode b_W_law 264 = .ok (.iconst 1, 1) := by decide +kernel
theorem d_W_law_265 : decode b_W_law 265 = .ok (.iadd, 1) := by decide +kernel
theorem d_W_law_266 : decode b_W_law 266 = .ok (.iaload, 1) := by decide +kernel
theorem d_W_law_267 : decode b_W_law 267 = .ok (.aload_n 0, 1) := by decide +kernel
theorem d_W_law_268 : decode b_W_law 268 = .ok (.iload 5, 2) := by decide +kernel
theorem d_W_law_270 : decode b_W_law 270 = .ok (.iconst 2, 1) := by decide +kernel
theorem d_W_law_271 : decode b_W_law 271 = .ok (.iadd, 1) := by decide +kernel
theorem d_W_law_272 : decode b_W_law 272 = .ok (.iaload, 1) := by decide +kernel
theorem d_W_law_273 : decode b_W_law 273 = .ok (.aload_n 3, 1) := by decide +kernel
theorem d_W_law_274 : decode b_W_law 274 = .ok (.invokestatic 93, 3) := by decide +kernel
theorem d_W_law_277 : decode b_W_law 277 = .ok (.istore 6, 2) := by decide +kernel
theorem d_W_law_279 : decode b_W_law 279 = .ok (.aload_n 2, 1) := by decide +kernel
theorem d_W_law_280 : decode b_W_law 280 = .ok (.aload_n 0, 1) := by decide +kernel
theorem d_W_law_281 : decode b_W_law 281 = .ok (.iload 5, 2) := by decide +kernel
theorem d_W_law_283 : decode b_W_law 283 = .ok (.iconst 1, 1) := by decide +kernel
theorem d_W_law_284 : decode b_W_law 284 = .ok (.iadd, 1) := by decide +kernel
theorem d_W_law_285 : decode b_W_law 285 = .ok (.iaload, 1) := by decide +kernel
theorem d_W_law_286 : decode b_W_law 286 = .ok (.aload_n 0, 1) := by decide +kernel
theorem d_W_law_287 : decode b_W_law 287 = .ok (.iload 5, 2) := by decide +kernel
theorem d_W_law_289 : decode b_W_law 289 = .ok (.iconst 2, 1) := by decide +kernel
theorem d_W_law_290 : decode b_W_law 290 = .ok (.iadd, 1) := by decide +kernel
theorem d_W_law_291 : decode b_W_law 291 = .ok (.iaload, 1) := by decide +kernel
theorem d_W_law_292 : decode b_W_law 292 = .ok (.invokevirtual 96, 3) := by decide +kernel
theorem d_W_law_295 : decode b_W_law 295 = .ok (.istore 7, 2) := by decide +kernel
theorem d_W_law_297 : decode b_W_law 297 = .ok (.aload_n 2, 1) := by decide +kernel
theorem d_W_law_298 : decode b_W_law 298 = .ok (.invokevirtual 85, 3) := by decide +kernel
theorem d_W_law_301 : decode b_W_law 301 = .ok (.iload 6, 2) := by decide +kernel
theorem d_W_law_303 : decode b_W_law 303 = .ok (.if_icmp .eq 5, 3) := by decide +kernel
theorem d_W_law_306 : decode b_W_law 306 = .ok (.iconst 0, 1) := by decide +kernel
theorem d_W_law_307 : decode b_W_law 307 = .ok (.ireturn, 1) := by decide +kernel
theorem d_W_law_308 : decode b_W_law 308 = .ok (.iload 6, 2) := by decide +kernel
theorem d_W_law_310 : decode b_W_law 310 = .ok (.ifCond .ne 15, 3) := by decide +kernel
theorem d_W_law_313 : decode b_W_law 313 = .ok (.aload_n 3, 1) := by decide +kernel
theorem d_W_law_314 : decode b_W_law 314 = .ok (.iconst 0, 1) := by decide +kernel
theorem d_W_law_315 : decode b_W_law 315 = .ok (.laload, 1) := by decide +kernel
theorem d_W_law_316 : decode b_W_law 316 = .ok (.iload 7, 2) := by decide +kernel
theorem d_W_law_318 : decode b_W_law 318 = .ok (.i2l, 1) := by decide +kernel
theorem d_W_law_319 : decode b_W_law 319 = .ok (.lcmp, 1) := by decide +kernel
theorem d_W_law_320 : decode b_W_law 320 = .ok (.ifCond .eq 5, 3) := by decide +kernel
theorem d_W_law_323 : decode b_W_law 323 = .ok (.iconst 0, 1) := by decide +kernel
theorem d_W_law_324 : decode b_W_law 324 = .ok (.ireturn, 1) := by decide +kernel
theorem d_W_law_325 : decode b_W_law 325 = .ok (.goto 1106, 3) := by decide +kernel
theorem d_W_law_328 : decode b_W_law 328 = .ok (.aload_n 1, 1) := by decide +kernel
theorem d_W_law_329 : decode b_W_law 329 = .ok (.aload_n 0, 1) := by decide +kernel
theorem d_W_law_330 : decode b_W_law 330 = .ok (.iload 5, 2) := by decide +kernel
theorem d_W_law_332 : decode b_W_law 332 = .ok (.iconst 1, 1) := by decide +kernel
theorem d_W_law_333 : decode b_W_law 333 = .ok (.iadd, 1) := by decide +kernel
theorem d_W_law_334 : decode b_W_law 334 = .ok (.iaload, 1) := by decide +kernel
theorem d_W_law_335 : decode b_W_law 335 = .ok (.aload_n 0, 1) := by decide +kernel
theorem d_W_law_336 : decode b_W_law 336 = .ok (.iload 5, 2) := by decide +kernel
theorem d_W_law_338 : decode b_W_law 338 = .ok (.iconst 2, 1) := by decide +kernel
theorem d_W_law_339 : decode b_W_law 339 = .ok (.iadd, 1) := by decide +kernel
theorem d_W_law_340 : decode b_W_law 340 = .ok (.iaload, 1) := by decide +kernel
theorem d_W_law_341 : decode b_W_law 341 = .ok (.aload_n 0, 1) := by decide +kernel
theorem d_W_law_342 : decode b_W_law 342 = .ok (.iload 5, 2) := by decide +kernel
theorem d_W_law_344 : decode b_W_law 344 = .ok (.iconst 3, 1) := by decide +kernel
theorem d_W_law_345 : decode b_W_law 345 = .ok (.iadd, 1) := by decide +kernel
theorem d_W_law_346 : decode b_W_law 346 = .ok (.iaload, 1) := by decide +kernel
theorem d_W_law_347 : decode b_W_law 347 = .ok (.aload_n 3, 1) := by decide +kernel
theorem d_W_law_348 : decode b_W_law 348 = .ok (.invokestatic 97, 3) := by decide +kernel
theorem d_W_law_351 : decode b_W_law 351 = .ok (.istore 6, 2) := by decide +kernel
theorem d_W_law_353 : decode b_W_law 353 = .ok (.aload_n 2, 1) := by decide +kernel
theorem d_W_law_354 : decode b_W_law 354 = .ok (.aload_n 0, 1) := by decide +kernel
theorem d_W_law_355 : decode b_W_law 355 = .ok (.iload 5, 2) := by decide +kernel
theorem d_W_law_357 : decode b_W_law 357 = .ok (.iconst 1, 1) := by decide +kernel
theorem d_W_law_358 : decode b_W_law 358 = .ok (.iadd, 1) := by decide +kernel
theorem d_W_law_359 : decode b_W_law 359 = .ok (.iaload, 1) := by decide +kernel
theorem d_W_law_360 : decode b_W_law 360 = .ok (.aload_n 0, 1) := by decide +kernel
theorem d_W_law_361 : decode b_W_law 361 = .ok (.iload 5, 2) := by decide +kernel
theorem d_W_law_363 : decode b_W_law 363 = .ok (.iconst 2, 1) := by decide +kernel
theorem d_W_law_364 : decode b_W_law 364 = .ok (.iadd, 1) := by decide +kernel
theorem d_W_law_365 : decode b_W_law 365 = .ok (.iaload, 1) := by decide +kernel
theorem d_W_law_366 : decode b_W_law 366 = .ok (.aload_n 0, 1) := by decide +kernel
theorem d_W_law_367 : decode b_W_law 367 = .ok (.iload 5, 2) := by decide +kernel
theorem d_W_law_369 : decode b_W_law 369 = .ok (.iconst 3, 1) := by decide +kernel
theorem d_W_law_370 : decode b_W_law 370 = .ok (.iadd, 1) := by decide +kernel
theorem d_W_law_371 : decode b_W_law 371 = .ok (.iaload, 1) := by decide +kernel
theorem d_W_law_372 : decode b_W_law 372 = .ok (.invokevirtual 99, 3) := by decide +kernel
theorem d_W_law_375 : decode b_W_law 375 = .ok (.istore 7, 2) := by decide +kernel
theorem d_W_law_377 : decode b_W_law 377 = .ok (.aload_n 2, 1) := by decide +kernel
theorem d_W_law_378 : decode b_W_law 378 = .ok (.invokevirtual 85, 3) := by decide +kernel
theorem d_W_law_381 : decode b_W_law 381 = .ok (.iload 6, 2) := by decide +kernel
theorem d_W_law_383 : decode b_W_law 383 = .ok (.if_icmp .eq 5, 3) := by decide +kernel
theorem d_W_law_386 : decode b_W_law 386 = .ok (.iconst 0, 1) := by decide +kernel
theorem d_W_law_387 : decode b_W_law 387 = .ok (.ireturn, 1) := by decide +kernel
theorem d_W_law_388 : decode b_W_law 388 = .ok (.iload 6, 2) := by decide +kernel
theorem d_W_law_390 : decode b_W_law 390 = .ok (.ifCond .ne 15, 3) := by decide +kernel
theorem d_W_law_393 : decode b_W_law 393 = .ok (.aload_n 3, 1) := by decide +kernel
theorem d_W_law_394 : decode b_W_law 394 = .ok (.iconst 0, 1) := by decide +kernel
theorem d_W_law_395 : decode b_W_law 395 = .ok (.laload, 1) := by decide +kernel
theorem d_W_law_396 : decode b_W_law 396 = .ok (.iload 7, 2) := by decide +kernel
theorem d_W_law_398 : decode b_W_law 398 = .ok (.i2l, 1) := by decide +kernel
theorem d_W_law_399 : decode b_W_law 399 = .ok (.lcmp, 1) := by decide +kernel
theorem d_W_law_400 : decode b_W_law 400 = .ok (.ifCond .eq 5, 3) := by decide +kernel
theorem d_W_law_403 : decode b_W_law 403 = .ok (.iconst 0, 1) := by decide +kernel
theorem d_W_law_404 : decode b_W_law 404 = .ok (.ireturn, 1) := by decide +kernel
theorem d_W_law_405 : decode b_W_law 405 = .ok (.goto 1026, 3) := by decide +kernel
theorem d_W_law_408 : decode b_W_law 408 = .ok (.aload_n 1, 1) := by decide +kernel
theorem d_W_law_409 : decode b_W_law 409 = .ok (.aload_n 0, 1) := by decide +kernel
theorem d_W_law_410 : decode b_W_law 410 = .ok (.iload 5, 2) := by decide +kernel
theorem d_W_law_412 : decode b_W_law 412 = .ok (.iconst 1, 1) := by decide +kernel
theorem d_W_law_413 : decode b_W_law 413 = .ok (.iadd, 1) := by decide +kernel
theorem d_W_law_414 : decode b_W_law 414 = .ok (.iaload, 1) := by decide +kernel
theorem d_W_law_415 : decode b_W_law 415 = .ok (.aload_n 0, 1) := by decide +kernel
theorem d_W_law_416 : decode b_W_law 416 = .ok (.iload 5, 2) := by decide +kernel
theorem d_W_law_418 : decode b_W_law 418 = .ok (.iconst 2, 1) := by decide +kernel
theorem d_W_law_419 : decode b_W_law 419 = .ok (.iadd, 1) := by decide +kernel
theorem d_W_law_420 : decode b_W_law 420 = .ok (.iaload, 1) := by decide +kernel
theorem d_W_law_421 : decode b_W_law 421 = .ok (.aload_n 0, 1) := by decide +kernel
theorem d_W_law_422 : decode b_W_law 422 = .ok (.iload 5, 2) := by decide +kernel
theorem d_W_law_424 : decode b_W_law 424 = .ok (.iconst 3, 1) := by decide +kernel
theorem d_W_law_425 : decode b_W_law 425 = .ok (.iadd, 1) := by decide +kernel
theorem d_W_law_426 : decode b_W_law 426 = .ok (.iaload, 1) := by decide +kernel
theorem d_W_law_427 : decode b_W_law 427 = .ok (.ifCond .eq 7, 3) := by decide +kernel
theorem d_W_law_430 : decode b_W_law 430 = .ok (.iconst 1, 1) := by decide +kernel
theorem d_W_law_431 : decode b_W_law 431 = .ok (.goto 4, 3) := by decide +kernel
theorem d_W_law_434 : decode b_W_law 434 = .ok (.iconst 0, 1) := by decide +kernel
theorem d_W_law_435 : decode b_W_law 435 = .ok (.aload_n 3, 1) := by decide +kernel
theorem d_W_law_436 : decode b_W_law 436 = .ok (.invokestatic 100, 3) := by decide +kernel
theorem d_W_law_439 : decode b_W_law 439 = .ok (.istore 6, 2) := by decide +kernel
theorem d_W_law_441 : decode b_W_law 441 = .ok (.aload_n 2, 1) := by decide +kernel
theorem d_W_law_442 : decode b_W_law 442 = .ok (.aload_n 0, 1) := by decide +kernel
theorem d_W_law_443 : decode b_W_law 443 = .ok (.iload 5, 2) := by decide +kernel
theorem d_W_law_445 : decode b_W_law 445 = .ok (.iconst 1, 1) := by decide +kernel
theorem d_W_law_446 : decode b_W_law 446 = .ok (.iadd, 1) := by decide +kernel
theorem d_W_law_447 : decode b_W_law 447 = .ok (.iaload, 1) := by decide +kernel
theorem d_W_law_448 : decode b_W_law 448 = .ok (.aload_n 0, 1) := by decide +kernel
theorem d_W_law_449 : decode b_W_law 449 = .ok (.iload 5, 2) := by decide +kernel
theorem d_W_law_451 : decode b_W_law 451 = .ok (.iconst 2, 1) := by decide +kernel
theorem d_W_law_452 : decode b_W_law 452 = .ok (.iadd, 1) := by decide +kernel
theorem d_W_law_453 : decode b_W_law 453 = .ok (.iaload, 1) := by decide +kernel
theorem d_W_law_454 : decode b_W_law 454 = .ok (.aload_n 0, 1) := by decide +kernel
theorem d_W_law_455 : decode b_W_law 455 = .ok (.iload 5, 2) := by decide +kernel
theorem d_W_law_457 : decode b_W_law 457 = .ok (.iconst 3, 1) := by decide +kernel
theorem d_W_law_458 : decode b_W_law 458 = .ok (.iadd, 1) := by decide +kernel
theorem d_W_law_459 : decode b_W_law 459 = .ok (.iaload, 1) := by decide +kernel
theorem d_W_law_460 : decode b_W_law 460 = .ok (.ifCond .eq 7, 3) := by decide +kernel
theorem d_W_law_463 : decode b_W_law 463 = .ok (.iconst 1, 1) := by decide +kernel
theorem d_W_law_464 : decode b_W_law 464 = .ok (.goto 4, 3) := by decide +kernel
theorem d_W_law_467 : decode b_W_law 467 = .ok (.iconst 0, 1) := by decide +kernel
theorem d_W_law_468 : decode b_W_law 468 = .ok (.invokevirtual 103, 3) := by decide +kernel
theorem d_W_law_471 : decode b_W_law 471 = .ok (.istore 7, 2) := by decide +kernel
theorem d_W_law_473 : decode b_W_law 473 = .ok (.aload_n 2, 1) := by decide +kernel
theorem d_W_law_474 : decode b_W_law 474 = .ok (.invokevirtual 85, 3) := by decide +kernel
theorem d_W_law_477 : decode b_W_law 477 = .ok (.iload 6, 2) := by decide +kernel
theorem d_W_law_479 : decode b_W_law 479 = .ok (.if_icmp .eq 5, 3) := by decide +kernel
theorem d_W_law_482 : decode b_W_law 482 = .ok (.iconst 0, 1) := by decide +kernel
theorem d_W_law_483 : decode b_W_law 483 = .ok (.ireturn, 1) := by decide +kernel
theorem d_W_law_484 : decode b_W_law 484 = .ok (.iload 6, 2) := by decide +kernel
theorem d_W_law_486 : decode b_W_law 486 = .ok (.ifCond .ne 22, 3) := by decide +kernel
theorem d_W_law_489 : decode b_W_law 489 = .ok (.aload_n 3, 1) := by decide +kernel
theorem d_W_law_490 : decode b_W_law 490 = .ok (.iconst 0, 1) := by decide +kernel
theorem d_W_law_491 : decode b_W_law 491 = .ok (.laload, 1) := by decide +kernel
theorem d_W_law_492 : decode b_W_law 492 = .ok (.iload 7, 2) := by decide +kernel
theorem d_W_law_494 : decode b_W_law 494 = .ok (.ifCond .eq 7, 3) := by decide +kernel
theorem d_W_law_497 : decode b_W_law 497 = .ok (.lconst 1, 1) := by decide +kernel
theorem d_W_law_498 : decode b_W_law 498 = .ok (.goto 4, 3) := by decide +kernel
theorem d_W_law_501 : decode b_W_law 501 = .ok (.lconst 0, 1) := by decide +kernel
theorem d_W_law_502 : decode b_W_law 502 = .ok (.lcmp, 1) := by decide +kernel
theorem d_W_law_503 : decode b_W_law 503 = .ok (.ifCond .eq 5, 3) := by decide +kernel
theorem d_W_law_506 : decode b_W_law 506 = .ok (.iconst 0, 1) := by decide +kernel
theorem d_W_law_507 : decode b_W_law 507 = .ok (.ireturn, 1) := by decide +kernel
theorem d_W_law_508 : decode b_W_law 508 = .ok (.goto 923, 3) := by decide +kernel
theorem d_W_law_511 : decode b_W_law 511 = .ok (.aload_n 1, 1) := by decide +kernel
theorem d_W_law_512 : decode b_W_law 512 = .ok (.aload_n 0, 1) := by decide +kernel
theorem d_W_law_513 : decode b_W_law 513 = .ok (.iload 5, 2) := by decide +kernel
theorem d_W_law_515 : decode b_W_law 515 = .ok (.iconst 1, 1) := by decide +kernel
theorem d_W_law_516 : decode b_W_law 516 = .ok (.iadd, 1) := by decide +kernel
theorem d_W_law_517 : decode b_W_law 517 = .ok (.iaload, 1) := by decide +kernel
theorem d_W_law_518 : decode b_W_law 518 = .ok (.aload_n 0, 1) := by decide +kernel
theorem d_W_law_519 : decode b_W_law 519 = .ok (.iload 5, 2) := by decide +kernel
theorem d_W_law_521 : decode b_W_law 521 = .ok (.iconst 2, 1) := by decide +kernel
theorem d_W_law_522 : decode b_W_law 522 = .ok (.iadd, 1) := by decide +kernel
theorem d_W_law_523 : decode b_W_law 523 = .ok (.iaload, 1) := by decide +kernel
theorem d_W_law_524 : decode b_W_law 524 = .ok (.aload_n 0, 1) := by decide +kernel
theorem d_W_law_525 : decode b_W_law 525 = .ok (.iload 5, 2) := by decide +kernel
theorem d_W_law_527 : decode b_W_law 527 = .ok (.iconst 3, 1) := by decide +kernel
theorem d_W_law_528 : decode b_W_law 528 = .ok (.iadd, 1) := by decide +kernel
theorem d_W_law_529 : decode b_W_law 529 = .ok (.iaload, 1) := by decide +kernel
theorem d_W_law_530 : decode b_W_law 530 = .ok (.ifCond .eq 7, 3) := by decide +kernel
theorem d_W_law_533 : decode b_W_law 533 = .ok (.iconst 1, 1) := by decide +kernel
theorem d_W_law_534 : decode b_W_law 534 = .ok (.goto 4, 3) := by decide +kernel
theorem d_W_law_537 : decode b_W_law 537 = .ok (.iconst 0, 1) := by decide +kernel
theorem d_W_law_538 : decode b_W_law 538 = .ok (.aload_n 3, 1) := by decide +kernel
theorem d_W_law_539 : decode b_W_law 539 = .ok (.invokestatic 104, 3) := by decide +kernel
theorem d_W_law_542 : decode b_W_law 542 = .ok (.istore 6, 2) := by decide +kernel
theorem d_W_law_544 : decode b_W_law 544 = .ok (.aload_n 2, 1) := by decide +kernel
theorem d_W_law_545 : decode b_W_law 545 = .ok (.aload_n 0, 1) := by decide +kernel
theorem d_W_law_546 : decode b_W_law 546 = .ok (.iload 5, 2) := by decide +kernel
theorem d_W_law_548 : decode b_W_law 548 = .ok (.iconst 1, 1) := by decide +kernel
theorem d_W_law_549 : decode b_W_law 549 = .ok (.iadd, 1) := by decide +kernel
theorem d_W_law_550 : decode b_W_law 550 = .ok (.iaload, 1) := by decide +kernel
theorem d_W_law_551 : decode b_W_law 551 = .ok (.aload_n 0, 1) := by decide +kernel
theorem d_W_law_552 : decode b_W_law 552 = .ok (.iload 5, 2) := by decide +kernel
theorem d_W_law_554 : decode b_W_law 554 = .ok (.iconst 2, 1) := by decide +kernel
theorem d_W_law_555 : decode b_W_law 555 = .ok (.iadd, 1) := by decide +kernel
theorem d_W_law_556 : decode b_W_law 556 = .ok (.iaload, 1) := by decide +kernel
theorem d_W_law_557 : decode b_W_law 557 = .ok (.aload_n 0, 1) := by decide +kernel
theorem d_W_law_558 : decode b_W_law 558 = .ok (.iload 5, 2) := by decide +kernel
theorem d_W_law_560 : decode b_W_law 560 = .ok (.iconst 3, 1) := by decide +kernel
theorem d_W_law_561 : decode b_W_law 561 = .ok (.iadd, 1) := by decide +kernel
theorem d_W_law_562 : decode b_W_law 562 = .ok (.iaload, 1) := by decide +kernel
theorem d_W_law_563 : decode b_W_law 563 = .ok (.ifCond .eq 7, 3) := by decide +kernel
theorem d_W_law_566 : decode b_W_law 566 = .ok (.iconst 1, 1) := by decide +kernel
theorem d_W_law_567 : decode b_W_law 567 = .ok (.goto 4, 3) := by decide +kernel
theorem d_W_law_570 : decode b_W_law 570 = .ok (.iconst 0, 1) := by decide +kernel
theorem d_W_law_571 : decode b_W_law 571 = .ok (.invokevirtual 106, 3) := by decide +kernel
theorem d_W_law_574 : decode b_W_law 574 = .ok (.istore 7, 2) := by decide +kernel
theorem d_W_law_576 : decode b_W_law 576 = .ok (.aload_n 2, 1) := by decide +kernel
theorem d_W_law_577 : decode b_W_law 577 = .ok (.invokevirtual 85, 3) := by decide +kernel
theorem d_W_law_580 : decode b_W_law 580 = .ok (.iload 6, 2) := by decide +kernel
theorem d_W_law_582 : decode b_W_law 582 = .ok (.if_icmp .eq 5, 3) := by decide +kernel
theorem d_W_law_585 : decode b_W_law 585 = .ok (.iconst 0, 1) := by decide +kernel
theorem d_W_law_586 : decode b_W_law 586 = .ok (.ireturn, 1) := by decide +kernel
theorem d_W_law_587 : decode b_W_law 587 = .ok (.iload 6, 2) := by decide +kernel
theorem d_W_law_589 : decode b_W_law 589 = .ok (.ifCond .ne 22, 3) := by decide +kernel
theorem d_W_law_592 : decode b_W_law 592 = .ok (.aload_n 3, 1) := by decide +kernel
theorem d_W_law_593 : decode b_W_law 593 = .ok (.iconst 0, 1) := by decide +kernel
theorem d_W_law_594 : decode b_W_law 594 = .ok (.laload, 1) := by decide +kernel
theorem d_W_law_595 : decode b_W_law 595 = .ok (.iload 7, 2) := by decide +kernel
theorem d_W_law_597 : decode b_W_law 597 = .ok (.ifCond .eq 7, 3) := by decide +kernel
theorem d_W_law_600 : decode b_W_law 600 = .ok (.lconst 1, 1) := by decide +kernel
theorem d_W_law_601 : decode b_W_law 601 = .ok (.goto 4, 3) := by decide +kernel
theorem d_W_law_604 : decode b_W_law 604 = .ok (.lconst 0, 1) := by decide +kernel
theorem d_W_law_605 : decode b_W_law 605 = .ok (.lcmp, 1) := by decide +kernel
theorem d_W_law_606 : decode b_W_law 606 = .ok (.ifCond .eq 5, 3) := by decide +kernel
theorem d_W_law_609 : decode b_W_law 609 = .ok (.iconst 0, 1) := by decide +kernel
theorem d_W_law_610 : decode b_W_law 610 = .ok (.ireturn, 1) := by decide +kernel
theorem d_W_law_611 : decode b_W_law 611 = .ok (.goto 820, 3) := by decide +kernel
theorem d_W_law_614 : decode b_W_law 614 = .ok (.aload_n 1, 1) := by decide +kernel
theorem d_W_law_615 : decode b_W_law 615 = .ok (.aload_n 0, 1) := by decide +kernel
theorem d_W_law_616 : decode b_W_law 616 = .ok (.iload 5, 2) := by decide +kernel
theorem d_W_law_618 : decode b_W_law 618 = .ok (.iconst 1, 1) := by decide +kernel
theorem d_W_law_619 : decode b_W_law 619 = .ok (.iadd, 1) := by decide +kernel
theorem d_W_law_620 : decode b_W_law 620 = .ok (.iaload, 1) := by decide +kernel
theorem d_W_law_621 : decode b_W_law 621 = .ok (.aload_n 0, 1) := by decide +kernel
theorem d_W_law_622 : decode b_W_law 622 = .ok (.iload 5, 2) := by decide +kernel
theorem d_W_law_624 : decode b_W_law 624 = .ok (.iconst 2, 1) := by decide +kernel
theorem d_W_law_625 : decode b_W_law 625 = .ok (.iadd, 1) := by decide +kernel
theorem d_W_law_626 : decode b_W_law 626 = .ok (.iaload, 1) := by decide +kernel
theorem d_W_law_627 : decode b_W_law 627 = .ok (.aload_n 0, 1) := by decide +kernel
theorem d_W_law_628 : decode b_W_law 628 = .ok (.iload 5, 2) := by decide +kernel
theorem d_W_law_630 : decode b_W_law 630 = .ok (.iconst 3, 1) := by decide +kernel
theorem d_W_law_631 : decode b_W_law 631 = .ok (.iadd, 1) := by decide +kernel
theorem d_W_law_632 : decode b_W_law 632 = .ok (.iaload, 1) := by decide +kernel
theorem d_W_law_633 : decode b_W_law 633 = .ok (.i2d, 1) := by decide +kernel
theorem d_W_law_634 : decode b_W_law 634 = .ok (.ldc2_w 107, 3) := by decide +kernel
theorem d_W_law_637 : decode b_W_law 637 = .ok (.dmul, 1) := by decide +kernel
theorem d_W_law_638 : decode b_W_law 638 = .ok (.aload 4, 2) := by decide +kernel
theorem d_W_law_640 : decode b_W_law 640 = .ok (.invokestatic 109, 3) := by decide +kernel
theorem d_W_law_643 : decode b_W_law 643 = .ok (.istore 6, 2) := by decide +kernel
theorem d_W_law_645 : decode b_W_law 645 = .ok (.aload_n 2, 1) := by decide +kernel
theorem d_W_law_646 : decode b_W_law 646 = .ok (.aload_n 0, 1) := by decide +kernel
theorem d_W_law_647 : decode b_W_law 647 = .ok (.iload 5, 2) := by decide +kernel
theorem d_W_law_649 : decode b_W_law 649 = .ok (.iconst 1, 1) := by decide +kernel
theorem d_W_law_650 : decode b_W_law 650 = .ok (.iadd, 1) := by decide +kernel
theorem d_W_law_651 : decode b_W_law 651 = .ok (.iaload, 1) := by decide +kernel
theorem d_W_law_652 : decode b_W_law 652 = .ok (.aload_n 0, 1) := by decide +kernel
theorem d_W_law_653 : decode b_W_law 653 = .ok (.iload 5, 2) := by decide +kernel
theorem d_W_law_655 : decode b_W_law 655 = .ok (.iconst 2, 1) := by decide +kernel
theorem d_W_law_656 : decode b_W_law 656 = .ok (.iadd, 1) := by decide +kernel
theorem d_W_law_657 : decode b_W_law 657 = .ok (.iaload, 1) := by decide +kernel
theorem d_W_law_658 : decode b_W_law 658 = .ok (.aload_n 0, 1) := by decide +kernel
theorem d_W_law_659 : decode b_W_law 659 = .ok (.iload 5, 2) := by decide +kernel
theorem d_W_law_661 : decode b_W_law 661 = .ok (.iconst 3, 1) := by decide +kernel
theorem d_W_law_662 : decode b_W_law 662 = .ok (.iadd, 1) := by decide +kernel
theorem d_W_law_663 : decode b_W_law 663 = .ok (.iaload, 1) := by decide +kernel
theorem d_W_law_664 : decode b_W_law 664 = .ok (.i2d, 1) := by decide +kernel
theorem d_W_law_665 : decode b_W_law 665 = .ok (.ldc2_w 107, 3) := by decide +kernel
theorem d_W_law_668 : decode b_W_law 668 = .ok (.dmul, 1) := by decide +kernel
theorem d_W_law_669 : decode b_W_law 669 = .ok (.invokevirtual 112, 3) := by decide +kernel
theorem d_W_law_672 : decode b_W_law 672 = .ok (.dstore 7, 2) := by decide +kernel
theorem d_W_law_674 : decode b_W_law 674 = .ok (.aload_n 2, 1) := by decide +kernel
theorem d_W_law_675 : decode b_W_law 675 = .ok (.invokevirtual 85, 3) := by decide +kernel
theorem d_W_law_678 : decode b_W_law 678 = .ok (.iload 6, 2) := by decide +kernel
theorem d_W_law_680 : decode b_W_law 680 = .ok (.if_icmp .eq 5, 3) := by decide +kernel
theorem d_W_law_683 : decode b_W_law 683 = .ok (.iconst 0, 1) := by decide +kernel
theorem d_W_law_684 : decode b_W_law 684 = .ok (.ireturn, 1) := by decide +kernel
theorem d_W_law_685 : decode b_W_law 685 = .ok (.iload 6, 2) := by decide +kernel
theorem d_W_law_687 : decode b_W_law 687 = .ok (.ifCond .ne 35, 3) := by decide +kernel
theorem d_W_law_690 : decode b_W_law 690 = .ok (.aload 4, 2) := by decide +kernel
theorem d_W_law_692 : decode b_W_law 692 = .ok (.iconst 0, 1) := by decide +kernel
theorem d_W_law_693 : decode b_W_law 693 = .ok (.daload, 1) := by decide +kernel
theorem d_W_law_694 : decode b_W_law 694 = .ok (.dload 7, 2) := by decide +kernel
theorem d_W_law_696 : decode b_W_law 696 = .ok (.dcmp .l, 1) := by decide +kernel
theorem d_W_law_697 : decode b_W_law 697 = .ok (.ifCond .eq 25, 3) := by decide +kernel
theorem d_W_law_700 : decode b_W_law 700 = .ok (.aload 4, 2) := by decide +kernel
theorem d_W_law_702 : decode b_W_law 702 = .ok (.iconst 0, 1) := by decide +kernel
theorem d_W_law_703 : decode b_W_law 703 = .ok (.daload, 1) := by decide +kernel
theorem d_W_law_704 : decode b_W_law 704 = .ok (.aload 4, 2) := by decide +kernel
theorem d_W_law_706 : decode b_W_law 706 = .ok (.iconst 0, 1) := by decide +kernel
theorem d_W_law_707 : decode b_W_law 707 = .ok (.daload, 1) := by decide +kernel
theorem d_W_law_708 : decode b_W_law 708 = .ok (.dcmp .l, 1) := by decide +kernel
theorem d_W_law_709 : decode b_W_law 709 = .ok (.ifCond .eq 11, 3) := by decide +kernel
theorem d_W_law_712 : decode b_W_law 712 = .ok (.dload 7, 2) := by decide +kernel
theorem d_W_law_714 : decode b_W_law 714 = .ok (.dload 7, 2) := by decide +kernel
theorem d_W_law_716 : decode b_W_law 716 = .ok (.dcmp .l, 1) := by decide +kernel
theorem d_W_law_717 : decode b_W_law 717 = .ok (.ifCond .ne 5, 3) := by decide +kernel
theorem d_W_law_720 : decode b_W_law 720 = .ok (.iconst 0, 1) := by decide +kernel
theorem d_W_law_721 : decode b_W_law 721 = .ok (.ireturn, 1) := by decide +kernel
theorem d_W_law_722 : decode b_W_law 722 = .ok (.goto 709, 3) := by decide +kernel
theorem d_W_law_725 : decode b_W_law 725 = .ok (.aload_n 1, 1) := by decide +kernel
theorem d_W_law_726 : decode b_W_law 726 = .ok (.aload_n 0, 1) := by decide +kernel
theorem d_W_law_727 : decode b_W_law 727 = .ok (.iload 5, 2) := by decide +kernel
theorem d_W_law_729 : decode b_W_law 729 = .ok (.iconst 1, 1) := by decide +kernel
theorem d_W_law_730 : decode b_W_law 730 = .ok (.iadd, 1) := by decide +kernel
theorem d_W_law_731 : decode b_W_law 731 = .ok (.iaload, 1) := by decide +kernel
theorem d_W_law_732 : decode b_W_law 732 = .ok (.aload_n 0, 1) := by decide +kernel
theorem d_W_law_733 : decode b_W_law 733 = .ok (.iload 5, 2) := by decide +kernel
theorem d_W_law_735 : decode b_W_law 735 = .ok (.iconst 2, 1) := by decide +kernel
theorem d_W_law_736 : decode b_W_law 736 = .ok (.iadd, 1) := by decide +kernel
theorem d_W_law_737 : decode b_W_law 737 = .ok (.iaload, 1) := by decide +kernel
theorem d_W_law_738 : decode b_W_law 738 = .ok (.aload_n 0, 1) := by decide +kernel
theorem d_W_law_739 : decode b_W_law 739 = .ok (.iload 5, 2) := by decide +kernel
theorem d_W_law_741 : decode b_W_law 741 = .ok (.iconst 3, 1) := by decide +kernel
theorem d_W_law_742 : decode b_W_law 742 = .ok (.iadd, 1) := by decide +kernel
theorem d_W_law_743 : decode b_W_law 743 = .ok (.iaload, 1) := by decide +kernel
theorem d_W_law_744 : decode b_W_law 744 = .ok (.aload_n 0, 1) := by decide +kernel
theorem d_W_law_745 : decode b_W_law 745 = .ok (.iload 5, 2) := by decide +kernel
theorem d_W_law_747 : decode b_W_law 747 = .ok (.iconst 4, 1) := by decide +kernel
theorem d_W_law_748 : decode b_W_law 748 = .ok (.iadd, 1) := by decide +kernel
theorem d_W_law_749 : decode b_W_law 749 = .ok (.iaload, 1) := by decide +kernel
theorem d_W_law_750 : decode b_W_law 750 = .ok (.aload_n 3, 1) := by decide +kernel
theorem d_W_law_751 : decode b_W_law 751 = .ok (.invokestatic 113, 3) := by decide +kernel
theorem d_W_law_754 : decode b_W_law 754 = .ok (.istore 6, 2) := by decide +kernel
theorem d_W_law_756 : decode b_W_law 756 = .ok (.aload_n 2, 1) := by decide +kernel
theorem d_W_law_757 : decode b_W_law 757 = .ok (.aload_n 0, 1) := by decide +kernel
theorem d_W_law_758 : decode b_W_law 758 = .ok (.iload 5, 2) := by decide +kernel
theorem d_W_law_760 : decode b_W_law 760 = .ok (.iconst 1, 1) := by decide +kernel
theorem d_W_law_761 : decode b_W_law 761 = .ok (.iadd, 1) := by decide +kernel
theorem d_W_law_762 : decode b_W_law 762 = .ok (.iaload, 1) := by decide +kernel
theorem d_W_law_763 : decode b_W_law 763 = .ok (.aload_n 0, 1) := by decide +kernel
theorem d_W_law_764 : decode b_W_law 764 = .ok (.iload 5, 2) := by decide +kernel
theorem d_W_law_766 : decode b_W_law 766 = .ok (.iconst 2, 1) := by decide +kernel
theorem d_W_law_767 : decode b_W_law 767 = .ok (.iadd, 1) := by decide +kernel
theorem d_W_law_768 : decode b_W_law 768 = .ok (.iaload, 1) := by decide +kernel
theorem d_W_law_769 : decode b_W_law 769 = .ok (.aload_n 0, 1) := by decide +kernel
theorem d_W_law_770 : decode b_W_law 770 = .ok (.iload 5, 2) := by decide +kernel
theorem d_W_law_772 : decode b_W_law 772 = .ok (.iconst 3, 1) := by decide +kernel
theorem d_W_law_773 : decode b_W_law 773 = .ok (.iadd, 1) := by decide +kernel
theorem d_W_law_774 : decode b_W_law 774 = .ok (.iaload, 1) := by decide +kernel
theorem d_W_law_775 : decode b_W_law 775 = .ok (.aload_n 0, 1) := by decide +kernel
theorem d_W_law_776 : decode b_W_law 776 = .ok (.iload 5, 2) := by decide +kernel
theorem d_W_law_778 : decode b_W_law 778 = .ok (.iconst 4, 1) := by decide +kernel
theorem d_W_law_779 : decode b_W_law 779 = .ok (.iadd, 1) := by decide +kernel
theorem d_W_law_780 : decode b_W_law 780 = .ok (.iaload, 1) := by decide +kernel
theorem d_W_law_781 : decode b_W_law 781 = .ok (.invokevirtual 116, 3) := by decide +kernel
theorem d_W_law_784 : decode b_W_law 784 = .ok (.istore 7, 2) := by decide +kernel
theorem d_W_law_786 : decode b_W_law 786 = .ok (.aload_n 2, 1) := by decide +kernel
theorem d_W_law_787 : decode b_W_law 787 = .ok (.invokevirtual 85, 3) := by decide +kernel
theorem d_W_law_790 : decode b_W_law 790 = .ok (.iload 6, 2) := by decide +kernel
theorem d_W_law_792 : decode b_W_law 792 = .ok (.if_icmp .eq 5, 3) := by decide +kernel
theorem d_W_law_795 : decode b_W_law 795 = .ok (.iconst 0, 1) := by decide +kernel
theorem d_W_law_796 : decode b_W_law 796 = .ok (.ireturn, 1) := by decide +kernel
theorem d_W_law_797 : decode b_W_law 797 = .ok (.iload 6, 2) := by decide +kernel
theorem d_W_law_799 : decode b_W_law 799 = .ok (.ifCond .ne 15, 3) := by decide +kernel
theorem d_W_law_802 : decode b_W_law 802 = .ok (.aload_n 3, 1) := by decide +kernel
theorem d_W_law_803 : decode b_W_law 803 = .ok (.iconst 0, 1) := by decide +kernel
theorem d_W_law_804 : decode b_W_law 804 = .ok (.laload, 1) := by decide +kernel
theorem d_W_law_805 : decode b_W_law 805 = .ok (.iload 7, 2) := by decide +kernel
theorem d_W_law_807 : decode b_W_law 807 = .ok (.i2l, 1) := by decide +kernel
theorem d_W_law_808 : decode b_W_law 808 = .ok (.lcmp, 1) := by decide +kernel
theorem d_W_law_809 : decode b_W_law 809 = .ok (.ifCond .eq 5, 3) := by decide +kernel
theorem d_W_law_812 : decode b_W_law 812 = .ok (.iconst 0, 1) := by decide +kernel
theorem d_W_law_813 : decode b_W_law 813 = .ok (.ireturn, 1) := by decide +kernel
theorem d_W_law_814 : decode b_W_law 814 = .ok (.goto 617, 3) := by decide +kernel
theorem d_W_law_817 : decode b_W_law 817 = .ok (.aload_n 1, 1) := by decide +kernel
theorem d_W_law_818 : decode b_W_law 818 = .ok (.aload_n 0, 1) := by decide +kernel
theorem d_W_law_819 : decode b_W_law 819 = .ok (.iload 5, 2) := by decide +kernel
theorem d_W_law_821 : decode b_W_law 821 = .ok (.iconst 1, 1) := by decide +kernel
theorem d_W_law_822 : decode b_W_law 822 = .ok (.iadd, 1) := by decide +kernel
theorem d_W_law_823 : decode b_W_law 823 = .ok (.iaload, 1) := by decide +kernel
theorem d_W_law_824 : decode b_W_law 824 = .ok (.aload_n 0, 1) := by decide +kernel
theorem d_W_law_825 : decode b_W_law 825 = .ok (.iload 5, 2) := by decide +kernel
theorem d_W_law_827 : decode b_W_law 827 = .ok (.iconst 2, 1) := by decide +kernel
theorem d_W_law_828 : decode b_W_law 828 = .ok (.iadd, 1) := by decide +kernel
theorem d_W_law_829 : decode b_W_law 829 = .ok (.iaload, 1) := by decide +kernel
theorem d_W_law_830 : decode b_W_law 830 = .ok (.aload_n 0, 1) := by decide +kernel
theorem d_W_law_831 : decode b_W_law 831 = .ok (.iload 5, 2) := by decide +kernel
theorem d_W_law_833 : decode b_W_law 833 = .ok (.iconst 3, 1) := by decide +kernel
theorem d_W_law_834 : decode b_W_law 834 = .ok (.iadd, 1) := by decide +kernel
theorem d_W_law_835 : decode b_W_law 835 = .ok (.iaload, 1) := by decide +kernel
theorem d_W_law_836 : decode b_W_law 836 = .ok (.aload_n 3, 1) := by decide +kernel
theorem d_W_law_837 : decode b_W_law 837 = .ok (.invokestatic 117, 3) := by decide +kernel
theorem d_W_law_840 : decode b_W_law 840 = .ok (.istore 6, 2) := by decide +kernel
theorem d_W_law_842 : decode b_W_law 842 = .ok (.aload_n 2, 1) := by decide +kernel
theorem d_W_law_843 : decode b_W_law 843 = .ok (.aload_n 0, 1) := by decide +kernel
theorem d_W_law_844 : decode b_W_law 844 = .ok (.iload 5, 2) := by decide +kernel
theorem d_W_law_846 : decode b_W_law 846 = .ok (.iconst 1, 1) := by decide +kernel
theorem d_W_law_847 : decode b_W_law 847 = .ok (.iadd, 1) := by decide +kernel
theorem d_W_law_848 : decode b_W_law 848 = .ok (.iaload, 1) := by decide +kernel
theorem d_W_law_849 : decode b_W_law 849 = .ok (.aload_n 0, 1) := by decide +kernel
theorem d_W_law_850 : decode b_W_law 850 = .ok (.iload 5, 2) := by decide +kernel
theorem d_W_law_852 : decode b_W_law 852 = .ok (.iconst 2, 1) := by decide +kernel
theorem d_W_law_853 : decode b_W_law 853 = .ok (.iadd, 1) := by decide +kernel
theorem d_W_law_854 : decode b_W_law 854 = .ok (.iaload, 1) := by decide +kernel
theorem d_W_law_855 : decode b_W_law 855 = .ok (.aload_n 0, 1) := by decide +kernel
theorem d_W_law_856 : decode b_W_law 856 = .ok (.iload 5, 2) := by decide +kernel
theorem d_W_law_858 : decode b_W_law 858 = .ok (.iconst 3, 1) := by decide +kernel
theorem d_W_law_859 : decode b_W_law 859 = .ok (.iadd, 1) := by decide +kernel
theorem d_W_law_860 : decode b_W_law 860 = .ok (.iaload, 1) := by decide +kernel
theorem d_W_law_861 : decode b_W_law 861 = .ok (.invokevirtual 119, 3) := by decide +kernel
theorem d_W_law_864 : decode b_W_law 864 = .ok (.istore 7, 2) := by decide +kernel
theorem d_W_law_866 : decode b_W_law 866 = .ok (.aload_n 2, 1) := by decide +kernel
theorem d_W_law_867 : decode b_W_law 867 = .ok (.invokevirtual 85, 3) := by decide +kernel
theorem d_W_law_870 : decode b_W_law 870 = .ok (.iload 6, 2) := by decide +kernel
theorem d_W_law_872 : decode b_W_law 872 = .ok (.if_icmp .eq 5, 3) := by decide +kernel
theorem d_W_law_875 : decode b_W_law 875 = .ok (.iconst 0, 1) := by decide +kernel
theorem d_W_law_876 : decode b_W_law 876 = .ok (.ireturn, 1) := by decide +kernel
theorem d_W_law_877 : decode b_W_law 877 = .ok (.iload 6, 2) := by decide +kernel
theorem d_W_law_879 : decode b_W_law 879 = .ok (.ifCond .ne 15, 3) := by decide +kernel
theorem d_W_law_882 : decode b_W_law 882 = .ok (.aload_n 3, 1) := by decide +kernel
theorem d_W_law_883 : decode b_W_law 883 = .ok (.iconst 0, 1) := by decide +kernel
theorem d_W_law_884 : decode b_W_law 884 = .ok (.laload, 1) := by decide +kernel
theorem d_W_law_885 : decode b_W_law 885 = .ok (.iload 7, 2) := by decide +kernel
theorem d_W_law_887 : decode b_W_law 887 = .ok (.i2l, 1) := by decide +kernel
theorem d_W_law_888 : decode b_W_law 888 = .ok (.lcmp, 1) := by decide +kernel
theorem d_W_law_889 : decode b_W_law 889 = .ok (.ifCond .eq 5, 3) := by decide +kernel
theorem d_W_law_892 : decode b_W_law 892 = .ok (.iconst 0, 1) := by decide +kernel
theorem d_W_law_893 : decode b_W_law 893 = .ok (.ireturn, 1) := by decide +kernel
theorem d_W_law_894 : decode b_W_law 894 = .ok (.goto 537, 3) := by decide +kernel
theorem d_W_law_897 : decode b_W_law 897 = .ok (.aload_n 1, 1) := by decide +kernel
theorem d_W_law_898 : decode b_W_law 898 = .ok (.aload_n 0, 1) := by decide +kernel
theorem d_W_law_899 : decode b_W_law 899 = .ok (.iload 5, 2) := by decide +kernel
theorem d_W_law_901 : decode b_W_law 901 = .ok (.iconst 1, 1) := by decide +kernel
theorem d_W_law_902 : decode b_W_law 902 = .ok (.iadd, 1) := by decide +kernel
theorem d_W_law_903 : decode b_W_law 903 = .ok (.iaload, 1) := by decide +kernel
theorem d_W_law_904 : decode b_W_law 904 = .ok (.aload_n 0, 1) := by decide +kernel
theorem d_W_law_905 : decode b_W_law 905 = .ok (.iload 5, 2) := by decide +kernel
theorem d_W_law_907 : decode b_W_law 907 = .ok (.iconst 2, 1) := by decide +kernel
theorem d_W_law_908 : decode b_W_law 908 = .ok (.iadd, 1) := by decide +kernel
theorem d_W_law_909 : decode b_W_law 909 = .ok (.iaload, 1) := by decide +kernel
theorem d_W_law_910 : decode b_W_law 910 = .ok (.aload_n 0, 1) := by decide +kernel
theorem d_W_law_911 : decode b_W_law 911 = .ok (.iload 5, 2) := by decide +kernel
theorem d_W_law_913 : decode b_W_law 913 = .ok (.iconst 3, 1) := by decide +kernel
theorem d_W_law_914 : decode b_W_law 914 = .ok (.iadd, 1) := by decide +kernel
theorem d_W_law_915 : decode b_W_law 915 = .ok (.iaload, 1) := by decide +kernel
theorem d_W_law_916 : decode b_W_law 916 = .ok (.ifCond .eq 7, 3) := by decide +kernel
theorem d_W_law_919 : decode b_W_law 919 = .ok (.iconst 1, 1) := by decide +kernel
theorem d_W_law_920 : decode b_W_law 920 = .ok (.goto 4, 3) := by decide +kernel
theorem d_W_law_923 : decode b_W_law 923 = .ok (.iconst 0, 1) := by decide +kernel
theorem d_W_law_924 : decode b_W_law 924 = .ok (.aload 4, 2) := by decide +kernel
theorem d_W_law_926 : decode b_W_law 926 = .ok (.invokestatic 120, 3) := by decide +kernel
theorem d_W_law_929 : decode b_W_law 929 = .ok (.istore 6, 2) := by decide +kernel
theorem d_W_law_931 : decode b_W_law 931 = .ok (.aload_n 2, 1) := by decide +kernel
theorem d_W_law_932 : decode b_W_law 932 = .ok (.aload_n 0, 1) := by decide +kernel
theorem d_W_law_933 : decode b_W_law 933 = .ok (.iload 5, 2) := by decide +kernel
theorem d_W_law_935 : decode b_W_law 935 = .ok (.iconst 1, 1) := by decide +kernel
theorem d_W_law_936 : decode b_W_law 936 = .ok (.iadd, 1) := by decide +kernel
theorem d_W_law_937 : decode b_W_law 937 = .ok (.iaload, 1) := by decide +kernel
theorem d_W_law_938 : decode b_W_law 938 = .ok (.aload_n 0, 1) := by decide +kernel
theorem d_W_law_939 : decode b_W_law 939 = .ok (.iload 5, 2) := by decide +kernel
theorem d_W_law_941 : decode b_W_law 941 = .ok (.iconst 2, 1) := by decide +kernel
theorem d_W_law_942 : decode b_W_law 942 = .ok (.iadd, 1) := by decide +kernel
theorem d_W_law_943 : decode b_W_law 943 = .ok (.iaload, 1) := by decide +kernel
theorem d_W_law_944 : decode b_W_law 944 = .ok (.aload_n 0, 1) := by decide +kernel
theorem d_W_law_945 : decode b_W_law 945 = .ok (.iload 5, 2) := by decide +kernel
theorem d_W_law_947 : decode b_W_law 947 = .ok (.iconst 3, 1) := by decide +kernel
theorem d_W_law_948 : decode b_W_law 948 = .ok (.iadd, 1) := by decide +kernel
theorem d_W_law_949 : decode b_W_law 949 = .ok (.iaload, 1) := by decide +kernel
theorem d_W_law_950 : decode b_W_law 950 = .ok (.ifCond .eq 7, 3) := by decide +kernel
theorem d_W_law_953 : decode b_W_law 953 = .ok (.iconst 1, 1) := by decide +kernel
theorem d_W_law_954 : decode b_W_law 954 = .ok (.goto 4, 3) := by decide +kernel
theorem d_W_law_957 : decode b_W_law 957 = .ok (.iconst 0, 1) := by decide +kernel
theorem d_W_law_958 : decode b_W_law 958 = .ok (.invokevirtual 123, 3) := by decide +kernel
theorem d_W_law_961 : decode b_W_law 961 = .ok (.dstore 7, 2) := by decide +kernel
theorem d_W_law_963 : decode b_W_law 963 = .ok (.aload_n 2, 1) := by decide +kernel
theorem d_W_law_964 : decode b_W_law 964 = .ok (.invokevirtual 85, 3) := by decide +kernel
theorem d_W_law_967 : decode b_W_law 967 = .ok (.iload 6, 2) := by decide +kernel
theorem d_W_law_969 : decode b_W_law 969 = .ok (.if_icmp .eq 5, 3) := by decide +kernel
theorem d_W_law_972 : decode b_W_law 972 = .ok (.iconst 0, 1) := by decide +kernel
theorem d_W_law_973 : decode b_W_law 973 = .ok (.ireturn, 1) := by decide +kernel
theorem d_W_law_974 : decode b_W_law 974 = .ok (.iload 6, 2) := by decide +kernel
theorem d_W_law_976 : decode b_W_law 976 = .ok (.ifCond .ne 35, 3) := by decide +kernel
theorem d_W_law_979 : decode b_W_law 979 = .ok (.aload 4, 2) := by decide +kernel
theorem d_W_law_981 : decode b_W_law 981 = .ok (.iconst 0, 1) := by decide +kernel
theorem d_W_law_982 : decode b_W_law 982 = .ok (.daload, 1) := by decide +kernel
theorem d_W_law_983 : decode b_W_law 983 = .ok (.dload 7, 2) := by decide +kernel
theorem d_W_law_985 : decode b_W_law 985 = .ok (.dcmp .l, 1) := by decide +kernel
theorem d_W_law_986 : decode b_W_law 986 = .ok (.ifCond .eq 25, 3) := by decide +kernel
theorem d_W_law_989 : decode b_W_law 989 = .ok (.aload 4, 2) := by decide +kernel
theorem d_W_law_991 : decode b_W_law 991 = .ok (.iconst 0, 1) := by decide +kernel
theorem d_W_law_992 : decode b_W_law 992 = .ok (.daload, 1) := by decide +kernel
theorem d_W_law_993 : decode b_W_law 993 = .ok (.aload 4, 2) := by decide +kernel
theorem d_W_law_995 : decode b_W_law 995 = .ok (.iconst 0, 1) := by decide +kernel
theorem d_W_law_996 : decode b_W_law 996 = .ok (.daload, 1) := by decide +kernel
theorem d_W_law_997 : decode b_W_law 997 = .ok (.dcmp .l, 1) := by decide +kernel
theorem d_W_law_998 : decode b_W_law 998 = .ok (.ifCond .eq 11, 3) := by decide +kernel
theorem d_W_law_1001 : decode b_W_law 1001 = .ok (.dload 7, 2) := by decide +kernel
theorem d_W_law_1003 : decode b_W_law 1003 = .ok (.dload 7, 2) := by decide +kernel
theorem d_W_law_1005 : decode b_W_law 1005 = .ok (.dcmp .l, 1) := by decide +kernel
theorem d_W_law_1006 : decode b_W_law 1006 = .ok (.ifCond .ne 5, 3) := by decide +kernel
theorem d_W_law_1009 : decode b_W_law 1009 = .ok (.iconst 0, 1) := by decide +kernel
theorem d_W_law_1010 : decode b_W_law 1010 = .ok (.ireturn, 1) := by decide +kernel
theorem d_W_law_1011 : decode b_W_law 1011 = .ok (.goto 420, 3) := by decide +kernel
theorem d_W_law_1014 : decode b_W_law 1014 = .ok (.aload_n 1, 1) := by decide +kernel
theorem d_W_law_1015 : decode b_W_law 1015 = .ok (.aload_n 0, 1) := by decide +kernel
theorem d_W_law_1016 : decode b_W_law 1016 = .ok (.iload 5, 2) := by decide +kernel
theorem d_W_law_1018 : decode b_W_law 1018 = .ok (.iconst 1, 1) := by decide +kernel
theorem d_W_law_1019 : decode b_W_law 1019 = .ok (.iadd, 1) := by decide +kernel
theorem d_W_law_1020 : decode b_W_law 1020 = .ok (.iaload, 1) := by decide +kernel
theorem d_W_law_1021 : decode b_W_law 1021 = .ok (.aload_n 0, 1) := by decide +kernel
theorem d_W_law_1022 : decode b_W_law 1022 = .ok (.iload 5, 2) := by decide +kernel
theorem d_W_law_1024 : decode b_W_law 1024 = .ok (.iconst 2, 1) := by decide +kernel
theorem d_W_law_1025 : decode b_W_law 1025 = .ok (.iadd, 1) := by decide +kernel
theorem d_W_law_1026 : decode b_W_law 1026 = .ok (.iaload, 1) := by decide +kernel
theorem d_W_law_1027 : decode b_W_law 1027 = .ok (.aload_n 3, 1) := by decide +kernel
theorem d_W_law_1028 : decode b_W_law 1028 = .ok (.invokestatic 124, 3) := by decide +kernel
theorem d_W_law_1031 : decode b_W_law 1031 = .ok (.istore 6, 2) := by decide +kernel
theorem d_W_law_1033 : decode b_W_law 1033 = .ok (.aload_n 2, 1) := by decide +kernel
theorem d_W_law_1034 : decode b_W_law 1034 = .ok (.aload_n 0, 1) := by decide +kernel
theorem d_W_law_1035 : decode b_W_law 1035 = .ok (.iload 5, 2) := by decide +kernel
theorem d_W_law_1037 : decode b_W_law 1037 = .ok (.iconst 1, 1) := by decide +kernel
theorem d_W_law_1038 : decode b_W_law 1038 = .ok (.iadd, 1) := by decide +kernel
theorem d_W_law_1039 : decode b_W_law 1039 = .ok (.iaload, 1) := by decide +kernel
theorem d_W_law_1040 : decode b_W_law 1040 = .ok (.aload_n 0, 1) := by decide +kernel
theorem d_W_law_1041 : decode b_W_law 1041 = .ok (.iload 5, 2) := by decide +kernel
theorem d_W_law_1043 : decode b_W_law 1043 = .ok (.iconst 2, 1) := by decide +kernel
theorem d_W_law_1044 : decode b_W_law 1044 = .ok (.iadd, 1) := by decide +kernel
theorem d_W_law_1045 : decode b_W_law 1045 = .ok (.iaload, 1) := by decide +kernel
theorem d_W_law_1046 : decode b_W_law 1046 = .ok (.invokevirtual 126, 3) := by decide +kernel
theorem d_W_law_1049 : decode b_W_law 1049 = .ok (.istore 7, 2) := by decide +kernel
theorem d_W_law_1051 : decode b_W_law 1051 = .ok (.aload_n 2, 1) := by decide +kernel
theorem d_W_law_1052 : decode b_W_law 1052 = .ok (.invokevirtual 85, 3) := by decide +kernel
theorem d_W_law_1055 : decode b_W_law 1055 = .ok (.iload 6, 2) := by decide +kernel
theorem d_W_law_1057 : decode b_W_law 1057 = .ok (.if_icmp .eq 5, 3) := by decide +kernel
theorem d_W_law_1060 : decode b_W_law 1060 = .ok (.iconst 0, 1) := by decide +kernel
theorem d_W_law_1061 : decode b_W_law 1061 = .ok (.ireturn, 1) := by decide +kernel
theorem d_W_law_1062 : decode b_W_law 1062 = .ok (.iload 6, 2) := by decide +kernel
theorem d_W_law_1064 : decode b_W_law 1064 = .ok (.ifCond .ne 15, 3) := by decide +kernel
theorem d_W_law_1067 : decode b_W_law 1067 = .ok (.aload_n 3, 1) := by decide +kernel
theorem d_W_law_1068 : decode b_W_law 1068 = .ok (.iconst 0, 1) := by decide +kernel
theorem d_W_law_1069 : decode b_W_law 1069 = .ok (.laload, 1) := by decide +kernel
theorem d_W_law_1070 : decode b_W_law 1070 = .ok (.iload 7, 2) := by decide +kernel
theorem d_W_law_1072 : decode b_W_law 1072 = .ok (.i2l, 1) := by decide +kernel
theorem d_W_law_1073 : decode b_W_law 1073 = .ok (.lcmp, 1) := by decide +kernel
theorem d_W_law_1074 : decode b_W_law 1074 = .ok (.ifCond .eq 5, 3) := by decide +kernel
theorem d_W_law_1077 : decode b_W_law 1077 = .ok (.iconst 0, 1) := by decide +kernel
theorem d_W_law_1078 : decode b_W_law 1078 = .ok (.ireturn, 1) := by decide +kernel
theorem d_W_law_1079 : decode b_W_law 1079 = .ok (.goto 352, 3) := by decide +kernel
theorem d_W_law_1082 : decode b_W_law 1082 = .ok (.aload_n 1, 1) := by decide +kernel
theorem d_W_law_1083 : decode b_W_law 1083 = .ok (.aload_n 0, 1) := by decide +kernel
theorem d_W_law_1084 : decode b_W_law 1084 = .ok (.iload 5, 2) := by decide +kernel
theorem d_W_law_1086 : decode b_W_law 1086 = .ok (.iconst 1, 1) := by decide +kernel
theorem d_W_law_1087 : decode b_W_law 1087 = .ok (.iadd, 1) := by decide +kernel
theorem d_W_law_1088 : decode b_W_law 1088 = .ok (.iaload, 1) := by decide +kernel
theorem d_W_law_1089 : decode b_W_law 1089 = .ok (.aload_n 3, 1) := by decide +kernel
theorem d_W_law_1090 : decode b_W_law 1090 = .ok (.invokestatic 127, 3) := by decide +kernel
theorem d_W_law_1093 : decode b_W_law 1093 = .ok (.istore 6, 2) := by decide +kernel
theorem d_W_law_1095 : decode b_W_law 1095 = .ok (.aload_n 2, 1) := by decide +kernel
theorem d_W_law_1096 : decode b_W_law 1096 = .ok (.aload_n 0, 1) := by decide +kernel
theorem d_W_law_1097 : decode b_W_law 1097 = .ok (.iload 5, 2) := by decide +kernel
theorem d_W_law_1099 : decode b_W_law 1099 = .ok (.iconst 1, 1) := by decide +kernel
theorem d_W_law_1100 : decode b_W_law 1100 = .ok (.iadd, 1) := by decide +kernel
theorem d_W_law_1101 : decode b_W_law 1101 = .ok (.iaload, 1) := by decide +kernel
theorem d_W_law_1102 : decode b_W_law 1102 = .ok (.invokevirtual 129, 3) := by decide +kernel
theorem d_W_law_1105 : decode b_W_law 1105 = .ok (.istore 7, 2) := by decide +kernel
theorem d_W_law_1107 : decode b_W_law 1107 = .ok (.aload_n 2, 1) := by decide +kernel
theorem d_W_law_1108 : decode b_W_law 1108 = .ok (.invokevirtual 85, 3) := by decide +kernel
theorem d_W_law_1111 : decode b_W_law 1111 = .ok (.iload 6, 2) := by decide +kernel
theorem d_W_law_1113 : decode b_W_law 1113 = .ok (.if_icmp .eq 5, 3) := by decide +kernel
theorem d_W_law_1116 : decode b_W_law 1116 = .ok (.iconst 0, 1) := by decide +kernel
theorem d_W_law_1117 : decode b_W_law 1117 = .ok (.ireturn, 1) := by decide +kernel
theorem d_W_law_1118 : decode b_W_law 1118 = .ok (.iload 6, 2) := by decide +kernel
theorem d_W_law_1120 : decode b_W_law 1120 = .ok (.ifCond .ne 15, 3) := by decide +kernel
theorem d_W_law_1123 : decode b_W_law 1123 = .ok (.aload_n 3, 1) := by decide +kernel
theorem d_W_law_1124 : decode b_W_law 1124 = .ok (.iconst 0, 1) := by decide +kernel
theorem d_W_law_1125 : decode b_W_law 1125 = .ok (.laload, 1) := by decide +kernel
theorem d_W_law_1126 : decode b_W_law 1126 = .ok (.iload 7, 2) := by decide +kernel
theorem d_W_law_1128 : decode b_W_law 1128 = .ok (.i2l, 1) := by decide +kernel
theorem d_W_law_1129 : decode b_W_law 1129 = .ok (.lcmp, 1) := by decide +kernel
theorem d_W_law_1130 : decode b_W_law 1130 = .ok (.ifCond .eq 5, 3) := by decide +kernel
theorem d_W_law_1133 : decode b_W_law 1133 = .ok (.iconst 0, 1) := by decide +kernel
theorem d_W_law_1134 : decode b_W_law 1134 = .ok (.ireturn, 1) := by decide +kernel
theorem d_W_law_1135 : decode b_W_law 1135 = .ok (.goto 296, 3) := by decide +kernel
theorem d_W_law_1138 : decode b_W_law 1138 = .ok (.aload_n 1, 1) := by decide +kernel
theorem d_W_law_1139 : decode b_W_law 1139 = .ok (.aload_n 0, 1) := by decide +kernel
theorem d_W_law_1140 : decode b_W_law 1140 = .ok (.iload 5, 2) := by decide +kernel
theorem d_W_law_1142 : decode b_W_law 1142 = .ok (.iconst 1, 1) := by decide +kernel
theorem d_W_law_1143 : decode b_W_law 1143 = .ok (.iadd, 1) := by decide +kernel
theorem d_W_law_1144 : decode b_W_law 1144 = .ok (.iaload, 1) := by decide +kernel
theorem d_W_law_1145 : decode b_W_law 1145 = .ok (.aload_n 0, 1) := by decide +kernel
theorem d_W_law_1146 : decode b_W_law 1146 = .ok (.iload 5, 2) := by decide +kernel
theorem d_W_law_1148 : decode b_W_law 1148 = .ok (.iconst 2, 1) := by decide +kernel
theorem d_W_law_1149 : decode b_W_law 1149 = .ok (.iadd, 1) := by decide +kernel
theorem d_W_law_1150 : decode b_W_law 1150 = .ok (.iaload, 1) := by decide +kernel
theorem d_W_law_1151 : decode b_W_law 1151 = .ok (.aload_n 0, 1) := by decide +kernel
theorem d_W_law_1152 : decode b_W_law 1152 = .ok (.iload 5, 2) := by decide +kernel
theorem d_W_law_1154 : decode b_W_law 1154 = .ok (.iconst 3, 1) := by decide +kernel
theorem d_W_law_1155 : decode b_W_law 1155 = .ok (.iadd, 1) := by decide +kernel
theorem d_W_law_1156 : decode b_W_law 1156 = .ok (.iaload, 1) := by decide +kernel
theorem d_W_law_1157 : decode b_W_law 1157 = .ok (.aload_n 3, 1) := by decide +kernel
theorem d_W_law_1158 : decode b_W_law 1158 = .ok (.invokestatic 130, 3) := by decide +kernel
theorem d_W_law_1161 : decode b_W_law 1161 = .ok (.istore 6, 2) := by decide +kernel
theorem d_W_law_1163 : decode b_W_law 1163 = .ok (.aload_n 2, 1) := by decide +kernel
theorem d_W_law_1164 : decode b_W_law 1164 = .ok (.aload_n 0, 1) := by decide +kernel
theorem d_W_law_1165 : decode b_W_law 1165 = .ok (.iload 5, 2) := by decide +kernel
theorem d_W_law_1167 : decode b_W_law 1167 = .ok (.iconst 1, 1) := by decide +kernel
theorem d_W_law_1168 : decode b_W_law 1168 = .ok (.iadd, 1) := by decide +kernel
theorem d_W_law_1169 : decode b_W_law 1169 = .ok (.iaload, 1) := by decide +kernel
theorem d_W_law_1170 : decode b_W_law 1170 = .ok (.aload_n 0, 1) := by decide +kernel
theorem d_W_law_1171 : decode b_W_law 1171 = .ok (.iload 5, 2) := by decide +kernel
theorem d_W_law_1173 : decode b_W_law 1173 = .ok (.iconst 2, 1) := by decide +kernel
theorem d_W_law_1174 : decode b_W_law 1174 = .ok (.iadd, 1) := by decide +kernel
theorem d_W_law_1175 : decode b_W_law 1175 = .ok (.iaload, 1) := by decide +kernel
theorem d_W_law_1176 : decode b_W_law 1176 = .ok (.aload_n 0, 1) := by decide +kernel
theorem d_W_law_1177 : decode b_W_law 1177 = .ok (.iload 5, 2) := by decide +kernel
theorem d_W_law_1179 : decode b_W_law 1179 = .ok (.iconst 3, 1) := by decide +kernel
theorem d_W_law_1180 : decode b_W_law 1180 = .ok (.iadd, 1) := by decide +kernel
theorem d_W_law_1181 : decode b_W_law 1181 = .ok (.iaload, 1) := by decide +kernel
theorem d_W_law_1182 : decode b_W_law 1182 = .ok (.invokevirtual 132, 3) := by decide +kernel
theorem d_W_law_1185 : decode b_W_law 1185 = .ok (.istore 7, 2) := by decide +kernel
theorem d_W_law_1187 : decode b_W_law 1187 = .ok (.aload_n 2, 1) := by decide +kernel
theorem d_W_law_1188 : decode b_W_law 1188 = .ok (.invokevirtual 85, 3) := by decide +kernel
theorem d_W_law_1191 : decode b_W_law 1191 = .ok (.iload 6, 2) := by decide +kernel
theorem d_W_law_1193 : decode b_W_law 1193 = .ok (.if_icmp .eq 5, 3) := by decide +kernel
theorem d_W_law_1196 : decode b_W_law 1196 = .ok (.iconst 0, 1) := by decide +kernel
theorem d_W_law_1197 : decode b_W_law 1197 = .ok (.ireturn, 1) := by decide +kernel
theorem d_W_law_1198 : decode b_W_law 1198 = .ok (.iload 6, 2) := by decide +kernel
theorem d_W_law_1200 : decode b_W_law 1200 = .ok (.ifCond .ne 15, 3) := by decide +kernel
theorem d_W_law_1203 : decode b_W_law 1203 = .ok (.aload_n 3, 1) := by decide +kernel
theorem d_W_law_1204 : decode b_W_law 1204 = .ok (.iconst 0, 1) := by decide +kernel
theorem d_W_law_1205 : decode b_W_law 1205 = .ok (.laload, 1) := by decide +kernel
theorem d_W_law_1206 : decode b_W_law 1206 = .ok (.iload 7, 2) := by decide +kernel
theorem d_W_law_1208 : decode b_W_law 1208 = .ok (.i2l, 1) := by decide +kernel
theorem d_W_law_1209 : decode b_W_law 1209 = .ok (.lcmp, 1) := by decide +kernel
theorem d_W_law_1210 : decode b_W_law 1210 = .ok (.ifCond .eq 5, 3) := by decide +kernel
