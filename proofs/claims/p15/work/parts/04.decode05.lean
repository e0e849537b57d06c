theorem d_W_law_150 : decode b_W_law 150 = .ok (.aload_n 0, 1) := by decide +kernel
theorem d_W_law_151 : decode b_W_law 151 = .ok (.iload 5, 2) := by decide +kernel
theorem d_W_law_153 : decode b_W_law 153 = .ok (.iconst 1, 1) := by decide +kernel
theorem d_W_law_154 : decode b_W_law 154 = .ok (.iadd, 1) := by decide +kernel
theorem d_W_law_155 : decode b_W_law 155 = .ok (.iaload, 1) := by decide +kernel
theorem d_W_law_156 : decode b_W_law 156 = .ok (.aload_n 0, 1) := by decide +kernel
theorem d_W_law_157 : decode b_W_law 157 = .ok (.iload 5, 2) := by decide +kernel
theorem d_W_law_159 : decode b_W_law 159 = .ok (.iconst 2, 1) := by decide +kernel
theorem d_W_law_160 : decode b_W_law 160 = .ok (.iadd, 1) := by decide +kernel
theorem d_W_law_161 : decode b_W_law 161 = .ok (.iaload, 1) := by decide +kernel
theorem d_W_law_162 : decode b_W_law 162 = .ok (.aload_n 0, 1) := by decide +kernel
theorem d_W_law_163 : decode b_W_law 163 = .ok (.iload 5, 2) := by decide +kernel
theorem d_W_law_165 : decode b_W_law 165 = .ok (.iconst 3, 1) := by decide +kernel
theorem d_W_law_166 : decode b_W_law 166 = .ok (.iadd, 1) := by decide +kernel
theorem d_W_law_167 : decode b_W_law 167 = .ok (.iaload, 1) := by decide +kernel
theorem d_W_law_168 : decode b_W_law 168 = .ok (.invokevirtual 84, 3) := by decide +kernel
theorem d_W_law_171 : decode b_W_law 171 = .ok (.istore 7, 2) := by decide +kernel
theorem d_W_law_173 : decode b_W_law 173 = .ok (.goto 784, 3) := by decide +kernel
theorem d_W_law_176 : decode b_W_law 176 = .ok (.aload_n 1, 1) := by decide +kernel
theorem d_W_law_177 : decode b_W_law 177 = .ok (.aload_n 0, 1) := by decide +kernel
theorem d_W_law_178 : decode b_W_law 178 = .ok (.iload 5, 2) := by decide +kernel
theorem d_W_law_180 : decode b_W_law 180 = .ok (.iconst 1, 1) := by decide +kernel
theorem d_W_law_181 : decode b_W_law 181 = .ok (.iadd, 1) := by decide +kernel
theorem d_W_law_182 : decode b_W_law 182 = .ok (.iaload, 1) := by decide +kernel
theorem d_W_law_183 : decode b_W_law 183 = .ok (.aload_n 3, 1) := by decide +kernel
theorem d_W_law_184 : decode b_W_law 184 = .ok (.invokestatic 85, 3) := by decide +kernel
theorem d_W_law_187 : decode b_W_law 187 = .ok (.istore 6, 2) := by decide +kernel
theorem d_W_law_189 : decode b_W_law 189 = .ok (.aload_n 2, 1) := by decide +kernel
theorem d_W_law_190 : decode b_W_law 190 = .ok (.aload_n 0, 1) := by decide +kernel
theorem d_W_law_191 : decode b_W_law 191 = .ok (.iload 5, 2) := by decide +kernel
theorem d_W_law_193 : decode b_W_law 193 = .ok (.iconst 1, 1) := by decide +kernel
theorem d_W_law_194 : decode b_W_law 194 = .ok (.iadd, 1) := by decide +kernel
theorem d_W_law_195 : decode b_W_law 195 = .ok (.iaload, 1) := by decide +kernel
theorem d_W_law_196 : decode b_W_law 196 = .ok (.invokevirtual 88, 3) := by decide +kernel
theorem d_W_law_199 : decode b_W_law 199 = .ok (.istore 7, 2) := by decide +kernel
theorem d_W_law_201 : decode b_W_law 201 = .ok (.goto 756, 3) := by decide +kernel
theorem d_W_law_204 : decode b_W_law 204 = .ok (.aload_n 1, 1) := by decide +kernel
theorem d_W_law_205 : decode b_W_law 205 = .ok (.aload_n 0, 1) := by decide +kernel
theorem d_W_law_206 : decode b_W_law 206 = .ok (.iload 5, 2) := by decide +kernel
theorem d_W_law_208 : decode b_W_law 208 = .ok (.iconst 1, 1) := by decide +kernel
theorem d_W_law_209 : decode b_W_law 209 = .ok (.iadd, 1) := by decide +kernel
theorem d_W_law_210 : decode b_W_law 210 = .ok (.iaload, 1) := by decide +kernel
theorem d_W_law_211 : decode b_W_law 211 = .ok (.aload_n 0, 1) := by decide +kernel
theorem d_W_law_212 : decode b_W_law 212 = .ok (.iload 5, 2) := by decide +kernel
theorem d_W_law_214 : decode b_W_law 214 = .ok (.iconst 2, 1) := by decide +kernel
theorem d_W_law_215 : decode b_W_law 215 = .ok (.iadd, 1) := by decide +kernel
theorem d_W_law_216 : decode b_W_law 216 = .ok (.iaload, 1) := by decide +kernel
theorem d_W_law_217 : decode b_W_law 217 = .ok (.aload_n 3, 1) := by decide +kernel
theorem d_W_law_218 : decode b_W_law 218 = .ok (.invokestatic 89, 3) := by decide +kernel
theorem d_W_law_221 : decode b_W_law 221 = .ok (.istore 6, 2) := by decide +kernel
theorem d_W_law_223 : decode b_W_law 223 = .ok (.aload_n 2, 1) := by decide +kernel
theorem d_W_law_224 : decode b_W_law 224 = .ok (.aload_n 0, 1) := by decide +kernel
theorem d_W_law_225 : decode b_W_law 225 = .ok (.iload 5, 2) := by decide +kernel
theorem d_W_law_227 : decode b_W_law 227 = .ok (.iconst 1, 1) := by decide +kernel
theorem d_W_law_228 : decode b_W_law 228 = .ok (.iadd, 1) := by decide +kernel
theorem d_W_law_229 : decode b_W_law 229 = .ok (.iaload, 1) := by decide +kernel
theorem d_W_law_230 : decode b_W_law 230 = .ok (.aload_n 0, 1) := by decide +kernel
theorem d_W_law_231 : decode b_W_law 231 = .ok (.iload 5, 2) := by decide +kernel
theorem d_W_law_233 : decode b_W_law 233 = .ok (.iconst 2, 1) := by decide +kernel
theorem d_W_law_234 : decode b_W_law 234 = .ok (.iadd, 1) := by decide +kernel
theorem d_W_law_235 : decode b_W_law 235 = .ok (.iaload, 1) := by decide +kernel
theorem d_W_law_236 : decode b_W_law 236 = .ok (.invokevirtual 92, 3) := by decide +kernel
theorem d_W_law_239 : decode b_W_law 239 = .ok (.istore 7, 2) := by decide +kernel
theorem d_W_law_241 : decode b_W_law 241 = .ok (.goto 716, 3) := by decide +kernel
theorem d_W_law_244 : decode b_W_law 244 = .ok (.aload_n 1, 1) := by decide +kernel
theorem d_W_law_245 : decode b_W_law 245 = .ok (.aload_n 0, 1) := by decide +kernel
theorem d_W_law_246 : decode b_W_law 246 = .ok (.iload 5, 2) := by decide +kernel
theorem d_W_law_248 : decode b_W_law 248 = .ok (.iconst 1, 1) := by decide +kernel
theorem d_W_law_249 : decode b_W_law 249 = .ok (.iadd, 1) := by decide +kernel
theorem d_W_law_250 : decode b_W_law 250 = .ok (.iaload, 1) := by decide +kernel
theorem d_W_law_251 : decode b_W_law 251 = .ok (.aload_n 0, 1) := by decide +kernel
theorem d_W_law_252 : decode b_W_law 252 = .ok (.iload 5, 2) := by decide +kernel
theorem d_W_law_254 : decode b_W_law 254 = .ok (.iconst 2, 1) := by decide +kernel
theorem d_W_law_255 : decode b_W_law 255 = .ok (.iadd, 1) := by decide +kernel
theorem d_W_law_256 : decode b_W_law 256 = .ok (.iaload, 1) := by decide +kernel
theorem d_W_law_257 : decode b_W_law 257 = .ok (.aload_n 0, 1) := by decide +kernel
theorem d_W_law_258 : decode b_W_law 258 = .ok (.iload 5, 2) := by decide +kernel
theorem d_W_law_260 : decode b_W_law 260 = .ok (.iconst 3, 1) := by decide +kernel
theorem d_W_law_261 : decode b_W_law 261 = .ok (.iadd, 1) := by decide +kernel
theorem d_W_law_262 : decode b_W_law 262 = .ok (.iaload, 1) := by decide +kernel
theorem d_W_law_263 : decode b_W_law 263 = .ok (.aload_n 3, 1) := by decide +kernel
theorem d_W_law_264 : decode b_W_law 264 = .ok (.invokestatic 93, 3) := by decide +kernel
theorem d_W_law_267 : decode b_W_law 267 = .ok (.istore 6, 2) := by decide +kernel
theorem d_W_law_269 : decode b_W_law 269 = .ok (.aload_n 2, 1) := by decide +kernel
theorem d_W_law_270 : decode b_W_law 270 = .ok (.aload_n 0, 1) := by decide +kernel
theorem d_W_law_271 : decode b_W_law 271 = .ok (.iload 5, 2) := by decide +kernel
theorem d_W_law_273 : decode b_W_law 273 = .ok (.iconst 1, 1) := by decide +kernel
theorem d_W_law_274 : decode b_W_law 274 = .ok (.iadd, 1) := by decide +kernel
theorem d_W_law_275 : decode b_W_law 275 = .ok (.iaload, 1) := by decide +kernel
theorem d_W_law_276 : decode b_W_law 276 = .ok (.aload_n 0, 1) := by decide +kernel
theorem d_W_law_277 : decode b_W_law 277 = .ok (.iload 5, 2) := by decide +kernel
theorem d_W_law_279 : decode b_W_law 279 = .ok (.iconst 2, 1) := by decide +kernel
theorem d_W_law_280 : decode b_W_law 280 = .ok (.iadd, 1) := by decide +kernel
theorem d_W_law_281 : decode b_W_law 281 = .ok (.iaload, 1) := by decide +kernel
theorem d_W_law_282 : decode b_W_law 282 = .ok (.aload_n 0, 1) := by decide +kernel
theorem d_W_law_283 : decode b_W_law 283 = .ok (.iload 5, 2) := by decide +kernel
theorem d_W_law_285 : decode b_W_law 285 = .ok (.iconst 3, 1) := by decide +kernel
theorem d_W_law_286 : decode b_W_law 286 = .ok (.iadd, 1) := by decide +kernel
theorem d_W_law_287 : decode b_W_law 287 = .ok (.iaload, 1) := by decide +kernel
theorem d_W_law_288 : decode b_W_law 288 = .ok (.invokevirtual 95, 3) := by decide +kernel
theorem d_W_law_291 : decode b_W_law 291 = .ok (.istore 7, 2) := by decide +kernel
theorem d_W_law_293 : decode b_W_law 293 = .ok (.goto 664, 3) := by decide +kernel
theorem d_W_law_296 : decode b_W_law 296 = .ok (.aload_n 1, 1) := by decide +kernel
theorem d_W_law_297 : decode b_W_law 297 = .ok (.aload_n 0, 1) := by decide +kernel
theorem d_W_law_298 : decode b_W_law 298 = .ok (.iload 5, 2) := by decide +kernel
theorem d_W_law_300 : decode b_W_law 300 = .ok (.iconst 1, 1) := by decide +kernel
theorem d_W_law_301 : decode b_W_law 301 = .ok (.iadd, 1) := by decide +kernel
theorem d_W_law_302 : decode b_W_law 302 = .ok (.iaload, 1) := by decide +kernel
theorem d_W_law_303 : decode b_W_law 303 = .ok (.aload_n 0, 1) := by decide +kernel
theorem d_W_law_304 : decode b_W_law 304 = .ok (.iload 5, 2) := by decide +kernel
theorem d_W_law_306 : decode b_W_law 306 = .ok (.iconst 2, 1) := by decide +kernel
theorem d_W_law_307 : decode b_W_law 307 = .ok (.iadd, 1) := by decide +kernel
theorem d_W_law_308 : decode b_W_law 308 = .ok (.iaload, 1) := by decide +kernel
theorem d_W_law_309 : decode b_W_law 309 = .ok (.aload_n 0, 1) := by decide +kernel
theorem d_W_law_310 : decode b_W_law 310 = .ok (.iload 5, 2) := by decide +kernel
theorem d_W_law_312 : decode b_W_law 312 = .ok (.iconst 3, 1) := by decide +kernel
theorem d_W_law_313 : decode b_W_law 313 = .ok (.iadd, 1) := by decide +kernel
theorem d_W_law_314 : decode b_W_law 314 = .ok (.iaload, 1) := by decide +kernel
theorem d_W_law_315 : decode b_W_law 315 = .ok (.ifCond .eq 7, 3) := by decide +kernel
theorem d_W_law_318 : decode b_W_law 318 = .ok (.iconst 1, 1) := by decide +kernel
theorem d_W_law_319 : decode b_W_law 319 = .ok (.goto 4, 3) := by decide +kernel
theorem d_W_law_322 : decode b_W_law 322 = .ok (.iconst 0, 1) := by decide +kernel
theorem d_W_law_323 : decode b_W_law 323 = .ok (.aload_n 3, 1) := by decide +kernel
theorem d_W_law_324 : decode b_W_law 324 = .ok (.invokestatic 96, 3) := by decide +kernel
theorem d_W_law_327 : decode b_W_law 327 = .ok (.istore 6, 2) := by decide +kernel
theorem d_W_law_329 : decode b_W_law 329 = .ok (.aload_n 2, 1) := by decide +kernel
theorem d_W_law_330 : decode b_W_law 330 = .ok (.aload_n 0, 1) := by decide +kernel
theorem d_W_law_331 : decode b_W_law 331 = .ok (.iload 5, 2) := by decide +kernel
theorem d_W_law_333 : decode b_W_law 333 = .ok (.iconst 1, 1) := by decide +kernel
theorem d_W_law_334 : decode b_W_law 334 = .ok (.iadd, 1) := by decide +kernel
theorem d_W_law_335 : decode b_W_law 335 = .ok (.iaload, 1) := by decide +kernel
theorem d_W_law_336 : decode b_W_law 336 = .ok (.aload_n 0, 1) := by decide +kernel
theorem d_W_law_337 : decode b_W_law 337 = .ok (.iload 5, 2) := by decide +kernel
theorem d_W_law_339 : decode b_W_law 339 = .ok (.iconst 2, 1) := by decide +kernel
theorem d_W_law_340 : decode b_W_law 340 = .ok (.iadd, 1) := by decide +kernel
theorem d_W_law_341 : decode b_W_law 341 = .ok (.iaload, 1) := by decide +kernel
theorem d_W_law_342 : decode b_W_law 342 = .ok (.aload_n 0, 1) := by decide +kernel
theorem d_W_law_343 : decode b_W_law 343 = .ok (.iload 5, 2) := by decide +kernel
theorem d_W_law_345 : decode b_W_law 345 = .ok (.iconst 3, 1) := by decide +kernel
theorem d_W_law_346 : decode b_W_law 346 = .ok (.iadd, 1) := by decide +kernel
theorem d_W_law_347 : decode b_W_law 347 = .ok (.iaload, 1) := by decide +kernel
theorem d_W_law_348 : decode b_W_law 348 = .ok (.ifCond .eq 7, 3) := by decide +kernel
theorem d_W_law_351 : decode b_W_law 351 = .ok (.iconst 1, 1) := by decide +kernel
theorem d_W_law_352 : decode b_W_law 352 = .ok (.goto 4, 3) := by decide +kernel
theorem d_W_law_355 : decode b_W_law 355 = .ok (.iconst 0, 1) := by decide +kernel
theorem d_W_law_356 : decode b_W_law 356 = .ok (.invokevirtual 99, 3) := by decide +kernel
theorem d_W_law_359 : decode b_W_law 359 = .ok (.istore 7, 2) := by decide +kernel
theorem d_W_law_361 : decode b_W_law 361 = .ok (.goto 596, 3) := by decide +kernel
theorem d_W_law_364 : decode b_W_law 364 = .ok (.aload_n 1, 1) := by decide +kernel
theorem d_W_law_365 : decode b_W_law 365 = .ok (.aload_n 0, 1) := by decide +kernel
theorem d_W_law_366 : decode b_W_law 366 = .ok (.iload 5, 2) := by decide +kernel
theorem d_W_law_368 : decode b_W_law 368 = .ok (.iconst 1, 1) := by decide +kernel
theorem d_W_law_369 : decode b_W_law 369 = .ok (.iadd, 1) := by decide +kernel
theorem d_W_law_370 : decode b_W_law 370 = .ok (.iaload, 1) := by decide +kernel
theorem d_W_law_371 : decode b_W_law 371 = .ok (.aload_n 0, 1) := by decide +kernel
theorem d_W_law_372 : decode b_W_law 372 = .ok (.iload 5, 2) := by decide +kernel
theorem d_W_law_374 : decode b_W_law 374 = .ok (.iconst 2, 1) := by decide +kernel
theorem d_W_law_375 : decode b_W_law 375 = .ok (.iadd, 1) := by decide +kernel
theorem d_W_law_376 : decode b_W_law 376 = .ok (.iaload, 1) := by decide +kernel
theorem d_W_law_377 : decode b_W_law 377 = .ok (.aload_n 0, 1) := by decide +kernel
theorem d_W_law_378 : decode b_W_law 378 = .ok (.iload 5, 2) := by decide +kernel
theorem d_W_law_380 : decode b_W_law 380 = .ok (.iconst 3, 1) := by decide +kernel
theorem d_W_law_381 : decode b_W_law 381 = .ok (.iadd, 1) := by decide +kernel
theorem d_W_law_382 : decode b_W_law 382 = .ok (.iaload, 1) := by decide +kernel
theorem d_W_law_383 : decode b_W_law 383 = .ok (.ifCond .eq 7, 3) := by decide +kernel
theorem d_W_law_386 : decode b_W_law 386 = .ok (.iconst 1, 1) := by decide +kernel
theorem d_W_law_387 : decode b_W_law 387 = .ok (.goto 4, 3) := by decide +kernel
theorem d_W_law_390 : decode b_W_law 390 = .ok (.iconst 0, 1) := by decide +kernel
theorem d_W_law_391 : decode b_W_law 391 = .ok (.aload_n 3, 1) := by decide +kernel
theorem d_W_law_392 : decode b_W_law 392 = .ok (.invokestatic 100, 3) := by decide +kernel
theorem d_W_law_395 : decode b_W_law 395 = .ok (.istore 6, 2) := by decide +kernel
theorem d_W_law_397 : decode b_W_law 397 = .ok (.aload_n 2, 1) := by decide +kernel
theorem d_W_law_398 : decode b_W_law 398 = .ok (.aload_n 0, 1) := by decide +kernel
theorem d_W_law_399 : decode b_W_law 399 = .ok (.iload 5, 2) := by decide +kernel
theorem d_W_law_401 : decode b_W_law 401 = .ok (.iconst 1, 1) := by decide +kernel
theorem d_W_law_402 : decode b_W_law 402 = .ok (.iadd, 1) := by decide +kernel
theorem d_W_law_403 : decode b_W_law 403 = .ok (.iaload, 1) := by decide +kernel
theorem d_W_law_404 : decode b_W_law 404 = .ok (.aload_n 0, 1) := by decide +kernel
theorem d_W_law_405 : decode b_W_law 405 = .ok (.iload 5, 2) := by decide +kernel
theorem d_W_law_407 : decode b_W_law 407 = .ok (.iconst 2, 1) := by decide +kernel
theorem d_W_law_408 : decode b_W_law 408 = .ok (.iadd, 1) := by decide +kernel
theorem d_W_law_409 : decode b_W_law 409 = .ok (.iaload, 1) := by decide +kernel
theorem d_W_law_410 : decode b_W_law 410 = .ok (.aload_n 0, 1) := by decide +kernel
theorem d_W_law_411 : decode b_W_law 411 = .ok (.iload 5, 2) := by decide +kernel
theorem d_W_law_413 : decode b_W_law 413 = .ok (.iconst 3, 1) := by decide +kernel
theorem d_W_law_414 : decode b_W_law 414 = .ok (.iadd, 1) := by decide +kernel
theorem d_W_law_415 : decode b_W_law 415 = .ok (.iaload, 1) := by decide +kernel
theorem d_W_law_416 : decode b_W_law 416 = .ok (.ifCond .eq 7, 3) := by decide +kernel
theorem d_W_law_419 : decode b_W_law 419 = .ok (.iconst 1, 1) := by decide +kernel
theorem d_W_law_420 : decode b_W_law 420 = .ok (.goto 4, 3) := by decide +kernel
theorem d_W_law_423 : decode b_W_law 423 = .ok (.iconst 0, 1) := by decide +kernel
theorem d_W_law_424 : decode b_W_law 424 = .ok (.invokevirtual 102, 3) := by decide +kernel
theorem d_W_law_427 : decode b_W_law 427 = .ok (.istore 7, 2) := by decide +kernel
theorem d_W_law_429 : decode b_W_law 429 = .ok (.goto 528, 3) := by decide +kernel
theorem d_W_law_432 : decode b_W_law 432 = .ok (.aload_n 1, 1) := by decide +kernel
theorem d_W_law_433 : decode b_W_law 433 = .ok (.aload_n 0, 1) := by decide +kernel
theorem d_W_law_434 : decode b_W_law 434 = .ok (.iload 5, 2) := by decide +kernel
theorem d_W_law_436 : decode b_W_law 436 = .ok (.iconst 1, 1) := by decide +kernel
theorem d_W_law_437 : decode b_W_law 437 = .ok (.iadd, 1) := by decide +kernel
theorem d_W_law_438 : decode b_W_law 438 = .ok (.iaload, 1) := by decide +kernel
theorem d_W_law_439 : decode b_W_law 439 = .ok (.aload_n 0, 1) := by decide +kernel
theorem d_W_law_440 : decode b_W_law 440 = .ok (.iload 5, 2) := by decide +kernel
theorem d_W_law_442 : decode b_W_law 442 = .ok (.iconst 2, 1) := by decide +kernel
theorem d_W_law_443 : decode b_W_law 443 = .ok (.iadd, 1) := by decide +kernel
theorem d_W_law_444 : decode b_W_law 444 = .ok (.iaload, 1) := by decide +kernel
theorem d_W_law_445 : decode b_W_law 445 = .ok (.aload_n 0, 1) := by decide +kernel
theorem d_W_law_446 : decode b_W_law 446 = .ok (.iload 5, 2) := by decide +kernel
theorem d_W_law_448 : decode b_W_law 448 = .ok (.iconst 3, 1) := by decide +kernel
theorem d_W_law_449 : decode b_W_law 449 = .ok (.iadd, 1) := by decide +kernel
theorem d_W_law_450 : decode b_W_law 450 = .ok (.iaload, 1) := by decide +kernel
theorem d_W_law_451 : decode b_W_law 451 = .ok (.i2d, 1) := by decide +kernel
theorem d_W_law_452 : decode b_W_law 452 = .ok (.ldc2_w 103, 3) := by decide +kernel
theorem d_W_law_455 : decode b_W_law 455 = .ok (.dmul, 1) := by decide +kernel
theorem d_W_law_456 : decode b_W_law 456 = .ok (.aload 4, 2) := by decide +kernel
theorem d_W_law_458 : decode b_W_law 458 = .ok (.invokestatic 105, 3) := by decide +kernel
theorem d_W_law_461 : decode b_W_law 461 = .ok (.istore 6, 2) := by decide +kernel
theorem d_W_law_463 : decode b_W_law 463 = .ok (.aload_n 2, 1) := by decide +kernel
theorem d_W_law_464 : decode b_W_law 464 = .ok (.aload_n 0, 1) := by decide +kernel
theorem d_W_law_465 : decode b_W_law 465 = .ok (.iload 5, 2) := by decide +kernel
theorem d_W_law_467 : decode b_W_law 467 = .ok (.iconst 1, 1) := by decide +kernel
theorem d_W_law_468 : decode b_W_law 468 = .ok (.iadd, 1) := by decide +kernel
theorem d_W_law_469 : decode b_W_law 469 = .ok (.iaload, 1) := by decide +kernel
theorem d_W_law_470 : decode b_W_law 470 = .ok (.aload_n 0, 1) := by decide +kernel
theorem d_W_law_471 : decode b_W_law 471 = .ok (.iload 5, 2) := by decide +kernel
theorem d_W_law_473 : decode b_W_law 473 = .ok (.iconst 2, 1) := by decide +kernel
theorem d_W_law_474 : decode b_W_law 474 = .ok (.iadd, 1) := by decide +kernel
theorem d_W_law_475 : decode b_W_law 475 = .ok (.iaload, 1) := by decide +kernel
theorem d_W_law_476 : decode b_W_law 476 = .ok (.aload_n 0, 1) := by decide +kernel
theorem d_W_law_477 : decode b_W_law 477 = .ok (.iload 5, 2) := by decide +kernel
theorem d_W_law_479 : decode b_W_law 479 = .ok (.iconst 3, 1) := by decide +kernel
theorem d_W_law_480 : decode b_W_law 480 = .ok (.iadd, 1) := by decide +kernel
theorem d_W_law_481 : decode b_W_law 481 = .ok (.iaload, 1) := by decide +kernel
theorem d_W_law_482 : decode b_W_law 482 = .ok (.i2d, 1) := by decide +kernel
theorem d_W_law_483 : decode b_W_law 483 = .ok (.ldc2_w 103, 3) := by decide +kernel
theorem d_W_law_486 : decode b_W_law 486 = .ok (.dmul, 1) := by decide +kernel
theorem d_W_law_487 : decode b_W_law 487 = .ok (.invokevirtual 108, 3) := by decide +kernel
theorem d_W_law_490 : decode b_W_law 490 = .ok (.dstore 7, 2) := by decide +kernel
theorem d_W_law_492 : decode b_W_law 492 = .ok (.goto 465, 3) := by decide +kernel
theorem d_W_law_495 : decode b_W_law 495 = .ok (.aload_n 1, 1) := by decide +kernel
theorem d_W_law_496 : decode b_W_law 496 = .ok (.aload_n 0, 1) := by decide +kernel
theorem d_W_law_497 : decode b_W_law 497 = .ok (.iload 5, 2) := by decide +kernel
theorem d_W_law_499 : decode b_W_law 499 = .ok (.iconst 1, 1) := by decide +kernel
theorem d_W_law_500 : decode b_W_law 500 = .ok (.iadd, 1) := by decide +kernel
theorem d_W_law_501 : decode b_W_law 501 = .ok (.iaload, 1) := by decide +kernel
theorem d_W_law_502 : decode b_W_law 502 = .ok (.aload_n 0, 1) := by decide +kernel
theorem d_W_law_503 : decode b_W_law 503 = .ok (.iload 5, 2) := by decide +kernel
theorem d_W_law_505 : decode b_W_law 505 = .ok (.iconst 2, 1) := by decide +kernel
theorem d_W_law_506 : decode b_W_law 506 = .ok (.iadd, 1) := by decide +kernel
theorem d_W_law_507 : decode b_W_law 507 = .ok (.iaload, 1) := by decide +kernel
theorem d_W_law_508 : decode b_W_law 508 = .ok (.aload_n 0, 1) := by decide +kernel
theorem d_W_law_509 : decode b_W_law 509 = .ok (.iload 5, 2) := by decide +kernel
theorem d_W_law_511 : decode b_W_law 511 = .ok (.iconst 3, 1) := by decide +kernel
theorem d_W_law_512 : decode b_W_law 512 = .ok (.iadd, 1) := by decide +kernel
theorem d_W_law_513 : decode b_W_law 513 = .ok (.iaload, 1) := by decide +kernel
theorem d_W_law_514 : decode b_W_law 514 = .ok (.aload_n 0, 1) := by decide +kernel
theorem d_W_law_515 : decode b_W_law 515 = .ok (.iload 5, 2) := by decide +kernel
theorem d_W_law_517 : decode b_W_law 517 = .ok (.iconst 4, 1) := by decide +kernel
theorem d_W_law_518 : decode b_W_law 518 = .ok (.iadd, 1) := by decide +kernel
theorem d_W_law_519 : decode b_W_law 519 = .ok (.iaload, 1) := by decide +kernel
theorem d_W_law_520 : decode b_W_law 520 = .ok (.aload_n 3, 1) := by decide +kernel
theorem d_W_law_521 : decode b_W_law 521 = .ok (.invokestatic 109, 3) := by decide +kernel
theorem d_W_law_524 : decode b_W_law 524 = .ok (.istore 6, 2) := by decide +kernel
theorem d_W_law_526 : decode b_W_law 526 = .ok (.aload_n 2, 1) := by decide +kernel
theorem d_W_law_527 : decode b_W_law 527 = .ok (.aload_n 0, 1) := by decide +kernel
theorem d_W_law_528 : decode b_W_law 528 = .ok (.iload 5, 2) := by decide +kernel
theorem d_W_law_530 : decode b_W_law 530 = .ok (.iconst 1, 1) := by decide +kernel
theorem d_W_law_531 : decode b_W_law 531 = .ok (.iadd, 1) := by decide +kernel
theorem d_W_law_532 : decode b_W_law 532 = .ok (.iaload, 1) := by decide +kernel
theorem d_W_law_533 : decode b_W_law 533 = .ok (.aload_n 0, 1) := by decide +kernel
theorem d_W_law_534 : decode b_W_law 534 = .ok (.iload 5, 2) := by decide +kernel
theorem d_W_law_536 : decode b_W_law 536 = .ok (.iconst 2, 1) := by decide +kernel
theorem d_W_law_537 : decode b_W_law 537 = .ok (.iadd, 1) := by decide +kernel
theorem d_W_law_538 : decode b_W_law 538 = .ok (.iaload, 1) := by decide +kernel
theorem d_W_law_539 : decode b_W_law 539 = .ok (.aload_n 0, 1) := by decide +kernel
theorem d_W_law_540 : decode b_W_law 540 = .ok (.iload 5, 2) := by decide +kernel
theorem d_W_law_542 : decode b_W_law 542 = .ok (.iconst 3, 1) := by decide +kernel
theorem d_W_law_543 : decode b_W_law 543 = .ok (.iadd, 1) := by decide +kernel
theorem d_W_law_544 : decode b_W_law 544 = .ok (.iaload, 1) := by decide +kernel
theorem d_W_law_545 : decode b_W_law 545 = .ok (.aload_n 0, 1) := by decide +kernel
theorem d_W_law_546 : decode b_W_law 546 = .ok (.iload 5, 2) := by decide +kernel
theorem d_W_law_548 : decode b_W_law 548 = .ok (.iconst 4, 1) := by decide +kernel
theorem d_W_law_549 : decode b_W_law 549 = .ok (.iadd, 1) := by decide +kernel
theorem d_W_law_550 : decode b_W_law 550 = .ok (.iaload, 1) := by decide +kernel
theorem d_W_law_551 : decode b_W_law 551 = .ok (.invokevirtual 112, 3) := by decide +kernel
theorem d_W_law_554 : decode b_W_law 554 = .ok (.istore 7, 2) := by decide +kernel
theorem d_W_law_556 : decode b_W_law 556 = .ok (.goto 401, 3) := by decide +kernel
theorem d_W_law_559 : decode b_W_law 559 = .ok (.aload_n 1, 1) := by decide +kernel
theorem d_W_law_560 : decode b_W_law 560 = .ok (.aload_n 0, 1) := by decide +kernel
theorem d_W_law_561 : decode b_W_law 561 = .ok (.iload 5, 2) := by decide +kernel
theorem d_W_law_563 : decode b_W_law 563 = .ok (.iconst 1, 1) := by decide +kernel
theorem d_W_law_564 : decode b_W_law 564 = .ok (.iadd, 1) := by decide +kernel
theorem d_W_law_565 : decode b_W_law 565 = .ok (.iaload, 1) := by decide +kernel
theorem d_W_law_566 : decode b_W_law 566 = .ok (.aload_n 0, 1) := by decide +kernel
theorem d_W_law_567 : decode b_W_law 567 = .ok (.iload 5, 2) := by decide +kernel
theorem d_W_law_569 : decode b_W_law 569 = .ok (.iconst 2, 1) := by decide +kernel
theorem d_W_law_570 : decode b_W_law 570 = .ok (.iadd, 1) := by decide +kernel
theorem d_W_law_571 : decode b_W_law 571 = .ok (.iaload, 1) := by decide +kernel
theorem d_W_law_572 : decode b_W_law 572 = .ok (.aload_n 0, 1) := by decide +kernel
theorem d_W_law_573 : decode b_W_law 573 = .ok (.iload 5, 2) := by decide +kernel
theorem d_W_law_575 : decode b_W_law 575 = .ok (.iconst 3, 1) := by decide +kernel
theorem d_W_law_576 : decode b_W_law 576 = .ok (.iadd, 1) := by decide +kernel
theorem d_W_law_577 : decode b_W_law 577 = .ok (.iaload, 1) := by decide +kernel
theorem d_W_law_578 : decode b_W_law 578 = .ok (.aload_n 3, 1) := by decide +kernel
theorem d_W_law_579 : decode b_W_law 579 = .ok (.invokestatic 113, 3) := by decide +kernel
theorem d_W_law_582 : decode b_W_law 582 = .ok (.istore 6, 2) := by decide +kernel
theorem d_W_law_584 : decode b_W_law 584 = .ok (.aload_n 2, 1) := by decide +kernel
theorem d_W_law_585 : decode b_W_law 585 = .ok (.aload_n 0, 1) := by decide +kernel
theorem d_W_law_586 : decode b_W_law 586 = .ok (.iload 5, 2) := by decide +kernel
theorem d_W_law_588 : decode b_W_law 588 = .ok (.iconst 1, 1) := by decide +kernel
theorem d_W_law_589 : decode b_W_law 589 = .ok (.iadd, 1) := by decide +kernel
theorem d_W_law_590 : decode b_W_law 590 = .ok (.iaload, 1) := by decide +kernel
theorem d_W_law_591 : decode b_W_law 591 = .ok (.aload_n 0, 1) := by decide +kernel
theorem d_W_law_592 : decode b_W_law 592 = .ok (.iload 5, 2) := by decide +kernel
theorem d_W_law_594 : decode b_W_law 594 = .ok (.iconst 2, 1) := by decide +kernel
theorem d_W_law_595 : decode b_W_law 595 = .ok (.iadd, 1) := by decide +kernel
theorem d_W_law_596 : decode b_W_law 596 = .ok (.iaload, 1) := by decide +kernel
theorem d_W_law_597 : decode b_W_law 597 = .ok (.aload_n 0, 1) := by decide +kernel
theorem d_W_law_598 : decode b_W_law 598 = .ok (.iload 5, 2) := by decide +kernel
theorem d_W_law_600 : decode b_W_law 600 = .ok (.iconst 3, 1) := by decide +kernel
theorem d_W_law_601 : decode b_W_law 601 = .ok (.iadd, 1) := by decide +kernel
theorem d_W_law_602 : decode b_W_law 602 = .ok (.iaload, 1) := by decide +kernel
theorem d_W_law_603 : decode b_W_law 603 = .ok (.invokevirtual 115, 3) := by decide +kernel
theorem d_W_law_606 : decode b_W_law 606 = .ok (.istore 7, 2) := by decide +kernel
theorem d_W_law_608 : decode b_W_law 608 = .ok (.goto 349, 3) := by decide +kernel
theorem d_W_law_611 : decode b_W_law 611 = .ok (.aload_n 1, 1) := by decide +kernel
theorem d_W_law_612 : decode b_W_law 612 = .ok (.aload_n 0, 1) := by decide +kernel
theorem d_W_law_613 : decode b_W_law 613 = .ok (.iload 5, 2) := by decide +kernel
theorem d_W_law_615 : decode b_W_law 615 = .ok (.iconst 1, 1) := by decide +kernel
theorem d_W_law_616 : decode b_W_law 616 = .ok (.iadd, 1) := by decide +kernel
theorem d_W_law_617 : decode b_W_law 617 = .ok (.iaload, 1) := by decide +kernel
theorem d_W_law_618 : decode b_W_law 618 = .ok (.aload_n 0, 1) := by decide +kernel
theorem d_W_law_619 : decode b_W_law 619 = .ok (.iload 5, 2) := by decide +kernel
theorem d_W_law_621 : decode b_W_law 621 = .ok (.iconst 2, 1) := by decide +kernel
theorem d_W_law_622 : decode b_W_law 622 = .ok (.iadd, 1) := by decide +kernel
theorem d_W_law_623 : decode b_W_law 623 = .ok (.iaload, 1) := by decide +kernel
theorem d_W_law_624 : decode b_W_law 624 = .ok (.aload_n 0, 1) := by decide +kernel
theorem d_W_law_625 : decode b_W_law 625 = .ok (.iload 5, 2) := by decide +kernel
theorem d_W_law_627 : decode b_W_law 627 = .ok (.iconst 3, 1) := by decide +kernel
theorem d_W_law_628 : decode b_W_law 628 = .ok (.iadd, 1) := by decide +kernel
theorem d_W_law_629 : decode b_W_law 629 = .ok (.iaload, 1) := by decide +kernel
theorem d_W_law_630 : decode b_W_law 630 = .ok (.ifCond .eq 7, 3) := by decide +kernel
theorem d_W_law_633 : decode b_W_law 633 = .ok (.iconst 1, 1) := by decide +kernel
theorem d_W_law_634 : decode b_W_law 634 = .ok (.goto 4, 3) := by decide +kernel
theorem d_W_law_637 : decode b_W_law 637 = .ok (.iconst 0, 1) := by decide +kernel
theorem d_W_law_638 : decode b_W_law 638 = .ok (.aload 4, 2) := by decide +kernel
theorem d_W_law_640 : decode b_W_law 640 = .ok (.invokestatic 116, 3) := by decide +kernel
theorem d_W_law_643 : decode b_W_law 643 = .ok (.istore 6, 2) := by decide +kernel
theorem d_W_law_645 : decode b_W_law 645 = .ok (.aload_n 2, 1) := by decide +kernel
theorem d_W_law_646 : decode b_W_law 646 = .ok (.aload_n 0, 1) := by decide +kernel
theorem d_W_law_647 : decode b_W_law 647 = .ok (.iload 5, 2) := by decide +kernel
theorem d_W_law_649 : decode b_W_law 649 = .ok (.iconst 1, 1) := by decide +kernel
theorem d_W_law_650 : decode b_W_law 650 = .ok (.iadd, 1) := by decide +kernel
theorem d_W_law_651 : decode b_W_law 651 = .ok (.iaload, 1) := by decide +kernel
theorem d_W_law_652 : decode b_W_law 652 = .ok (.aload_n 0, 1) := by decide +kernel
theorem d_W_law_653 : decode b_W_law 653 = .ok (.iload 5, 2) := by decide +kernel
theorem d_W_law_655 : decode b_W_law 655 = .ok (.iconst 2, 1) := by decide +kernel
theorem d_W_law_656 : decode b_W_law 656 = .ok (.iadd, 1) := by decide +kernel
theorem d_W_law_657 : decode b_W_law 657 = .ok (.iaload, 1) := by decide +kernel
theorem d_W_law_658 : decode b_W_law 658 = .ok (.aload_n 0, 1) := by decide +kernel
theorem d_W_law_659 : decode b_W_law 659 = .ok (.iload 5, 2) := by decide +kernel
theorem d_W_law_661 : decode b_W_law 661 = .ok (.iconst 3, 1) := by decide +kernel
theorem d_W_law_662 : decode b_W_law 662 = .ok (.iadd, 1) := by decide +kernel
theorem d_W_law_663 : decode b_W_law 663 = .ok (.iaload, 1) := by decide +kernel
theorem d_W_law_664 : decode b_W_law 664 = .ok (.ifCond .eq 7, 3) := by decide +kernel
theorem d_W_law_667 : decode b_W_law 667 = .ok (.iconst 1, 1) := by decide +kernel
theorem d_W_law_668 : decode b_W_law 668 = .ok (.goto 4, 3) := by decide +kernel
theorem d_W_law_671 : decode b_W_law 671 = .ok (.iconst 0, 1) := by decide +kernel
theorem d_W_law_672 : decode b_W_law 672 = .ok (.invokevirtual 119, 3) := by decide +kernel
theorem d_W_law_675 : decode b_W_law 675 = .ok (.dstore 7, 2) := by decide +kernel
theorem d_W_law_677 : decode b_W_law 677 = .ok (.goto 280, 3) := by decide +kernel
theorem d_W_law_680 : decode b_W_law 680 = .ok (.aload_n 1, 1) := by decide +kernel
theorem d_W_law_681 : decode b_W_law 681 = .ok (.aload_n 0, 1) := by decide +kernel
theorem d_W_law_682 : decode b_W_law 682 = .ok (.iload 5, 2) := by decide +kernel
theorem d_W_law_684 : decode b_W_law 684 = .ok (.iconst 1, 1) := by decide +kernel
theorem d_W_law_685 : decode b_W_law 685 = .ok (.iadd, 1) := by decide +kernel
theorem d_W_law_686 : decode b_W_law 686 = .ok (.iaload, 1) := by decide +kernel
theorem d_W_law_687 : decode b_W_law 687 = .ok (.aload_n 0, 1) := by decide +kernel
theorem d_W_law_688 : decode b_W_law 688 = .ok (.iload 5, 2) := by decide +kernel
theorem d_W_law_690 : decode b_W_law 690 = .ok (.iconst 2, 1) := by decide +kernel
theorem d_W_law_691 : decode b_W_law 691 = .ok (.iadd, 1) := by decide +kernel
theorem d_W_law_692 : decode b_W_law 692 = .ok (.iaload, 1) := by decide +kernel
theorem d_W_law_693 : decode b_W_law 693 = .ok (.aload_n 3, 1) := by decide +kernel
theorem d_W_law_694 : decode b_W_law 694 = .ok (.invokestatic 120, 3) := by decide +kernel
theorem d_W_law_697 : decode b_W_law 697 = .ok (.istore 6, 2) := by decide +kernel
theorem d_W_law_699 : decode b_W_law 699 = .ok (.aload_n 2, 1) := by decide +kernel
theorem d_W_law_700 : decode b_W_law 700 = .ok (.aload_n 0, 1) := by decide +kernel
theorem d_W_law_701 : decode b_W_law 701 = .ok (.iload 5, 2) := by decide +kernel
theorem d_W_law_703 : decode b_W_law 703 = .ok (.iconst 1, 1) := by decide +kernel
theorem d_W_law_704 : decode b_W_law 704 = .ok (.iadd, 1) := by decide +kernel
theorem d_W_law_705 : decode b_W_law 705 = .ok (.iaload, 1) := by decide +kernel
theorem d_W_law_706 : decode b_W_law 706 = .ok (.aload_n 0, 1) := by decide +kernel
theorem d_W_law_707 : decode b_W_law 707 = .ok (.iload 5, 2) := by decide +kernel
theorem d_W_law_709 : decode b_W_law 709 = .ok (.iconst 2, 1) := by decide +kernel
theorem d_W_law_710 : decode b_W_law 710 = .ok (.iadd, 1) := by decide +kernel
theorem d_W_law_711 : decode b_W_law 711 = .ok (.iaload, 1) := by decide +kernel
theorem d_W_law_712 : decode b_W_law 712 = .ok (.invokevirtual 122, 3) := by decide +kernel
theorem d_W_law_715 : decode b_W_law 715 = .ok (.istore 7, 2) := by decide +kernel
theorem d_W_law_717 : decode b_W_law 717 = .ok (.goto 240, 3) := by decide +kernel
theorem d_W_law_720 : decode b_W_law 720 = .ok (.aload_n 1, 1) := by decide +kernel
theorem d_W_law_721 : decode b_W_law 721 = .ok (.aload_n 0, 1) := by decide +kernel
theorem d_W_law_722 : decode b_W_law 722 = .ok (.iload 5, 2) := by decide +kernel
theorem d_W_law_724 : decode b_W_law 724 = .ok (.iconst 1, 1) := by decide +kernel
theorem d_W_law_725 : decode b_W_law 725 = .ok (.iadd, 1) := by decide +kernel
theorem d_W_law_726 : decode b_W_law 726 = .ok (.iaload, 1) := by decide +kernel
theorem d_W_law_727 : decode b_W_law 727 = .ok (.aload_n 3, 1) := by decide +kernel
theorem d_W_law_728 : decode b_W_law 728 = .ok (.invokestatic 123, 3) := by decide +kernel
theorem d_W_law_731 : decode b_W_law 731 = .ok (.istore 6, 2) := by decide +kernel
theorem d_W_law_733 : decode b_W_law 733 = .ok (.aload_n 2, 1) := by decide +kernel
theorem d_W_law_734 : decode b_W_law 734 = .ok (.aload_n 0, 1) := by decide +kernel
theorem d_W_law_735 : decode b_W_law 735 = .ok (.iload 5, 2) := by decide +kernel
theorem d_W_law_737 : decode b_W_law 737 = .ok (.iconst 1, 1) := by decide +kernel
theorem d_W_law_738 : decode b_W_law 738 = .ok (.iadd, 1) := by decide +kernel
theorem d_W_law_739 : decode b_W_law 739 = .ok (.iaload, 1) := by decide +kernel
theorem d_W_law_740 : decode b_W_law 740 = .ok (.invokevirtual 125, 3) := by decide +kernel
theorem d_W_law_743 : decode b_W_law 743 = .ok (.istore 7, 2) := by decide +kernel
theorem d_W_law_745 : decode b_W_law 745 = .ok (.goto 212, 3) := by decide +kernel
theorem d_W_law_748 : decode b_W_law 748 = .ok (.aload_n 1, 1) := by decide +kernel
theorem d_W_law_749 : decode b_W_law 749 = .ok (.aload_n 0, 1) := by decide +kernel
theorem d_W_law_750 : decode b_W_law 750 = .ok (.iload 5, 2) := by decide +kernel
theorem d_W_law_752 : decode b_W_law 752 = .ok (.iconst 1, 1) := by decide +kernel
theorem d_W_law_753 : decode b_W_law 753 = .ok (.iadd, 1) := by decide +kernel
theorem d_W_law_754 : decode b_W_law 754 = .ok (.iaload, 1) := by decide +kernel
theorem d_W_law_755 : decode b_W_law 755 = .ok (.aload_n 0, 1) := by decide +kernel
theorem d_W_law_756 : decode b_W_law 756 = .ok (.iload 5, 2) := by decide +kernel
theorem d_W_law_758 : decode b_W_law 758 = .ok (.iconst 2, 1) := by decide +kernel
theorem d_W_law_759 : decode b_W_law 759 = .ok (.iadd, 1) := by decide +kernel
theorem d_W_law_760 : decode b_W_law 760 = .ok (.iaload, 1) := by decide +kernel
theorem d_W_law_761 : decode b_W_law 761 = .ok (.aload_n 0, 1) := by decide +kernel
theorem d_W_law_762 : decode b_W_law 762 = .ok (.iload 5, 2) := by decide +kernel
theorem d_W_law_764 : decode b_W_law 764 = .ok (.iconst 3, 1) := by decide +kernel
theorem d_W_law_765 : decode b_W_law 765 = .ok (.iadd, 1) := by decide +kernel
theorem d_W_law_766 : decode b_W_law 766 = .ok (.iaload, 1) := by decide +kernel
theorem d_W_law_767 : decode b_W_law 767 = .ok (.aload_n 3, 1) := by decide +kernel
theorem d_W_law_768 : decode b_W_law 768 = .ok (.invokestatic 126, 3) := by decide +kernel
theorem d_W_law_771 : decode b_W_law 771 = .ok (.istore 6, 2) := by decide +kernel
theorem d_W_law_773 : decode b_W_law 773 = .ok (.aload_n 2, 1) := by decide +kernel
theorem d_W_law_774 : decode b_W_law 774 = .ok (.aload_n 0, 1) := by decide +kernel
theorem d_W_law_775 : decode b_W_law 775 = .ok (.iload 5, 2) := by decide +kernel
theorem d_W_law_777 : decode b_W_law 777 = .ok (.iconst 1, 1) := by decide +kernel
theorem d_W_law_778 : decode b_W_law 778 = .ok (.iadd, 1) := by decide +kernel
theorem d_W_law_779 : decode b_W_law 779 = .ok (.iaload, 1) := by decide +kernel
theorem d_W_law_780 : decode b_W_law 780 = .ok (.aload_n 0, 1) := by decide +kernel
theorem d_W_law_781 : decode b_W_law 781 = .ok (.iload 5, 2) := by decide +kernel
theorem d_W_law_783 : decode b_W_law 783 = .ok (.iconst 2, 1) := by decide +kernel
theorem d_W_law_784 : decode b_W_law 784 = .ok (.iadd, 1) := by decide +kernel
theorem d_W_law_785 : decode b_W_law 785 = .ok (.iaload, 1) := by decide +kernel
theorem d_W_law_786 : decode b_W_law 786 = .ok (.aload_n 0, 1) := by decide +kernel
theorem d_W_law_787 : decode b_W_law 787 = .ok (.iload 5, 2) := by decide +kernel
theorem d_W_law_789 : decode b_W_law 789 = .ok (.iconst 3, 1) := by decide +kernel
theorem d_W_law_790 : decode b_W_law 790 = .ok (.iadd, 1) := by decide +kernel
theorem d_W_law_791 : decode b_W_law 791 = .ok (.iaload, 1) := by decide +kernel
theorem d_W_law_792 : decode b_W_law 792 = .ok (.invokevirtual 128, 3) := by decide +kernel
theorem d_W_law_795 : decode b_W_law 795 = .ok (.istore 7, 2) := by decide +kernel
theorem d_W_law_797 : decode b_W_law 797 = .ok (.goto 160, 3) := by decide +kernel
theorem d_W_law_800 : decode b_W_law 800 = .ok (.aload_n 1, 1) := by decide +kernel
theorem d_W_law_801 : decode b_W_law 801 = .ok (.aload_n 0, 1) := by decide +kernel
theorem d_W_law_802 : decode b_W_law 802 = .ok (.iload 5, 2) := by decide +kernel
theorem d_W_law_804 : decode b_W_law 804 = .ok (.iconst 1, 1) := by decide +kernel
theorem d_W_law_805 : decode b_W_law 805 = .ok (.iadd, 1) := by decide +kernel
theorem d_W_law_806 : decode b_W_law 806 = .ok (.iaload, 1) := by decide +kernel
theorem d_W_law_807 : decode b_W_law 807 = .ok (.aload_n 0, 1) := by decide +kernel
theorem d_W_law_808 : decode b_W_law 808 = .ok (.iload 5, 2) := by decide +kernel
theorem d_W_law_810 : decode b_W_law 810 = .ok (.iconst 2, 1) := by decide +kernel
theorem d_W_law_811 : decode b_W_law 811 = .ok (.iadd, 1) := by decide +kernel
theorem d_W_law_812 : decode b_W_law 812 = .ok (.iaload, 1) := by decide +kernel
theorem d_W_law_813 : decode b_W_law 813 = .ok (.aload 4, 2) := by decide +kernel
theorem d_W_law_815 : decode b_W_law 815 = .ok (.invokestatic 129, 3) := by decide +kernel
theorem d_W_law_818 : decode b_W_law 818 = .ok (.istore 6, 2) := by decide +kernel
theorem d_W_law_820 : decode b_W_law 820 = .ok (.aload_n 2, 1) := by decide +kernel
theorem d_W_law_821 : decode b_W_law 821 = .ok (.aload_n 0, 1) := by decide +kernel
theorem d_W_law_822 : decode b_W_law 822 = .ok (.iload 5, 2) := by decide +kernel
theorem d_W_law_824 : decode b_W_law 824 = .ok (.iconst 1, 1) := by decide +kernel
theorem d_W_law_825 : decode b_W_law 825 = .ok (.iadd, 1) := by decide +kernel
theorem d_W_law_826 : decode b_W_law 826 = .ok (.iaload, 1) := by decide +kernel
theorem d_W_law_827 : decode b_W_law 827 = .ok (.aload_n 0, 1) := by decide +kernel
theorem d_W_law_828 : decode b_W_law 828 = .ok (.iload 5, 2) := by decide +kernel
theorem d_W_law_830 : decode b_W_law 830 = .ok (.iconst 2, 1) := by decide +kernel
theorem d_W_law_831 : decode b_W_law 831 = .ok (.iadd, 1) := by decide +kernel
theorem d_W_law_832 : decode b_W_law 832 = .ok (.iaload, 1) := by decide +kernel
theorem d_W_law_833 : decode b_W_law 833 = .ok (.invokevirtual 132, 3) := by decide +kernel
theorem d_W_law_836 : decode b_W_law 836 = .ok (.dstore 7, 2) := by decide +kernel
theorem d_W_law_838 : decode b_W_law 838 = .ok (.aload_n 2, 1) := by decide +kernel
theorem d_W_law_839 : decode b_W_law 839 = .ok (.invokevirtual 133, 3) := by decide +kernel
theorem d_W_law_842 : decode b_W_law 842 = .ok (.iload 6, 2) := by decide +kernel
theorem d_W_law_844 : decode b_W_law 844 = .ok (.if_icmp .eq 5, 3) := by decide +kernel
theorem d_W_law_847 : decode b_W_law 847 = .ok (.iconst 0, 1) := by decide +kernel
theorem d_W_law_848 : decode b_W_law 848 = .ok (.ireturn, 1) := by decide +kernel
theorem d_W_law_849 : decode b_W_law 849 = .ok (.iload 6, 2) := by decide +kernel
theorem d_W_law_851 : decode b_W_law 851 = .ok (.ifCond .ne 35, 3) := by decide +kernel
theorem d_W_law_854 : decode b_W_law 854 = .ok (.aload 4, 2) := by decide +kernel
theorem d_W_law_856 : decode b_W_law 856 = .ok (.iconst 0, 1) := by decide +kernel
theorem d_W_law_857 : decode b_W_law 857 = .ok (.daload, 1) := by decide +kernel
theorem d_W_law_858 : decode b_W_law 858 = .ok (.dload 7, 2) := by decide +kernel
theorem d_W_law_860 : decode b_W_law 860 = .ok (.dcmp .l, 1) := by decide +kernel
theorem d_W_law_861 : decode b_W_law 861 = .ok (.ifCond .eq 25, 3) := by decide +kernel
theorem d_W_law_864 : decode b_W_law 864 = .ok (.aload 4, 2) := by decide +kernel
theorem d_W_law_866 : decode b_W_law 866 = .ok (.iconst 0, 1) := by decide +kernel
theorem d_W_law_867 : decode b_W_law 867 = .ok (.daload, 1) := by decide +kernel
theorem d_W_law_868 : decode b_W_law 868 = .ok (.aload 4, 2) := by decide +kernel
theorem d_W_law_870 : decode b_W_law 870 = .ok (.iconst 0, 1) := by decide +kernel
theorem d_W_law_871 : decode b_W_law 871 = .ok (.daload, 1) := by decide +kernel
theorem d_W_law_872 : decode b_W_law 872 = .ok (.dcmp .l, 1) := by decide +kernel
theorem d_W_law_873 : decode b_W_law 873 = .ok (.ifCond .eq 11, 3) := by decide +kernel
theorem d_W_law_876 : decode b_W_law 876 = .ok (.dload 7, 2) := by decide +kernel
theorem d_W_law_878 : decode b_W_law 878 = .ok (.dload 7, 2) := by decide +kernel
theorem d_W_law_880 : decode b_W_law 880 = .ok (.dcmp .l, 1) := by decide +kernel
theorem d_W_law_881 : decode b_W_law 881 = .ok (.ifCond .ne 5, 3) := by decide +kernel
theorem d_W_law_884 : decode b_W_law 884 = .ok (.iconst 0, 1) := by decide +kernel
theorem d_W_law_885 : decode b_W_law 885 = .ok (.ireturn, 1) := by decide +kernel
theorem d_W_law_886 : decode b_W_law 886 = .ok (.goto 71, 3) := by decide +kernel
theorem d_W_law_889 : decode b_W_law 889 = .ok (.aload_n 1, 1) := by decide +kernel
theorem d_W_law_890 : decode b_W_law 890 = .ok (.aload_n 0, 1) := by decide +kernel
theorem d_W_law_891 : decode b_W_law 891 = .ok (.iload 5, 2) := by decide +kernel
theorem d_W_law_893 : decode b_W_law 893 = .ok (.iconst 1, 1) := by decide +kernel
theorem d_W_law_894 : decode b_W_law 894 = .ok (.iadd, 1) := by decide +kernel
theorem d_W_law_895 : decode b_W_law 895 = .ok (.iaload, 1) := by decide +kernel
theorem d_W_law_896 : decode b_W_law 896 = .ok (.aload_n 0, 1) := by decide +kernel
theorem d_W_law_897 : decode b_W_law 897 = .ok (.iload 5, 2) := by decide +kernel
theorem d_W_law_899 : decode b_W_law 899 = .ok (.iconst 2, 1) := by decide +kernel
theorem d_W_law_900 : decode b_W_law 900 = .ok (.iadd, 1) := by decide +kernel
theorem d_W_law_901 : decode b_W_law 901 = .ok (.iaload, 1) := by decide +kernel
theorem d_W_law_902 : decode b_W_law 902 = .ok (.aload_n 3, 1) := by decide +kernel
theorem d_W_law_903 : decode b_W_law 903 = .ok (.invokestatic 137, 3) := by decide +kernel
theorem d_W_law_906 : decode b_W_law 906 = .ok (.istore 6, 2) := by decide +kernel
theorem d_W_law_908 : decode b_W_law 908 = .ok (.aload_n 2, 1) := by decide +kernel
theorem d_W_law_909 : decode b_W_law 909 = .ok (.aload_n 0, 1) := by decide +kernel
theorem d_W_law_910 : decode b_W_law 910 = .ok (.iload 5, 2) := by decide +kernel
theorem d_W_law_912 : decode b_W_law 912 = .ok (.iconst 1, 1) := by decide +kernel
theorem d_W_law_913 : decode b_W_law 913 = .ok (.iadd, 1) := by decide +kernel
theorem d_W_law_914 : decode b_W_law 914 = .ok (.iaload, 1) := by decide +kernel
theorem d_W_law_915 : decode b_W_law 915 = .ok (.aload_n 0, 1) := by decide +kernel
theorem d_W_law_916 : decode b_W_law 916 = .ok (.iload 5, 2) := by decide +kernel
theorem d_W_law_918 : decode b_W_law 918 = .ok (.iconst 2, 1) := by decide +kernel
theorem d_W_law_919 : decode b_W_law 919 = .ok (.iadd, 1) := by decide +kernel
theorem d_W_law_920 : decode b_W_law 920 = .ok (.iaload, 1) := by decide +kernel
theorem d_W_law_921 : decode b_W_law 921 = .ok (.invokevirtual 139, 3) := by decide +kernel
theorem d_W_law_924 : decode b_W_law 924 = .ok (.istore 7, 2) := by decide +kernel
theorem d_W_law_926 : decode b_W_law 926 = .ok (.goto 31, 3) := by decide +kernel
theorem d_W_law_929 : decode b_W_law 929 = .ok (.aload_n 1, 1) := by decide +kernel
theorem d_W_law_930 : decode b_W_law 930 = .ok (.aload_n 0, 1) := by decide +kernel
theorem d_W_law_931 : decode b_W_law 931 = .ok (.iload 5, 2) := by decide +kernel
theorem d_W_law_933 : decode b_W_law 933 = .ok (.iconst 1, 1) := by decide +kernel
theorem d_W_law_934 : decode b_W_law 934 = .ok (.iadd, 1) := by decide +kernel
theorem d_W_law_935 : decode b_W_law 935 = .ok (.iaload, 1) := by decide +kernel
theorem d_W_law_936 : decode b_W_law 936 = .ok (.aload_n 3, 1) := by decide +kernel
theorem d_W_law_937 : decode b_W_law 937 = .ok (.invokestatic 140, 3) := by decide +kernel
theorem d_W_law_940 : decode b_W_law 940 = .ok (.istore 6, 2) := by decide +kernel
theorem d_W_law_942 : decode b_W_law 942 = .ok (.aload_n 2, 1) := by decide +kernel
theorem d_W_law_943 : decode b_W_law 943 = .ok (.aload_n 0, 1) := by decide +kernel
theorem d_W_law_944 : decode b_W_law 944 = .ok (.iload 5, 2) := by decide +kernel
theorem d_W_law_946 : decode b_W_law 946 = .ok (.iconst 1, 1) := by decide +kernel
theorem d_W_law_947 : decode b_W_law 947 = .ok (.iadd, 1) := by decide +kernel
theorem d_W_law_948 : decode b_W_law 948 = .ok (.iaload, 1) := by decide +kernel
theorem d_W_law_949 : decode b_W_law 949 = .ok (.invokevirtual 142, 3) := by decide +kernel
theorem d_W_law_952 : decode b_W_law 952 = .ok (.istore 7, 2) := by decide +kernel
theorem d_W_law_954 : decode b_W_law 954 = .ok (.goto 3, 3) := by decide +kernel
theorem d_W_law_957 : decode b_W_law 957 = .ok (.iinc 5 5, 3) := by decide +kernel
theorem d_W_law_960 : decode b_W_law 960 = .ok (.goto (-932), 3) := by decide +kernel
theorem d_W_law_963 : decode b_W_law 963 = .ok (.iconst 1, 1) := by decide +kernel
theorem d_W_law_964 : decode b_W_law 964 = .ok (.ireturn, 1) := by decide +kernel
