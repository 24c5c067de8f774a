theorem d_law_262 : decode code 262 = .ok (.iconst 4, 1) := by decide +kernel
theorem d_law_263 : decode code 263 = .ok (.iadd, 1) := by decide +kernel
theorem d_law_264 : decode code 264 = .ok (.iaload, 1) := by decide +kernel
theorem d_law_265 : decode code 265 = .ok (.aload_n 0, 1) := by decide +kernel
theorem d_law_266 : decode code 266 = .ok (.iload 4, 2) := by decide +kernel
theorem d_law_268 : decode code 268 = .ok (.iconst 5, 1) := by decide +kernel
theorem d_law_269 : decode code 269 = .ok (.iadd, 1) := by decide +kernel
theorem d_law_270 : decode code 270 = .ok (.iaload, 1) := by decide +kernel
theorem d_law_271 : decode code 271 = .ok (.invokestatic 91, 3) := by decide +kernel
theorem d_law_274 : decode code 274 = .ok (.istore 5, 2) := by decide +kernel
theorem d_law_276 : decode code 276 = .ok (.aload_n 2, 1) := by decide +kernel
theorem d_law_277 : decode code 277 = .ok (.aload_n 0, 1) := by decide +kernel
theorem d_law_278 : decode code 278 = .ok (.iload 4, 2) := by decide +kernel
theorem d_law_280 : decode code 280 = .ok (.iconst 1, 1) := by decide +kernel
theorem d_law_281 : decode code 281 = .ok (.iadd, 1) := by decide +kernel
theorem d_law_282 : decode code 282 = .ok (.iaload, 1) := by decide +kernel
theorem d_law_283 : decode code 283 = .ok (.aload_n 0, 1) := by decide +kernel
theorem d_law_284 : decode code 284 = .ok (.iload 4, 2) := by decide +kernel
theorem d_law_286 : decode code 286 = .ok (.iconst 2, 1) := by decide +kernel
theorem d_law_287 : decode code 287 = .ok (.iadd, 1) := by decide +kernel
theorem d_law_288 : decode code 288 = .ok (.iaload, 1) := by decide +kernel
theorem d_law_289 : decode code 289 = .ok (.aload_n 0, 1) := by decide +kernel
theorem d_law_290 : decode code 290 = .ok (.iload 4, 2) := by decide +kernel
theorem d_law_292 : decode code 292 = .ok (.iconst 3, 1) := by decide +kernel
theorem d_law_293 : decode code 293 = .ok (.iadd, 1) := by decide +kernel
theorem d_law_294 : decode code 294 = .ok (.iaload, 1) := by decide +kernel
theorem d_law_295 : decode code 295 = .ok (.aload_n 0, 1) := by decide +kernel
theorem d_law_296 : decode code 296 = .ok (.iload 4, 2) := by decide +kernel
theorem d_law_298 : decode code 298 = .ok (.iconst 4, 1) := by decide +kernel
theorem d_law_299 : decode code 299 = .ok (.iadd, 1) := by decide +kernel
theorem d_law_300 : decode code 300 = .ok (.iaload, 1) := by decide +kernel
theorem d_law_301 : decode code 301 = .ok (.aload_n 0, 1) := by decide +kernel
theorem d_law_302 : decode code 302 = .ok (.iload 4, 2) := by decide +kernel
theorem d_law_304 : decode code 304 = .ok (.iconst 5, 1) := by decide +kernel
theorem d_law_305 : decode code 305 = .ok (.iadd, 1) := by decide +kernel
theorem d_law_306 : decode code 306 = .ok (.iaload, 1) := by decide +kernel
theorem d_law_307 : decode code 307 = .ok (.invokevirtual 94, 3) := by decide +kernel
theorem d_law_310 : decode code 310 = .ok (.goto 240, 3) := by decide +kernel
theorem d_law_313 : decode code 313 = .ok (.aload_n 1, 1) := by decide +kernel
theorem d_law_314 : decode code 314 = .ok (.aload_n 0, 1) := by decide +kernel
theorem d_law_315 : decode code 315 = .ok (.iload 4, 2) := by decide +kernel
theorem d_law_317 : decode code 317 = .ok (.iconst 1, 1) := by decide +kernel
theorem d_law_318 : decode code 318 = .ok (.iadd, 1) := by decide +kernel
theorem d_law_319 : decode code 319 = .ok (.iaload, 1) := by decide +kernel
theorem d_law_320 : decode code 320 = .ok (.aload_n 3, 1) := by decide +kernel
theorem d_law_321 : decode code 321 = .ok (.invokestatic 95, 3) := by decide +kernel
theorem d_law_324 : decode code 324 = .ok (.istore 5, 2) := by decide +kernel
theorem d_law_326 : decode code 326 = .ok (.aload_n 2, 1) := by decide +kernel
theorem d_law_327 : decode code 327 = .ok (.aload_n 0, 1) := by decide +kernel
theorem d_law_328 : decode code 328 = .ok (.iload 4, 2) := by decide +kernel
theorem d_law_330 : decode code 330 = .ok (.iconst 1, 1) := by decide +kernel
theorem d_law_331 : decode code 331 = .ok (.iadd, 1) := by decide +kernel
theorem d_law_332 : decode code 332 = .ok (.iaload, 1) := by decide +kernel
theorem d_law_333 : decode code 333 = .ok (.invokevirtual 98, 3) := by decide +kernel
theorem d_law_336 : decode code 336 = .ok (.lstore 6, 2) := by decide +kernel
theorem d_law_338 : decode code 338 = .ok (.goto 212, 3) := by decide +kernel
theorem d_law_341 : decode code 341 = .ok (.aload_n 1, 1) := by decide +kernel
theorem d_law_342 : decode code 342 = .ok (.invokestatic 99, 3) := by decide +kernel
theorem d_law_345 : decode code 345 = .ok (.istore 5, 2) := by decide +kernel
theorem d_law_347 : decode code 347 = .ok (.aload_n 2, 1) := by decide +kernel
theorem d_law_348 : decode code 348 = .ok (.invokevirtual 102, 3) := by decide +kernel
theorem d_law_351 : decode code 351 = .ok (.goto 199, 3) := by decide +kernel
theorem d_law_354 : decode code 354 = .ok (.aload_n 1, 1) := by decide +kernel
theorem d_law_355 : decode code 355 = .ok (.invokestatic 103, 3) := by decide +kernel
theorem d_law_358 : decode code 358 = .ok (.istore 5, 2) := by decide +kernel
theorem d_law_360 : decode code 360 = .ok (.aload_n 2, 1) := by decide +kernel
theorem d_law_361 : decode code 361 = .ok (.invokevirtual 105, 3) := by decide +kernel
theorem d_law_364 : decode code 364 = .ok (.goto 186, 3) := by decide +kernel
theorem d_law_367 : decode code 367 = .ok (.aload_n 1, 1) := by decide +kernel
theorem d_law_368 : decode code 368 = .ok (.invokestatic 106, 3) := by decide +kernel
theorem d_law_371 : decode code 371 = .ok (.istore 5, 2) := by decide +kernel
theorem d_law_373 : decode code 373 = .ok (.aload_n 2, 1) := by decide +kernel
theorem d_law_374 : decode code 374 = .ok (.invokevirtual 108, 3) := by decide +kernel
theorem d_law_377 : decode code 377 = .ok (.goto 173, 3) := by decide +kernel
theorem d_law_380 : decode code 380 = .ok (.aload_n 1, 1) := by decide +kernel
theorem d_law_381 : decode code 381 = .ok (.aload_n 3, 1) := by decide +kernel
theorem d_law_382 : decode code 382 = .ok (.invokestatic 109, 3) := by decide +kernel
theorem d_law_385 : decode code 385 = .ok (.istore 5, 2) := by decide +kernel
theorem d_law_387 : decode code 387 = .ok (.aload_n 2, 1) := by decide +kernel
theorem d_law_388 : decode code 388 = .ok (.invokevirtual 111, 3) := by decide +kernel
theorem d_law_391 : decode code 391 = .ok (.istore 6, 2) := by decide +kernel
theorem d_law_393 : decode code 393 = .ok (.goto 157, 3) := by decide +kernel
theorem d_law_396 : decode code 396 = .ok (.aload_n 1, 1) := by decide +kernel
theorem d_law_397 : decode code 397 = .ok (.aload_n 0, 1) := by decide +kernel
theorem d_law_398 : decode code 398 = .ok (.iload 4, 2) := by decide +kernel
theorem d_law_400 : decode code 400 = .ok (.iconst 1, 1) := by decide +kernel
theorem d_law_401 : decode code 401 = .ok (.iadd, 1) := by decide +kernel
theorem d_law_402 : decode code 402 = .ok (.iaload, 1) := by decide +kernel
theorem d_law_403 : decode code 403 = .ok (.invokestatic 112, 3) := by decide +kernel
theorem d_law_406 : decode code 406 = .ok (.istore 5, 2) := by decide +kernel
theorem d_law_408 : decode code 408 = .ok (.aload_n 2, 1) := by decide +kernel
theorem d_law_409 : decode code 409 = .ok (.aload_n 0, 1) := by decide +kernel
theorem d_law_410 : decode code 410 = .ok (.iload 4, 2) := by decide +kernel
theorem d_law_412 : decode code 412 = .ok (.iconst 1, 1) := by decide +kernel
theorem d_law_413 : decode code 413 = .ok (.iadd, 1) := by decide +kernel
theorem d_law_414 : decode code 414 = .ok (.iaload, 1) := by decide +kernel
theorem d_law_415 : decode code 415 = .ok (.invokevirtual 115, 3) := by decide +kernel
theorem d_law_418 : decode code 418 = .ok (.goto 132, 3) := by decide +kernel
theorem d_law_421 : decode code 421 = .ok (.aload_n 1, 1) := by decide +kernel
theorem d_law_422 : decode code 422 = .ok (.aload_n 0, 1) := by decide +kernel
theorem d_law_423 : decode code 423 = .ok (.iload 4, 2) := by decide +kernel
theorem d_law_425 : decode code 425 = .ok (.iconst 1, 1) := by decide +kernel
theorem d_law_426 : decode code 426 = .ok (.iadd, 1) := by decide +kernel
theorem d_law_427 : decode code 427 = .ok (.iaload, 1) := by decide +kernel
theorem d_law_428 : decode code 428 = .ok (.invokestatic 116, 3) := by decide +kernel
theorem d_law_431 : decode code 431 = .ok (.istore 5, 2) := by decide +kernel
theorem d_law_433 : decode code 433 = .ok (.aload_n 2, 1) := by decide +kernel
theorem d_law_434 : decode code 434 = .ok (.aload_n 0, 1) := by decide +kernel
theorem d_law_435 : decode code 435 = .ok (.iload 4, 2) := by decide +kernel
theorem d_law_437 : decode code 437 = .ok (.iconst 1, 1) := by decide +kernel
theorem d_law_438 : decode code 438 = .ok (.iadd, 1) := by decide +kernel
theorem d_law_439 : decode code 439 = .ok (.iaload, 1) := by decide +kernel
theorem d_law_440 : decode code 440 = .ok (.invokevirtual 118, 3) := by decide +kernel
theorem d_law_443 : decode code 443 = .ok (.goto 107, 3) := by decide +kernel
theorem d_law_446 : decode code 446 = .ok (.aload_n 1, 1) := by decide +kernel
theorem d_law_447 : decode code 447 = .ok (.aload_n 0, 1) := by decide +kernel
theorem d_law_448 : decode code 448 = .ok (.iload 4, 2) := by decide +kernel
theorem d_law_450 : decode code 450 = .ok (.iconst 1, 1) := by decide +kernel
theorem d_law_451 : decode code 451 = .ok (.iadd, 1) := by decide +kernel
theorem d_law_452 : decode code 452 = .ok (.iaload, 1) := by decide +kernel
theorem d_law_453 : decode code 453 = .ok (.aload_n 0, 1) := by decide +kernel
theorem d_law_454 : decode code 454 = .ok (.iload 4, 2) := by decide +kernel
theorem d_law_456 : decode code 456 = .ok (.iconst 2, 1) := by decide +kernel
theorem d_law_457 : decode code 457 = .ok (.iadd, 1) := by decide +kernel
theorem d_law_458 : decode code 458 = .ok (.iaload, 1) := by decide +kernel
