theorem dL_law_288 : decode bL_law 288 = .ok (.iconst 1, 1) := by decide +kernel
theorem dL_law_289 : decode bL_law 289 = .ok (.iadd, 1) := by decide +kernel
theorem dL_law_290 : decode bL_law 290 = .ok (.iaload, 1) := by decide +kernel
theorem dL_law_291 : decode bL_law 291 = .ok (.invokevirtual 66, 3) := by decide +kernel
theorem dL_law_294 : decode bL_law 294 = .ok (.aload_n 2, 1) := by decide +kernel
theorem dL_law_295 : decode bL_law 295 = .ok (.aload_n 0, 1) := by decide +kernel
theorem dL_law_296 : decode bL_law 296 = .ok (.iload 4, 2) := by decide +kernel
theorem dL_law_298 : decode bL_law 298 = .ok (.iconst 1, 1) := by decide +kernel
theorem dL_law_299 : decode bL_law 299 = .ok (.iadd, 1) := by decide +kernel
theorem dL_law_300 : decode bL_law 300 = .ok (.iaload, 1) := by decide +kernel
theorem dL_law_301 : decode bL_law 301 = .ok (.invokevirtual 69, 3) := by decide +kernel
theorem dL_law_304 : decode bL_law 304 = .ok (.if_icmp .eq 600, 3) := by decide +kernel
theorem dL_law_307 : decode bL_law 307 = .ok (.iconst 0, 1) := by decide +kernel
theorem dL_law_308 : decode bL_law 308 = .ok (.ireturn, 1) := by decide +kernel
theorem dL_law_309 : decode bL_law 309 = .ok (.aload_n 1, 1) := by decide +kernel
theorem dL_law_310 : decode bL_law 310 = .ok (.aload_n 0, 1) := by decide +kernel
theorem dL_law_311 : decode bL_law 311 = .ok (.iload 4, 2) := by decide +kernel
theorem dL_law_313 : decode bL_law 313 = .ok (.iconst 1, 1) := by decide +kernel
theorem dL_law_314 : decode bL_law 314 = .ok (.iadd, 1) := by decide +kernel
theorem dL_law_315 : decode bL_law 315 = .ok (.iaload, 1) := by decide +kernel
theorem dL_law_316 : decode bL_law 316 = .ok (.invokevirtual 70, 3) := by decide +kernel
theorem dL_law_319 : decode bL_law 319 = .ok (.aload_n 2, 1) := by decide +kernel
theorem dL_law_320 : decode bL_law 320 = .ok (.aload_n 0, 1) := by decide +kernel
theorem dL_law_321 : decode bL_law 321 = .ok (.iload 4, 2) := by decide +kernel
theorem dL_law_323 : decode bL_law 323 = .ok (.iconst 1, 1) := by decide +kernel
theorem dL_law_324 : decode bL_law 324 = .ok (.iadd, 1) := by decide +kernel
theorem dL_law_325 : decode bL_law 325 = .ok (.iaload, 1) := by decide +kernel
theorem dL_law_326 : decode bL_law 326 = .ok (.invokevirtual 73, 3) := by decide +kernel
theorem dL_law_329 : decode bL_law 329 = .ok (.if_icmp .eq 575, 3) := by decide +kernel
theorem dL_law_332 : decode bL_law 332 = .ok (.iconst 0, 1) := by decide +kernel
theorem dL_law_333 : decode bL_law 333 = .ok (.ireturn, 1) := by decide +kernel
theorem dL_law_334 : decode bL_law 334 = .ok (.aload_n 1, 1) := by decide +kernel
theorem dL_law_335 : decode bL_law 335 = .ok (.aload_n 0, 1) := by decide +kernel
theorem dL_law_336 : decode bL_law 336 = .ok (.iload 4, 2) := by decide +kernel
theorem dL_law_338 : decode bL_law 338 = .ok (.iconst 1, 1) := by decide +kernel
theorem dL_law_339 : decode bL_law 339 = .ok (.iadd, 1) := by decide +kernel
theorem dL_law_340 : decode bL_law 340 = .ok (.iaload, 1) := by decide +kernel
theorem dL_law_341 : decode bL_law 341 = .ok (.invokevirtual 74, 3) := by decide +kernel
theorem dL_law_344 : decode bL_law 344 = .ok (.aload_n 2, 1) := by decide +kernel
theorem dL_law_345 : decode bL_law 345 = .ok (.aload_n 0, 1) := by decide +kernel
theorem dL_law_346 : decode bL_law 346 = .ok (.iload 4, 2) := by decide +kernel
theorem dL_law_348 : decode bL_law 348 = .ok (.iconst 1, 1) := by decide +kernel
theorem dL_law_349 : decode bL_law 349 = .ok (.iadd, 1) := by decide +kernel
theorem dL_law_350 : decode bL_law 350 = .ok (.iaload, 1) := by decide +kernel
theorem dL_law_351 : decode bL_law 351 = .ok (.invokevirtual 78, 3) := by decide +kernel
theorem dL_law_354 : decode bL_law 354 = .ok (.if_icmp .eq 550, 3) := by decide +kernel
theorem dL_law_357 : decode bL_law 357 = .ok (.iconst 0, 1) := by decide +kernel
theorem dL_law_358 : decode bL_law 358 = .ok (.ireturn, 1) := by decide +kernel
theorem dL_law_359 : decode bL_law 359 = .ok (.aload_n 1, 1) := by decide +kernel
theorem dL_law_360 : decode bL_law 360 = .ok (.aload_n 0, 1) := by decide +kernel
theorem dL_law_361 : decode bL_law 361 = .ok (.iload 4, 2) := by decide +kernel
theorem dL_law_363 : decode bL_law 363 = .ok (.iconst 1, 1) := by decide +kernel
theorem dL_law_364 : decode bL_law 364 = .ok (.iadd, 1) := by decide +kernel
theorem dL_law_365 : decode bL_law 365 = .ok (.iaload, 1) := by decide +kernel
theorem dL_law_366 : decode bL_law 366 = .ok (.aload_n 0, 1) := by decide +kernel
theorem dL_law_367 : decode bL_law 367 = .ok (.iload 4, 2) := by decide +kernel
theorem dL_law_369 : decode bL_law 369 = .ok (.iconst 2, 1) := by decide +kernel
theorem dL_law_370 : decode bL_law 370 = .ok (.iadd, 1) := by decide +kernel
theorem dL_law_371 : decode bL_law 371 = .ok (.iaload, 1) := by decide +kernel
theorem dL_law_372 : decode bL_law 372 = .ok (.aload_n 0, 1) := by decide +kernel
theorem dL_law_373 : decode bL_law 373 = .ok (.iload 4, 2) := by decide +kernel
theorem dL_law_375 : decode bL_law 375 = .ok (.iconst 3, 1) := by decide +kernel
theorem dL_law_376 : decode bL_law 376 = .ok (.iadd, 1) := by decide +kernel
theorem dL_law_377 : decode bL_law 377 = .ok (.iaload, 1) := by decide +kernel
theorem dL_law_378 : decode bL_law 378 = .ok (.aload_n 0, 1) := by decide +kernel
theorem dL_law_379 : decode bL_law 379 = .ok (.iload 4, 2) := by decide +kernel
theorem dL_law_381 : decode bL_law 381 = .ok (.iconst 4, 1) := by decide +kernel
theorem dL_law_382 : decode bL_law 382 = .ok (.iadd, 1) := by decide +kernel
theorem dL_law_383 : decode bL_law 383 = .ok (.iaload, 1) := by decide +kernel
theorem dL_law_384 : decode bL_law 384 = .ok (.invokestatic 79, 3) := by decide +kernel
theorem dL_law_387 : decode bL_law 387 = .ok (.istore 5, 2) := by decide +kernel
theorem dL_law_389 : decode bL_law 389 = .ok (.aload_n 2, 1) := by decide +kernel
theorem dL_law_390 : decode bL_law 390 = .ok (.aload_n 0, 1) := by decide +kernel
theorem dL_law_391 : decode bL_law 391 = .ok (.iload 4, 2) := by decide +kernel
theorem dL_law_393 : decode bL_law 393 = .ok (.iconst 1, 1) := by decide +kernel
theorem dL_law_394 : decode bL_law 394 = .ok (.iadd, 1) := by decide +kernel
theorem dL_law_395 : decode bL_law 395 = .ok (.iaload, 1) := by decide +kernel
theorem dL_law_396 : decode bL_law 396 = .ok (.aload_n 0, 1) := by decide +kernel
theorem dL_law_397 : decode bL_law 397 = .ok (.iload 4, 2) := by decide +kernel
theorem dL_law_399 : decode bL_law 399 = .ok (.iconst 2, 1) := by decide +kernel
theorem dL_law_400 : decode bL_law 400 = .ok (.iadd, 1) := by decide +kernel
theorem dL_law_401 : decode bL_law 401 = .ok (.iaload, 1) := by decide +kernel
theorem dL_law_402 : decode bL_law 402 = .ok (.aload_n 0, 1) := by decide +kernel
theorem dL_law_403 : decode bL_law 403 = .ok (.iload 4, 2) := by decide +kernel
theorem dL_law_405 : decode bL_law 405 = .ok (.iconst 3, 1) := by decide +kernel
theorem dL_law_406 : decode bL_law 406 = .ok (.iadd, 1) := by decide +kernel
theorem dL_law_407 : decode bL_law 407 = .ok (.iaload, 1) := by decide +kernel
theorem dL_law_408 : decode bL_law 408 = .ok (.aload_n 0, 1) := by decide +kernel
theorem dL_law_409 : decode bL_law 409 = .ok (.iload 4, 2) := by decide +kernel
theorem dL_law_411 : decode bL_law 411 = .ok (.iconst 4, 1) := by decide +kernel
theorem dL_law_412 : decode bL_law 412 = .ok (.iadd, 1) := by decide +kernel
theorem dL_law_413 : decode bL_law 413 = .ok (.iaload, 1) := by decide +kernel
theorem dL_law_414 : decode bL_law 414 = .ok (.invokevirtual 82, 3) := by decide +kernel
theorem dL_law_417 : decode bL_law 417 = .ok (.aload_n 2, 1) := by decide +kernel
theorem dL_law_418 : decode bL_law 418 = .ok (.invokevirtual 57, 3) := by decide +kernel
theorem dL_law_421 : decode bL_law 421 = .ok (.iload 5, 2) := by decide +kernel
theorem dL_law_423 : decode bL_law 423 = .ok (.if_icmp .eq 5, 3) := by decide +kernel
theorem dL_law_426 : decode bL_law 426 = .ok (.iconst 0, 1) := by decide +kernel
theorem dL_law_427 : decode bL_law 427 = .ok (.ireturn, 1) := by decide +kernel
theorem dL_law_428 : decode bL_law 428 = .ok (.goto 476, 3) := by decide +kernel
theorem dL_law_431 : decode bL_law 431 = .ok (.aload_n 1, 1) := by decide +kernel
theorem dL_law_432 : decode bL_law 432 = .ok (.aload_n 0, 1) := by decide +kernel
theorem dL_law_433 : decode bL_law 433 = .ok (.iload 4, 2) := by decide +kernel
theorem dL_law_435 : decode bL_law 435 = .ok (.iconst 1, 1) := by decide +kernel
theorem dL_law_436 : decode bL_law 436 = .ok (.iadd, 1) := by decide +kernel
theorem dL_law_437 : decode bL_law 437 = .ok (.iaload, 1) := by decide +kernel
theorem dL_law_438 : decode bL_law 438 = .ok (.aload_n 0, 1) := by decide +kernel
theorem dL_law_439 : decode bL_law 439 = .ok (.iload 4, 2) := by decide +kernel
theorem dL_law_441 : decode bL_law 441 = .ok (.iconst 2, 1) := by decide +kernel
theorem dL_law_442 : decode bL_law 442 = .ok (.iadd, 1) := by decide +kernel
theorem dL_law_443 : decode bL_law 443 = .ok (.iaload, 1) := by decide +kernel
theorem dL_law_444 : decode bL_law 444 = .ok (.aload_n 0, 1) := by decide +kernel
theorem dL_law_445 : decode bL_law 445 = .ok (.iload 4, 2) := by decide +kernel
theorem dL_law_447 : decode bL_law 447 = .ok (.iconst 3, 1) := by decide +kernel
theorem dL_law_448 : decode bL_law 448 = .ok (.iadd, 1) := by decide +kernel
theorem dL_law_449 : decode bL_law 449 = .ok (.iaload, 1) := by decide +kernel
theorem dL_law_450 : decode bL_law 450 = .ok (.aload_n 0, 1) := by decide +kernel
theorem dL_law_451 : decode bL_law 451 = .ok (.iload 4, 2) := by decide +kernel
theorem dL_law_453 : decode bL_law 453 = .ok (.iconst 4, 1) := by decide +kernel
theorem dL_law_454 : decode bL_law 454 = .ok (.iadd, 1) := by decide +kernel
theorem dL_law_455 : decode bL_law 455 = .ok (.iaload, 1) := by decide +kernel
theorem dL_law_456 : decode bL_law 456 = .ok (.invokevirtual 83, 3) := by decide +kernel
theorem dL_law_459 : decode bL_law 459 = .ok (.aload_n 2, 1) := by decide +kernel
theorem dL_law_460 : decode bL_law 460 = .ok (.aload_n 0, 1) := by decide +kernel
theorem dL_law_461 : decode bL_law 461 = .ok (.iload 4, 2) := by decide +kernel
theorem dL_law_463 : decode bL_law 463 = .ok (.iconst 1, 1) := by decide +kernel
theorem dL_law_464 : decode bL_law 464 = .ok (.iadd, 1) := by decide +kernel
theorem dL_law_465 : decode bL_law 465 = .ok (.iaload, 1) := by decide +kernel
theorem dL_law_466 : decode bL_law 466 = .ok (.aload_n 0, 1) := by decide +kernel
theorem dL_law_467 : decode bL_law 467 = .ok (.iload 4, 2) := by decide +kernel
theorem dL_law_469 : decode bL_law 469 = .ok (.iconst 2, 1) := by decide +kernel
theorem dL_law_470 : decode bL_law 470 = .ok (.iadd, 1) := by decide +kernel
theorem dL_law_471 : decode bL_law 471 = .ok (.iaload, 1) := by decide +kernel
theorem dL_law_472 : decode bL_law 472 = .ok (.aload_n 0, 1) := by decide +kernel
theorem dL_law_473 : decode bL_law 473 = .ok (.iload 4, 2) := by decide +kernel
theorem dL_law_475 : decode bL_law 475 = .ok (.iconst 3, 1) := by decide +kernel
theorem dL_law_476 : decode bL_law 476 = .ok (.iadd, 1) := by decide +kernel
theorem dL_law_477 : decode bL_law 477 = .ok (.iaload, 1) := by decide +kernel
theorem dL_law_478 : decode bL_law 478 = .ok (.aload_n 0, 1) := by decide +kernel
theorem dL_law_479 : decode bL_law 479 = .ok (.iload 4, 2) := by decide +kernel
