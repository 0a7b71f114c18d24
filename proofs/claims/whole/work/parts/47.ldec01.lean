theorem dL_law_324 : decode code 324 = .ok (.iconst 1, 1) := by decide +kernel
theorem dL_law_325 : decode code 325 = .ok (.iadd, 1) := by decide +kernel
theorem dL_law_326 : decode code 326 = .ok (.iaload, 1) := by decide +kernel
theorem dL_law_327 : decode code 327 = .ok (.aload_n 0, 1) := by decide +kernel
theorem dL_law_328 : decode code 328 = .ok (.iload_n 3, 1) := by decide +kernel
theorem dL_law_329 : decode code 329 = .ok (.iconst 2, 1) := by decide +kernel
theorem dL_law_330 : decode code 330 = .ok (.iadd, 1) := by decide +kernel
theorem dL_law_331 : decode code 331 = .ok (.iaload, 1) := by decide +kernel
theorem dL_law_332 : decode code 332 = .ok (.invokevirtual 35, 3) := by decide +kernel
theorem dL_law_335 : decode code 335 = .ok (.aload_n 2, 1) := by decide +kernel
theorem dL_law_336 : decode code 336 = .ok (.aload_n 0, 1) := by decide +kernel
theorem dL_law_337 : decode code 337 = .ok (.iload_n 3, 1) := by decide +kernel
theorem dL_law_338 : decode code 338 = .ok (.iconst 1, 1) := by decide +kernel
theorem dL_law_339 : decode code 339 = .ok (.iadd, 1) := by decide +kernel
theorem dL_law_340 : decode code 340 = .ok (.iaload, 1) := by decide +kernel
theorem dL_law_341 : decode code 341 = .ok (.aload_n 0, 1) := by decide +kernel
theorem dL_law_342 : decode code 342 = .ok (.iload_n 3, 1) := by decide +kernel
theorem dL_law_343 : decode code 343 = .ok (.iconst 2, 1) := by decide +kernel
theorem dL_law_344 : decode code 344 = .ok (.iadd, 1) := by decide +kernel
theorem dL_law_345 : decode code 345 = .ok (.iaload, 1) := by decide +kernel
theorem dL_law_346 : decode code 346 = .ok (.invokevirtual 38, 3) := by decide +kernel
theorem dL_law_349 : decode code 349 = .ok (.if_icmp .eq 1020, 3) := by decide +kernel
theorem dL_law_352 : decode code 352 = .ok (.iconst 0, 1) := by decide +kernel
theorem dL_law_353 : decode code 353 = .ok (.ireturn, 1) := by decide +kernel
theorem dL_law_354 : decode code 354 = .ok (.aload_n 1, 1) := by decide +kernel
theorem dL_law_355 : decode code 355 = .ok (.aload_n 0, 1) := by decide +kernel
theorem dL_law_356 : decode code 356 = .ok (.iload_n 3, 1) := by decide +kernel
theorem dL_law_357 : decode code 357 = .ok (.iconst 1, 1) := by decide +kernel
theorem dL_law_358 : decode code 358 = .ok (.iadd, 1) := by decide +kernel
theorem dL_law_359 : decode code 359 = .ok (.iaload, 1) := by decide +kernel
theorem dL_law_360 : decode code 360 = .ok (.aload_n 0, 1) := by decide +kernel
theorem dL_law_361 : decode code 361 = .ok (.iload_n 3, 1) := by decide +kernel
theorem dL_law_362 : decode code 362 = .ok (.iconst 2, 1) := by decide +kernel
theorem dL_law_363 : decode code 363 = .ok (.iadd, 1) := by decide +kernel
theorem dL_law_364 : decode code 364 = .ok (.iaload, 1) := by decide +kernel
theorem dL_law_365 : decode code 365 = .ok (.invokevirtual 39, 3) := by decide +kernel
theorem dL_law_368 : decode code 368 = .ok (.aload_n 2, 1) := by decide +kernel
theorem dL_law_369 : decode code 369 = .ok (.aload_n 0, 1) := by decide +kernel
theorem dL_law_370 : decode code 370 = .ok (.iload_n 3, 1) := by decide +kernel
theorem dL_law_371 : decode code 371 = .ok (.iconst 1, 1) := by decide +kernel
theorem dL_law_372 : decode code 372 = .ok (.iadd, 1) := by decide +kernel
theorem dL_law_373 : decode code 373 = .ok (.iaload, 1) := by decide +kernel
theorem dL_law_374 : decode code 374 = .ok (.aload_n 0, 1) := by decide +kernel
theorem dL_law_375 : decode code 375 = .ok (.iload_n 3, 1) := by decide +kernel
theorem dL_law_376 : decode code 376 = .ok (.iconst 2, 1) := by decide +kernel
theorem dL_law_377 : decode code 377 = .ok (.iadd, 1) := by decide +kernel
theorem dL_law_378 : decode code 378 = .ok (.iaload, 1) := by decide +kernel
theorem dL_law_379 : decode code 379 = .ok (.invokevirtual 42, 3) := by decide +kernel
theorem dL_law_382 : decode code 382 = .ok (.if_icmp .eq 987, 3) := by decide +kernel
theorem dL_law_385 : decode code 385 = .ok (.iconst 0, 1) := by decide +kernel
theorem dL_law_386 : decode code 386 = .ok (.ireturn, 1) := by decide +kernel
theorem dL_law_387 : decode code 387 = .ok (.aload_n 1, 1) := by decide +kernel
theorem dL_law_388 : decode code 388 = .ok (.aload_n 0, 1) := by decide +kernel
theorem dL_law_389 : decode code 389 = .ok (.iload_n 3, 1) := by decide +kernel
theorem dL_law_390 : decode code 390 = .ok (.iconst 1, 1) := by decide +kernel
theorem dL_law_391 : decode code 391 = .ok (.iadd, 1) := by decide +kernel
theorem dL_law_392 : decode code 392 = .ok (.iaload, 1) := by decide +kernel
theorem dL_law_393 : decode code 393 = .ok (.aload_n 0, 1) := by decide +kernel
theorem dL_law_394 : decode code 394 = .ok (.iload_n 3, 1) := by decide +kernel
theorem dL_law_395 : decode code 395 = .ok (.iconst 2, 1) := by decide +kernel
theorem dL_law_396 : decode code 396 = .ok (.iadd, 1) := by decide +kernel
theorem dL_law_397 : decode code 397 = .ok (.iaload, 1) := by decide +kernel
theorem dL_law_398 : decode code 398 = .ok (.invokevirtual 43, 3) := by decide +kernel
theorem dL_law_401 : decode code 401 = .ok (.aload_n 2, 1) := by decide +kernel
theorem dL_law_402 : decode code 402 = .ok (.aload_n 0, 1) := by decide +kernel
theorem dL_law_403 : decode code 403 = .ok (.iload_n 3, 1) := by decide +kernel
theorem dL_law_404 : decode code 404 = .ok (.iconst 1, 1) := by decide +kernel
theorem dL_law_405 : decode code 405 = .ok (.iadd, 1) := by decide +kernel
theorem dL_law_406 : decode code 406 = .ok (.iaload, 1) := by decide +kernel
theorem dL_law_407 : decode code 407 = .ok (.aload_n 0, 1) := by decide +kernel
theorem dL_law_408 : decode code 408 = .ok (.iload_n 3, 1) := by decide +kernel
theorem dL_law_409 : decode code 409 = .ok (.iconst 2, 1) := by decide +kernel
theorem dL_law_410 : decode code 410 = .ok (.iadd, 1) := by decide +kernel
theorem dL_law_411 : decode code 411 = .ok (.iaload, 1) := by decide +kernel
theorem dL_law_412 : decode code 412 = .ok (.invokevirtual 46, 3) := by decide +kernel
theorem dL_law_415 : decode code 415 = .ok (.if_icmp .eq 954, 3) := by decide +kernel
theorem dL_law_418 : decode code 418 = .ok (.iconst 0, 1) := by decide +kernel
theorem dL_law_419 : decode code 419 = .ok (.ireturn, 1) := by decide +kernel
theorem dL_law_420 : decode code 420 = .ok (.aload_n 1, 1) := by decide +kernel
theorem dL_law_421 : decode code 421 = .ok (.aload_n 0, 1) := by decide +kernel
theorem dL_law_422 : decode code 422 = .ok (.iload_n 3, 1) := by decide +kernel
theorem dL_law_423 : decode code 423 = .ok (.iconst 1, 1) := by decide +kernel
theorem dL_law_424 : decode code 424 = .ok (.iadd, 1) := by decide +kernel
theorem dL_law_425 : decode code 425 = .ok (.iaload, 1) := by decide +kernel
theorem dL_law_426 : decode code 426 = .ok (.aload_n 0, 1) := by decide +kernel
theorem dL_law_427 : decode code 427 = .ok (.iload_n 3, 1) := by decide +kernel
theorem dL_law_428 : decode code 428 = .ok (.iconst 2, 1) := by decide +kernel
theorem dL_law_429 : decode code 429 = .ok (.iadd, 1) := by decide +kernel
theorem dL_law_430 : decode code 430 = .ok (.iaload, 1) := by decide +kernel
theorem dL_law_431 : decode code 431 = .ok (.invokevirtual 47, 3) := by decide +kernel
theorem dL_law_434 : decode code 434 = .ok (.aload_n 2, 1) := by decide +kernel
theorem dL_law_435 : decode code 435 = .ok (.aload_n 0, 1) := by decide +kernel
theorem dL_law_436 : decode code 436 = .ok (.iload_n 3, 1) := by decide +kernel
theorem dL_law_437 : decode code 437 = .ok (.iconst 1, 1) := by decide +kernel
theorem dL_law_438 : decode code 438 = .ok (.iadd, 1) := by decide +kernel
theorem dL_law_439 : decode code 439 = .ok (.iaload, 1) := by decide +kernel
theorem dL_law_440 : decode code 440 = .ok (.aload_n 0, 1) := by decide +kernel
theorem dL_law_441 : decode code 441 = .ok (.iload_n 3, 1) := by decide +kernel
theorem dL_law_442 : decode code 442 = .ok (.iconst 2, 1) := by decide +kernel
theorem dL_law_443 : decode code 443 = .ok (.iadd, 1) := by decide +kernel
theorem dL_law_444 : decode code 444 = .ok (.iaload, 1) := by decide +kernel
theorem dL_law_445 : decode code 445 = .ok (.invokevirtual 50, 3) := by decide +kernel
theorem dL_law_448 : decode code 448 = .ok (.if_icmp .eq 921, 3) := by decide +kernel
theorem dL_law_451 : decode code 451 = .ok (.iconst 0, 1) := by decide +kernel
theorem dL_law_452 : decode code 452 = .ok (.ireturn, 1) := by decide +kernel
theorem dL_law_453 : decode code 453 = .ok (.aload_n 1, 1) := by decide +kernel
theorem dL_law_454 : decode code 454 = .ok (.aload_n 0, 1) := by decide +kernel
theorem dL_law_455 : decode code 455 = .ok (.iload_n 3, 1) := by decide +kernel
theorem dL_law_456 : decode code 456 = .ok (.iconst 1, 1) := by decide +kernel
theorem dL_law_457 : decode code 457 = .ok (.iadd, 1) := by decide +kernel
theorem dL_law_458 : decode code 458 = .ok (.iaload, 1) := by decide +kernel
theorem dL_law_459 : decode code 459 = .ok (.invokevirtual 51, 3) := by decide +kernel
theorem dL_law_462 : decode code 462 = .ok (.aload_n 2, 1) := by decide +kernel
theorem dL_law_463 : decode code 463 = .ok (.aload_n 0, 1) := by decide +kernel
theorem dL_law_464 : decode code 464 = .ok (.iload_n 3, 1) := by decide +kernel
theorem dL_law_465 : decode code 465 = .ok (.iconst 1, 1) := by decide +kernel
theorem dL_law_466 : decode code 466 = .ok (.iadd, 1) := by decide +kernel
theorem dL_law_467 : decode code 467 = .ok (.iaload, 1) := by decide +kernel
theorem dL_law_468 : decode code 468 = .ok (.invokevirtual 54, 3) := by decide +kernel
theorem dL_law_471 : decode code 471 = .ok (.if_icmp .eq 898, 3) := by decide +kernel
