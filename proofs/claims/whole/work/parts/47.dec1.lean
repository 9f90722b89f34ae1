theorem dL_316 : decode code 316 = .ok (.iconst 1, 1) := by decide +kernel
theorem dL_317 : decode code 317 = .ok (.iadd, 1) := by decide +kernel
theorem dL_318 : decode code 318 = .ok (.iaload, 1) := by decide +kernel
theorem dL_319 : decode code 319 = .ok (.aload_n 0, 1) := by decide +kernel
theorem dL_320 : decode code 320 = .ok (.iload_n 3, 1) := by decide +kernel
theorem dL_321 : decode code 321 = .ok (.iconst 2, 1) := by decide +kernel
theorem dL_322 : decode code 322 = .ok (.iadd, 1) := by decide +kernel
theorem dL_323 : decode code 323 = .ok (.iaload, 1) := by decide +kernel
theorem dL_324 : decode code 324 = .ok (.invokevirtual 38, 3) := by decide +kernel
theorem dL_327 : decode code 327 = .ok (.aload_n 2, 1) := by decide +kernel
theorem dL_328 : decode code 328 = .ok (.aload_n 0, 1) := by decide +kernel
theorem dL_329 : decode code 329 = .ok (.iload_n 3, 1) := by decide +kernel
theorem dL_330 : decode code 330 = .ok (.iconst 1, 1) := by decide +kernel
theorem dL_331 : decode code 331 = .ok (.iadd, 1) := by decide +kernel
theorem dL_332 : decode code 332 = .ok (.iaload, 1) := by decide +kernel
theorem dL_333 : decode code 333 = .ok (.aload_n 0, 1) := by decide +kernel
theorem dL_334 : decode code 334 = .ok (.iload_n 3, 1) := by decide +kernel
theorem dL_335 : decode code 335 = .ok (.iconst 2, 1) := by decide +kernel
theorem dL_336 : decode code 336 = .ok (.iadd, 1) := by decide +kernel
theorem dL_337 : decode code 337 = .ok (.iaload, 1) := by decide +kernel
theorem dL_338 : decode code 338 = .ok (.invokevirtual 41, 3) := by decide +kernel
theorem dL_341 : decode code 341 = .ok (.if_icmp .eq 562, 3) := by decide +kernel
theorem dL_344 : decode code 344 = .ok (.iconst 0, 1) := by decide +kernel
theorem dL_345 : decode code 345 = .ok (.ireturn, 1) := by decide +kernel
theorem dL_346 : decode code 346 = .ok (.aload_n 1, 1) := by decide +kernel
theorem dL_347 : decode code 347 = .ok (.aload_n 0, 1) := by decide +kernel
theorem dL_348 : decode code 348 = .ok (.iload_n 3, 1) := by decide +kernel
theorem dL_349 : decode code 349 = .ok (.iconst 1, 1) := by decide +kernel
theorem dL_350 : decode code 350 = .ok (.iadd, 1) := by decide +kernel
theorem dL_351 : decode code 351 = .ok (.iaload, 1) := by decide +kernel
theorem dL_352 : decode code 352 = .ok (.aload_n 0, 1) := by decide +kernel
theorem dL_353 : decode code 353 = .ok (.iload_n 3, 1) := by decide +kernel
theorem dL_354 : decode code 354 = .ok (.iconst 2, 1) := by decide +kernel
theorem dL_355 : decode code 355 = .ok (.iadd, 1) := by decide +kernel
theorem dL_356 : decode code 356 = .ok (.iaload, 1) := by decide +kernel
theorem dL_357 : decode code 357 = .ok (.invokevirtual 42, 3) := by decide +kernel
theorem dL_360 : decode code 360 = .ok (.aload_n 2, 1) := by decide +kernel
theorem dL_361 : decode code 361 = .ok (.aload_n 0, 1) := by decide +kernel
theorem dL_362 : decode code 362 = .ok (.iload_n 3, 1) := by decide +kernel
theorem dL_363 : decode code 363 = .ok (.iconst 1, 1) := by decide +kernel
theorem dL_364 : decode code 364 = .ok (.iadd, 1) := by decide +kernel
theorem dL_365 : decode code 365 = .ok (.iaload, 1) := by decide +kernel
theorem dL_366 : decode code 366 = .ok (.aload_n 0, 1) := by decide +kernel
theorem dL_367 : decode code 367 = .ok (.iload_n 3, 1) := by decide +kernel
theorem dL_368 : decode code 368 = .ok (.iconst 2, 1) := by decide +kernel
theorem dL_369 : decode code 369 = .ok (.iadd, 1) := by decide +kernel
theorem dL_370 : decode code 370 = .ok (.iaload, 1) := by decide +kernel
theorem dL_371 : decode code 371 = .ok (.invokevirtual 45, 3) := by decide +kernel
theorem dL_374 : decode code 374 = .ok (.if_icmp .eq 529, 3) := by decide +kernel
theorem dL_377 : decode code 377 = .ok (.iconst 0, 1) := by decide +kernel
theorem dL_378 : decode code 378 = .ok (.ireturn, 1) := by decide +kernel
theorem dL_379 : decode code 379 = .ok (.aload_n 1, 1) := by decide +kernel
theorem dL_380 : decode code 380 = .ok (.aload_n 0, 1) := by decide +kernel
theorem dL_381 : decode code 381 = .ok (.iload_n 3, 1) := by decide +kernel
theorem dL_382 : decode code 382 = .ok (.iconst 1, 1) := by decide +kernel
theorem dL_383 : decode code 383 = .ok (.iadd, 1) := by decide +kernel
theorem dL_384 : decode code 384 = .ok (.iaload, 1) := by decide +kernel
theorem dL_385 : decode code 385 = .ok (.aload_n 0, 1) := by decide +kernel
theorem dL_386 : decode code 386 = .ok (.iload_n 3, 1) := by decide +kernel
theorem dL_387 : decode code 387 = .ok (.iconst 2, 1) := by decide +kernel
theorem dL_388 : decode code 388 = .ok (.iadd, 1) := by decide +kernel
theorem dL_389 : decode code 389 = .ok (.iaload, 1) := by decide +kernel
theorem dL_390 : decode code 390 = .ok (.invokevirtual 46, 3) := by decide +kernel
theorem dL_393 : decode code 393 = .ok (.aload_n 2, 1) := by decide +kernel
theorem dL_394 : decode code 394 = .ok (.aload_n 0, 1) := by decide +kernel
theorem dL_395 : decode code 395 = .ok (.iload_n 3, 1) := by decide +kernel
theorem dL_396 : decode code 396 = .ok (.iconst 1, 1) := by decide +kernel
theorem dL_397 : decode code 397 = .ok (.iadd, 1) := by decide +kernel
theorem dL_398 : decode code 398 = .ok (.iaload, 1) := by decide +kernel
theorem dL_399 : decode code 399 = .ok (.aload_n 0, 1) := by decide +kernel
theorem dL_400 : decode code 400 = .ok (.iload_n 3, 1) := by decide +kernel
theorem dL_401 : decode code 401 = .ok (.iconst 2, 1) := by decide +kernel
theorem dL_402 : decode code 402 = .ok (.iadd, 1) := by decide +kernel
theorem dL_403 : decode code 403 = .ok (.iaload, 1) := by decide +kernel
theorem dL_404 : decode code 404 = .ok (.invokevirtual 49, 3) := by decide +kernel
theorem dL_407 : decode code 407 = .ok (.if_icmp .eq 496, 3) := by decide +kernel
theorem dL_410 : decode code 410 = .ok (.iconst 0, 1) := by decide +kernel
theorem dL_411 : decode code 411 = .ok (.ireturn, 1) := by decide +kernel
theorem dL_412 : decode code 412 = .ok (.aload_n 1, 1) := by decide +kernel
theorem dL_413 : decode code 413 = .ok (.aload_n 0, 1) := by decide +kernel
theorem dL_414 : decode code 414 = .ok (.iload_n 3, 1) := by decide +kernel
theorem dL_415 : decode code 415 = .ok (.iconst 1, 1) := by decide +kernel
theorem dL_416 : decode code 416 = .ok (.iadd, 1) := by decide +kernel
theorem dL_417 : decode code 417 = .ok (.iaload, 1) := by decide +kernel
theorem dL_418 : decode code 418 = .ok (.aload_n 0, 1) := by decide +kernel
theorem dL_419 : decode code 419 = .ok (.iload_n 3, 1) := by decide +kernel
theorem dL_420 : decode code 420 = .ok (.iconst 2, 1) := by decide +kernel
theorem dL_421 : decode code 421 = .ok (.iadd, 1) := by decide +kernel
theorem dL_422 : decode code 422 = .ok (.iaload, 1) := by decide +kernel
theorem dL_423 : decode code 423 = .ok (.invokevirtual 50, 3) := by decide +kernel
theorem dL_426 : decode code 426 = .ok (.aload_n 2, 1) := by decide +kernel
theorem dL_427 : decode code 427 = .ok (.aload_n 0, 1) := by decide +kernel
theorem dL_428 : decode code 428 = .ok (.iload_n 3, 1) := by decide +kernel
theorem dL_429 : decode code 429 = .ok (.iconst 1, 1) := by decide +kernel
theorem dL_430 : decode code 430 = .ok (.iadd, 1) := by decide +kernel
theorem dL_431 : decode code 431 = .ok (.iaload, 1) := by decide +kernel
theorem dL_432 : decode code 432 = .ok (.aload_n 0, 1) := by decide +kernel
theorem dL_433 : decode code 433 = .ok (.iload_n 3, 1) := by decide +kernel
theorem dL_434 : decode code 434 = .ok (.iconst 2, 1) := by decide +kernel
theorem dL_435 : decode code 435 = .ok (.iadd, 1) := by decide +kernel
theorem dL_436 : decode code 436 = .ok (.iaload, 1) := by decide +kernel
theorem dL_437 : decode code 437 = .ok (.invokevirtual 53, 3) := by decide +kernel
theorem dL_440 : decode code 440 = .ok (.if_icmp .eq 463, 3) := by decide +kernel
theorem dL_443 : decode code 443 = .ok (.iconst 0, 1) := by decide +kernel
theorem dL_444 : decode code 444 = .ok (.ireturn, 1) := by decide +kernel
theorem dL_445 : decode code 445 = .ok (.aload_n 1, 1) := by decide +kernel
theorem dL_446 : decode code 446 = .ok (.aload_n 0, 1) := by decide +kernel
theorem dL_447 : decode code 447 = .ok (.iload_n 3, 1) := by decide +kernel
theorem dL_448 : decode code 448 = .ok (.iconst 1, 1) := by decide +kernel
theorem dL_449 : decode code 449 = .ok (.iadd, 1) := by decide +kernel
theorem dL_450 : decode code 450 = .ok (.iaload, 1) := by decide +kernel
theorem dL_451 : decode code 451 = .ok (.aload_n 0, 1) := by decide +kernel
theorem dL_452 : decode code 452 = .ok (.iload_n 3, 1) := by decide +kernel
theorem dL_453 : decode code 453 = .ok (.iconst 2, 1) := by decide +kernel
theorem dL_454 : decode code 454 = .ok (.iadd, 1) := by decide +kernel
theorem dL_455 : decode code 455 = .ok (.iaload, 1) := by decide +kernel
theorem dL_456 : decode code 456 = .ok (.invokevirtual 54, 3) := by decide +kernel
theorem dL_459 : decode code 459 = .ok (.aload_n 2, 1) := by decide +kernel
theorem dL_460 : decode code 460 = .ok (.aload_n 0, 1) := by decide +kernel
theorem dL_461 : decode code 461 = .ok (.iload_n 3, 1) := by decide +kernel
theorem dL_462 : decode code 462 = .ok (.iconst 1, 1) := by decide +kernel
theorem dL_463 : decode code 463 = .ok (.iadd, 1) := by decide +kernel
theorem dL_464 : decode code 464 = .ok (.iaload, 1) := by decide +kernel
theorem dL_465 : decode code 465 = .ok (.aload_n 0, 1) := by decide +kernel
theorem dL_466 : decode code 466 = .ok (.iload_n 3, 1) := by decide +kernel
theorem dL_467 : decode code 467 = .ok (.iconst 2, 1) := by decide +kernel
theorem dL_468 : decode code 468 = .ok (.iadd, 1) := by decide +kernel
theorem dL_469 : decode code 469 = .ok (.iaload, 1) := by decide +kernel
theorem dL_470 : decode code 470 = .ok (.invokevirtual 57, 3) := by decide +kernel
theorem dL_473 : decode code 473 = .ok (.if_icmp .eq 430, 3) := by decide +kernel
theorem dL_476 : decode code 476 = .ok (.iconst 0, 1) := by decide +kernel
theorem dL_477 : decode code 477 = .ok (.ireturn, 1) := by decide +kernel
theorem dL_478 : decode code 478 = .ok (.aload_n 1, 1) := by decide +kernel
theorem dL_479 : decode code 479 = .ok (.aload_n 0, 1) := by decide +kernel
theorem dL_480 : decode code 480 = .ok (.iload_n 3, 1) := by decide +kernel
theorem dL_481 : decode code 481 = .ok (.iconst 1, 1) := by decide +kernel
theorem dL_482 : decode code 482 = .ok (.iadd, 1) := by decide +kernel
theorem dL_483 : decode code 483 = .ok (.iaload, 1) := by decide +kernel
theorem dL_484 : decode code 484 = .ok (.invokevirtual 58, 3) := by decide +kernel
theorem dL_487 : decode code 487 = .ok (.aload_n 2, 1) := by decide +kernel
theorem dL_488 : decode code 488 = .ok (.aload_n 0, 1) := by decide +kernel
theorem dL_489 : decode code 489 = .ok (.iload_n 3, 1) := by decide +kernel
theorem dL_490 : decode code 490 = .ok (.iconst 1, 1) := by decide +kernel
theorem dL_491 : decode code 491 = .ok (.iadd, 1) := by decide +kernel
theorem dL_492 : decode code 492 = .ok (.iaload, 1) := by decide +kernel
theorem dL_493 : decode code 493 = .ok (.invokevirtual 61, 3) := by decide +kernel
theorem dL_496 : decode code 496 = .ok (.if_icmp .eq 407, 3) := by decide +kernel
theorem dL_499 : decode code 499 = .ok (.iconst 0, 1) := by decide +kernel
theorem dL_500 : decode code 500 = .ok (.ireturn, 1) := by decide +kernel
theorem dL_501 : decode code 501 = .ok (.aload_n 1, 1) := by decide +kernel
theorem dL_502 : decode code 502 = .ok (.invokevirtual 62, 3) := by decide +kernel
theorem dL_505 : decode code 505 = .ok (.aload_n 2, 1) := by decide +kernel
theorem dL_506 : decode code 506 = .ok (.invokevirtual 65, 3) := by decide +kernel
theorem dL_509 : decode code 509 = .ok (.if_icmp .eq 394, 3) := by decide +kernel
theorem dL_512 : decode code 512 = .ok (.iconst 0, 1) := by decide +kernel
theorem dL_513 : decode code 513 = .ok (.ireturn, 1) := by decide +kernel
theorem dL_514 : decode code 514 = .ok (.aload_n 1, 1) := by decide +kernel
theorem dL_515 : decode code 515 = .ok (.aload_n 0, 1) := by decide +kernel
theorem dL_516 : decode code 516 = .ok (.iload_n 3, 1) := by decide +kernel
theorem dL_517 : decode code 517 = .ok (.iconst 1, 1) := by decide +kernel
