theorem d_LAW_law_346 : decode code 346 = .ok (.iadd, 1) := by decide +kernel
theorem d_LAW_law_347 : decode code 347 = .ok (.iaload, 1) := by decide +kernel
theorem d_LAW_law_348 : decode code 348 = .ok (.invokevirtual 43, 3) := by decide +kernel
theorem d_LAW_law_351 : decode code 351 = .ok (.aload_n 2, 1) := by decide +kernel
theorem d_LAW_law_352 : decode code 352 = .ok (.aload_n 0, 1) := by decide +kernel
theorem d_LAW_law_353 : decode code 353 = .ok (.iload_n 3, 1) := by decide +kernel
theorem d_LAW_law_354 : decode code 354 = .ok (.iconst 1, 1) := by decide +kernel
theorem d_LAW_law_355 : decode code 355 = .ok (.iadd, 1) := by decide +kernel
theorem d_LAW_law_356 : decode code 356 = .ok (.iaload, 1) := by decide +kernel
theorem d_LAW_law_357 : decode code 357 = .ok (.invokevirtual 46, 3) := by decide +kernel
theorem d_LAW_law_360 : decode code 360 = .ok (.if_icmp .eq (257), 3) := by decide +kernel
theorem d_LAW_law_363 : decode code 363 = .ok (.iconst 0, 1) := by decide +kernel
theorem d_LAW_law_364 : decode code 364 = .ok (.ireturn, 1) := by decide +kernel
theorem d_LAW_law_365 : decode code 365 = .ok (.aload_n 1, 1) := by decide +kernel
theorem d_LAW_law_366 : decode code 366 = .ok (.aload_n 0, 1) := by decide +kernel
theorem d_LAW_law_367 : decode code 367 = .ok (.iload_n 3, 1) := by decide +kernel
theorem d_LAW_law_368 : decode code 368 = .ok (.iconst 1, 1) := by decide +kernel
theorem d_LAW_law_369 : decode code 369 = .ok (.iadd, 1) := by decide +kernel
theorem d_LAW_law_370 : decode code 370 = .ok (.iaload, 1) := by decide +kernel
theorem d_LAW_law_371 : decode code 371 = .ok (.invokevirtual 47, 3) := by decide +kernel
theorem d_LAW_law_374 : decode code 374 = .ok (.aload_n 2, 1) := by decide +kernel
theorem d_LAW_law_375 : decode code 375 = .ok (.aload_n 0, 1) := by decide +kernel
theorem d_LAW_law_376 : decode code 376 = .ok (.iload_n 3, 1) := by decide +kernel
theorem d_LAW_law_377 : decode code 377 = .ok (.iconst 1, 1) := by decide +kernel
theorem d_LAW_law_378 : decode code 378 = .ok (.iadd, 1) := by decide +kernel
theorem d_LAW_law_379 : decode code 379 = .ok (.iaload, 1) := by decide +kernel
theorem d_LAW_law_380 : decode code 380 = .ok (.invokevirtual 50, 3) := by decide +kernel
theorem d_LAW_law_383 : decode code 383 = .ok (.if_icmp .eq (234), 3) := by decide +kernel
theorem d_LAW_law_386 : decode code 386 = .ok (.iconst 0, 1) := by decide +kernel
theorem d_LAW_law_387 : decode code 387 = .ok (.ireturn, 1) := by decide +kernel
theorem d_LAW_law_388 : decode code 388 = .ok (.aload_n 1, 1) := by decide +kernel
theorem d_LAW_law_389 : decode code 389 = .ok (.invokevirtual 51, 3) := by decide +kernel
theorem d_LAW_law_392 : decode code 392 = .ok (.aload_n 2, 1) := by decide +kernel
theorem d_LAW_law_393 : decode code 393 = .ok (.invokevirtual 55, 3) := by decide +kernel
theorem d_LAW_law_396 : decode code 396 = .ok (.if_icmp .eq (221), 3) := by decide +kernel
theorem d_LAW_law_399 : decode code 399 = .ok (.iconst 0, 1) := by decide +kernel
theorem d_LAW_law_400 : decode code 400 = .ok (.ireturn, 1) := by decide +kernel
theorem d_LAW_law_401 : decode code 401 = .ok (.aload_n 1, 1) := by decide +kernel
theorem d_LAW_law_402 : decode code 402 = .ok (.aload_n 0, 1) := by decide +kernel
theorem d_LAW_law_403 : decode code 403 = .ok (.iload_n 3, 1) := by decide +kernel
theorem d_LAW_law_404 : decode code 404 = .ok (.iconst 1, 1) := by decide +kernel
theorem d_LAW_law_405 : decode code 405 = .ok (.iadd, 1) := by decide +kernel
theorem d_LAW_law_406 : decode code 406 = .ok (.iaload, 1) := by decide +kernel
theorem d_LAW_law_407 : decode code 407 = .ok (.aload_n 0, 1) := by decide +kernel
theorem d_LAW_law_408 : decode code 408 = .ok (.iload_n 3, 1) := by decide +kernel
theorem d_LAW_law_409 : decode code 409 = .ok (.iconst 2, 1) := by decide +kernel
theorem d_LAW_law_410 : decode code 410 = .ok (.iadd, 1) := by decide +kernel
theorem d_LAW_law_411 : decode code 411 = .ok (.iaload, 1) := by decide +kernel
theorem d_LAW_law_412 : decode code 412 = .ok (.invokevirtual 56, 3) := by decide +kernel
theorem d_LAW_law_415 : decode code 415 = .ok (.aload_n 2, 1) := by decide +kernel
theorem d_LAW_law_416 : decode code 416 = .ok (.aload_n 0, 1) := by decide +kernel
theorem d_LAW_law_417 : decode code 417 = .ok (.iload_n 3, 1) := by decide +kernel
theorem d_LAW_law_418 : decode code 418 = .ok (.iconst 1, 1) := by decide +kernel
theorem d_LAW_law_419 : decode code 419 = .ok (.iadd, 1) := by decide +kernel
theorem d_LAW_law_420 : decode code 420 = .ok (.iaload, 1) := by decide +kernel
theorem d_LAW_law_421 : decode code 421 = .ok (.aload_n 0, 1) := by decide +kernel
theorem d_LAW_law_422 : decode code 422 = .ok (.iload_n 3, 1) := by decide +kernel
theorem d_LAW_law_423 : decode code 423 = .ok (.iconst 2, 1) := by decide +kernel
theorem d_LAW_law_424 : decode code 424 = .ok (.iadd, 1) := by decide +kernel
theorem d_LAW_law_425 : decode code 425 = .ok (.iaload, 1) := by decide +kernel
theorem d_LAW_law_426 : decode code 426 = .ok (.invokevirtual 60, 3) := by decide +kernel
theorem d_LAW_law_429 : decode code 429 = .ok (.if_icmp .eq (188), 3) := by decide +kernel
theorem d_LAW_law_432 : decode code 432 = .ok (.iconst 0, 1) := by decide +kernel
theorem d_LAW_law_433 : decode code 433 = .ok (.ireturn, 1) := by decide +kernel
theorem d_LAW_law_434 : decode code 434 = .ok (.aload_n 1, 1) := by decide +kernel
theorem d_LAW_law_435 : decode code 435 = .ok (.aload_n 0, 1) := by decide +kernel
theorem d_LAW_law_436 : decode code 436 = .ok (.iload_n 3, 1) := by decide +kernel
theorem d_LAW_law_437 : decode code 437 = .ok (.iconst 1, 1) := by decide +kernel
theorem d_LAW_law_438 : decode code 438 = .ok (.iadd, 1) := by decide +kernel
theorem d_LAW_law_439 : decode code 439 = .ok (.iaload, 1) := by decide +kernel
theorem d_LAW_law_440 : decode code 440 = .ok (.invokevirtual 61, 3) := by decide +kernel
theorem d_LAW_law_443 : decode code 443 = .ok (.aload_n 2, 1) := by decide +kernel
theorem d_LAW_law_444 : decode code 444 = .ok (.aload_n 0, 1) := by decide +kernel
theorem d_LAW_law_445 : decode code 445 = .ok (.iload_n 3, 1) := by decide +kernel
theorem d_LAW_law_446 : decode code 446 = .ok (.iconst 1, 1) := by decide +kernel
theorem d_LAW_law_447 : decode code 447 = .ok (.iadd, 1) := by decide +kernel
theorem d_LAW_law_448 : decode code 448 = .ok (.iaload, 1) := by decide +kernel
theorem d_LAW_law_449 : decode code 449 = .ok (.invokevirtual 65, 3) := by decide +kernel
theorem d_LAW_law_452 : decode code 452 = .ok (.if_icmp .eq (165), 3) := by decide +kernel
theorem d_LAW_law_455 : decode code 455 = .ok (.iconst 0, 1) := by decide +kernel
theorem d_LAW_law_456 : decode code 456 = .ok (.ireturn, 1) := by decide +kernel
theorem d_LAW_law_457 : decode code 457 = .ok (.aload_n 1, 1) := by decide +kernel
theorem d_LAW_law_458 : decode code 458 = .ok (.aload_n 0, 1) := by decide +kernel
theorem d_LAW_law_459 : decode code 459 = .ok (.iload_n 3, 1) := by decide +kernel
theorem d_LAW_law_460 : decode code 460 = .ok (.iconst 1, 1) := by decide +kernel
theorem d_LAW_law_461 : decode code 461 = .ok (.iadd, 1) := by decide +kernel
theorem d_LAW_law_462 : decode code 462 = .ok (.iaload, 1) := by decide +kernel
theorem d_LAW_law_463 : decode code 463 = .ok (.invokevirtual 66, 3) := by decide +kernel
theorem d_LAW_law_466 : decode code 466 = .ok (.aload_n 2, 1) := by decide +kernel
theorem d_LAW_law_467 : decode code 467 = .ok (.aload_n 0, 1) := by decide +kernel
theorem d_LAW_law_468 : decode code 468 = .ok (.iload_n 3, 1) := by decide +kernel
theorem d_LAW_law_469 : decode code 469 = .ok (.iconst 1, 1) := by decide +kernel
theorem d_LAW_law_470 : decode code 470 = .ok (.iadd, 1) := by decide +kernel
theorem d_LAW_law_471 : decode code 471 = .ok (.iaload, 1) := by decide +kernel
theorem d_LAW_law_472 : decode code 472 = .ok (.invokevirtual 69, 3) := by decide +kernel

