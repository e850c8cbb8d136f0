theorem dL_law_377 : decode cL_law 377 = .ok (.istore 5, 2) := zd_dL_law_377.1.1.1.1.1
theorem dL_law_379 : decode cL_law 379 = .ok (.aload_n 2, 1) := zd_dL_law_377.1.1.1.1.2
theorem dL_law_380 : decode cL_law 380 = .ok (.aload_n 0, 1) := zd_dL_law_377.1.1.1.2
theorem dL_law_381 : decode cL_law 381 = .ok (.iload 4, 2) := zd_dL_law_377.1.1.2.1.1
theorem dL_law_383 : decode cL_law 383 = .ok (.iconst 1, 1) := zd_dL_law_377.1.1.2.1.2
theorem dL_law_384 : decode cL_law 384 = .ok (.iadd, 1) := zd_dL_law_377.1.1.2.2
theorem dL_law_385 : decode cL_law 385 = .ok (.iaload, 1) := zd_dL_law_377.1.2.1.1.1
theorem dL_law_386 : decode cL_law 386 = .ok (.aload_n 0, 1) := zd_dL_law_377.1.2.1.1.2
theorem dL_law_387 : decode cL_law 387 = .ok (.iload 4, 2) := zd_dL_law_377.1.2.1.2
theorem dL_law_389 : decode cL_law 389 = .ok (.iconst 2, 1) := zd_dL_law_377.1.2.2.1.1
theorem dL_law_390 : decode cL_law 390 = .ok (.iadd, 1) := zd_dL_law_377.1.2.2.1.2
theorem dL_law_391 : decode cL_law 391 = .ok (.iaload, 1) := zd_dL_law_377.1.2.2.2
theorem dL_law_392 : decode cL_law 392 = .ok (.invokevirtual 44, 3) := zd_dL_law_377.2.1.1.1.1
theorem dL_law_395 : decode cL_law 395 = .ok (.istore 6, 2) := zd_dL_law_377.2.1.1.1.2
theorem dL_law_397 : decode cL_law 397 = .ok (.goto 1129, 3) := zd_dL_law_377.2.1.1.2
theorem dL_law_400 : decode cL_law 400 = .ok (.aload_n 1, 1) := zd_dL_law_377.2.1.2.1.1
theorem dL_law_401 : decode cL_law 401 = .ok (.aload_n 0, 1) := zd_dL_law_377.2.1.2.1.2
theorem dL_law_402 : decode cL_law 402 = .ok (.iload 4, 2) := zd_dL_law_377.2.1.2.2
theorem dL_law_404 : decode cL_law 404 = .ok (.iconst 1, 1) := zd_dL_law_377.2.2.1.1.1
theorem dL_law_405 : decode cL_law 405 = .ok (.iadd, 1) := zd_dL_law_377.2.2.1.1.2
theorem dL_law_406 : decode cL_law 406 = .ok (.iaload, 1) := zd_dL_law_377.2.2.1.2
theorem dL_law_407 : decode cL_law 407 = .ok (.aload_n 0, 1) := zd_dL_law_377.2.2.2.1.1
theorem dL_law_408 : decode cL_law 408 = .ok (.iload 4, 2) := zd_dL_law_377.2.2.2.1.2
theorem dL_law_410 : decode cL_law 410 = .ok (.iconst 2, 1) := zd_dL_law_377.2.2.2.2
theorem zd_dL_law_411 : ((((((decode cL_law 411 = .ok (.iadd, 1)) ∧ (decode cL_law 412 = .ok (.iaload, 1))) ∧ (decode cL_law 413 = .ok (.invokevirtual 45, 3))) ∧ (((decode cL_law 416 = .ok (.pop, 1)) ∧ (decode cL_law 417 = .ok (.aload_n 2, 1))) ∧ (decode cL_law 418 = .ok (.aload_n 0, 1)))) ∧ ((((decode cL_law 419 = .ok (.iload 4, 2)) ∧ (decode cL_law 421 = .ok (.iconst 1, 1))) ∧ (decode cL_law 422 = .ok (.iadd, 1))) ∧ (((decode cL_law 423 = .ok (.iaload, 1)) ∧ (decode cL_law 424 = .ok (.aload_n 0, 1))) ∧ (decode cL_law 425 = .ok (.iload 4, 2))))) ∧ (((((decode cL_law 427 = .ok (.iconst 2, 1)) ∧ (decode cL_law 428 = .ok (.iadd, 1))) ∧ (decode cL_law 429 = .ok (.iaload, 1))) ∧ (((decode cL_law 430 = .ok (.invokevirtual 48, 3)) ∧ (decode cL_law 433 = .ok (.pop, 1))) ∧ (decode cL_law 434 = .ok (.goto 1092, 3)))) ∧ ((((decode cL_law 437 = .ok (.aload_n 1, 1)) ∧ (decode cL_law 438 = .ok (.aload_n 0, 1))) ∧ (decode cL_law 439 = .ok (.iload 4, 2))) ∧ (((decode cL_law 441 = .ok (.iconst 1, 1)) ∧ (decode cL_law 442 = .ok (.iadd, 1))) ∧ (decode cL_law 443 = .ok (.iaload, 1)))))) := by decide +kernel
theorem dL_law_411 : decode cL_law 411 = .ok (.iadd, 1) := zd_dL_law_411.1.1.1.1.1
theorem dL_law_412 : decode cL_law 412 = .ok (.iaload, 1) := zd_dL_law_411.1.1.1.1.2
theorem dL_law_413 : decode cL_law 413 = .ok (.invokevirtual 45, 3) := zd_dL_law_411.1.1.1.2
theorem dL_law_416 : decode cL_law 416 = .ok (.pop, 1) := zd_dL_law_411.1.1.2.1.1
theorem dL_law_417 : decode cL_law 417 = .ok (.aload_n 2, 1) := zd_dL_law_411.1.1.2.1.2
theorem dL_law_418 : decode cL_law 418 = .ok (.aload_n 0, 1) := zd_dL_law_411.1.1.2.2
theorem dL_law_419 : decode cL_law 419 = .ok (.iload 4, 2) := zd_dL_law_411.1.2.1.1.1
theorem dL_law_421 : decode cL_law 421 = .ok (.iconst 1, 1) := zd_dL_law_411.1.2.1.1.2
theorem dL_law_422 : decode cL_law 422 = .ok (.iadd, 1) := zd_dL_law_411.1.2.1.2
theorem dL_law_423 : decode cL_law 423 = .ok (.iaload, 1) := zd_dL_law_411.1.2.2.1.1
theorem dL_law_424 : decode cL_law 424 = .ok (.aload_n 0, 1) := zd_dL_law_411.1.2.2.1.2
theorem dL_law_425 : decode cL_law 425 = .ok (.iload 4, 2) := zd_dL_law_411.1.2.2.2
theorem dL_law_427 : decode cL_law 427 = .ok (.iconst 2, 1) := zd_dL_law_411.2.1.1.1.1
theorem dL_law_428 : decode cL_law 428 = .ok (.iadd, 1) := zd_dL_law_411.2.1.1.1.2
theorem dL_law_429 : decode cL_law 429 = .ok (.iaload, 1) := zd_dL_law_411.2.1.1.2
theorem dL_law_430 : decode cL_law 430 = .ok (.invokevirtual 48, 3) := zd_dL_law_411.2.1.2.1.1
theorem dL_law_433 : decode cL_law 433 = .ok (.pop, 1) := zd_dL_law_411.2.1.2.1.2
theorem dL_law_434 : decode cL_law 434 = .ok (.goto 1092, 3) := zd_dL_law_411.2.1.2.2
theorem dL_law_437 : decode cL_law 437 = .ok (.aload_n 1, 1) := zd_dL_law_411.2.2.1.1.1
theorem dL_law_438 : decode cL_law 438 = .ok (.aload_n 0, 1) := zd_dL_law_411.2.2.1.1.2
theorem dL_law_439 : decode cL_law 439 = .ok (.iload 4, 2) := zd_dL_law_411.2.2.1.2
theorem dL_law_441 : decode cL_law 441 = .ok (.iconst 1, 1) := zd_dL_law_411.2.2.2.1.1
theorem dL_law_442 : decode cL_law 442 = .ok (.iadd, 1) := zd_dL_law_411.2.2.2.1.2
theorem dL_law_443 : decode cL_law 443 = .ok (.iaload, 1) := zd_dL_law_411.2.2.2.2
theorem zd_dL_law_444 : ((((((decode cL_law 444 = .ok (.invokevirtual 49, 3)) ∧ (decode cL_law 447 = .ok (.pop, 1))) ∧ (decode cL_law 448 = .ok (.aload_n 2, 1))) ∧ (((decode cL_law 449 = .ok (.aload_n 0, 1)) ∧ (decode cL_law 450 = .ok (.iload 4, 2))) ∧ (decode cL_law 452 = .ok (.iconst 1, 1)))) ∧ ((((decode cL_law 453 = .ok (.iadd, 1)) ∧ (decode cL_law 454 = .ok (.iaload, 1))) ∧ (decode cL_law 455 = .ok (.invokevirtual 52, 3))) ∧ (((decode cL_law 458 = .ok (.pop, 1)) ∧ (decode cL_law 459 = .ok (.goto 1067, 3))) ∧ (decode cL_law 462 = .ok (.aload_n 1, 1))))) ∧ (((((decode cL_law 463 = .ok (.aload_n 0, 1)) ∧ (decode cL_law 464 = .ok (.iload 4, 2))) ∧ (decode cL_law 466 = .ok (.iconst 1, 1))) ∧ (((decode cL_law 467 = .ok (.iadd, 1)) ∧ (decode cL_law 468 = .ok (.iaload, 1))) ∧ (decode cL_law 469 = .ok (.aload_n 0, 1)))) ∧ ((((decode cL_law 470 = .ok (.iload 4, 2)) ∧ (decode cL_law 472 = .ok (.iconst 2, 1))) ∧ (decode cL_law 473 = .ok (.iadd, 1))) ∧ (((decode cL_law 474 = .ok (.iaload, 1)) ∧ (decode cL_law 475 = .ok (.aload_n 0, 1))) ∧ (decode cL_law 476 = .ok (.iload 4, 2)))))) := by decide +kernel
theorem dL_law_444 : decode cL_law 444 = .ok (.invokevirtual 49, 3) := zd_dL_law_444.1.1.1.1.1
theorem dL_law_447 : decode cL_law 447 = .ok (.pop, 1) := zd_dL_law_444.1.1.1.1.2
theorem dL_law_448 : decode cL_law 448 = .ok (.aload_n 2, 1) := zd_dL_law_444.1.1.1.2
theorem dL_law_449 : decode cL_law 449 = .ok (.aload_n 0, 1) := zd_dL_law_444.1.1.2.1.1
theorem dL_law_450 : decode cL_law 450 = .ok (.iload 4, 2) := zd_dL_law_444.1.1.2.1.2
theorem dL_law_452 : decode cL_law 452 = .ok (.iconst 1, 1) := zd_dL_law_444.1.1.2.2
theorem dL_law_453 : decode cL_law 453 = .ok (.iadd, 1) := zd_dL_law_444.1.2.1.1.1
theorem dL_law_454 : decode cL_law 454 = .ok (.iaload, 1) := zd_dL_law_444.1.2.1.1.2
theorem dL_law_455 : decode cL_law 455 = .ok (.invokevirtual 52, 3) := zd_dL_law_444.1.2.1.2
theorem dL_law_458 : decode cL_law 458 = .ok (.pop, 1) := zd_dL_law_444.1.2.2.1.1
theorem dL_law_459 : decode cL_law 459 = .ok (.goto 1067, 3) := zd_dL_law_444.1.2.2.1.2
theorem dL_law_462 : decode cL_law 462 = .ok (.aload_n 1, 1) := zd_dL_law_444.1.2.2.2
theorem dL_law_463 : decode cL_law 463 = .ok (.aload_n 0, 1) := zd_dL_law_444.2.1.1.1.1
theorem dL_law_464 : decode cL_law 464 = .ok (.iload 4, 2) := zd_dL_law_444.2.1.1.1.2
theorem dL_law_466 : decode cL_law 466 = .ok (.iconst 1, 1) := zd_dL_law_444.2.1.1.2
theorem dL_law_467 : decode cL_law 467 = .ok (.iadd, 1) := zd_dL_law_444.2.1.2.1.1
theorem dL_law_468 : decode cL_law 468 = .ok (.iaload, 1) := zd_dL_law_444.2.1.2.1.2
theorem dL_law_469 : decode cL_law 469 = .ok (.aload_n 0, 1) := zd_dL_law_444.2.1.2.2
theorem dL_law_470 : decode cL_law 470 = .ok (.iload 4, 2) := zd_dL_law_444.2.2.1.1.1
theorem dL_law_472 : decode cL_law 472 = .ok (.iconst 2, 1) := zd_dL_law_444.2.2.1.1.2
theorem dL_law_473 : decode cL_law 473 = .ok (.iadd, 1) := zd_dL_law_444.2.2.1.2
theorem dL_law_474 : decode cL_law 474 = .ok (.iaload, 1) := zd_dL_law_444.2.2.2.1.1
theorem dL_law_475 : decode cL_law 475 = .ok (.aload_n 0, 1) := zd_dL_law_444.2.2.2.1.2
theorem dL_law_476 : decode cL_law 476 = .ok (.iload 4, 2) := zd_dL_law_444.2.2.2.2
theorem zd_dL_law_478 : ((((((decode cL_law 478 = .ok (.iconst 3, 1)) ∧ (decode cL_law 479 = .ok (.iadd, 1))) ∧ (decode cL_law 480 = .ok (.iaload, 1))) ∧ (((decode cL_law 481 = .ok (.invokevirtual 53, 3)) ∧ (decode cL_law 484 = .ok (.pop, 1))) ∧ (decode cL_law 485 = .ok (.aload_n 2, 1)))) ∧ ((((decode cL_law 486 = .ok (.aload_n 0, 1)) ∧ (decode cL_law 487 = .ok (.iload 4, 2))) ∧ (decode cL_law 489 = .ok (.iconst 1, 1))) ∧ (((decode cL_law 490 = .ok (.iadd, 1)) ∧ (decode cL_law 491 = .ok (.iaload, 1))) ∧ (decode cL_law 492 = .ok (.aload_n 0, 1))))) ∧ (((((decode cL_law 493 = .ok (.iload 4, 2)) ∧ (decode cL_law 495 = .ok (.iconst 2, 1))) ∧ (decode cL_law 496 = .ok (.iadd, 1))) ∧ (((decode cL_law 497 = .ok (.iaload, 1)) ∧ (decode cL_law 498 = .ok (.aload_n 0, 1))) ∧ (decode cL_law 499 = .ok (.iload 4, 2)))) ∧ ((((decode cL_law 501 = .ok (.iconst 3, 1)) ∧ (decode cL_law 502 = .ok (.iadd, 1))) ∧ (decode cL_law 503 = .ok (.iaload, 1))) ∧ (((decode cL_law 504 = .ok (.invokevirtual 57, 3)) ∧ (decode cL_law 507 = .ok (.pop, 1))) ∧ (decode cL_law 508 = .ok (.goto 1018, 3)))))) := by decide +kernel
theorem dL_law_478 : decode cL_law 478 = .ok (.iconst 3, 1) := zd_dL_law_478.1.1.1.1.1
theorem dL_law_479 : decode cL_law 479 = .ok (.iadd, 1) := zd_dL_law_478.1.1.1.1.2
theorem dL_law_480 : decode cL_law 480 = .ok (.iaload, 1) := zd_dL_law_478.1.1.1.2
theorem dL_law_481 : decode cL_law 481 = .ok (.invokevirtual 53, 3) := zd_dL_law_478.1.1.2.1.1
theorem dL_law_484 : decode cL_law 484 = .ok (.pop, 1) := zd_dL_law_478.1.1.2.1.2
theorem dL_law_485 : decode cL_law 485 = .ok (.aload_n 2, 1) := zd_dL_law_478.1.1.2.2
theorem dL_law_486 : decode cL_law 486 = .ok (.aload_n 0, 1) := zd_dL_law_478.1.2.1.1.1
theorem dL_law_487 : decode cL_law 487 = .ok (.iload 4, 2) := zd_dL_law_478.1.2.1.1.2
theorem dL_law_489 : decode cL_law 489 = .ok (.iconst 1, 1) := zd_dL_law_478.1.2.1.2
theorem dL_law_490 : decode cL_law 490 = .ok (.iadd, 1) := zd_dL_law_478.1.2.2.1.1
theorem dL_law_491 : decode cL_law 491 = .ok (.iaload, 1) := zd_dL_law_478.1.2.2.1.2
theorem dL_law_492 : decode cL_law 492 = .ok (.aload_n 0, 1) := zd_dL_law_478.1.2.2.2
theorem dL_law_493 : decode cL_law 493 = .ok (.iload 4, 2) := zd_dL_law_478.2.1.1.1.1
theorem dL_law_495 : decode cL_law 495 = .ok (.iconst 2, 1) := zd_dL_law_478.2.1.1.1.2
theorem dL_law_496 : decode cL_law 496 = .ok (.iadd, 1) := zd_dL_law_478.2.1.1.2
theorem dL_law_497 : decode cL_law 497 = .ok (.iaload, 1) := zd_dL_law_478.2.1.2.1.1
theorem dL_law_498 : decode cL_law 498 = .ok (.aload_n 0, 1) := zd_dL_law_478.2.1.2.1.2
theorem dL_law_499 : decode cL_law 499 = .ok (.iload 4, 2) := zd_dL_law_478.2.1.2.2
theorem dL_law_501 : decode cL_law 501 = .ok (.iconst 3, 1) := zd_dL_law_478.2.2.1.1.1
theorem dL_law_502 : decode cL_law 502 = .ok (.iadd, 1) := zd_dL_law_478.2.2.1.1.2
theorem dL_law_503 : decode cL_law 503 = .ok (.iaload, 1) := zd_dL_law_478.2.2.1.2
theorem dL_law_504 : decode cL_law 504 = .ok (.invokevirtual 57, 3) := zd_dL_law_478.2.2.2.1.1
theorem dL_law_507 : decode cL_law 507 = .ok (.pop, 1) := zd_dL_law_478.2.2.2.1.2
theorem dL_law_508 : decode cL_law 508 = .ok (.goto 1018, 3) := zd_dL_law_478.2.2.2.2
theorem zd_dL_law_511 : ((((((decode cL_law 511 = .ok (.aload_n 1, 1)) ∧ (decode cL_law 512 = .ok (.aload_n 0, 1))) ∧ (decode cL_law 513 = .ok (.iload 4, 2))) ∧ (((decode cL_law 515 = .ok (.iconst 1, 1)) ∧ (decode cL_law 516 = .ok (.iadd, 1))) ∧ (decode cL_law 517 = .ok (.iaload, 1)))) ∧ ((((decode cL_law 518 = .ok (.aload_n 0, 1)) ∧ (decode cL_law 519 = .ok (.iload 4, 2))) ∧ (decode cL_law 521 = .ok (.iconst 2, 1))) ∧ (((decode cL_law 522 = .ok (.iadd, 1)) ∧ (decode cL_law 523 = .ok (.iaload, 1))) ∧ (decode cL_law 524 = .ok (.aload_n 0, 1))))) ∧ (((((decode cL_law 525 = .ok (.iload 4, 2)) ∧ (decode cL_law 527 = .ok (.iconst 3, 1))) ∧ (decode cL_law 528 = .ok (.iadd, 1))) ∧ (((decode cL_law 529 = .ok (.iaload, 1)) ∧ (decode cL_law 530 = .ok (.invokevirtual 58, 3))) ∧ (decode cL_law 533 = .ok (.pop2, 1)))) ∧ ((((decode cL_law 534 = .ok (.aload_n 2, 1)) ∧ (decode cL_law 535 = .ok (.aload_n 0, 1))) ∧ (decode cL_law 536 = .ok (.iload 4, 2))) ∧ (((decode cL_law 538 = .ok (.iconst 1, 1)) ∧ (decode cL_law 539 = .ok (.iadd, 1))) ∧ (decode cL_law 540 = .ok (.iaload, 1)))))) := by decide +kernel
theorem dL_law_511 : decode cL_law 511 = .ok (.aload_n 1, 1) := zd_dL_law_511.1.1.1.1.1
theorem dL_law_512 : decode cL_law 512 = .ok (.aload_n 0, 1) := zd_dL_law_511.1.1.1.1.2
theorem dL_law_513 : decode cL_law 513 = .ok (.iload 4, 2) := zd_dL_law_511.1.1.1.2
theorem dL_law_515 : decode cL_law 515 = .ok (.iconst 1, 1) := zd_dL_law_511.1.1.2.1.1
theorem dL_law_516 : decode cL_law 516 = .ok (.iadd, 1) := zd_dL_law_511.1.1.2.1.2
theorem dL_law_517 : decode cL_law 517 = .ok (.iaload, 1) := zd_dL_law_511.1.1.2.2
theorem dL_law_518 : decode cL_law 518 = .ok (.aload_n 0, 1) := zd_dL_law_511.1.2.1.1.1
theorem dL_law_519 : decode cL_law 519 = .ok (.iload 4, 2) := zd_dL_law_511.1.2.1.1.2
theorem dL_law_521 : decode cL_law 521 = .ok (.iconst 2, 1) := zd_dL_law_511.1.2.1.2
theorem dL_law_522 : decode cL_law 522 = .ok (.iadd, 1) := zd_dL_law_511.1.2.2.1.1
theorem dL_law_523 : decode cL_law 523 = .ok (.iaload, 1) := zd_dL_law_511.1.2.2.1.2
theorem dL_law_524 : decode cL_law 524 = .ok (.aload_n 0, 1) := zd_dL_law_511.1.2.2.2
theorem dL_law_525 : decode cL_law 525 = .ok (.iload 4, 2) := zd_dL_law_511.2.1.1.1.1
theorem dL_law_527 : decode cL_law 527 = .ok (.iconst 3, 1) := zd_dL_law_511.2.1.1.1.2
theorem dL_law_528 : decode cL_law 528 = .ok (.iadd, 1) := zd_dL_law_511.2.1.1.2
theorem dL_law_529 : decode cL_law 529 = .ok (.iaload, 1) := zd_dL_law_511.2.1.2.1.1
theorem dL_law_530 : decode cL_law 530 = .ok (.invokevirtual 58, 3) := zd_dL_law_511.2.1.2.1.2
theorem dL_law_533 : decode cL_law 533 = .ok (.pop2, 1) := zd_dL_law_511.2.1.2.2
theorem dL_law_534 : decode cL_law 534 = .ok (.aload_n 2, 1) := zd_dL_law_511.2.2.1.1.1
theorem dL_law_535 : decode cL_law 535 = .ok (.aload_n 0, 1) := zd_dL_law_511.2.2.1.1.2
theorem dL_law_536 : decode cL_law 536 = .ok (.iload 4, 2) := zd_dL_law_511.2.2.1.2
theorem dL_law_538 : decode cL_law 538 = .ok (.iconst 1, 1) := zd_dL_law_511.2.2.2.1.1
theorem dL_law_539 : decode cL_law 539 = .ok (.iadd, 1) := zd_dL_law_511.2.2.2.1.2
theorem dL_law_540 : decode cL_law 540 = .ok (.iaload, 1) := zd_dL_law_511.2.2.2.2
theorem zd_dL_law_541 : ((((((decode cL_law 541 = .ok (.aload_n 0, 1)) ∧ (decode cL_law 542 = .ok (.iload 4, 2))) ∧ (decode cL_law 544 = .ok (.iconst 2, 1))) ∧ (((decode cL_law 545 = .ok (.iadd, 1)) ∧ (decode cL_law 546 = .ok (.iaload, 1))) ∧ (decode cL_law 547 = .ok (.aload_n 0, 1)))) ∧ ((((decode cL_law 548 = .ok (.iload 4, 2)) ∧ (decode cL_law 550 = .ok (.iconst 3, 1))) ∧ (decode cL_law 551 = .ok (.iadd, 1))) ∧ (((decode cL_law 552 = .ok (.iaload, 1)) ∧ (decode cL_law 553 = .ok (.invokevirtual 62, 3))) ∧ (decode cL_law 556 = .ok (.pop2, 1))))) ∧ (((((decode cL_law 557 = .ok (.goto 969, 3)) ∧ (decode cL_law 560 = .ok (.aload_n 1, 1))) ∧ (decode cL_law 561 = .ok (.aload_n 0, 1))) ∧ (((decode cL_law 562 = .ok (.iload 4, 2)) ∧ (decode cL_law 564 = .ok (.iconst 1, 1))) ∧ (decode cL_law 565 = .ok (.iadd, 1)))) ∧ ((((decode cL_law 566 = .ok (.iaload, 1)) ∧ (decode cL_law 567 = .ok (.aload_n 0, 1))) ∧ (decode cL_law 568 = .ok (.iload 4, 2))) ∧ (((decode cL_law 570 = .ok (.iconst 2, 1)) ∧ (decode cL_law 571 = .ok (.iadd, 1))) ∧ (decode cL_law 572 = .ok (.iaload, 1)))))) := by decide +kernel
theorem dL_law_541 : decode cL_law 541 = .ok (.aload_n 0, 1) := zd_dL_law_541.1.1.1.1.1
theorem dL_law_542 : decode cL_law 542 = .ok (.iload 4, 2) := zd_dL_law_541.1.1.1.1.2
theorem dL_law_544 : decode cL_law 544 = .ok (.iconst 2, 1) := zd_dL_law_541.1.1.1.2
