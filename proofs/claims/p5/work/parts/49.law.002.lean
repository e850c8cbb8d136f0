theorem zd_dL_law_377 : dq cL_law [(377, .istore 5, 2), (379, .aload_n 2, 1), (380, .aload_n 0, 1), (381, .iload 4, 2), (383, .iconst 1, 1), (384, .iadd, 1), (385, .iaload, 1), (386, .aload_n 0, 1), (387, .iload 4, 2), (389, .iconst 2, 1), (390, .iadd, 1), (391, .iaload, 1), (392, .invokevirtual 44, 3), (395, .istore 6, 2), (397, .goto 1129, 3), (400, .aload_n 1, 1), (401, .aload_n 0, 1), (402, .iload 4, 2), (404, .iconst 1, 1), (405, .iadd, 1), (406, .iaload, 1)] = true := by decide +kernel
theorem dL_law_377 : decode cL_law 377 = .ok (.istore 5, 2) := dq_at zd_dL_law_377 0 rfl
theorem dL_law_379 : decode cL_law 379 = .ok (.aload_n 2, 1) := dq_at zd_dL_law_377 1 rfl
theorem dL_law_380 : decode cL_law 380 = .ok (.aload_n 0, 1) := dq_at zd_dL_law_377 2 rfl
theorem dL_law_381 : decode cL_law 381 = .ok (.iload 4, 2) := dq_at zd_dL_law_377 3 rfl
theorem dL_law_383 : decode cL_law 383 = .ok (.iconst 1, 1) := dq_at zd_dL_law_377 4 rfl
theorem dL_law_384 : decode cL_law 384 = .ok (.iadd, 1) := dq_at zd_dL_law_377 5 rfl
theorem dL_law_385 : decode cL_law 385 = .ok (.iaload, 1) := dq_at zd_dL_law_377 6 rfl
theorem dL_law_386 : decode cL_law 386 = .ok (.aload_n 0, 1) := dq_at zd_dL_law_377 7 rfl
theorem dL_law_387 : decode cL_law 387 = .ok (.iload 4, 2) := dq_at zd_dL_law_377 8 rfl
theorem dL_law_389 : decode cL_law 389 = .ok (.iconst 2, 1) := dq_at zd_dL_law_377 9 rfl
theorem dL_law_390 : decode cL_law 390 = .ok (.iadd, 1) := dq_at zd_dL_law_377 10 rfl
theorem dL_law_391 : decode cL_law 391 = .ok (.iaload, 1) := dq_at zd_dL_law_377 11 rfl
theorem dL_law_392 : decode cL_law 392 = .ok (.invokevirtual 44, 3) := dq_at zd_dL_law_377 12 rfl
theorem dL_law_395 : decode cL_law 395 = .ok (.istore 6, 2) := dq_at zd_dL_law_377 13 rfl
theorem dL_law_397 : decode cL_law 397 = .ok (.goto 1129, 3) := dq_at zd_dL_law_377 14 rfl
theorem dL_law_400 : decode cL_law 400 = .ok (.aload_n 1, 1) := dq_at zd_dL_law_377 15 rfl
theorem dL_law_401 : decode cL_law 401 = .ok (.aload_n 0, 1) := dq_at zd_dL_law_377 16 rfl
theorem dL_law_402 : decode cL_law 402 = .ok (.iload 4, 2) := dq_at zd_dL_law_377 17 rfl
theorem dL_law_404 : decode cL_law 404 = .ok (.iconst 1, 1) := dq_at zd_dL_law_377 18 rfl
theorem dL_law_405 : decode cL_law 405 = .ok (.iadd, 1) := dq_at zd_dL_law_377 19 rfl
theorem dL_law_406 : decode cL_law 406 = .ok (.iaload, 1) := dq_at zd_dL_law_377 20 rfl
theorem zd_dL_law_407 : dq cL_law [(407, .aload_n 0, 1), (408, .iload 4, 2), (410, .iconst 2, 1), (411, .iadd, 1), (412, .iaload, 1), (413, .invokevirtual 45, 3), (416, .pop, 1), (417, .aload_n 2, 1), (418, .aload_n 0, 1), (419, .iload 4, 2), (421, .iconst 1, 1), (422, .iadd, 1), (423, .iaload, 1), (424, .aload_n 0, 1), (425, .iload 4, 2), (427, .iconst 2, 1), (428, .iadd, 1), (429, .iaload, 1), (430, .invokevirtual 48, 3), (433, .pop, 1), (434, .goto 1092, 3)] = true := by decide +kernel
theorem dL_law_407 : decode cL_law 407 = .ok (.aload_n 0, 1) := dq_at zd_dL_law_407 0 rfl
theorem dL_law_408 : decode cL_law 408 = .ok (.iload 4, 2) := dq_at zd_dL_law_407 1 rfl
theorem dL_law_410 : decode cL_law 410 = .ok (.iconst 2, 1) := dq_at zd_dL_law_407 2 rfl
theorem dL_law_411 : decode cL_law 411 = .ok (.iadd, 1) := dq_at zd_dL_law_407 3 rfl
theorem dL_law_412 : decode cL_law 412 = .ok (.iaload, 1) := dq_at zd_dL_law_407 4 rfl
theorem dL_law_413 : decode cL_law 413 = .ok (.invokevirtual 45, 3) := dq_at zd_dL_law_407 5 rfl
theorem dL_law_416 : decode cL_law 416 = .ok (.pop, 1) := dq_at zd_dL_law_407 6 rfl
theorem dL_law_417 : decode cL_law 417 = .ok (.aload_n 2, 1) := dq_at zd_dL_law_407 7 rfl
theorem dL_law_418 : decode cL_law 418 = .ok (.aload_n 0, 1) := dq_at zd_dL_law_407 8 rfl
theorem dL_law_419 : decode cL_law 419 = .ok (.iload 4, 2) := dq_at zd_dL_law_407 9 rfl
theorem dL_law_421 : decode cL_law 421 = .ok (.iconst 1, 1) := dq_at zd_dL_law_407 10 rfl
theorem dL_law_422 : decode cL_law 422 = .ok (.iadd, 1) := dq_at zd_dL_law_407 11 rfl
theorem dL_law_423 : decode cL_law 423 = .ok (.iaload, 1) := dq_at zd_dL_law_407 12 rfl
theorem dL_law_424 : decode cL_law 424 = .ok (.aload_n 0, 1) := dq_at zd_dL_law_407 13 rfl
theorem dL_law_425 : decode cL_law 425 = .ok (.iload 4, 2) := dq_at zd_dL_law_407 14 rfl
theorem dL_law_427 : decode cL_law 427 = .ok (.iconst 2, 1) := dq_at zd_dL_law_407 15 rfl
theorem dL_law_428 : decode cL_law 428 = .ok (.iadd, 1) := dq_at zd_dL_law_407 16 rfl
theorem dL_law_429 : decode cL_law 429 = .ok (.iaload, 1) := dq_at zd_dL_law_407 17 rfl
theorem dL_law_430 : decode cL_law 430 = .ok (.invokevirtual 48, 3) := dq_at zd_dL_law_407 18 rfl
theorem dL_law_433 : decode cL_law 433 = .ok (.pop, 1) := dq_at zd_dL_law_407 19 rfl
theorem dL_law_434 : decode cL_law 434 = .ok (.goto 1092, 3) := dq_at zd_dL_law_407 20 rfl
theorem zd_dL_law_437 : dq cL_law [(437, .aload_n 1, 1), (438, .aload_n 0, 1), (439, .iload 4, 2), (441, .iconst 1, 1), (442, .iadd, 1), (443, .iaload, 1), (444, .invokevirtual 49, 3), (447, .pop, 1), (448, .aload_n 2, 1), (449, .aload_n 0, 1), (450, .iload 4, 2), (452, .iconst 1, 1), (453, .iadd, 1), (454, .iaload, 1), (455, .invokevirtual 52, 3), (458, .pop, 1), (459, .goto 1067, 3), (462, .aload_n 1, 1), (463, .aload_n 0, 1), (464, .iload 4, 2), (466, .iconst 1, 1)] = true := by decide +kernel
theorem dL_law_437 : decode cL_law 437 = .ok (.aload_n 1, 1) := dq_at zd_dL_law_437 0 rfl
theorem dL_law_438 : decode cL_law 438 = .ok (.aload_n 0, 1) := dq_at zd_dL_law_437 1 rfl
theorem dL_law_439 : decode cL_law 439 = .ok (.iload 4, 2) := dq_at zd_dL_law_437 2 rfl
theorem dL_law_441 : decode cL_law 441 = .ok (.iconst 1, 1) := dq_at zd_dL_law_437 3 rfl
theorem dL_law_442 : decode cL_law 442 = .ok (.iadd, 1) := dq_at zd_dL_law_437 4 rfl
theorem dL_law_443 : decode cL_law 443 = .ok (.iaload, 1) := dq_at zd_dL_law_437 5 rfl
theorem dL_law_444 : decode cL_law 444 = .ok (.invokevirtual 49, 3) := dq_at zd_dL_law_437 6 rfl
theorem dL_law_447 : decode cL_law 447 = .ok (.pop, 1) := dq_at zd_dL_law_437 7 rfl
theorem dL_law_448 : decode cL_law 448 = .ok (.aload_n 2, 1) := dq_at zd_dL_law_437 8 rfl
theorem dL_law_449 : decode cL_law 449 = .ok (.aload_n 0, 1) := dq_at zd_dL_law_437 9 rfl
theorem dL_law_450 : decode cL_law 450 = .ok (.iload 4, 2) := dq_at zd_dL_law_437 10 rfl
theorem dL_law_452 : decode cL_law 452 = .ok (.iconst 1, 1) := dq_at zd_dL_law_437 11 rfl
theorem dL_law_453 : decode cL_law 453 = .ok (.iadd, 1) := dq_at zd_dL_law_437 12 rfl
theorem dL_law_454 : decode cL_law 454 = .ok (.iaload, 1) := dq_at zd_dL_law_437 13 rfl
theorem dL_law_455 : decode cL_law 455 = .ok (.invokevirtual 52, 3) := dq_at zd_dL_law_437 14 rfl
theorem dL_law_458 : decode cL_law 458 = .ok (.pop, 1) := dq_at zd_dL_law_437 15 rfl
theorem dL_law_459 : decode cL_law 459 = .ok (.goto 1067, 3) := dq_at zd_dL_law_437 16 rfl
theorem dL_law_462 : decode cL_law 462 = .ok (.aload_n 1, 1) := dq_at zd_dL_law_437 17 rfl
theorem dL_law_463 : decode cL_law 463 = .ok (.aload_n 0, 1) := dq_at zd_dL_law_437 18 rfl
theorem dL_law_464 : decode cL_law 464 = .ok (.iload 4, 2) := dq_at zd_dL_law_437 19 rfl
theorem dL_law_466 : decode cL_law 466 = .ok (.iconst 1, 1) := dq_at zd_dL_law_437 20 rfl
theorem zd_dL_law_467 : dq cL_law [(467, .iadd, 1), (468, .iaload, 1), (469, .aload_n 0, 1), (470, .iload 4, 2), (472, .iconst 2, 1), (473, .iadd, 1), (474, .iaload, 1), (475, .aload_n 0, 1), (476, .iload 4, 2), (478, .iconst 3, 1), (479, .iadd, 1), (480, .iaload, 1), (481, .invokevirtual 53, 3), (484, .pop, 1), (485, .aload_n 2, 1), (486, .aload_n 0, 1), (487, .iload 4, 2), (489, .iconst 1, 1), (490, .iadd, 1), (491, .iaload, 1), (492, .aload_n 0, 1)] = true := by decide +kernel
theorem dL_law_467 : decode cL_law 467 = .ok (.iadd, 1) := dq_at zd_dL_law_467 0 rfl
theorem dL_law_468 : decode cL_law 468 = .ok (.iaload, 1) := dq_at zd_dL_law_467 1 rfl
theorem dL_law_469 : decode cL_law 469 = .ok (.aload_n 0, 1) := dq_at zd_dL_law_467 2 rfl
theorem dL_law_470 : decode cL_law 470 = .ok (.iload 4, 2) := dq_at zd_dL_law_467 3 rfl
theorem dL_law_472 : decode cL_law 472 = .ok (.iconst 2, 1) := dq_at zd_dL_law_467 4 rfl
theorem dL_law_473 : decode cL_law 473 = .ok (.iadd, 1) := dq_at zd_dL_law_467 5 rfl
theorem dL_law_474 : decode cL_law 474 = .ok (.iaload, 1) := dq_at zd_dL_law_467 6 rfl
theorem dL_law_475 : decode cL_law 475 = .ok (.aload_n 0, 1) := dq_at zd_dL_law_467 7 rfl
theorem dL_law_476 : decode cL_law 476 = .ok (.iload 4, 2) := dq_at zd_dL_law_467 8 rfl
theorem dL_law_478 : decode cL_law 478 = .ok (.iconst 3, 1) := dq_at zd_dL_law_467 9 rfl
theorem dL_law_479 : decode cL_law 479 = .ok (.iadd, 1) := dq_at zd_dL_law_467 10 rfl
theorem dL_law_480 : decode cL_law 480 = .ok (.iaload, 1) := dq_at zd_dL_law_467 11 rfl
theorem dL_law_481 : decode cL_law 481 = .ok (.invokevirtual 53, 3) := dq_at zd_dL_law_467 12 rfl
theorem dL_law_484 : decode cL_law 484 = .ok (.pop, 1) := dq_at zd_dL_law_467 13 rfl
theorem dL_law_485 : decode cL_law 485 = .ok (.aload_n 2, 1) := dq_at zd_dL_law_467 14 rfl
theorem dL_law_486 : decode cL_law 486 = .ok (.aload_n 0, 1) := dq_at zd_dL_law_467 15 rfl
theorem dL_law_487 : decode cL_law 487 = .ok (.iload 4, 2) := dq_at zd_dL_law_467 16 rfl
theorem dL_law_489 : decode cL_law 489 = .ok (.iconst 1, 1) := dq_at zd_dL_law_467 17 rfl
theorem dL_law_490 : decode cL_law 490 = .ok (.iadd, 1) := dq_at zd_dL_law_467 18 rfl
theorem dL_law_491 : decode cL_law 491 = .ok (.iaload, 1) := dq_at zd_dL_law_467 19 rfl
theorem dL_law_492 : decode cL_law 492 = .ok (.aload_n 0, 1) := dq_at zd_dL_law_467 20 rfl
theorem zd_dL_law_493 : dq cL_law [(493, .iload 4, 2), (495, .iconst 2, 1), (496, .iadd, 1), (497, .iaload, 1), (498, .aload_n 0, 1), (499, .iload 4, 2), (501, .iconst 3, 1), (502, .iadd, 1), (503, .iaload, 1), (504, .invokevirtual 57, 3), (507, .pop, 1), (508, .goto 1018, 3), (511, .aload_n 1, 1), (512, .aload_n 0, 1), (513, .iload 4, 2), (515, .iconst 1, 1), (516, .iadd, 1), (517, .iaload, 1), (518, .aload_n 0, 1), (519, .iload 4, 2), (521, .iconst 2, 1)] = true := by decide +kernel
theorem dL_law_493 : decode cL_law 493 = .ok (.iload 4, 2) := dq_at zd_dL_law_493 0 rfl
theorem dL_law_495 : decode cL_law 495 = .ok (.iconst 2, 1) := dq_at zd_dL_law_493 1 rfl
theorem dL_law_496 : decode cL_law 496 = .ok (.iadd, 1) := dq_at zd_dL_law_493 2 rfl
theorem dL_law_497 : decode cL_law 497 = .ok (.iaload, 1) := dq_at zd_dL_law_493 3 rfl
theorem dL_law_498 : decode cL_law 498 = .ok (.aload_n 0, 1) := dq_at zd_dL_law_493 4 rfl
theorem dL_law_499 : decode cL_law 499 = .ok (.iload 4, 2) := dq_at zd_dL_law_493 5 rfl
theorem dL_law_501 : decode cL_law 501 = .ok (.iconst 3, 1) := dq_at zd_dL_law_493 6 rfl
theorem dL_law_502 : decode cL_law 502 = .ok (.iadd, 1) := dq_at zd_dL_law_493 7 rfl
theorem dL_law_503 : decode cL_law 503 = .ok (.iaload, 1) := dq_at zd_dL_law_493 8 rfl
theorem dL_law_504 : decode cL_law 504 = .ok (.invokevirtual 57, 3) := dq_at zd_dL_law_493 9 rfl
theorem dL_law_507 : decode cL_law 507 = .ok (.pop, 1) := dq_at zd_dL_law_493 10 rfl
theorem dL_law_508 : decode cL_law 508 = .ok (.goto 1018, 3) := dq_at zd_dL_law_493 11 rfl
theorem dL_law_511 : decode cL_law 511 = .ok (.aload_n 1, 1) := dq_at zd_dL_law_493 12 rfl
theorem dL_law_512 : decode cL_law 512 = .ok (.aload_n 0, 1) := dq_at zd_dL_law_493 13 rfl
theorem dL_law_513 : decode cL_law 513 = .ok (.iload 4, 2) := dq_at zd_dL_law_493 14 rfl
theorem dL_law_515 : decode cL_law 515 = .ok (.iconst 1, 1) := dq_at zd_dL_law_493 15 rfl
theorem dL_law_516 : decode cL_law 516 = .ok (.iadd, 1) := dq_at zd_dL_law_493 16 rfl
theorem dL_law_517 : decode cL_law 517 = .ok (.iaload, 1) := dq_at zd_dL_law_493 17 rfl
theorem dL_law_518 : decode cL_law 518 = .ok (.aload_n 0, 1) := dq_at zd_dL_law_493 18 rfl
theorem dL_law_519 : decode cL_law 519 = .ok (.iload 4, 2) := dq_at zd_dL_law_493 19 rfl
theorem dL_law_521 : decode cL_law 521 = .ok (.iconst 2, 1) := dq_at zd_dL_law_493 20 rfl
theorem zd_dL_law_522 : dq cL_law [(522, .iadd, 1), (523, .iaload, 1), (524, .aload_n 0, 1), (525, .iload 4, 2), (527, .iconst 3, 1), (528, .iadd, 1), (529, .iaload, 1), (530, .invokevirtual 58, 3), (533, .pop2, 1), (534, .aload_n 2, 1), (535, .aload_n 0, 1), (536, .iload 4, 2), (538, .iconst 1, 1), (539, .iadd, 1), (540, .iaload, 1), (541, .aload_n 0, 1), (542, .iload 4, 2), (544, .iconst 2, 1)] = true := by decide +kernel
theorem dL_law_522 : decode cL_law 522 = .ok (.iadd, 1) := dq_at zd_dL_law_522 0 rfl
theorem dL_law_523 : decode cL_law 523 = .ok (.iaload, 1) := dq_at zd_dL_law_522 1 rfl
theorem dL_law_524 : decode cL_law 524 = .ok (.aload_n 0, 1) := dq_at zd_dL_law_522 2 rfl
theorem dL_law_525 : decode cL_law 525 = .ok (.iload 4, 2) := dq_at zd_dL_law_522 3 rfl
theorem dL_law_527 : decode cL_law 527 = .ok (.iconst 3, 1) := dq_at zd_dL_law_522 4 rfl
theorem dL_law_528 : decode cL_law 528 = .ok (.iadd, 1) := dq_at zd_dL_law_522 5 rfl
theorem dL_law_529 : decode cL_law 529 = .ok (.iaload, 1) := dq_at zd_dL_law_522 6 rfl
theorem dL_law_530 : decode cL_law 530 = .ok (.invokevirtual 58, 3) := dq_at zd_dL_law_522 7 rfl
theorem dL_law_533 : decode cL_law 533 = .ok (.pop2, 1) := dq_at zd_dL_law_522 8 rfl
theorem dL_law_534 : decode cL_law 534 = .ok (.aload_n 2, 1) := dq_at zd_dL_law_522 9 rfl
theorem dL_law_535 : decode cL_law 535 = .ok (.aload_n 0, 1) := dq_at zd_dL_law_522 10 rfl
theorem dL_law_536 : decode cL_law 536 = .ok (.iload 4, 2) := dq_at zd_dL_law_522 11 rfl
theorem dL_law_538 : decode cL_law 538 = .ok (.iconst 1, 1) := dq_at zd_dL_law_522 12 rfl
theorem dL_law_539 : decode cL_law 539 = .ok (.iadd, 1) := dq_at zd_dL_law_522 13 rfl
theorem dL_law_540 : decode cL_law 540 = .ok (.iaload, 1) := dq_at zd_dL_law_522 14 rfl
theorem dL_law_541 : decode cL_law 541 = .ok (.aload_n 0, 1) := dq_at zd_dL_law_522 15 rfl
theorem dL_law_542 : decode cL_law 542 = .ok (.iload 4, 2) := dq_at zd_dL_law_522 16 rfl
theorem dL_law_544 : decode cL_law 544 = .ok (.iconst 2, 1) := dq_at zd_dL_law_522 17 rfl
