theorem dL_368 : decode code 368 = .ok (.iconst 1, 1) := by decide +kernel
theorem dL_369 : decode code 369 = .ok (.iadd, 1) := by decide +kernel
theorem dL_370 : decode code 370 = .ok (.iaload, 1) := by decide +kernel
theorem dL_371 : decode code 371 = .ok (.invokevirtual 37, 3) := by decide +kernel
theorem dL_374 : decode code 374 = .ok (.aload_n 2, 1) := by decide +kernel
theorem dL_375 : decode code 375 = .ok (.aload_n 0, 1) := by decide +kernel
theorem dL_376 : decode code 376 = .ok (.iload_n 3, 1) := by decide +kernel
theorem dL_377 : decode code 377 = .ok (.iconst 1, 1) := by decide +kernel
theorem dL_378 : decode code 378 = .ok (.iadd, 1) := by decide +kernel
theorem dL_379 : decode code 379 = .ok (.iaload, 1) := by decide +kernel
theorem dL_380 : decode code 380 = .ok (.invokevirtual 40, 3) := by decide +kernel
theorem dL_383 : decode code 383 = .ok (.if_icmp .eq 977, 3) := by decide +kernel
theorem dL_386 : decode code 386 = .ok (.iconst 0, 1) := by decide +kernel
theorem dL_387 : decode code 387 = .ok (.ireturn, 1) := by decide +kernel
theorem dL_388 : decode code 388 = .ok (.aload_n 1, 1) := by decide +kernel
theorem dL_389 : decode code 389 = .ok (.aload_n 0, 1) := by decide +kernel
theorem dL_390 : decode code 390 = .ok (.iload_n 3, 1) := by decide +kernel
theorem dL_391 : decode code 391 = .ok (.iconst 1, 1) := by decide +kernel
theorem dL_392 : decode code 392 = .ok (.iadd, 1) := by decide +kernel
theorem dL_393 : decode code 393 = .ok (.iaload, 1) := by decide +kernel
theorem dL_394 : decode code 394 = .ok (.aload_n 0, 1) := by decide +kernel
theorem dL_395 : decode code 395 = .ok (.iload_n 3, 1) := by decide +kernel
theorem dL_396 : decode code 396 = .ok (.iconst 2, 1) := by decide +kernel
theorem dL_397 : decode code 397 = .ok (.iadd, 1) := by decide +kernel
theorem dL_398 : decode code 398 = .ok (.iaload, 1) := by decide +kernel
theorem dL_399 : decode code 399 = .ok (.aload_n 0, 1) := by decide +kernel
theorem dL_400 : decode code 400 = .ok (.iload_n 3, 1) := by decide +kernel
theorem dL_401 : decode code 401 = .ok (.iconst 3, 1) := by decide +kernel
theorem dL_402 : decode code 402 = .ok (.iadd, 1) := by decide +kernel
theorem dL_403 : decode code 403 = .ok (.iaload, 1) := by decide +kernel
theorem dL_404 : decode code 404 = .ok (.aload_n 0, 1) := by decide +kernel
theorem dL_405 : decode code 405 = .ok (.iload_n 3, 1) := by decide +kernel
theorem dL_406 : decode code 406 = .ok (.iconst 4, 1) := by decide +kernel
theorem dL_407 : decode code 407 = .ok (.iadd, 1) := by decide +kernel
theorem dL_408 : decode code 408 = .ok (.iaload, 1) := by decide +kernel
theorem dL_409 : decode code 409 = .ok (.aload_n 0, 1) := by decide +kernel
theorem dL_410 : decode code 410 = .ok (.iload_n 3, 1) := by decide +kernel
theorem dL_411 : decode code 411 = .ok (.iconst 5, 1) := by decide +kernel
theorem dL_412 : decode code 412 = .ok (.iadd, 1) := by decide +kernel
theorem dL_413 : decode code 413 = .ok (.iaload, 1) := by decide +kernel
theorem dL_414 : decode code 414 = .ok (.invokevirtual 41, 3) := by decide +kernel
theorem dL_417 : decode code 417 = .ok (.aload_n 2, 1) := by decide +kernel
theorem dL_418 : decode code 418 = .ok (.aload_n 0, 1) := by decide +kernel
theorem dL_419 : decode code 419 = .ok (.iload_n 3, 1) := by decide +kernel
theorem dL_420 : decode code 420 = .ok (.iconst 1, 1) := by decide +kernel
theorem dL_421 : decode code 421 = .ok (.iadd, 1) := by decide +kernel
theorem dL_422 : decode code 422 = .ok (.iaload, 1) := by decide +kernel
theorem dL_423 : decode code 423 = .ok (.aload_n 0, 1) := by decide +kernel
theorem dL_424 : decode code 424 = .ok (.iload_n 3, 1) := by decide +kernel
theorem dL_425 : decode code 425 = .ok (.iconst 2, 1) := by decide +kernel
theorem dL_426 : decode code 426 = .ok (.iadd, 1) := by decide +kernel
theorem dL_427 : decode code 427 = .ok (.iaload, 1) := by decide +kernel
theorem dL_428 : decode code 428 = .ok (.aload_n 0, 1) := by decide +kernel
theorem dL_429 : decode code 429 = .ok (.iload_n 3, 1) := by decide +kernel
theorem dL_430 : decode code 430 = .ok (.iconst 3, 1) := by decide +kernel
theorem dL_431 : decode code 431 = .ok (.iadd, 1) := by decide +kernel
theorem dL_432 : decode code 432 = .ok (.iaload, 1) := by decide +kernel
theorem dL_433 : decode code 433 = .ok (.aload_n 0, 1) := by decide +kernel
theorem dL_434 : decode code 434 = .ok (.iload_n 3, 1) := by decide +kernel
theorem dL_435 : decode code 435 = .ok (.iconst 4, 1) := by decide +kernel
theorem dL_436 : decode code 436 = .ok (.iadd, 1) := by decide +kernel
theorem dL_437 : decode code 437 = .ok (.iaload, 1) := by decide +kernel
theorem dL_438 : decode code 438 = .ok (.aload_n 0, 1) := by decide +kernel
theorem dL_439 : decode code 439 = .ok (.iload_n 3, 1) := by decide +kernel
theorem dL_440 : decode code 440 = .ok (.iconst 5, 1) := by decide +kernel
theorem dL_441 : decode code 441 = .ok (.iadd, 1) := by decide +kernel
theorem dL_442 : decode code 442 = .ok (.iaload, 1) := by decide +kernel
theorem dL_443 : decode code 443 = .ok (.invokevirtual 45, 3) := by decide +kernel
theorem dL_446 : decode code 446 = .ok (.if_icmp .eq 914, 3) := by decide +kernel
theorem dL_449 : decode code 449 = .ok (.iconst 0, 1) := by decide +kernel
theorem dL_450 : decode code 450 = .ok (.ireturn, 1) := by decide +kernel
theorem dL_451 : decode code 451 = .ok (.aload_n 1, 1) := by decide +kernel
theorem dL_452 : decode code 452 = .ok (.aload_n 0, 1) := by decide +kernel
theorem dL_453 : decode code 453 = .ok (.iload_n 3, 1) := by decide +kernel
theorem dL_454 : decode code 454 = .ok (.iconst 1, 1) := by decide +kernel
theorem dL_455 : decode code 455 = .ok (.iadd, 1) := by decide +kernel
theorem dL_456 : decode code 456 = .ok (.iaload, 1) := by decide +kernel
theorem dL_457 : decode code 457 = .ok (.invokevirtual 46, 3) := by decide +kernel
theorem dL_460 : decode code 460 = .ok (.aload_n 2, 1) := by decide +kernel
theorem dL_461 : decode code 461 = .ok (.aload_n 0, 1) := by decide +kernel
theorem dL_462 : decode code 462 = .ok (.iload_n 3, 1) := by decide +kernel
theorem dL_463 : decode code 463 = .ok (.iconst 1, 1) := by decide +kernel
theorem dL_464 : decode code 464 = .ok (.iadd, 1) := by decide +kernel
theorem dL_465 : decode code 465 = .ok (.iaload, 1) := by decide +kernel
theorem dL_466 : decode code 466 = .ok (.invokevirtual 50, 3) := by decide +kernel
theorem dL_469 : decode code 469 = .ok (.if_icmp .eq 891, 3) := by decide +kernel
theorem dL_472 : decode code 472 = .ok (.iconst 0, 1) := by decide +kernel
theorem dL_473 : decode code 473 = .ok (.ireturn, 1) := by decide +kernel
theorem dL_474 : decode code 474 = .ok (.aload_n 1, 1) := by decide +kernel
theorem dL_475 : decode code 475 = .ok (.aload_n 0, 1) := by decide +kernel
theorem dL_476 : decode code 476 = .ok (.iload_n 3, 1) := by decide +kernel
theorem dL_477 : decode code 477 = .ok (.iconst 1, 1) := by decide +kernel
theorem dL_478 : decode code 478 = .ok (.iadd, 1) := by decide +kernel
theorem dL_479 : decode code 479 = .ok (.iaload, 1) := by decide +kernel
theorem dL_480 : decode code 480 = .ok (.invokevirtual 51, 3) := by decide +kernel
theorem dL_483 : decode code 483 = .ok (.aload_n 2, 1) := by decide +kernel
theorem dL_484 : decode code 484 = .ok (.aload_n 0, 1) := by decide +kernel
theorem dL_485 : decode code 485 = .ok (.iload_n 3, 1) := by decide +kernel
theorem dL_486 : decode code 486 = .ok (.iconst 1, 1) := by decide +kernel
theorem dL_487 : decode code 487 = .ok (.iadd, 1) := by decide +kernel
theorem dL_488 : decode code 488 = .ok (.iaload, 1) := by decide +kernel
theorem dL_489 : decode code 489 = .ok (.invokevirtual 54, 3) := by decide +kernel
theorem dL_492 : decode code 492 = .ok (.if_icmp .eq 868, 3) := by decide +kernel
theorem dL_495 : decode code 495 = .ok (.iconst 0, 1) := by decide +kernel
theorem dL_496 : decode code 496 = .ok (.ireturn, 1) := by decide +kernel
theorem dL_497 : decode code 497 = .ok (.aload_n 1, 1) := by decide +kernel
theorem dL_498 : decode code 498 = .ok (.aload_n 0, 1) := by decide +kernel
theorem dL_499 : decode code 499 = .ok (.iload_n 3, 1) := by decide +kernel
theorem dL_500 : decode code 500 = .ok (.iconst 1, 1) := by decide +kernel
theorem dL_501 : decode code 501 = .ok (.iadd, 1) := by decide +kernel
theorem dL_502 : decode code 502 = .ok (.iaload, 1) := by decide +kernel
theorem dL_503 : decode code 503 = .ok (.invokevirtual 55, 3) := by decide +kernel
theorem dL_506 : decode code 506 = .ok (.aload_n 2, 1) := by decide +kernel
theorem dL_507 : decode code 507 = .ok (.aload_n 0, 1) := by decide +kernel
theorem dL_508 : decode code 508 = .ok (.iload_n 3, 1) := by decide +kernel
theorem dL_509 : decode code 509 = .ok (.iconst 1, 1) := by decide +kernel
theorem dL_510 : decode code 510 = .ok (.iadd, 1) := by decide +kernel
theorem dL_511 : decode code 511 = .ok (.iaload, 1) := by decide +kernel
theorem dL_512 : decode code 512 = .ok (.invokevirtual 58, 3) := by decide +kernel
theorem dL_515 : decode code 515 = .ok (.if_icmp .eq 845, 3) := by decide +kernel
theorem dL_518 : decode code 518 = .ok (.iconst 0, 1) := by decide +kernel
theorem dL_519 : decode code 519 = .ok (.ireturn, 1) := by decide +kernel
theorem dL_520 : decode code 520 = .ok (.aload_n 1, 1) := by decide +kernel
theorem dL_521 : decode code 521 = .ok (.aload_n 0, 1) := by decide +kernel
theorem dL_522 : decode code 522 = .ok (.iload_n 3, 1) := by decide +kernel
theorem dL_523 : decode code 523 = .ok (.iconst 1, 1) := by decide +kernel
theorem dL_524 : decode code 524 = .ok (.iadd, 1) := by decide +kernel
theorem dL_525 : decode code 525 = .ok (.iaload, 1) := by decide +kernel
theorem dL_526 : decode code 526 = .ok (.aload_n 0, 1) := by decide +kernel
theorem dL_527 : decode code 527 = .ok (.iload_n 3, 1) := by decide +kernel
theorem dL_528 : decode code 528 = .ok (.iconst 2, 1) := by decide +kernel
theorem dL_529 : decode code 529 = .ok (.iadd, 1) := by decide +kernel
theorem dL_530 : decode code 530 = .ok (.iaload, 1) := by decide +kernel
theorem dL_531 : decode code 531 = .ok (.invokevirtual 59, 3) := by decide +kernel
theorem dL_534 : decode code 534 = .ok (.aload_n 2, 1) := by decide +kernel
theorem dL_535 : decode code 535 = .ok (.aload_n 0, 1) := by decide +kernel
theorem dL_536 : decode code 536 = .ok (.iload_n 3, 1) := by decide +kernel
theorem dL_537 : decode code 537 = .ok (.iconst 1, 1) := by decide +kernel
theorem dL_538 : decode code 538 = .ok (.iadd, 1) := by decide +kernel
theorem dL_539 : decode code 539 = .ok (.iaload, 1) := by decide +kernel
theorem dL_540 : decode code 540 = .ok (.aload_n 0, 1) := by decide +kernel
theorem dL_541 : decode code 541 = .ok (.iload_n 3, 1) := by decide +kernel
theorem dL_542 : decode code 542 = .ok (.iconst 2, 1) := by decide +kernel
theorem dL_543 : decode code 543 = .ok (.iadd, 1) := by decide +kernel
theorem dL_544 : decode code 544 = .ok (.iaload, 1) := by decide +kernel
theorem dL_545 : decode code 545 = .ok (.invokevirtual 63, 3) := by decide +kernel
theorem dL_548 : decode code 548 = .ok (.if_icmp .eq 812, 3) := by decide +kernel
theorem dL_551 : decode code 551 = .ok (.iconst 0, 1) := by decide +kernel
theorem dL_552 : decode code 552 = .ok (.ireturn, 1) := by decide +kernel
theorem dL_553 : decode code 553 = .ok (.aload_n 1, 1) := by decide +kernel
theorem dL_554 : decode code 554 = .ok (.aload_n 0, 1) := by decide +kernel
theorem dL_555 : decode code 555 = .ok (.iload_n 3, 1) := by decide +kernel
theorem dL_556 : decode code 556 = .ok (.iconst 1, 1) := by decide +kernel
theorem dL_557 : decode code 557 = .ok (.iadd, 1) := by decide +kernel
theorem dL_558 : decode code 558 = .ok (.iaload, 1) := by decide +kernel
theorem dL_559 : decode code 559 = .ok (.aload_n 0, 1) := by decide +kernel
theorem dL_560 : decode code 560 = .ok (.iload_n 3, 1) := by decide +kernel
theorem dL_561 : decode code 561 = .ok (.iconst 2, 1) := by decide +kernel
theorem dL_562 : decode code 562 = .ok (.iadd, 1) := by decide +kernel
theorem dL_563 : decode code 563 = .ok (.iaload, 1) := by decide +kernel
