/-! the law, decoded -/
theorem dl_383 : decode code 383 = .ok (.iconst 2, 1) := by decide +kernel
theorem dl_384 : decode code 384 = .ok (.iadd, 1) := by decide +kernel
theorem dl_385 : decode code 385 = .ok (.iaload, 1) := by decide +kernel
theorem dl_386 : decode code 386 = .ok (.aload_n 0, 1) := by decide +kernel
theorem dl_387 : decode code 387 = .ok (.iload_n 3, 1) := by decide +kernel
theorem dl_388 : decode code 388 = .ok (.iconst 3, 1) := by decide +kernel
theorem dl_389 : decode code 389 = .ok (.iadd, 1) := by decide +kernel
theorem dl_390 : decode code 390 = .ok (.iaload, 1) := by decide +kernel
theorem dl_391 : decode code 391 = .ok (.invokevirtual 61, 3) := by decide +kernel
theorem dl_394 : decode code 394 = .ok (.aload_n 2, 1) := by decide +kernel
theorem dl_395 : decode code 395 = .ok (.aload_n 0, 1) := by decide +kernel
theorem dl_396 : decode code 396 = .ok (.iload_n 3, 1) := by decide +kernel
theorem dl_397 : decode code 397 = .ok (.iconst 1, 1) := by decide +kernel
theorem dl_398 : decode code 398 = .ok (.iadd, 1) := by decide +kernel
theorem dl_399 : decode code 399 = .ok (.iaload, 1) := by decide +kernel
theorem dl_400 : decode code 400 = .ok (.aload_n 0, 1) := by decide +kernel
theorem dl_401 : decode code 401 = .ok (.iload_n 3, 1) := by decide +kernel
theorem dl_402 : decode code 402 = .ok (.iconst 2, 1) := by decide +kernel
theorem dl_403 : decode code 403 = .ok (.iadd, 1) := by decide +kernel
theorem dl_404 : decode code 404 = .ok (.iaload, 1) := by decide +kernel
theorem dl_405 : decode code 405 = .ok (.aload_n 0, 1) := by decide +kernel
theorem dl_406 : decode code 406 = .ok (.iload_n 3, 1) := by decide +kernel
theorem dl_407 : decode code 407 = .ok (.iconst 3, 1) := by decide +kernel
theorem dl_408 : decode code 408 = .ok (.iadd, 1) := by decide +kernel
theorem dl_409 : decode code 409 = .ok (.iaload, 1) := by decide +kernel
theorem dl_410 : decode code 410 = .ok (.invokevirtual 65, 3) := by decide +kernel
theorem dl_413 : decode code 413 = .ok (.if_icmp .eq 249, 3) := by decide +kernel
theorem dl_416 : decode code 416 = .ok (.iconst 0, 1) := by decide +kernel
theorem dl_417 : decode code 417 = .ok (.ireturn, 1) := by decide +kernel
theorem dl_418 : decode code 418 = .ok (.aload_n 1, 1) := by decide +kernel
theorem dl_419 : decode code 419 = .ok (.aload_n 0, 1) := by decide +kernel
theorem dl_420 : decode code 420 = .ok (.iload_n 3, 1) := by decide +kernel
theorem dl_421 : decode code 421 = .ok (.iconst 1, 1) := by decide +kernel
theorem dl_422 : decode code 422 = .ok (.iadd, 1) := by decide +kernel
theorem dl_423 : decode code 423 = .ok (.iaload, 1) := by decide +kernel
theorem dl_424 : decode code 424 = .ok (.aload_n 0, 1) := by decide +kernel
theorem dl_425 : decode code 425 = .ok (.iload_n 3, 1) := by decide +kernel
theorem dl_426 : decode code 426 = .ok (.iconst 2, 1) := by decide +kernel
theorem dl_427 : decode code 427 = .ok (.iadd, 1) := by decide +kernel
theorem dl_428 : decode code 428 = .ok (.iaload, 1) := by decide +kernel
theorem dl_429 : decode code 429 = .ok (.invokevirtual 66, 3) := by decide +kernel
theorem dl_432 : decode code 432 = .ok (.aload_n 2, 1) := by decide +kernel
theorem dl_433 : decode code 433 = .ok (.aload_n 0, 1) := by decide +kernel
theorem dl_434 : decode code 434 = .ok (.iload_n 3, 1) := by decide +kernel
theorem dl_435 : decode code 435 = .ok (.iconst 1, 1) := by decide +kernel
theorem dl_436 : decode code 436 = .ok (.iadd, 1) := by decide +kernel
theorem dl_437 : decode code 437 = .ok (.iaload, 1) := by decide +kernel
theorem dl_438 : decode code 438 = .ok (.aload_n 0, 1) := by decide +kernel
theorem dl_439 : decode code 439 = .ok (.iload_n 3, 1) := by decide +kernel
theorem dl_440 : decode code 440 = .ok (.iconst 2, 1) := by decide +kernel
theorem dl_441 : decode code 441 = .ok (.iadd, 1) := by decide +kernel
theorem dl_442 : decode code 442 = .ok (.iaload, 1) := by decide +kernel
theorem dl_443 : decode code 443 = .ok (.invokevirtual 69, 3) := by decide +kernel
theorem dl_446 : decode code 446 = .ok (.if_icmp .eq 216, 3) := by decide +kernel
theorem dl_449 : decode code 449 = .ok (.iconst 0, 1) := by decide +kernel
theorem dl_450 : decode code 450 = .ok (.ireturn, 1) := by decide +kernel
theorem dl_451 : decode code 451 = .ok (.aload_n 1, 1) := by decide +kernel
theorem dl_452 : decode code 452 = .ok (.aload_n 0, 1) := by decide +kernel
theorem dl_453 : decode code 453 = .ok (.iload_n 3, 1) := by decide +kernel
theorem dl_454 : decode code 454 = .ok (.iconst 1, 1) := by decide +kernel
theorem dl_455 : decode code 455 = .ok (.iadd, 1) := by decide +kernel
theorem dl_456 : decode code 456 = .ok (.iaload, 1) := by decide +kernel
theorem dl_457 : decode code 457 = .ok (.invokevirtual 70, 3) := by decide +kernel
theorem dl_460 : decode code 460 = .ok (.aload_n 2, 1) := by decide +kernel
theorem dl_461 : decode code 461 = .ok (.aload_n 0, 1) := by decide +kernel
theorem dl_462 : decode code 462 = .ok (.iload_n 3, 1) := by decide +kernel
theorem dl_463 : decode code 463 = .ok (.iconst 1, 1) := by decide +kernel
theorem dl_464 : decode code 464 = .ok (.iadd, 1) := by decide +kernel
theorem dl_465 : decode code 465 = .ok (.iaload, 1) := by decide +kernel
theorem dl_466 : decode code 466 = .ok (.invokevirtual 73, 3) := by decide +kernel
theorem dl_469 : decode code 469 = .ok (.if_icmp .eq 193, 3) := by decide +kernel
theorem dl_472 : decode code 472 = .ok (.iconst 0, 1) := by decide +kernel
theorem dl_473 : decode code 473 = .ok (.ireturn, 1) := by decide +kernel
theorem dl_474 : decode code 474 = .ok (.aload_n 1, 1) := by decide +kernel
theorem dl_475 : decode code 475 = .ok (.invokevirtual 74, 3) := by decide +kernel
theorem dl_478 : decode code 478 = .ok (.aload_n 2, 1) := by decide +kernel
theorem dl_479 : decode code 479 = .ok (.invokevirtual 77, 3) := by decide +kernel
theorem dl_482 : decode code 482 = .ok (.if_icmp .eq 180, 3) := by decide +kernel
theorem dl_485 : decode code 485 = .ok (.iconst 0, 1) := by decide +kernel
theorem dl_486 : decode code 486 = .ok (.ireturn, 1) := by decide +kernel
theorem dl_487 : decode code 487 = .ok (.aload_n 1, 1) := by decide +kernel
theorem dl_488 : decode code 488 = .ok (.aload_n 0, 1) := by decide +kernel
theorem dl_489 : decode code 489 = .ok (.iload_n 3, 1) := by decide +kernel
theorem dl_490 : decode code 490 = .ok (.iconst 1, 1) := by decide +kernel
theorem dl_491 : decode code 491 = .ok (.iadd, 1) := by decide +kernel
theorem dl_492 : decode code 492 = .ok (.iaload, 1) := by decide +kernel
theorem dl_493 : decode code 493 = .ok (.aload_n 0, 1) := by decide +kernel
theorem dl_494 : decode code 494 = .ok (.iload_n 3, 1) := by decide +kernel
theorem dl_495 : decode code 495 = .ok (.iconst 2, 1) := by decide +kernel
theorem dl_496 : decode code 496 = .ok (.iadd, 1) := by decide +kernel
theorem dl_497 : decode code 497 = .ok (.iaload, 1) := by decide +kernel
theorem dl_498 : decode code 498 = .ok (.ifCond .eq 7, 3) := by decide +kernel
theorem dl_501 : decode code 501 = .ok (.iconst 1, 1) := by decide +kernel
theorem dl_502 : decode code 502 = .ok (.goto 4, 3) := by decide +kernel
theorem dl_505 : decode code 505 = .ok (.iconst 0, 1) := by decide +kernel
theorem dl_506 : decode code 506 = .ok (.aload_n 0, 1) := by decide +kernel
theorem dl_507 : decode code 507 = .ok (.iload_n 3, 1) := by decide +kernel
theorem dl_508 : decode code 508 = .ok (.iconst 3, 1) := by decide +kernel
theorem dl_509 : decode code 509 = .ok (.iadd, 1) := by decide +kernel
theorem dl_510 : decode code 510 = .ok (.iaload, 1) := by decide +kernel
theorem dl_511 : decode code 511 = .ok (.invokevirtual 78, 3) := by decide +kernel
theorem dl_514 : decode code 514 = .ok (.aload_n 2, 1) := by decide +kernel
theorem dl_515 : decode code 515 = .ok (.aload_n 0, 1) := by decide +kernel
theorem dl_516 : decode code 516 = .ok (.iload_n 3, 1) := by decide +kernel
theorem dl_517 : decode code 517 = .ok (.iconst 1, 1) := by decide +kernel
theorem dl_518 : decode code 518 = .ok (.iadd, 1) := by decide +kernel
theorem dl_519 : decode code 519 = .ok (.iaload, 1) := by decide +kernel
theorem dl_520 : decode code 520 = .ok (.aload_n 0, 1) := by decide +kernel
theorem dl_521 : decode code 521 = .ok (.iload_n 3, 1) := by decide +kernel
theorem dl_522 : decode code 522 = .ok (.iconst 2, 1) := by decide +kernel
theorem dl_523 : decode code 523 = .ok (.iadd, 1) := by decide +kernel
theorem dl_524 : decode code 524 = .ok (.iaload, 1) := by decide +kernel
theorem dl_525 : decode code 525 = .ok (.ifCond .eq 7, 3) := by decide +kernel
theorem dl_528 : decode code 528 = .ok (.iconst 1, 1) := by decide +kernel
theorem dl_529 : decode code 529 = .ok (.goto 4, 3) := by decide +kernel
theorem dl_532 : decode code 532 = .ok (.iconst 0, 1) := by decide +kernel
theorem dl_533 : decode code 533 = .ok (.aload_n 0, 1) := by decide +kernel
theorem dl_534 : decode code 534 = .ok (.iload_n 3, 1) := by decide +kernel
theorem dl_535 : decode code 535 = .ok (.iconst 3, 1) := by decide +kernel
theorem dl_536 : decode code 536 = .ok (.iadd, 1) := by decide +kernel
theorem dl_537 : decode code 537 = .ok (.iaload, 1) := by decide +kernel
theorem dl_538 : decode code 538 = .ok (.invokevirtual 82, 3) := by decide +kernel
theorem dl_541 : decode code 541 = .ok (.if_icmp .eq 121, 3) := by decide +kernel
theorem dl_544 : decode code 544 = .ok (.iconst 0, 1) := by decide +kernel
theorem dl_545 : decode code 545 = .ok (.ireturn, 1) := by decide +kernel
theorem dl_546 : decode code 546 = .ok (.aload_n 1, 1) := by decide +kernel
theorem dl_547 : decode code 547 = .ok (.aload_n 0, 1) := by decide +kernel
theorem dl_548 : decode code 548 = .ok (.iload_n 3, 1) := by decide +kernel
theorem dl_549 : decode code 549 = .ok (.iconst 1, 1) := by decide +kernel
theorem dl_550 : decode code 550 = .ok (.iadd, 1) := by decide +kernel
theorem dl_551 : decode code 551 = .ok (.iaload, 1) := by decide +kernel
theorem dl_552 : decode code 552 = .ok (.invokevirtual 83, 3) := by decide +kernel
theorem dl_555 : decode code 555 = .ok (.aload_n 2, 1) := by decide +kernel
theorem dl_556 : decode code 556 = .ok (.aload_n 0, 1) := by decide +kernel
theorem dl_557 : decode code 557 = .ok (.iload_n 3, 1) := by decide +kernel
theorem dl_558 : decode code 558 = .ok (.iconst 1, 1) := by decide +kernel
theorem dl_559 : decode code 559 = .ok (.iadd, 1) := by decide +kernel
theorem dl_560 : decode code 560 = .ok (.iaload, 1) := by decide +kernel
theorem dl_561 : decode code 561 = .ok (.invokevirtual 86, 3) := by decide +kernel
theorem dl_564 : decode code 564 = .ok (.if_icmp .eq 98, 3) := by decide +kernel
theorem dl_567 : decode code 567 = .ok (.iconst 0, 1) := by decide +kernel
theorem dl_568 : decode code 568 = .ok (.ireturn, 1) := by decide +kernel
theorem dl_569 : decode code 569 = .ok (.aload_n 1, 1) := by decide +kernel
theorem dl_570 : decode code 570 = .ok (.invokevirtual 87, 3) := by decide +kernel
theorem dl_573 : decode code 573 = .ok (.aload_n 2, 1) := by decide +kernel
theorem dl_574 : decode code 574 = .ok (.invokevirtual 90, 3) := by decide +kernel
theorem dl_577 : decode code 577 = .ok (.if_icmp .eq 85, 3) := by decide +kernel
theorem dl_580 : decode code 580 = .ok (.iconst 0, 1) := by decide +kernel
theorem dl_581 : decode code 581 = .ok (.ireturn, 1) := by decide +kernel
theorem dl_582 : decode code 582 = .ok (.aload_n 1, 1) := by decide +kernel
theorem dl_583 : decode code 583 = .ok (.invokevirtual 91, 3) := by decide +kernel
theorem dl_586 : decode code 586 = .ok (.dstore 4, 2) := by decide +kernel
theorem dl_588 : decode code 588 = .ok (.aload_n 2, 1) := by decide +kernel
theorem dl_589 : decode code 589 = .ok (.invokevirtual 95, 3) := by decide +kernel
theorem dl_592 : decode code 592 = .ok (.dstore 6, 2) := by decide +kernel
theorem dl_594 : decode code 594 = .ok (.dload 4, 2) := by decide +kernel
theorem dl_596 : decode code 596 = .ok (.dload 6, 2) := by decide +kernel
theorem dl_598 : decode code 598 = .ok (.dcmp .l, 1) := by decide +kernel
theorem dl_599 : decode code 599 = .ok (.ifCond .eq 21, 3) := by decide +kernel
theorem dl_602 : decode code 602 = .ok (.dload 4, 2) := by decide +kernel
theorem dl_604 : decode code 604 = .ok (.dload 4, 2) := by decide +kernel
theorem dl_606 : decode code 606 = .ok (.dcmp .l, 1) := by decide +kernel
theorem dl_607 : decode code 607 = .ok (.ifCond .eq 11, 3) := by decide +kernel
theorem dl_610 : decode code 610 = .ok (.dload 6, 2) := by decide +kernel
theorem dl_612 : decode code 612 = .ok (.dload 6, 2) := by decide +kernel
theorem dl_614 : decode code 614 = .ok (.dcmp .l, 1) := by decide +kernel
theorem dl_615 : decode code 615 = .ok (.ifCond .ne 5, 3) := by decide +kernel
theorem dl_618 : decode code 618 = .ok (.iconst 0, 1) := by decide +kernel
theorem dl_619 : decode code 619 = .ok (.ireturn, 1) := by decide +kernel
theorem dl_620 : decode code 620 = .ok (.goto 42, 3) := by decide +kernel
theorem dl_623 : decode code 623 = .ok (.aload_n 1, 1) := by decide +kernel
theorem dl_624 : decode code 624 = .ok (.invokevirtual 96, 3) := by decide +kernel
theorem dl_627 : decode code 627 = .ok (.aload_n 2, 1) := by decide +kernel
theorem dl_628 : decode code 628 = .ok (.invokevirtual 99, 3) := by decide +kernel
theorem dl_631 : decode code 631 = .ok (.if_icmp .eq 31, 3) := by decide +kernel
theorem dl_634 : decode code 634 = .ok (.iconst 0, 1) := by decide +kernel
theorem dl_635 : decode code 635 = .ok (.ireturn, 1) := by decide +kernel
theorem dl_636 : decode code 636 = .ok (.aload_n 1, 1) := by decide +kernel
theorem dl_637 : decode code 637 = .ok (.invokevirtual 100, 3) := by decide +kernel
theorem dl_640 : decode code 640 = .ok (.aload_n 2, 1) := by decide +kernel
theorem dl_641 : decode code 641 = .ok (.invokevirtual 103, 3) := by decide +kernel
theorem dl_644 : decode code 644 = .ok (.if_icmp .eq 18, 3) := by decide +kernel
theorem dl_647 : decode code 647 = .ok (.iconst 0, 1) := by decide +kernel
theorem dl_648 : decode code 648 = .ok (.ireturn, 1) := by decide +kernel
theorem dl_649 : decode code 649 = .ok (.aload_n 1, 1) := by decide +kernel
theorem dl_650 : decode code 650 = .ok (.invokevirtual 104, 3) := by decide +kernel
theorem dl_653 : decode code 653 = .ok (.aload_n 2, 1) := by decide +kernel
theorem dl_654 : decode code 654 = .ok (.invokevirtual 107, 3) := by decide +kernel
theorem dl_657 : decode code 657 = .ok (.if_icmp .eq 5, 3) := by decide +kernel
theorem dl_660 : decode code 660 = .ok (.iconst 0, 1) := by decide +kernel
theorem dl_661 : decode code 661 = .ok (.ireturn, 1) := by decide +kernel
theorem dl_662 : decode code 662 = .ok (.iinc 3 4, 3) := by decide +kernel
theorem dl_665 : decode code 665 = .ok (.goto (-647), 3) := by decide +kernel
theorem dl_668 : decode code 668 = .ok (.iconst 1, 1) := by decide +kernel
theorem dl_669 : decode code 669 = .ok (.ireturn, 1) := by decide +kernel
