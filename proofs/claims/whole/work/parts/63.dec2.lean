theorem dLaw_law_379 : decode code 379 = .ok (.invokevirtual 56, 3) := by decide +kernel
theorem dLaw_law_382 : decode code 382 = .ok (.aload_n 2, 1) := by decide +kernel
theorem dLaw_law_383 : decode code 383 = .ok (.aload_n 0, 1) := by decide +kernel
theorem dLaw_law_384 : decode code 384 = .ok (.iload_n 3, 1) := by decide +kernel
theorem dLaw_law_385 : decode code 385 = .ok (.iconst 1, 1) := by decide +kernel
theorem dLaw_law_386 : decode code 386 = .ok (.iadd, 1) := by decide +kernel
theorem dLaw_law_387 : decode code 387 = .ok (.iaload, 1) := by decide +kernel
theorem dLaw_law_388 : decode code 388 = .ok (.aload_n 0, 1) := by decide +kernel
theorem dLaw_law_389 : decode code 389 = .ok (.iload_n 3, 1) := by decide +kernel
theorem dLaw_law_390 : decode code 390 = .ok (.iconst 2, 1) := by decide +kernel
theorem dLaw_law_391 : decode code 391 = .ok (.iadd, 1) := by decide +kernel
theorem dLaw_law_392 : decode code 392 = .ok (.iaload, 1) := by decide +kernel
theorem dLaw_law_393 : decode code 393 = .ok (.invokevirtual 59, 3) := by decide +kernel
theorem dLaw_law_396 : decode code 396 = .ok (.if_icmp .eq 260, 3) := by decide +kernel
theorem dLaw_law_399 : decode code 399 = .ok (.iconst 0, 1) := by decide +kernel
theorem dLaw_law_400 : decode code 400 = .ok (.ireturn, 1) := by decide +kernel
theorem dLaw_law_401 : decode code 401 = .ok (.aload_n 1, 1) := by decide +kernel
theorem dLaw_law_402 : decode code 402 = .ok (.aload_n 0, 1) := by decide +kernel
theorem dLaw_law_403 : decode code 403 = .ok (.iload_n 3, 1) := by decide +kernel
theorem dLaw_law_404 : decode code 404 = .ok (.iconst 1, 1) := by decide +kernel
theorem dLaw_law_405 : decode code 405 = .ok (.iadd, 1) := by decide +kernel
theorem dLaw_law_406 : decode code 406 = .ok (.iaload, 1) := by decide +kernel
theorem dLaw_law_407 : decode code 407 = .ok (.aload_n 0, 1) := by decide +kernel
theorem dLaw_law_408 : decode code 408 = .ok (.iload_n 3, 1) := by decide +kernel
theorem dLaw_law_409 : decode code 409 = .ok (.iconst 2, 1) := by decide +kernel
theorem dLaw_law_410 : decode code 410 = .ok (.iadd, 1) := by decide +kernel
theorem dLaw_law_411 : decode code 411 = .ok (.iaload, 1) := by decide +kernel
theorem dLaw_law_412 : decode code 412 = .ok (.aload_n 0, 1) := by decide +kernel
theorem dLaw_law_413 : decode code 413 = .ok (.iload_n 3, 1) := by decide +kernel
theorem dLaw_law_414 : decode code 414 = .ok (.iconst 3, 1) := by decide +kernel
theorem dLaw_law_415 : decode code 415 = .ok (.iadd, 1) := by decide +kernel
theorem dLaw_law_416 : decode code 416 = .ok (.iaload, 1) := by decide +kernel
theorem dLaw_law_417 : decode code 417 = .ok (.invokevirtual 60, 3) := by decide +kernel
theorem dLaw_law_420 : decode code 420 = .ok (.aload_n 2, 1) := by decide +kernel
theorem dLaw_law_421 : decode code 421 = .ok (.aload_n 0, 1) := by decide +kernel
theorem dLaw_law_422 : decode code 422 = .ok (.iload_n 3, 1) := by decide +kernel
theorem dLaw_law_423 : decode code 423 = .ok (.iconst 1, 1) := by decide +kernel
theorem dLaw_law_424 : decode code 424 = .ok (.iadd, 1) := by decide +kernel
theorem dLaw_law_425 : decode code 425 = .ok (.iaload, 1) := by decide +kernel
theorem dLaw_law_426 : decode code 426 = .ok (.aload_n 0, 1) := by decide +kernel
theorem dLaw_law_427 : decode code 427 = .ok (.iload_n 3, 1) := by decide +kernel
theorem dLaw_law_428 : decode code 428 = .ok (.iconst 2, 1) := by decide +kernel
theorem dLaw_law_429 : decode code 429 = .ok (.iadd, 1) := by decide +kernel
theorem dLaw_law_430 : decode code 430 = .ok (.iaload, 1) := by decide +kernel
theorem dLaw_law_431 : decode code 431 = .ok (.aload_n 0, 1) := by decide +kernel
theorem dLaw_law_432 : decode code 432 = .ok (.iload_n 3, 1) := by decide +kernel
theorem dLaw_law_433 : decode code 433 = .ok (.iconst 3, 1) := by decide +kernel
theorem dLaw_law_434 : decode code 434 = .ok (.iadd, 1) := by decide +kernel
theorem dLaw_law_435 : decode code 435 = .ok (.iaload, 1) := by decide +kernel
theorem dLaw_law_436 : decode code 436 = .ok (.invokevirtual 64, 3) := by decide +kernel
theorem dLaw_law_439 : decode code 439 = .ok (.if_icmp .eq 217, 3) := by decide +kernel
theorem dLaw_law_442 : decode code 442 = .ok (.iconst 0, 1) := by decide +kernel
theorem dLaw_law_443 : decode code 443 = .ok (.ireturn, 1) := by decide +kernel
theorem dLaw_law_444 : decode code 444 = .ok (.aload_n 1, 1) := by decide +kernel
theorem dLaw_law_445 : decode code 445 = .ok (.aload_n 0, 1) := by decide +kernel
theorem dLaw_law_446 : decode code 446 = .ok (.iload_n 3, 1) := by decide +kernel
theorem dLaw_law_447 : decode code 447 = .ok (.iconst 1, 1) := by decide +kernel
theorem dLaw_law_448 : decode code 448 = .ok (.iadd, 1) := by decide +kernel
theorem dLaw_law_449 : decode code 449 = .ok (.iaload, 1) := by decide +kernel
theorem dLaw_law_450 : decode code 450 = .ok (.aload_n 0, 1) := by decide +kernel
theorem dLaw_law_451 : decode code 451 = .ok (.iload_n 3, 1) := by decide +kernel
theorem dLaw_law_452 : decode code 452 = .ok (.iconst 2, 1) := by decide +kernel
theorem dLaw_law_453 : decode code 453 = .ok (.iadd, 1) := by decide +kernel
theorem dLaw_law_454 : decode code 454 = .ok (.iaload, 1) := by decide +kernel
theorem dLaw_law_455 : decode code 455 = .ok (.aload_n 0, 1) := by decide +kernel
theorem dLaw_law_456 : decode code 456 = .ok (.iload_n 3, 1) := by decide +kernel
theorem dLaw_law_457 : decode code 457 = .ok (.iconst 3, 1) := by decide +kernel
theorem dLaw_law_458 : decode code 458 = .ok (.iadd, 1) := by decide +kernel
theorem dLaw_law_459 : decode code 459 = .ok (.iaload, 1) := by decide +kernel
theorem dLaw_law_460 : decode code 460 = .ok (.invokevirtual 65, 3) := by decide +kernel
theorem dLaw_law_463 : decode code 463 = .ok (.aload_n 2, 1) := by decide +kernel
theorem dLaw_law_464 : decode code 464 = .ok (.aload_n 0, 1) := by decide +kernel
theorem dLaw_law_465 : decode code 465 = .ok (.iload_n 3, 1) := by decide +kernel
theorem dLaw_law_466 : decode code 466 = .ok (.iconst 1, 1) := by decide +kernel
theorem dLaw_law_467 : decode code 467 = .ok (.iadd, 1) := by decide +kernel
theorem dLaw_law_468 : decode code 468 = .ok (.iaload, 1) := by decide +kernel
theorem dLaw_law_469 : decode code 469 = .ok (.aload_n 0, 1) := by decide +kernel
theorem dLaw_law_470 : decode code 470 = .ok (.iload_n 3, 1) := by decide +kernel
theorem dLaw_law_471 : decode code 471 = .ok (.iconst 2, 1) := by decide +kernel
theorem dLaw_law_472 : decode code 472 = .ok (.iadd, 1) := by decide +kernel
theorem dLaw_law_473 : decode code 473 = .ok (.iaload, 1) := by decide +kernel
theorem dLaw_law_474 : decode code 474 = .ok (.aload_n 0, 1) := by decide +kernel
theorem dLaw_law_475 : decode code 475 = .ok (.iload_n 3, 1) := by decide +kernel
theorem dLaw_law_476 : decode code 476 = .ok (.iconst 3, 1) := by decide +kernel
theorem dLaw_law_477 : decode code 477 = .ok (.iadd, 1) := by decide +kernel
theorem dLaw_law_478 : decode code 478 = .ok (.iaload, 1) := by decide +kernel
theorem dLaw_law_479 : decode code 479 = .ok (.invokevirtual 68, 3) := by decide +kernel
theorem dLaw_law_482 : decode code 482 = .ok (.if_icmp .eq 174, 3) := by decide +kernel
theorem dLaw_law_485 : decode code 485 = .ok (.iconst 0, 1) := by decide +kernel
theorem dLaw_law_486 : decode code 486 = .ok (.ireturn, 1) := by decide +kernel
theorem dLaw_law_487 : decode code 487 = .ok (.aload_n 1, 1) := by decide +kernel
theorem dLaw_law_488 : decode code 488 = .ok (.aload_n 0, 1) := by decide +kernel
theorem dLaw_law_489 : decode code 489 = .ok (.iload_n 3, 1) := by decide +kernel
theorem dLaw_law_490 : decode code 490 = .ok (.iconst 1, 1) := by decide +kernel
theorem dLaw_law_491 : decode code 491 = .ok (.iadd, 1) := by decide +kernel
theorem dLaw_law_492 : decode code 492 = .ok (.iaload, 1) := by decide +kernel
theorem dLaw_law_493 : decode code 493 = .ok (.aload_n 0, 1) := by decide +kernel
theorem dLaw_law_494 : decode code 494 = .ok (.iload_n 3, 1) := by decide +kernel
theorem dLaw_law_495 : decode code 495 = .ok (.iconst 2, 1) := by decide +kernel
theorem dLaw_law_496 : decode code 496 = .ok (.iadd, 1) := by decide +kernel
theorem dLaw_law_497 : decode code 497 = .ok (.iaload, 1) := by decide +kernel
theorem dLaw_law_498 : decode code 498 = .ok (.aload_n 0, 1) := by decide +kernel
theorem dLaw_law_499 : decode code 499 = .ok (.iload_n 3, 1) := by decide +kernel
theorem dLaw_law_500 : decode code 500 = .ok (.iconst 3, 1) := by decide +kernel
theorem dLaw_law_501 : decode code 501 = .ok (.iadd, 1) := by decide +kernel
theorem dLaw_law_502 : decode code 502 = .ok (.iaload, 1) := by decide +kernel
theorem dLaw_law_503 : decode code 503 = .ok (.invokevirtual 69, 3) := by decide +kernel
theorem dLaw_law_506 : decode code 506 = .ok (.aload_n 2, 1) := by decide +kernel
theorem dLaw_law_507 : decode code 507 = .ok (.aload_n 0, 1) := by decide +kernel
theorem dLaw_law_508 : decode code 508 = .ok (.iload_n 3, 1) := by decide +kernel
theorem dLaw_law_509 : decode code 509 = .ok (.iconst 1, 1) := by decide +kernel
theorem dLaw_law_510 : decode code 510 = .ok (.iadd, 1) := by decide +kernel
theorem dLaw_law_511 : decode code 511 = .ok (.iaload, 1) := by decide +kernel
theorem dLaw_law_512 : decode code 512 = .ok (.aload_n 0, 1) := by decide +kernel
theorem dLaw_law_513 : decode code 513 = .ok (.iload_n 3, 1) := by decide +kernel
theorem dLaw_law_514 : decode code 514 = .ok (.iconst 2, 1) := by decide +kernel
theorem dLaw_law_515 : decode code 515 = .ok (.iadd, 1) := by decide +kernel
theorem dLaw_law_516 : decode code 516 = .ok (.iaload, 1) := by decide +kernel
theorem dLaw_law_517 : decode code 517 = .ok (.aload_n 0, 1) := by decide +kernel
theorem dLaw_law_518 : decode code 518 = .ok (.iload_n 3, 1) := by decide +kernel
theorem dLaw_law_519 : decode code 519 = .ok (.iconst 3, 1) := by decide +kernel
theorem dLaw_law_520 : decode code 520 = .ok (.iadd, 1) := by decide +kernel
theorem dLaw_law_521 : decode code 521 = .ok (.iaload, 1) := by decide +kernel
theorem dLaw_law_522 : decode code 522 = .ok (.invokevirtual 72, 3) := by decide +kernel
theorem dLaw_law_525 : decode code 525 = .ok (.if_icmp .eq 131, 3) := by decide +kernel
theorem dLaw_law_528 : decode code 528 = .ok (.iconst 0, 1) := by decide +kernel
theorem dLaw_law_529 : decode code 529 = .ok (.ireturn, 1) := by decide +kernel
theorem dLaw_law_530 : decode code 530 = .ok (.aload_n 1, 1) := by decide +kernel
theorem dLaw_law_531 : decode code 531 = .ok (.aload_n 0, 1) := by decide +kernel
theorem dLaw_law_532 : decode code 532 = .ok (.iload_n 3, 1) := by decide +kernel
theorem dLaw_law_533 : decode code 533 = .ok (.iconst 1, 1) := by decide +kernel
theorem dLaw_law_534 : decode code 534 = .ok (.iadd, 1) := by decide +kernel
theorem dLaw_law_535 : decode code 535 = .ok (.iaload, 1) := by decide +kernel
theorem dLaw_law_536 : decode code 536 = .ok (.aload_n 0, 1) := by decide +kernel
theorem dLaw_law_537 : decode code 537 = .ok (.iload_n 3, 1) := by decide +kernel
theorem dLaw_law_538 : decode code 538 = .ok (.iconst 2, 1) := by decide +kernel
theorem dLaw_law_539 : decode code 539 = .ok (.iadd, 1) := by decide +kernel
theorem dLaw_law_540 : decode code 540 = .ok (.iaload, 1) := by decide +kernel
theorem dLaw_law_541 : decode code 541 = .ok (.invokevirtual 73, 3) := by decide +kernel
theorem dLaw_law_544 : decode code 544 = .ok (.aload_n 2, 1) := by decide +kernel
theorem dLaw_law_545 : decode code 545 = .ok (.aload_n 0, 1) := by decide +kernel
theorem dLaw_law_546 : decode code 546 = .ok (.iload_n 3, 1) := by decide +kernel
theorem dLaw_law_547 : decode code 547 = .ok (.iconst 1, 1) := by decide +kernel
theorem dLaw_law_548 : decode code 548 = .ok (.iadd, 1) := by decide +kernel
theorem dLaw_law_549 : decode code 549 = .ok (.iaload, 1) := by decide +kernel
theorem dLaw_law_550 : decode code 550 = .ok (.aload_n 0, 1) := by decide +kernel
theorem dLaw_law_551 : decode code 551 = .ok (.iload_n 3, 1) := by decide +kernel
theorem dLaw_law_552 : decode code 552 = .ok (.iconst 2, 1) := by decide +kernel
theorem dLaw_law_553 : decode code 553 = .ok (.iadd, 1) := by decide +kernel
theorem dLaw_law_554 : decode code 554 = .ok (.iaload, 1) := by decide +kernel
theorem dLaw_law_555 : decode code 555 = .ok (.invokevirtual 76, 3) := by decide +kernel
theorem dLaw_law_558 : decode code 558 = .ok (.if_icmp .eq 98, 3) := by decide +kernel
theorem dLaw_law_561 : decode code 561 = .ok (.iconst 0, 1) := by decide +kernel
theorem dLaw_law_562 : decode code 562 = .ok (.ireturn, 1) := by decide +kernel
theorem dLaw_law_563 : decode code 563 = .ok (.aload_n 1, 1) := by decide +kernel
theorem dLaw_law_564 : decode code 564 = .ok (.aload_n 0, 1) := by decide +kernel
theorem dLaw_law_565 : decode code 565 = .ok (.iload_n 3, 1) := by decide +kernel
theorem dLaw_law_566 : decode code 566 = .ok (.iconst 1, 1) := by decide +kernel
theorem dLaw_law_567 : decode code 567 = .ok (.iadd, 1) := by decide +kernel
theorem dLaw_law_568 : decode code 568 = .ok (.iaload, 1) := by decide +kernel
theorem dLaw_law_569 : decode code 569 = .ok (.invokevirtual 77, 3) := by decide +kernel
theorem dLaw_law_572 : decode code 572 = .ok (.aload_n 2, 1) := by decide +kernel
theorem dLaw_law_573 : decode code 573 = .ok (.aload_n 0, 1) := by decide +kernel
theorem dLaw_law_574 : decode code 574 = .ok (.iload_n 3, 1) := by decide +kernel
theorem dLaw_law_575 : decode code 575 = .ok (.iconst 1, 1) := by decide +kernel
theorem dLaw_law_576 : decode code 576 = .ok (.iadd, 1) := by decide +kernel
theorem dLaw_law_577 : decode code 577 = .ok (.iaload, 1) := by decide +kernel
theorem dLaw_law_578 : decode code 578 = .ok (.invokevirtual 80, 3) := by decide +kernel
theorem dLaw_law_581 : decode code 581 = .ok (.if_icmp .eq 75, 3) := by decide +kernel
theorem dLaw_law_584 : decode code 584 = .ok (.iconst 0, 1) := by decide +kernel
theorem dLaw_law_585 : decode code 585 = .ok (.ireturn, 1) := by decide +kernel
theorem dLaw_law_586 : decode code 586 = .ok (.aload_n 1, 1) := by decide +kernel
theorem dLaw_law_587 : decode code 587 = .ok (.aload_n 0, 1) := by decide +kernel
theorem dLaw_law_588 : decode code 588 = .ok (.iload_n 3, 1) := by decide +kernel
theorem dLaw_law_589 : decode code 589 = .ok (.iconst 1, 1) := by decide +kernel
theorem dLaw_law_590 : decode code 590 = .ok (.iadd, 1) := by decide +kernel
theorem dLaw_law_591 : decode code 591 = .ok (.iaload, 1) := by decide +kernel
theorem dLaw_law_592 : decode code 592 = .ok (.invokevirtual 81, 3) := by decide +kernel
theorem dLaw_law_595 : decode code 595 = .ok (.aload_n 2, 1) := by decide +kernel
theorem dLaw_law_596 : decode code 596 = .ok (.aload_n 0, 1) := by decide +kernel
theorem dLaw_law_597 : decode code 597 = .ok (.iload_n 3, 1) := by decide +kernel
theorem dLaw_law_598 : decode code 598 = .ok (.iconst 1, 1) := by decide +kernel
theorem dLaw_law_599 : decode code 599 = .ok (.iadd, 1) := by decide +kernel
theorem dLaw_law_600 : decode code 600 = .ok (.iaload, 1) := by decide +kernel
theorem dLaw_law_601 : decode code 601 = .ok (.invokevirtual 84, 3) := by decide +kernel
theorem dLaw_law_604 : decode code 604 = .ok (.if_icmp .eq 52, 3) := by decide +kernel
theorem dLaw_law_607 : decode code 607 = .ok (.iconst 0, 1) := by decide +kernel
theorem dLaw_law_608 : decode code 608 = .ok (.ireturn, 1) := by decide +kernel
theorem dLaw_law_609 : decode code 609 = .ok (.aload_n 1, 1) := by decide +kernel
theorem dLaw_law_610 : decode code 610 = .ok (.aload_n 0, 1) := by decide +kernel
theorem dLaw_law_611 : decode code 611 = .ok (.iload_n 3, 1) := by decide +kernel
theorem dLaw_law_612 : decode code 612 = .ok (.iconst 1, 1) := by decide +kernel
theorem dLaw_law_613 : decode code 613 = .ok (.iadd, 1) := by decide +kernel
theorem dLaw_law_614 : decode code 614 = .ok (.iaload, 1) := by decide +kernel
theorem dLaw_law_615 : decode code 615 = .ok (.invokevirtual 85, 3) := by decide +kernel
theorem dLaw_law_618 : decode code 618 = .ok (.aload_n 2, 1) := by decide +kernel
theorem dLaw_law_619 : decode code 619 = .ok (.aload_n 0, 1) := by decide +kernel
theorem dLaw_law_620 : decode code 620 = .ok (.iload_n 3, 1) := by decide +kernel
theorem dLaw_law_621 : decode code 621 = .ok (.iconst 1, 1) := by decide +kernel
theorem dLaw_law_622 : decode code 622 = .ok (.iadd, 1) := by decide +kernel
theorem dLaw_law_623 : decode code 623 = .ok (.iaload, 1) := by decide +kernel
theorem dLaw_law_624 : decode code 624 = .ok (.invokevirtual 89, 3) := by decide +kernel
theorem dLaw_law_627 : decode code 627 = .ok (.lcmp, 1) := by decide +kernel
theorem dLaw_law_628 : decode code 628 = .ok (.ifCond .eq 28, 3) := by decide +kernel
theorem dLaw_law_631 : decode code 631 = .ok (.iconst 0, 1) := by decide +kernel
theorem dLaw_law_632 : decode code 632 = .ok (.ireturn, 1) := by decide +kernel
theorem dLaw_law_633 : decode code 633 = .ok (.aload_n 1, 1) := by decide +kernel
theorem dLaw_law_634 : decode code 634 = .ok (.aload_n 0, 1) := by decide +kernel
theorem dLaw_law_635 : decode code 635 = .ok (.iload_n 3, 1) := by decide +kernel
theorem dLaw_law_636 : decode code 636 = .ok (.iconst 1, 1) := by decide +kernel
theorem dLaw_law_637 : decode code 637 = .ok (.iadd, 1) := by decide +kernel
theorem dLaw_law_638 : decode code 638 = .ok (.iaload, 1) := by decide +kernel
theorem dLaw_law_639 : decode code 639 = .ok (.invokevirtual 90, 3) := by decide +kernel
theorem dLaw_law_642 : decode code 642 = .ok (.aload_n 2, 1) := by decide +kernel
theorem dLaw_law_643 : decode code 643 = .ok (.aload_n 0, 1) := by decide +kernel
theorem dLaw_law_644 : decode code 644 = .ok (.iload_n 3, 1) := by decide +kernel
theorem dLaw_law_645 : decode code 645 = .ok (.iconst 1, 1) := by decide +kernel
theorem dLaw_law_646 : decode code 646 = .ok (.iadd, 1) := by decide +kernel
theorem dLaw_law_647 : decode code 647 = .ok (.iaload, 1) := by decide +kernel
theorem dLaw_law_648 : decode code 648 = .ok (.invokevirtual 93, 3) := by decide +kernel
theorem dLaw_law_651 : decode code 651 = .ok (.if_icmp .eq 5, 3) := by decide +kernel
theorem dLaw_law_654 : decode code 654 = .ok (.iconst 0, 1) := by decide +kernel
theorem dLaw_law_655 : decode code 655 = .ok (.ireturn, 1) := by decide +kernel
theorem dLaw_law_656 : decode code 656 = .ok (.iinc 3  5, 3) := by decide +kernel
theorem dLaw_law_659 : decode code 659 = .ok (.goto (-611), 3) := by decide +kernel
theorem dLaw_law_662 : decode code 662 = .ok (.iconst 1, 1) := by decide +kernel
theorem dLaw_law_663 : decode code 663 = .ok (.ireturn, 1) := by decide +kernel
