theorem dL_refuses_337 : decode cL_refuses 337 = .ok (.iconst 0, 1) := by decide +kernel
theorem dL_refuses_338 : decode cL_refuses 338 = .ok (.iconst 0, 1) := by decide +kernel
theorem dL_refuses_339 : decode cL_refuses 339 = .ok (.iconst 0, 1) := by decide +kernel
theorem dL_refuses_340 : decode cL_refuses 340 = .ok (.iconst 0, 1) := by decide +kernel
theorem dL_refuses_341 : decode cL_refuses 341 = .ok (.invokestatic 85, 3) := by decide +kernel
theorem dL_refuses_344 : decode cL_refuses 344 = .ok (.iload 6, 2) := by decide +kernel
theorem dL_refuses_346 : decode cL_refuses 346 = .ok (.if_icmp .ne 110, 3) := by decide +kernel
theorem dL_refuses_349 : decode cL_refuses 349 = .ok (.aload_n 0, 1) := by decide +kernel
theorem dL_refuses_350 : decode cL_refuses 350 = .ok (.iconst 2, 1) := by decide +kernel
theorem dL_refuses_351 : decode cL_refuses 351 = .ok (.iconst 0, 1) := by decide +kernel
theorem dL_refuses_352 : decode cL_refuses 352 = .ok (.iconst 1, 1) := by decide +kernel
theorem dL_refuses_353 : decode cL_refuses 353 = .ok (.iload 13, 2) := by decide +kernel
theorem dL_refuses_355 : decode cL_refuses 355 = .ok (.iconst 0, 1) := by decide +kernel
theorem dL_refuses_356 : decode cL_refuses 356 = .ok (.invokestatic 85, 3) := by decide +kernel
theorem dL_refuses_359 : decode cL_refuses 359 = .ok (.iload 6, 2) := by decide +kernel
theorem dL_refuses_361 : decode cL_refuses 361 = .ok (.if_icmp .ne 95, 3) := by decide +kernel
theorem dL_refuses_364 : decode cL_refuses 364 = .ok (.aload_n 0, 1) := by decide +kernel
theorem dL_refuses_365 : decode cL_refuses 365 = .ok (.iconst 3, 1) := by decide +kernel
theorem dL_refuses_366 : decode cL_refuses 366 = .ok (.iload 8, 2) := by decide +kernel
theorem dL_refuses_368 : decode cL_refuses 368 = .ok (.iconst 1, 1) := by decide +kernel
theorem dL_refuses_369 : decode cL_refuses 369 = .ok (.if_icmp .ne 7, 3) := by decide +kernel
theorem dL_refuses_372 : decode cL_refuses 372 = .ok (.iload_n 3, 1) := by decide +kernel
theorem dL_refuses_373 : decode cL_refuses 373 = .ok (.goto 5, 3) := by decide +kernel
theorem dL_refuses_376 : decode cL_refuses 376 = .ok (.iload 9, 2) := by decide +kernel
theorem dL_refuses_378 : decode cL_refuses 378 = .ok (.iconst 0, 1) := by decide +kernel
theorem dL_refuses_379 : decode cL_refuses 379 = .ok (.iconst 0, 1) := by decide +kernel
theorem dL_refuses_380 : decode cL_refuses 380 = .ok (.iconst 0, 1) := by decide +kernel
theorem dL_refuses_381 : decode cL_refuses 381 = .ok (.invokestatic 85, 3) := by decide +kernel
theorem dL_refuses_384 : decode cL_refuses 384 = .ok (.iload 5, 2) := by decide +kernel
theorem dL_refuses_386 : decode cL_refuses 386 = .ok (.if_icmp .ne 70, 3) := by decide +kernel
theorem dL_refuses_389 : decode cL_refuses 389 = .ok (.aload_n 0, 1) := by decide +kernel
theorem dL_refuses_390 : decode cL_refuses 390 = .ok (.bipush 10, 2) := by decide +kernel
theorem dL_refuses_392 : decode cL_refuses 392 = .ok (.iload 10, 2) := by decide +kernel
theorem dL_refuses_394 : decode cL_refuses 394 = .ok (.iconst 1, 1) := by decide +kernel
theorem dL_refuses_395 : decode cL_refuses 395 = .ok (.iconst 0, 1) := by decide +kernel
theorem dL_refuses_396 : decode cL_refuses 396 = .ok (.iconst 0, 1) := by decide +kernel
theorem dL_refuses_397 : decode cL_refuses 397 = .ok (.invokestatic 85, 3) := by decide +kernel
theorem dL_refuses_400 : decode cL_refuses 400 = .ok (.iload 6, 2) := by decide +kernel
theorem dL_refuses_402 : decode cL_refuses 402 = .ok (.if_icmp .ne 54, 3) := by decide +kernel
theorem dL_refuses_405 : decode cL_refuses 405 = .ok (.aload_n 0, 1) := by decide +kernel
theorem dL_refuses_406 : decode cL_refuses 406 = .ok (.bipush 10, 2) := by decide +kernel
theorem dL_refuses_408 : decode cL_refuses 408 = .ok (.iconst 0, 1) := by decide +kernel
theorem dL_refuses_409 : decode cL_refuses 409 = .ok (.iconst 0, 1) := by decide +kernel
theorem dL_refuses_410 : decode cL_refuses 410 = .ok (.iconst 0, 1) := by decide +kernel
theorem dL_refuses_411 : decode cL_refuses 411 = .ok (.iconst 0, 1) := by decide +kernel
theorem dL_refuses_412 : decode cL_refuses 412 = .ok (.invokestatic 85, 3) := by decide +kernel
theorem dL_refuses_415 : decode cL_refuses 415 = .ok (.iload 6, 2) := by decide +kernel
theorem dL_refuses_417 : decode cL_refuses 417 = .ok (.if_icmp .ne 39, 3) := by decide +kernel
theorem dL_refuses_420 : decode cL_refuses 420 = .ok (.aload_n 0, 1) := by decide +kernel
theorem dL_refuses_421 : decode cL_refuses 421 = .ok (.bipush 10, 2) := by decide +kernel
theorem dL_refuses_423 : decode cL_refuses 423 = .ok (.iconst 0, 1) := by decide +kernel
theorem dL_refuses_424 : decode cL_refuses 424 = .ok (.iconst 1, 1) := by decide +kernel
theorem dL_refuses_425 : decode cL_refuses 425 = .ok (.iload 13, 2) := by decide +kernel
theorem dL_refuses_427 : decode cL_refuses 427 = .ok (.iconst 0, 1) := by decide +kernel
theorem dL_refuses_428 : decode cL_refuses 428 = .ok (.invokestatic 85, 3) := by decide +kernel
theorem dL_refuses_431 : decode cL_refuses 431 = .ok (.iload 6, 2) := by decide +kernel
theorem dL_refuses_433 : decode cL_refuses 433 = .ok (.if_icmp .ne 23, 3) := by decide +kernel
theorem dL_refuses_436 : decode cL_refuses 436 = .ok (.aload_n 0, 1) := by decide +kernel
theorem dL_refuses_437 : decode cL_refuses 437 = .ok (.bipush 10, 2) := by decide +kernel
theorem dL_refuses_439 : decode cL_refuses 439 = .ok (.iconst 0, 1) := by decide +kernel
theorem dL_refuses_440 : decode cL_refuses 440 = .ok (.iconst 1, 1) := by decide +kernel
theorem dL_refuses_441 : decode cL_refuses 441 = .ok (.iconst 0, 1) := by decide +kernel
theorem dL_refuses_442 : decode cL_refuses 442 = .ok (.iload 13, 2) := by decide +kernel
theorem dL_refuses_444 : decode cL_refuses 444 = .ok (.invokestatic 85, 3) := by decide +kernel
theorem dL_refuses_447 : decode cL_refuses 447 = .ok (.iload 6, 2) := by decide +kernel
theorem dL_refuses_449 : decode cL_refuses 449 = .ok (.if_icmp .ne 7, 3) := by decide +kernel
theorem dL_refuses_452 : decode cL_refuses 452 = .ok (.iconst 1, 1) := by decide +kernel
theorem dL_refuses_453 : decode cL_refuses 453 = .ok (.goto 4, 3) := by decide +kernel
theorem dL_refuses_456 : decode cL_refuses 456 = .ok (.iconst 0, 1) := by decide +kernel
theorem dL_refuses_457 : decode cL_refuses 457 = .ok (.istore 15, 2) := by decide +kernel
theorem dL_refuses_459 : decode cL_refuses 459 = .ok (.iconst 4, 1) := by decide +kernel
theorem dL_refuses_460 : decode cL_refuses 460 = .ok (.istore 16, 2) := by decide +kernel
theorem dL_refuses_462 : decode cL_refuses 462 = .ok (.iload 16, 2) := by decide +kernel
theorem dL_refuses_464 : decode cL_refuses 464 = .ok (.bipush 6, 2) := by decide +kernel
theorem dL_refuses_466 : decode cL_refuses 466 = .ok (.if_icmp .ge 146, 3) := by decide +kernel
theorem dL_refuses_469 : decode cL_refuses 469 = .ok (.iload 15, 2) := by decide +kernel
theorem dL_refuses_471 : decode cL_refuses 471 = .ok (.ifCond .eq 132, 3) := by decide +kernel
theorem dL_refuses_474 : decode cL_refuses 474 = .ok (.aload_n 0, 1) := by decide +kernel
theorem dL_refuses_475 : decode cL_refuses 475 = .ok (.iload 16, 2) := by decide +kernel
theorem dL_refuses_477 : decode cL_refuses 477 = .ok (.iload 10, 2) := by decide +kernel
theorem dL_refuses_479 : decode cL_refuses 479 = .ok (.iconst 1, 1) := by decide +kernel
theorem dL_refuses_480 : decode cL_refuses 480 = .ok (.iconst 2, 1) := by decide +kernel
theorem dL_refuses_481 : decode cL_refuses 481 = .ok (.iconst 0, 1) := by decide +kernel
theorem dL_refuses_482 : decode cL_refuses 482 = .ok (.invokestatic 85, 3) := by decide +kernel
theorem dL_refuses_485 : decode cL_refuses 485 = .ok (.iload 6, 2) := by decide +kernel
theorem dL_refuses_487 : decode cL_refuses 487 = .ok (.if_icmp .ne 116, 3) := by decide +kernel
theorem dL_refuses_490 : decode cL_refuses 490 = .ok (.aload_n 0, 1) := by decide +kernel
theorem dL_refuses_491 : decode cL_refuses 491 = .ok (.iload 16, 2) := by decide +kernel
theorem dL_refuses_493 : decode cL_refuses 493 = .ok (.iconst 0, 1) := by decide +kernel
theorem dL_refuses_494 : decode cL_refuses 494 = .ok (.iconst 0, 1) := by decide +kernel
theorem dL_refuses_495 : decode cL_refuses 495 = .ok (.iconst 2, 1) := by decide +kernel
theorem dL_refuses_496 : decode cL_refuses 496 = .ok (.iconst 0, 1) := by decide +kernel
theorem dL_refuses_497 : decode cL_refuses 497 = .ok (.invokestatic 85, 3) := by decide +kernel
theorem dL_refuses_500 : decode cL_refuses 500 = .ok (.iload 6, 2) := by decide +kernel
theorem dL_refuses_502 : decode cL_refuses 502 = .ok (.if_icmp .ne 101, 3) := by decide +kernel
theorem dL_refuses_505 : decode cL_refuses 505 = .ok (.aload_n 0, 1) := by decide +kernel
theorem dL_refuses_506 : decode cL_refuses 506 = .ok (.iload 16, 2) := by decide +kernel
theorem dL_refuses_508 : decode cL_refuses 508 = .ok (.iconst 0, 1) := by decide +kernel
theorem dL_refuses_509 : decode cL_refuses 509 = .ok (.iconst 1, 1) := by decide +kernel
theorem dL_refuses_510 : decode cL_refuses 510 = .ok (.iconst 0, 1) := by decide +kernel
theorem dL_refuses_511 : decode cL_refuses 511 = .ok (.iconst 0, 1) := by decide +kernel
theorem dL_refuses_512 : decode cL_refuses 512 = .ok (.invokestatic 85, 3) := by decide +kernel
theorem dL_refuses_515 : decode cL_refuses 515 = .ok (.iload 6, 2) := by decide +kernel
theorem dL_refuses_517 : decode cL_refuses 517 = .ok (.if_icmp .ne 86, 3) := by decide +kernel
theorem dL_refuses_520 : decode cL_refuses 520 = .ok (.aload_n 0, 1) := by decide +kernel
theorem dL_refuses_521 : decode cL_refuses 521 = .ok (.iload 16, 2) := by decide +kernel
theorem dL_refuses_523 : decode cL_refuses 523 = .ok (.iconst 0, 1) := by decide +kernel
theorem dL_refuses_524 : decode cL_refuses 524 = .ok (.iconst 1, 1) := by decide +kernel
theorem dL_refuses_525 : decode cL_refuses 525 = .ok (.iload 11, 2) := by decide +kernel
theorem dL_refuses_527 : decode cL_refuses 527 = .ok (.iconst 0, 1) := by decide +kernel
theorem dL_refuses_528 : decode cL_refuses 528 = .ok (.invokestatic 85, 3) := by decide +kernel
theorem dL_refuses_531 : decode cL_refuses 531 = .ok (.iload 6, 2) := by decide +kernel
theorem dL_refuses_533 : decode cL_refuses 533 = .ok (.if_icmp .ne 70, 3) := by decide +kernel
theorem dL_refuses_536 : decode cL_refuses 536 = .ok (.aload_n 0, 1) := by decide +kernel
theorem dL_refuses_537 : decode cL_refuses 537 = .ok (.iload 16, 2) := by decide +kernel
theorem dL_refuses_539 : decode cL_refuses 539 = .ok (.iconst 0, 1) := by decide +kernel
theorem dL_refuses_540 : decode cL_refuses 540 = .ok (.iload 11, 2) := by decide +kernel
theorem dL_refuses_542 : decode cL_refuses 542 = .ok (.iconst 1, 1) := by decide +kernel
theorem dL_refuses_543 : decode cL_refuses 543 = .ok (.iconst 0, 1) := by decide +kernel
theorem dL_refuses_544 : decode cL_refuses 544 = .ok (.invokestatic 85, 3) := by decide +kernel
theorem dL_refuses_547 : decode cL_refuses 547 = .ok (.iload 6, 2) := by decide +kernel
theorem dL_refuses_549 : decode cL_refuses 549 = .ok (.if_icmp .ne 54, 3) := by decide +kernel
theorem dL_refuses_552 : decode cL_refuses 552 = .ok (.aload_n 0, 1) := by decide +kernel
theorem dL_refuses_553 : decode cL_refuses 553 = .ok (.iload 16, 2) := by decide +kernel
theorem dL_refuses_555 : decode cL_refuses 555 = .ok (.iconst 0, 1) := by decide +kernel
theorem dL_refuses_556 : decode cL_refuses 556 = .ok (.iconst 1, 1) := by decide +kernel
theorem dL_refuses_557 : decode cL_refuses 557 = .ok (.iconst 1, 1) := by decide +kernel
theorem dL_refuses_558 : decode cL_refuses 558 = .ok (.iconst 1, 1) := by decide +kernel
theorem dL_refuses_559 : decode cL_refuses 559 = .ok (.invokestatic 85, 3) := by decide +kernel
theorem dL_refuses_562 : decode cL_refuses 562 = .ok (.iload 6, 2) := by decide +kernel
theorem dL_refuses_564 : decode cL_refuses 564 = .ok (.if_icmp .ne 39, 3) := by decide +kernel
theorem dL_refuses_567 : decode cL_refuses 567 = .ok (.aload_n 0, 1) := by decide +kernel
theorem dL_refuses_568 : decode cL_refuses 568 = .ok (.iload 16, 2) := by decide +kernel
theorem dL_refuses_570 : decode cL_refuses 570 = .ok (.iconst 0, 1) := by decide +kernel
theorem dL_refuses_571 : decode cL_refuses 571 = .ok (.iconst 1, 1) := by decide +kernel
theorem dL_refuses_572 : decode cL_refuses 572 = .ok (.bipush 12, 2) := by decide +kernel
theorem dL_refuses_574 : decode cL_refuses 574 = .ok (.iconst 1, 1) := by decide +kernel
theorem dL_refuses_575 : decode cL_refuses 575 = .ok (.invokestatic 85, 3) := by decide +kernel
theorem dL_refuses_578 : decode cL_refuses 578 = .ok (.iload 6, 2) := by decide +kernel
theorem dL_refuses_580 : decode cL_refuses 580 = .ok (.if_icmp .ne 23, 3) := by decide +kernel
theorem dL_refuses_583 : decode cL_refuses 583 = .ok (.aload_n 0, 1) := by decide +kernel
theorem dL_refuses_584 : decode cL_refuses 584 = .ok (.iload 16, 2) := by decide +kernel
theorem dL_refuses_586 : decode cL_refuses 586 = .ok (.iconst 0, 1) := by decide +kernel
theorem dL_refuses_587 : decode cL_refuses 587 = .ok (.bipush 123, 2) := by decide +kernel
theorem dL_refuses_589 : decode cL_refuses 589 = .ok (.iconst 1, 1) := by decide +kernel
theorem dL_refuses_590 : decode cL_refuses 590 = .ok (.iconst 1, 1) := by decide +kernel
theorem dL_refuses_591 : decode cL_refuses 591 = .ok (.invokestatic 85, 3) := by decide +kernel
theorem dL_refuses_594 : decode cL_refuses 594 = .ok (.iload 6, 2) := by decide +kernel
theorem dL_refuses_596 : decode cL_refuses 596 = .ok (.if_icmp .ne 7, 3) := by decide +kernel
theorem dL_refuses_599 : decode cL_refuses 599 = .ok (.iconst 1, 1) := by decide +kernel
theorem dL_refuses_600 : decode cL_refuses 600 = .ok (.goto 4, 3) := by decide +kernel
theorem dL_refuses_603 : decode cL_refuses 603 = .ok (.iconst 0, 1) := by decide +kernel
theorem dL_refuses_604 : decode cL_refuses 604 = .ok (.istore 15, 2) := by decide +kernel
theorem dL_refuses_606 : decode cL_refuses 606 = .ok (.iinc 16 1, 3) := by decide +kernel
theorem dL_refuses_609 : decode cL_refuses 609 = .ok (.goto (-147), 3) := by decide +kernel
theorem dL_refuses_612 : decode cL_refuses 612 = .ok (.bipush 6, 2) := by decide +kernel
theorem dL_refuses_614 : decode cL_refuses 614 = .ok (.istore 16, 2) := by decide +kernel
theorem dL_refuses_616 : decode cL_refuses 616 = .ok (.iload 16, 2) := by decide +kernel
theorem dL_refuses_618 : decode cL_refuses 618 = .ok (.bipush 9, 2) := by decide +kernel
theorem dL_refuses_620 : decode cL_refuses 620 = .ok (.if_icmp .ge 53, 3) := by decide +kernel
theorem dL_refuses_623 : decode cL_refuses 623 = .ok (.iload 15, 2) := by decide +kernel
theorem dL_refuses_625 : decode cL_refuses 625 = .ok (.ifCond .eq 39, 3) := by decide +kernel
theorem dL_refuses_628 : decode cL_refuses 628 = .ok (.aload_n 0, 1) := by decide +kernel
theorem dL_refuses_629 : decode cL_refuses 629 = .ok (.iload 16, 2) := by decide +kernel
theorem dL_refuses_631 : decode cL_refuses 631 = .ok (.iload 11, 2) := by decide +kernel
theorem dL_refuses_633 : decode cL_refuses 633 = .ok (.iconst 0, 1) := by decide +kernel
theorem dL_refuses_634 : decode cL_refuses 634 = .ok (.iconst 0, 1) := by decide +kernel
theorem dL_refuses_635 : decode cL_refuses 635 = .ok (.iconst 0, 1) := by decide +kernel
theorem dL_refuses_636 : decode cL_refuses 636 = .ok (.invokestatic 85, 3) := by decide +kernel
theorem dL_refuses_639 : decode cL_refuses 639 = .ok (.iload 6, 2) := by decide +kernel
theorem dL_refuses_641 : decode cL_refuses 641 = .ok (.if_icmp .ne 23, 3) := by decide +kernel
theorem dL_refuses_644 : decode cL_refuses 644 = .ok (.aload_n 0, 1) := by decide +kernel
theorem dL_refuses_645 : decode cL_refuses 645 = .ok (.iload 16, 2) := by decide +kernel
theorem dL_refuses_647 : decode cL_refuses 647 = .ok (.iload 12, 2) := by decide +kernel
theorem dL_refuses_649 : decode cL_refuses 649 = .ok (.iconst 0, 1) := by decide +kernel
theorem dL_refuses_650 : decode cL_refuses 650 = .ok (.iconst 0, 1) := by decide +kernel
theorem dL_refuses_651 : decode cL_refuses 651 = .ok (.iconst 0, 1) := by decide +kernel
theorem dL_refuses_652 : decode cL_refuses 652 = .ok (.invokestatic 85, 3) := by decide +kernel
theorem dL_refuses_655 : decode cL_refuses 655 = .ok (.iload 6, 2) := by decide +kernel
theorem dL_refuses_657 : decode cL_refuses 657 = .ok (.if_icmp .ne 7, 3) := by decide +kernel
theorem dL_refuses_660 : decode cL_refuses 660 = .ok (.iconst 1, 1) := by decide +kernel
theorem dL_refuses_661 : decode cL_refuses 661 = .ok (.goto 4, 3) := by decide +kernel
theorem dL_refuses_664 : decode cL_refuses 664 = .ok (.iconst 0, 1) := by decide +kernel
theorem dL_refuses_665 : decode cL_refuses 665 = .ok (.istore 15, 2) := by decide +kernel
theorem dL_refuses_667 : decode cL_refuses 667 = .ok (.iinc 16 1, 3) := by decide +kernel
theorem dL_refuses_670 : decode cL_refuses 670 = .ok (.goto (-54), 3) := by decide +kernel
theorem dL_refuses_673 : decode cL_refuses 673 = .ok (.iload 15, 2) := by decide +kernel
theorem dL_refuses_675 : decode cL_refuses 675 = .ok (.ifCond .eq 433, 3) := by decide +kernel
theorem dL_refuses_678 : decode cL_refuses 678 = .ok (.aload_n 0, 1) := by decide +kernel
theorem dL_refuses_679 : decode cL_refuses 679 = .ok (.iconst 0, 1) := by decide +kernel
theorem dL_refuses_680 : decode cL_refuses 680 = .ok (.iconst 0, 1) := by decide +kernel
theorem dL_refuses_681 : decode cL_refuses 681 = .ok (.iload 11, 2) := by decide +kernel
theorem dL_refuses_683 : decode cL_refuses 683 = .ok (.iconst 0, 1) := by decide +kernel
theorem dL_refuses_684 : decode cL_refuses 684 = .ok (.iconst 0, 1) := by decide +kernel
theorem dL_refuses_685 : decode cL_refuses 685 = .ok (.invokestatic 85, 3) := by decide +kernel
theorem dL_refuses_688 : decode cL_refuses 688 = .ok (.iload 6, 2) := by decide +kernel
theorem dL_refuses_690 : decode cL_refuses 690 = .ok (.if_icmp .ne 418, 3) := by decide +kernel
theorem dL_refuses_693 : decode cL_refuses 693 = .ok (.aload_n 0, 1) := by decide +kernel
theorem dL_refuses_694 : decode cL_refuses 694 = .ok (.iconst 1, 1) := by decide +kernel
theorem dL_refuses_695 : decode cL_refuses 695 = .ok (.iconst 0, 1) := by decide +kernel
