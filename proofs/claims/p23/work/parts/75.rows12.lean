theorem dL_partly_462 : decode cL_partly 462 = .ok (.aload_n 0, 1) := by decide +kernel
theorem dL_partly_463 : decode cL_partly 463 = .ok (.bipush 19, 2) := by decide +kernel
theorem dL_partly_465 : decode cL_partly 465 = .ok (.iconst 0, 1) := by decide +kernel
theorem dL_partly_466 : decode cL_partly 466 = .ok (.iconst 3, 1) := by decide +kernel
theorem dL_partly_467 : decode cL_partly 467 = .ok (.iconst 1, 1) := by decide +kernel
theorem dL_partly_468 : decode cL_partly 468 = .ok (.iconst 0, 1) := by decide +kernel
theorem dL_partly_469 : decode cL_partly 469 = .ok (.invokestatic 85, 3) := by decide +kernel
theorem dL_partly_472 : decode cL_partly 472 = .ok (.iload_n 1, 1) := by decide +kernel
theorem dL_partly_473 : decode cL_partly 473 = .ok (.bipush 30, 2) := by decide +kernel
theorem dL_partly_475 : decode cL_partly 475 = .ok (.if_icmp .ge 7, 3) := by decide +kernel
theorem dL_partly_478 : decode cL_partly 478 = .ok (.iload_n 1, 1) := by decide +kernel
theorem dL_partly_479 : decode cL_partly 479 = .ok (.goto 6, 3) := by decide +kernel
theorem dL_partly_482 : decode cL_partly 482 = .ok (.sipush (-9003), 3) := by decide +kernel
theorem dL_partly_485 : decode cL_partly 485 = .ok (.if_icmp .eq 5, 3) := by decide +kernel
theorem dL_partly_488 : decode cL_partly 488 = .ok (.iconst 0, 1) := by decide +kernel
theorem dL_partly_489 : decode cL_partly 489 = .ok (.ireturn, 1) := by decide +kernel
theorem dL_partly_490 : decode cL_partly 490 = .ok (.iinc 1 1, 3) := by decide +kernel
theorem dL_partly_493 : decode cL_partly 493 = .ok (.goto (-37), 3) := by decide +kernel
theorem dL_partly_496 : decode cL_partly 496 = .ok (.aload_n 0, 1) := by decide +kernel
theorem dL_partly_497 : decode cL_partly 497 = .ok (.iconst 0, 1) := by decide +kernel
theorem dL_partly_498 : decode cL_partly 498 = .ok (.bipush 9, 2) := by decide +kernel
theorem dL_partly_500 : decode cL_partly 500 = .ok (.iconst 0, 1) := by decide +kernel
theorem dL_partly_501 : decode cL_partly 501 = .ok (.invokevirtual 17, 3) := by decide +kernel
theorem dL_partly_504 : decode cL_partly 504 = .ok (.ifCond .ne 159, 3) := by decide +kernel
theorem dL_partly_507 : decode cL_partly 507 = .ok (.aload_n 0, 1) := by decide +kernel
theorem dL_partly_508 : decode cL_partly 508 = .ok (.iconst 1, 1) := by decide +kernel
theorem dL_partly_509 : decode cL_partly 509 = .ok (.bipush 9, 2) := by decide +kernel
theorem dL_partly_511 : decode cL_partly 511 = .ok (.iconst 4, 1) := by decide +kernel
theorem dL_partly_512 : decode cL_partly 512 = .ok (.iconst (-1), 1) := by decide +kernel
theorem dL_partly_513 : decode cL_partly 513 = .ok (.iconst 0, 1) := by decide +kernel
theorem dL_partly_514 : decode cL_partly 514 = .ok (.invokevirtual 13, 3) := by decide +kernel
theorem dL_partly_517 : decode cL_partly 517 = .ok (.ifCond .ne 146, 3) := by decide +kernel
theorem dL_partly_520 : decode cL_partly 520 = .ok (.aload_n 0, 1) := by decide +kernel
theorem dL_partly_521 : decode cL_partly 521 = .ok (.bipush 9, 2) := by decide +kernel
theorem dL_partly_523 : decode cL_partly 523 = .ok (.invokevirtual 65, 3) := by decide +kernel
theorem dL_partly_526 : decode cL_partly 526 = .ok (.ifCond .ne 137, 3) := by decide +kernel
theorem dL_partly_529 : decode cL_partly 529 = .ok (.aload_n 0, 1) := by decide +kernel
theorem dL_partly_530 : decode cL_partly 530 = .ok (.bipush 9, 2) := by decide +kernel
theorem dL_partly_532 : decode cL_partly 532 = .ok (.invokevirtual 65, 3) := by decide +kernel
theorem dL_partly_535 : decode cL_partly 535 = .ok (.aload_n 0, 1) := by decide +kernel
theorem dL_partly_536 : decode cL_partly 536 = .ok (.bipush 9, 2) := by decide +kernel
theorem dL_partly_538 : decode cL_partly 538 = .ok (.invokevirtual 65, 3) := by decide +kernel
theorem dL_partly_541 : decode cL_partly 541 = .ok (.iadd, 1) := by decide +kernel
theorem dL_partly_542 : decode cL_partly 542 = .ok (.aload_n 0, 1) := by decide +kernel
theorem dL_partly_543 : decode cL_partly 543 = .ok (.bipush 9, 2) := by decide +kernel
theorem dL_partly_545 : decode cL_partly 545 = .ok (.invokevirtual 65, 3) := by decide +kernel
theorem dL_partly_548 : decode cL_partly 548 = .ok (.iadd, 1) := by decide +kernel
theorem dL_partly_549 : decode cL_partly 549 = .ok (.aload_n 0, 1) := by decide +kernel
theorem dL_partly_550 : decode cL_partly 550 = .ok (.bipush 9, 2) := by decide +kernel
theorem dL_partly_552 : decode cL_partly 552 = .ok (.invokevirtual 65, 3) := by decide +kernel
theorem dL_partly_555 : decode cL_partly 555 = .ok (.iadd, 1) := by decide +kernel
theorem dL_partly_556 : decode cL_partly 556 = .ok (.bipush 10, 2) := by decide +kernel
theorem dL_partly_558 : decode cL_partly 558 = .ok (.if_icmp .ne 105, 3) := by decide +kernel
theorem dL_partly_561 : decode cL_partly 561 = .ok (.aload_n 0, 1) := by decide +kernel
theorem dL_partly_562 : decode cL_partly 562 = .ok (.bipush 9, 2) := by decide +kernel
theorem dL_partly_564 : decode cL_partly 564 = .ok (.invokevirtual 65, 3) := by decide +kernel
theorem dL_partly_567 : decode cL_partly 567 = .ok (.aload_n 0, 1) := by decide +kernel
theorem dL_partly_568 : decode cL_partly 568 = .ok (.bipush 9, 2) := by decide +kernel
theorem dL_partly_570 : decode cL_partly 570 = .ok (.invokevirtual 65, 3) := by decide +kernel
theorem dL_partly_573 : decode cL_partly 573 = .ok (.iadd, 1) := by decide +kernel
theorem dL_partly_574 : decode cL_partly 574 = .ok (.aload_n 0, 1) := by decide +kernel
theorem dL_partly_575 : decode cL_partly 575 = .ok (.bipush 9, 2) := by decide +kernel
theorem dL_partly_577 : decode cL_partly 577 = .ok (.invokevirtual 65, 3) := by decide +kernel
theorem dL_partly_580 : decode cL_partly 580 = .ok (.iadd, 1) := by decide +kernel
theorem dL_partly_581 : decode cL_partly 581 = .ok (.aload_n 0, 1) := by decide +kernel
theorem dL_partly_582 : decode cL_partly 582 = .ok (.bipush 9, 2) := by decide +kernel
theorem dL_partly_584 : decode cL_partly 584 = .ok (.invokevirtual 65, 3) := by decide +kernel
theorem dL_partly_587 : decode cL_partly 587 = .ok (.iadd, 1) := by decide +kernel
theorem dL_partly_588 : decode cL_partly 588 = .ok (.aload_n 0, 1) := by decide +kernel
theorem dL_partly_589 : decode cL_partly 589 = .ok (.bipush 9, 2) := by decide +kernel
theorem dL_partly_591 : decode cL_partly 591 = .ok (.invokevirtual 65, 3) := by decide +kernel
theorem dL_partly_594 : decode cL_partly 594 = .ok (.iadd, 1) := by decide +kernel
theorem dL_partly_595 : decode cL_partly 595 = .ok (.bipush 35, 2) := by decide +kernel
theorem dL_partly_597 : decode cL_partly 597 = .ok (.if_icmp .ne 66, 3) := by decide +kernel
theorem dL_partly_600 : decode cL_partly 600 = .ok (.aload_n 0, 1) := by decide +kernel
theorem dL_partly_601 : decode cL_partly 601 = .ok (.bipush 16, 2) := by decide +kernel
theorem dL_partly_603 : decode cL_partly 603 = .ok (.bipush 9, 2) := by decide +kernel
theorem dL_partly_605 : decode cL_partly 605 = .ok (.iconst 0, 1) := by decide +kernel
theorem dL_partly_606 : decode cL_partly 606 = .ok (.iconst 0, 1) := by decide +kernel
theorem dL_partly_607 : decode cL_partly 607 = .ok (.iconst 0, 1) := by decide +kernel
theorem dL_partly_608 : decode cL_partly 608 = .ok (.invokestatic 85, 3) := by decide +kernel
theorem dL_partly_611 : decode cL_partly 611 = .ok (.sipush (-9003), 3) := by decide +kernel
theorem dL_partly_614 : decode cL_partly 614 = .ok (.if_icmp .ne 49, 3) := by decide +kernel
theorem dL_partly_617 : decode cL_partly 617 = .ok (.aload_n 0, 1) := by decide +kernel
theorem dL_partly_618 : decode cL_partly 618 = .ok (.bipush 10, 2) := by decide +kernel
theorem dL_partly_620 : decode cL_partly 620 = .ok (.invokevirtual 55, 3) := by decide +kernel
theorem dL_partly_623 : decode cL_partly 623 = .ok (.bipush 27, 2) := by decide +kernel
theorem dL_partly_625 : decode cL_partly 625 = .ok (.if_icmp .ne 38, 3) := by decide +kernel
theorem dL_partly_628 : decode cL_partly 628 = .ok (.aload_n 0, 1) := by decide +kernel
theorem dL_partly_629 : decode cL_partly 629 = .ok (.iconst 3, 1) := by decide +kernel
theorem dL_partly_630 : decode cL_partly 630 = .ok (.invokevirtual 58, 3) := by decide +kernel
theorem dL_partly_633 : decode cL_partly 633 = .ok (.ifCond .ne 30, 3) := by decide +kernel
theorem dL_partly_636 : decode cL_partly 636 = .ok (.aload_n 0, 1) := by decide +kernel
theorem dL_partly_637 : decode cL_partly 637 = .ok (.bipush 11, 2) := by decide +kernel
theorem dL_partly_639 : decode cL_partly 639 = .ok (.iconst 0, 1) := by decide +kernel
theorem dL_partly_640 : decode cL_partly 640 = .ok (.iconst 3, 1) := by decide +kernel
theorem dL_partly_641 : decode cL_partly 641 = .ok (.iconst 5, 1) := by decide +kernel
theorem dL_partly_642 : decode cL_partly 642 = .ok (.iconst 0, 1) := by decide +kernel
theorem dL_partly_643 : decode cL_partly 643 = .ok (.invokestatic 85, 3) := by decide +kernel
theorem dL_partly_646 : decode cL_partly 646 = .ok (.sipush (-9003), 3) := by decide +kernel
theorem dL_partly_649 : decode cL_partly 649 = .ok (.if_icmp .ne 14, 3) := by decide +kernel
theorem dL_partly_652 : decode cL_partly 652 = .ok (.aload_n 0, 1) := by decide +kernel
theorem dL_partly_653 : decode cL_partly 653 = .ok (.invokestatic 92, 3) := by decide +kernel
theorem dL_partly_656 : decode cL_partly 656 = .ok (.ifCond .eq 7, 3) := by decide +kernel
theorem dL_partly_659 : decode cL_partly 659 = .ok (.iconst 1, 1) := by decide +kernel
theorem dL_partly_660 : decode cL_partly 660 = .ok (.goto 4, 3) := by decide +kernel
theorem dL_partly_663 : decode cL_partly 663 = .ok (.iconst 0, 1) := by decide +kernel
theorem dL_partly_664 : decode cL_partly 664 = .ok (.ireturn, 1) := by decide +kernel
theorem dL_law_0 : decode cL_law 0 = .ok (.invokestatic 102, 3) := by decide +kernel
theorem dL_law_3 : decode cL_law 3 = .ok (.ifCond .eq 15, 3) := by decide +kernel
theorem dL_law_6 : decode cL_law 6 = .ok (.invokestatic 106, 3) := by decide +kernel
theorem dL_law_9 : decode cL_law 9 = .ok (.ifCond .eq 9, 3) := by decide +kernel
theorem dL_law_12 : decode cL_law 12 = .ok (.invokestatic 109, 3) := by decide +kernel
theorem dL_law_15 : decode cL_law 15 = .ok (.ifCond .ne 5, 3) := by decide +kernel
theorem dL_law_18 : decode cL_law 18 = .ok (.iconst 0, 1) := by decide +kernel
theorem dL_law_19 : decode cL_law 19 = .ok (.ireturn, 1) := by decide +kernel
theorem dL_law_20 : decode cL_law 20 = .ok (.new 8, 3) := by decide +kernel
theorem dL_law_23 : decode cL_law 23 = .ok (.dup, 1) := by decide +kernel
theorem dL_law_24 : decode cL_law 24 = .ok (.invokespecial 91, 3) := by decide +kernel
theorem dL_law_27 : decode cL_law 27 = .ok (.astore_n 1, 1) := by decide +kernel
theorem dL_law_28 : decode cL_law 28 = .ok (.iconst 0, 1) := by decide +kernel
theorem dL_law_29 : decode cL_law 29 = .ok (.istore_n 2, 1) := by decide +kernel
theorem dL_law_30 : decode cL_law 30 = .ok (.iload_n 2, 1) := by decide +kernel
theorem dL_law_31 : decode cL_law 31 = .ok (.bipush 30, 2) := by decide +kernel
theorem dL_law_33 : decode cL_law 33 = .ok (.if_icmp .ge 206, 3) := by decide +kernel
theorem dL_law_36 : decode cL_law 36 = .ok (.aload_n 0, 1) := by decide +kernel
theorem dL_law_37 : decode cL_law 37 = .ok (.arraylength, 1) := by decide +kernel
theorem dL_law_38 : decode cL_law 38 = .ok (.ifCond .ne 10, 3) := by decide +kernel
theorem dL_law_41 : decode cL_law 41 = .ok (.bipush 41, 2) := by decide +kernel
theorem dL_law_43 : decode cL_law 43 = .ok (.iload_n 2, 1) := by decide +kernel
theorem dL_law_44 : decode cL_law 44 = .ok (.imul, 1) := by decide +kernel
theorem dL_law_45 : decode cL_law 45 = .ok (.goto 12, 3) := by decide +kernel
theorem dL_law_48 : decode cL_law 48 = .ok (.aload_n 0, 1) := by decide +kernel
theorem dL_law_49 : decode cL_law 49 = .ok (.iload_n 2, 1) := by decide +kernel
theorem dL_law_50 : decode cL_law 50 = .ok (.aload_n 0, 1) := by decide +kernel
theorem dL_law_51 : decode cL_law 51 = .ok (.arraylength, 1) := by decide +kernel
theorem dL_law_52 : decode cL_law 52 = .ok (.irem, 1) := by decide +kernel
theorem dL_law_53 : decode cL_law 53 = .ok (.iaload, 1) := by decide +kernel
theorem dL_law_54 : decode cL_law 54 = .ok (.bipush 8, 2) := by decide +kernel
theorem dL_law_56 : decode cL_law 56 = .ok (.iushr, 1) := by decide +kernel
theorem dL_law_57 : decode cL_law 57 = .ok (.istore_n 3, 1) := by decide +kernel
theorem dL_law_58 : decode cL_law 58 = .ok (.iload_n 3, 1) := by decide +kernel
theorem dL_law_59 : decode cL_law 59 = .ok (.iconst 3, 1) := by decide +kernel
theorem dL_law_60 : decode cL_law 60 = .ok (.irem, 1) := by decide +kernel
theorem dL_law_61 : decode cL_law 61 = .ok (.ifCond .ne 12, 3) := by decide +kernel
theorem dL_law_64 : decode cL_law 64 = .ok (.iconst 1, 1) := by decide +kernel
theorem dL_law_65 : decode cL_law 65 = .ok (.iload_n 3, 1) := by decide +kernel
theorem dL_law_66 : decode cL_law 66 = .ok (.bipush 9, 2) := by decide +kernel
theorem dL_law_68 : decode cL_law 68 = .ok (.irem, 1) := by decide +kernel
theorem dL_law_69 : decode cL_law 69 = .ok (.iadd, 1) := by decide +kernel
theorem dL_law_70 : decode cL_law 70 = .ok (.goto 24, 3) := by decide +kernel
theorem dL_law_73 : decode cL_law 73 = .ok (.bipush 10, 2) := by decide +kernel
theorem dL_law_75 : decode cL_law 75 = .ok (.iconst 1, 1) := by decide +kernel
theorem dL_law_76 : decode cL_law 76 = .ok (.iload_n 3, 1) := by decide +kernel
theorem dL_law_77 : decode cL_law 77 = .ok (.iconst 3, 1) := by decide +kernel
theorem dL_law_78 : decode cL_law 78 = .ok (.idiv, 1) := by decide +kernel
theorem dL_law_79 : decode cL_law 79 = .ok (.bipush 9, 2) := by decide +kernel
theorem dL_law_81 : decode cL_law 81 = .ok (.irem, 1) := by decide +kernel
theorem dL_law_82 : decode cL_law 82 = .ok (.iadd, 1) := by decide +kernel
theorem dL_law_83 : decode cL_law 83 = .ok (.imul, 1) := by decide +kernel
theorem dL_law_84 : decode cL_law 84 = .ok (.iconst 1, 1) := by decide +kernel
theorem dL_law_85 : decode cL_law 85 = .ok (.iadd, 1) := by decide +kernel
theorem dL_law_86 : decode cL_law 86 = .ok (.iload_n 3, 1) := by decide +kernel
theorem dL_law_87 : decode cL_law 87 = .ok (.bipush 27, 2) := by decide +kernel
theorem dL_law_89 : decode cL_law 89 = .ok (.idiv, 1) := by decide +kernel
theorem dL_law_90 : decode cL_law 90 = .ok (.bipush 9, 2) := by decide +kernel
theorem dL_law_92 : decode cL_law 92 = .ok (.irem, 1) := by decide +kernel
theorem dL_law_93 : decode cL_law 93 = .ok (.iadd, 1) := by decide +kernel
theorem dL_law_94 : decode cL_law 94 = .ok (.istore 4, 2) := by decide +kernel
theorem dL_law_96 : decode cL_law 96 = .ok (.aload_n 1, 1) := by decide +kernel
theorem dL_law_97 : decode cL_law 97 = .ok (.invokevirtual 77, 3) := by decide +kernel
theorem dL_law_100 : decode cL_law 100 = .ok (.istore 5, 2) := by decide +kernel
theorem dL_law_102 : decode cL_law 102 = .ok (.iload_n 3, 1) := by decide +kernel
theorem dL_law_103 : decode cL_law 103 = .ok (.iconst 3, 1) := by decide +kernel
theorem dL_law_104 : decode cL_law 104 = .ok (.irem, 1) := by decide +kernel
theorem dL_law_105 : decode cL_law 105 = .ok (.ifCond .ne 14, 3) := by decide +kernel
theorem dL_law_108 : decode cL_law 108 = .ok (.aload_n 1, 1) := by decide +kernel
theorem dL_law_109 : decode cL_law 109 = .ok (.iconst 0, 1) := by decide +kernel
theorem dL_law_110 : decode cL_law 110 = .ok (.iload 4, 2) := by decide +kernel
theorem dL_law_112 : decode cL_law 112 = .ok (.iconst 0, 1) := by decide +kernel
theorem dL_law_113 : decode cL_law 113 = .ok (.invokevirtual 7, 3) := by decide +kernel
theorem dL_law_116 : decode cL_law 116 = .ok (.goto 35, 3) := by decide +kernel
theorem dL_law_119 : decode cL_law 119 = .ok (.iload_n 3, 1) := by decide +kernel
theorem dL_law_120 : decode cL_law 120 = .ok (.bipush 7, 2) := by decide +kernel
theorem dL_law_122 : decode cL_law 122 = .ok (.irem, 1) := by decide +kernel
theorem dL_law_123 : decode cL_law 123 = .ok (.ifCond .ne 14, 3) := by decide +kernel
theorem dL_law_126 : decode cL_law 126 = .ok (.aload_n 1, 1) := by decide +kernel
theorem dL_law_127 : decode cL_law 127 = .ok (.iconst 0, 1) := by decide +kernel
theorem dL_law_128 : decode cL_law 128 = .ok (.iload 4, 2) := by decide +kernel
theorem dL_law_130 : decode cL_law 130 = .ok (.iconst 0, 1) := by decide +kernel
theorem dL_law_131 : decode cL_law 131 = .ok (.invokevirtual 17, 3) := by decide +kernel
theorem dL_law_134 : decode cL_law 134 = .ok (.goto 17, 3) := by decide +kernel
theorem dL_law_137 : decode cL_law 137 = .ok (.aload_n 1, 1) := by decide +kernel
theorem dL_law_138 : decode cL_law 138 = .ok (.iconst 0, 1) := by decide +kernel
theorem dL_law_139 : decode cL_law 139 = .ok (.iload 4, 2) := by decide +kernel
theorem dL_law_141 : decode cL_law 141 = .ok (.iload_n 3, 1) := by decide +kernel
theorem dL_law_142 : decode cL_law 142 = .ok (.sipush 1000, 3) := by decide +kernel
theorem dL_law_145 : decode cL_law 145 = .ok (.irem, 1) := by decide +kernel
theorem dL_law_146 : decode cL_law 146 = .ok (.iconst (-1), 1) := by decide +kernel
theorem dL_law_147 : decode cL_law 147 = .ok (.iconst 0, 1) := by decide +kernel
