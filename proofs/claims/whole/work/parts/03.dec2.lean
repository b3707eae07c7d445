theorem dX12_spanOf_448 : decode cX12_spanOf 448 = .ok (.laload, 1) := by decide +kernel
theorem dX12_spanOf_449 : decode cX12_spanOf 449 = .ok (.lconst 0, 1) := by decide +kernel
theorem dX12_spanOf_450 : decode cX12_spanOf 450 = .ok (.lcmp, 1) := by decide +kernel
theorem dX12_spanOf_451 : decode cX12_spanOf 451 = .ok (.ifCond .ne 7, 3) := by decide +kernel
theorem dX12_spanOf_454 : decode cX12_spanOf 454 = .ok (.iconst 1, 1) := by decide +kernel
theorem dX12_spanOf_455 : decode cX12_spanOf 455 = .ok (.goto 4, 3) := by decide +kernel
theorem dX12_spanOf_458 : decode cX12_spanOf 458 = .ok (.iconst 0, 1) := by decide +kernel
theorem dX12_spanOf_459 : decode cX12_spanOf 459 = .ok (.istore 7, 2) := by decide +kernel
theorem dX12_spanOf_461 : decode cX12_spanOf 461 = .ok (.aload_n 0, 1) := by decide +kernel
theorem dX12_spanOf_462 : decode cX12_spanOf 462 = .ok (.getfield 63, 3) := by decide +kernel
theorem dX12_spanOf_465 : decode cX12_spanOf 465 = .ok (.iload 4, 2) := by decide +kernel
theorem dX12_spanOf_467 : decode cX12_spanOf 467 = .ok (.laload, 1) := by decide +kernel
theorem dX12_spanOf_468 : decode cX12_spanOf 468 = .ok (.lconst 0, 1) := by decide +kernel
theorem dX12_spanOf_469 : decode cX12_spanOf 469 = .ok (.lcmp, 1) := by decide +kernel
theorem dX12_spanOf_470 : decode cX12_spanOf 470 = .ok (.ifCond .gt 15, 3) := by decide +kernel
theorem dX12_spanOf_473 : decode cX12_spanOf 473 = .ok (.aload_n 0, 1) := by decide +kernel
theorem dX12_spanOf_474 : decode cX12_spanOf 474 = .ok (.getfield 66, 3) := by decide +kernel
theorem dX12_spanOf_477 : decode cX12_spanOf 477 = .ok (.iload 4, 2) := by decide +kernel
theorem dX12_spanOf_479 : decode cX12_spanOf 479 = .ok (.laload, 1) := by decide +kernel
theorem dX12_spanOf_480 : decode cX12_spanOf 480 = .ok (.lconst 0, 1) := by decide +kernel
theorem dX12_spanOf_481 : decode cX12_spanOf 481 = .ok (.lcmp, 1) := by decide +kernel
theorem dX12_spanOf_482 : decode cX12_spanOf 482 = .ok (.ifCond .ge 7, 3) := by decide +kernel
theorem dX12_spanOf_485 : decode cX12_spanOf 485 = .ok (.iconst 1, 1) := by decide +kernel
theorem dX12_spanOf_486 : decode cX12_spanOf 486 = .ok (.goto 4, 3) := by decide +kernel
theorem dX12_spanOf_489 : decode cX12_spanOf 489 = .ok (.iconst 0, 1) := by decide +kernel
theorem dX12_spanOf_490 : decode cX12_spanOf 490 = .ok (.istore 8, 2) := by decide +kernel
theorem dX12_spanOf_492 : decode cX12_spanOf 492 = .ok (.aload_n 0, 1) := by decide +kernel
theorem dX12_spanOf_493 : decode cX12_spanOf 493 = .ok (.iload 7, 2) := by decide +kernel
theorem dX12_spanOf_495 : decode cX12_spanOf 495 = .ok (.ifCond .eq 13, 3) := by decide +kernel
theorem dX12_spanOf_498 : decode cX12_spanOf 498 = .ok (.aload_n 0, 1) := by decide +kernel
theorem dX12_spanOf_499 : decode cX12_spanOf 499 = .ok (.getfield 63, 3) := by decide +kernel
theorem dX12_spanOf_502 : decode cX12_spanOf 502 = .ok (.iload 6, 2) := by decide +kernel
theorem dX12_spanOf_504 : decode cX12_spanOf 504 = .ok (.laload, 1) := by decide +kernel
theorem dX12_spanOf_505 : decode cX12_spanOf 505 = .ok (.goto 35, 3) := by decide +kernel
theorem dX12_spanOf_508 : decode cX12_spanOf 508 = .ok (.iload 8, 2) := by decide +kernel
theorem dX12_spanOf_510 : decode cX12_spanOf 510 = .ok (.ifCond .eq 13, 3) := by decide +kernel
theorem dX12_spanOf_513 : decode cX12_spanOf 513 = .ok (.aload_n 0, 1) := by decide +kernel
theorem dX12_spanOf_514 : decode cX12_spanOf 514 = .ok (.getfield 63, 3) := by decide +kernel
theorem dX12_spanOf_517 : decode cX12_spanOf 517 = .ok (.iload 5, 2) := by decide +kernel
theorem dX12_spanOf_519 : decode cX12_spanOf 519 = .ok (.laload, 1) := by decide +kernel
theorem dX12_spanOf_520 : decode cX12_spanOf 520 = .ok (.goto 20, 3) := by decide +kernel
theorem dX12_spanOf_523 : decode cX12_spanOf 523 = .ok (.aload_n 0, 1) := by decide +kernel
theorem dX12_spanOf_524 : decode cX12_spanOf 524 = .ok (.getfield 63, 3) := by decide +kernel
theorem dX12_spanOf_527 : decode cX12_spanOf 527 = .ok (.iload 5, 2) := by decide +kernel
theorem dX12_spanOf_529 : decode cX12_spanOf 529 = .ok (.laload, 1) := by decide +kernel
theorem dX12_spanOf_530 : decode cX12_spanOf 530 = .ok (.aload_n 0, 1) := by decide +kernel
theorem dX12_spanOf_531 : decode cX12_spanOf 531 = .ok (.getfield 63, 3) := by decide +kernel
theorem dX12_spanOf_534 : decode cX12_spanOf 534 = .ok (.iload 6, 2) := by decide +kernel
theorem dX12_spanOf_536 : decode cX12_spanOf 536 = .ok (.laload, 1) := by decide +kernel
theorem dX12_spanOf_537 : decode cX12_spanOf 537 = .ok (.invokestatic 157, 3) := by decide +kernel
theorem dX12_spanOf_540 : decode cX12_spanOf 540 = .ok (.putfield 150, 3) := by decide +kernel
theorem dX12_spanOf_543 : decode cX12_spanOf 543 = .ok (.aload_n 0, 1) := by decide +kernel
theorem dX12_spanOf_544 : decode cX12_spanOf 544 = .ok (.iload 7, 2) := by decide +kernel
theorem dX12_spanOf_546 : decode cX12_spanOf 546 = .ok (.ifCond .eq 13, 3) := by decide +kernel
theorem dX12_spanOf_549 : decode cX12_spanOf 549 = .ok (.aload_n 0, 1) := by decide +kernel
theorem dX12_spanOf_550 : decode cX12_spanOf 550 = .ok (.getfield 66, 3) := by decide +kernel
theorem dX12_spanOf_553 : decode cX12_spanOf 553 = .ok (.iload 6, 2) := by decide +kernel
theorem dX12_spanOf_555 : decode cX12_spanOf 555 = .ok (.laload, 1) := by decide +kernel
theorem dX12_spanOf_556 : decode cX12_spanOf 556 = .ok (.goto 35, 3) := by decide +kernel
theorem dX12_spanOf_559 : decode cX12_spanOf 559 = .ok (.iload 8, 2) := by decide +kernel
theorem dX12_spanOf_561 : decode cX12_spanOf 561 = .ok (.ifCond .eq 13, 3) := by decide +kernel
theorem dX12_spanOf_564 : decode cX12_spanOf 564 = .ok (.aload_n 0, 1) := by decide +kernel
theorem dX12_spanOf_565 : decode cX12_spanOf 565 = .ok (.getfield 66, 3) := by decide +kernel
theorem dX12_spanOf_568 : decode cX12_spanOf 568 = .ok (.iload 5, 2) := by decide +kernel
theorem dX12_spanOf_570 : decode cX12_spanOf 570 = .ok (.laload, 1) := by decide +kernel
theorem dX12_spanOf_571 : decode cX12_spanOf 571 = .ok (.goto 20, 3) := by decide +kernel
theorem dX12_spanOf_574 : decode cX12_spanOf 574 = .ok (.aload_n 0, 1) := by decide +kernel
theorem dX12_spanOf_575 : decode cX12_spanOf 575 = .ok (.getfield 66, 3) := by decide +kernel
theorem dX12_spanOf_578 : decode cX12_spanOf 578 = .ok (.iload 5, 2) := by decide +kernel
theorem dX12_spanOf_580 : decode cX12_spanOf 580 = .ok (.laload, 1) := by decide +kernel
theorem dX12_spanOf_581 : decode cX12_spanOf 581 = .ok (.aload_n 0, 1) := by decide +kernel
theorem dX12_spanOf_582 : decode cX12_spanOf 582 = .ok (.getfield 66, 3) := by decide +kernel
theorem dX12_spanOf_585 : decode cX12_spanOf 585 = .ok (.iload 6, 2) := by decide +kernel
theorem dX12_spanOf_587 : decode cX12_spanOf 587 = .ok (.laload, 1) := by decide +kernel
theorem dX12_spanOf_588 : decode cX12_spanOf 588 = .ok (.invokestatic 161, 3) := by decide +kernel
theorem dX12_spanOf_591 : decode cX12_spanOf 591 = .ok (.putfield 154, 3) := by decide +kernel
theorem dX12_spanOf_594 : decode cX12_spanOf 594 = .ok (.goto 66, 3) := by decide +kernel
theorem dX12_spanOf_597 : decode cX12_spanOf 597 = .ok (.aload_n 0, 1) := by decide +kernel
theorem dX12_spanOf_598 : decode cX12_spanOf 598 = .ok (.aload_n 0, 1) := by decide +kernel
theorem dX12_spanOf_599 : decode cX12_spanOf 599 = .ok (.getfield 63, 3) := by decide +kernel
theorem dX12_spanOf_602 : decode cX12_spanOf 602 = .ok (.iload 5, 2) := by decide +kernel
theorem dX12_spanOf_604 : decode cX12_spanOf 604 = .ok (.laload, 1) := by decide +kernel
theorem dX12_spanOf_605 : decode cX12_spanOf 605 = .ok (.putfield 150, 3) := by decide +kernel
theorem dX12_spanOf_608 : decode cX12_spanOf 608 = .ok (.aload_n 0, 1) := by decide +kernel
theorem dX12_spanOf_609 : decode cX12_spanOf 609 = .ok (.aload_n 0, 1) := by decide +kernel
theorem dX12_spanOf_610 : decode cX12_spanOf 610 = .ok (.getfield 66, 3) := by decide +kernel
theorem dX12_spanOf_613 : decode cX12_spanOf 613 = .ok (.iload 5, 2) := by decide +kernel
theorem dX12_spanOf_615 : decode cX12_spanOf 615 = .ok (.laload, 1) := by decide +kernel
theorem dX12_spanOf_616 : decode cX12_spanOf 616 = .ok (.putfield 154, 3) := by decide +kernel
theorem dX12_spanOf_619 : decode cX12_spanOf 619 = .ok (.goto 41, 3) := by decide +kernel
theorem dX12_spanOf_622 : decode cX12_spanOf 622 = .ok (.aload_n 0, 1) := by decide +kernel
theorem dX12_spanOf_623 : decode cX12_spanOf 623 = .ok (.aload_n 0, 1) := by decide +kernel
theorem dX12_spanOf_624 : decode cX12_spanOf 624 = .ok (.getfield 63, 3) := by decide +kernel
theorem dX12_spanOf_627 : decode cX12_spanOf 627 = .ok (.iload 4, 2) := by decide +kernel
theorem dX12_spanOf_629 : decode cX12_spanOf 629 = .ok (.laload, 1) := by decide +kernel
theorem dX12_spanOf_630 : decode cX12_spanOf 630 = .ok (.putfield 150, 3) := by decide +kernel
theorem dX12_spanOf_633 : decode cX12_spanOf 633 = .ok (.aload_n 0, 1) := by decide +kernel
theorem dX12_spanOf_634 : decode cX12_spanOf 634 = .ok (.aload_n 0, 1) := by decide +kernel
theorem dX12_spanOf_635 : decode cX12_spanOf 635 = .ok (.getfield 66, 3) := by decide +kernel
theorem dX12_spanOf_638 : decode cX12_spanOf 638 = .ok (.iload 4, 2) := by decide +kernel
theorem dX12_spanOf_640 : decode cX12_spanOf 640 = .ok (.laload, 1) := by decide +kernel
theorem dX12_spanOf_641 : decode cX12_spanOf 641 = .ok (.putfield 154, 3) := by decide +kernel
theorem dX12_spanOf_644 : decode cX12_spanOf 644 = .ok (.goto 16, 3) := by decide +kernel
theorem dX12_spanOf_647 : decode cX12_spanOf 647 = .ok (.aload_n 0, 1) := by decide +kernel
theorem dX12_spanOf_648 : decode cX12_spanOf 648 = .ok (.lload_n 2, 1) := by decide +kernel
theorem dX12_spanOf_649 : decode cX12_spanOf 649 = .ok (.lneg, 1) := by decide +kernel
theorem dX12_spanOf_650 : decode cX12_spanOf 650 = .ok (.putfield 150, 3) := by decide +kernel
theorem dX12_spanOf_653 : decode cX12_spanOf 653 = .ok (.aload_n 0, 1) := by decide +kernel
theorem dX12_spanOf_654 : decode cX12_spanOf 654 = .ok (.lload_n 2, 1) := by decide +kernel
theorem dX12_spanOf_655 : decode cX12_spanOf 655 = .ok (.lconst 1, 1) := by decide +kernel
theorem dX12_spanOf_656 : decode cX12_spanOf 656 = .ok (.lsub, 1) := by decide +kernel
theorem dX12_spanOf_657 : decode cX12_spanOf 657 = .ok (.putfield 154, 3) := by decide +kernel
theorem dX12_spanOf_660 : decode cX12_spanOf 660 = .ok (.return_, 1) := by decide +kernel
theorem dX12_findSpans_0 : decode cX12_findSpans 0 = .ok (.iconst 0, 1) := by decide +kernel
theorem dX12_findSpans_1 : decode cX12_findSpans 1 = .ok (.istore_n 1, 1) := by decide +kernel
theorem dX12_findSpans_2 : decode cX12_findSpans 2 = .ok (.iload_n 1, 1) := by decide +kernel
theorem dX12_findSpans_3 : decode cX12_findSpans 3 = .ok (.aload_n 0, 1) := by decide +kernel
theorem dX12_findSpans_4 : decode cX12_findSpans 4 = .ok (.getfield 103, 3) := by decide +kernel
theorem dX12_findSpans_7 : decode cX12_findSpans 7 = .ok (.if_icmp .ge 93, 3) := by decide +kernel
theorem dX12_findSpans_10 : decode cX12_findSpans 10 = .ok (.lconst 1, 1) := by decide +kernel
theorem dX12_findSpans_11 : decode cX12_findSpans 11 = .ok (.aload_n 0, 1) := by decide +kernel
theorem dX12_findSpans_12 : decode cX12_findSpans 12 = .ok (.getfield 13, 3) := by decide +kernel
theorem dX12_findSpans_15 : decode cX12_findSpans 15 = .ok (.iload_n 1, 1) := by decide +kernel
theorem dX12_findSpans_16 : decode cX12_findSpans 16 = .ok (.iaload, 1) := by decide +kernel
theorem dX12_findSpans_17 : decode cX12_findSpans 17 = .ok (.iconst 1, 1) := by decide +kernel
theorem dX12_findSpans_18 : decode cX12_findSpans 18 = .ok (.isub, 1) := by decide +kernel
theorem dX12_findSpans_19 : decode cX12_findSpans 19 = .ok (.lshl, 1) := by decide +kernel
theorem dX12_findSpans_20 : decode cX12_findSpans 20 = .ok (.lstore_n 2, 1) := by decide +kernel
theorem dX12_findSpans_21 : decode cX12_findSpans 21 = .ok (.aload_n 0, 1) := by decide +kernel
theorem dX12_findSpans_22 : decode cX12_findSpans 22 = .ok (.iload_n 1, 1) := by decide +kernel
theorem dX12_findSpans_23 : decode cX12_findSpans 23 = .ok (.lload_n 2, 1) := by decide +kernel
theorem dX12_findSpans_24 : decode cX12_findSpans 24 = .ok (.invokevirtual 164, 3) := by decide +kernel
theorem dX12_findSpans_27 : decode cX12_findSpans 27 = .ok (.aload_n 0, 1) := by decide +kernel
theorem dX12_findSpans_28 : decode cX12_findSpans 28 = .ok (.getfield 150, 3) := by decide +kernel
theorem dX12_findSpans_31 : decode cX12_findSpans 31 = .ok (.lload_n 2, 1) := by decide +kernel
theorem dX12_findSpans_32 : decode cX12_findSpans 32 = .ok (.lneg, 1) := by decide +kernel
theorem dX12_findSpans_33 : decode cX12_findSpans 33 = .ok (.lcmp, 1) := by decide +kernel
theorem dX12_findSpans_34 : decode cX12_findSpans 34 = .ok (.ifCond .lt 16, 3) := by decide +kernel
theorem dX12_findSpans_37 : decode cX12_findSpans 37 = .ok (.aload_n 0, 1) := by decide +kernel
theorem dX12_findSpans_38 : decode cX12_findSpans 38 = .ok (.getfield 154, 3) := by decide +kernel
theorem dX12_findSpans_41 : decode cX12_findSpans 41 = .ok (.lload_n 2, 1) := by decide +kernel
theorem dX12_findSpans_42 : decode cX12_findSpans 42 = .ok (.lcmp, 1) := by decide +kernel
theorem dX12_findSpans_43 : decode cX12_findSpans 43 = .ok (.ifCond .ge 7, 3) := by decide +kernel
theorem dX12_findSpans_46 : decode cX12_findSpans 46 = .ok (.iconst 1, 1) := by decide +kernel
theorem dX12_findSpans_47 : decode cX12_findSpans 47 = .ok (.goto 4, 3) := by decide +kernel
theorem dX12_findSpans_50 : decode cX12_findSpans 50 = .ok (.iconst 0, 1) := by decide +kernel
theorem dX12_findSpans_51 : decode cX12_findSpans 51 = .ok (.istore 4, 2) := by decide +kernel
theorem dX12_findSpans_53 : decode cX12_findSpans 53 = .ok (.aload_n 0, 1) := by decide +kernel
theorem dX12_findSpans_54 : decode cX12_findSpans 54 = .ok (.getfield 63, 3) := by decide +kernel
theorem dX12_findSpans_57 : decode cX12_findSpans 57 = .ok (.iload_n 1, 1) := by decide +kernel
theorem dX12_findSpans_58 : decode cX12_findSpans 58 = .ok (.iload 4, 2) := by decide +kernel
theorem dX12_findSpans_60 : decode cX12_findSpans 60 = .ok (.ifCond .eq 10, 3) := by decide +kernel
theorem dX12_findSpans_63 : decode cX12_findSpans 63 = .ok (.aload_n 0, 1) := by decide +kernel
theorem dX12_findSpans_64 : decode cX12_findSpans 64 = .ok (.getfield 150, 3) := by decide +kernel
theorem dX12_findSpans_67 : decode cX12_findSpans 67 = .ok (.goto 5, 3) := by decide +kernel
theorem dX12_findSpans_70 : decode cX12_findSpans 70 = .ok (.lload_n 2, 1) := by decide +kernel
theorem dX12_findSpans_71 : decode cX12_findSpans 71 = .ok (.lneg, 1) := by decide +kernel
theorem dX12_findSpans_72 : decode cX12_findSpans 72 = .ok (.lastore, 1) := by decide +kernel
theorem dX12_findSpans_73 : decode cX12_findSpans 73 = .ok (.aload_n 0, 1) := by decide +kernel
theorem dX12_findSpans_74 : decode cX12_findSpans 74 = .ok (.getfield 66, 3) := by decide +kernel
theorem dX12_findSpans_77 : decode cX12_findSpans 77 = .ok (.iload_n 1, 1) := by decide +kernel
theorem dX12_findSpans_78 : decode cX12_findSpans 78 = .ok (.iload 4, 2) := by decide +kernel
theorem dX12_findSpans_80 : decode cX12_findSpans 80 = .ok (.ifCond .eq 10, 3) := by decide +kernel
theorem dX12_findSpans_83 : decode cX12_findSpans 83 = .ok (.aload_n 0, 1) := by decide +kernel
theorem dX12_findSpans_84 : decode cX12_findSpans 84 = .ok (.getfield 154, 3) := by decide +kernel
theorem dX12_findSpans_87 : decode cX12_findSpans 87 = .ok (.goto 6, 3) := by decide +kernel
theorem dX12_findSpans_90 : decode cX12_findSpans 90 = .ok (.lload_n 2, 1) := by decide +kernel
theorem dX12_findSpans_91 : decode cX12_findSpans 91 = .ok (.lconst 1, 1) := by decide +kernel
theorem dX12_findSpans_92 : decode cX12_findSpans 92 = .ok (.lsub, 1) := by decide +kernel
theorem dX12_findSpans_93 : decode cX12_findSpans 93 = .ok (.lastore, 1) := by decide +kernel
theorem dX12_findSpans_94 : decode cX12_findSpans 94 = .ok (.iinc 1 1, 3) := by decide +kernel
theorem dX12_findSpans_97 : decode cX12_findSpans 97 = .ok (.goto (-95), 3) := by decide +kernel
theorem dX12_findSpans_100 : decode cX12_findSpans 100 = .ok (.return_, 1) := by decide +kernel
theorem dX12_bitsOf_0 : decode cX12_bitsOf 0 = .ok (.iconst 1, 1) := by decide +kernel
theorem dX12_bitsOf_1 : decode cX12_bitsOf 1 = .ok (.istore_n 2, 1) := by decide +kernel
theorem dX12_bitsOf_2 : decode cX12_bitsOf 2 = .ok (.aload_n 0, 1) := by decide +kernel
theorem dX12_bitsOf_3 : decode cX12_bitsOf 3 = .ok (.getfield 63, 3) := by decide +kernel
theorem dX12_bitsOf_6 : decode cX12_bitsOf 6 = .ok (.iload_n 1, 1) := by decide +kernel
theorem dX12_bitsOf_7 : decode cX12_bitsOf 7 = .ok (.laload, 1) := by decide +kernel
theorem dX12_bitsOf_8 : decode cX12_bitsOf 8 = .ok (.lconst 1, 1) := by decide +kernel
theorem dX12_bitsOf_9 : decode cX12_bitsOf 9 = .ok (.iload_n 2, 1) := by decide +kernel
theorem dX12_bitsOf_10 : decode cX12_bitsOf 10 = .ok (.iconst 1, 1) := by decide +kernel
theorem dX12_bitsOf_11 : decode cX12_bitsOf 11 = .ok (.isub, 1) := by decide +kernel
theorem dX12_bitsOf_12 : decode cX12_bitsOf 12 = .ok (.lshl, 1) := by decide +kernel
theorem dX12_bitsOf_13 : decode cX12_bitsOf 13 = .ok (.lneg, 1) := by decide +kernel
theorem dX12_bitsOf_14 : decode cX12_bitsOf 14 = .ok (.lcmp, 1) := by decide +kernel
theorem dX12_bitsOf_15 : decode cX12_bitsOf 15 = .ok (.ifCond .lt 18, 3) := by decide +kernel
theorem dX12_bitsOf_18 : decode cX12_bitsOf 18 = .ok (.aload_n 0, 1) := by decide +kernel
theorem dX12_bitsOf_19 : decode cX12_bitsOf 19 = .ok (.getfield 66, 3) := by decide +kernel
theorem dX12_bitsOf_22 : decode cX12_bitsOf 22 = .ok (.iload_n 1, 1) := by decide +kernel
theorem dX12_bitsOf_23 : decode cX12_bitsOf 23 = .ok (.laload, 1) := by decide +kernel
theorem dX12_bitsOf_24 : decode cX12_bitsOf 24 = .ok (.lconst 1, 1) := by decide +kernel
theorem dX12_bitsOf_25 : decode cX12_bitsOf 25 = .ok (.iload_n 2, 1) := by decide +kernel
theorem dX12_bitsOf_26 : decode cX12_bitsOf 26 = .ok (.iconst 1, 1) := by decide +kernel
theorem dX12_bitsOf_27 : decode cX12_bitsOf 27 = .ok (.isub, 1) := by decide +kernel
theorem dX12_bitsOf_28 : decode cX12_bitsOf 28 = .ok (.lshl, 1) := by decide +kernel
theorem dX12_bitsOf_29 : decode cX12_bitsOf 29 = .ok (.lcmp, 1) := by decide +kernel
theorem dX12_bitsOf_30 : decode cX12_bitsOf 30 = .ok (.ifCond .lt 9, 3) := by decide +kernel
theorem dX12_bitsOf_33 : decode cX12_bitsOf 33 = .ok (.iinc 2 1, 3) := by decide +kernel
theorem dX12_bitsOf_36 : decode cX12_bitsOf 36 = .ok (.goto (-34), 3) := by decide +kernel
theorem dX12_bitsOf_39 : decode cX12_bitsOf 39 = .ok (.iload_n 2, 1) := by decide +kernel
theorem dX12_bitsOf_40 : decode cX12_bitsOf 40 = .ok (.ireturn, 1) := by decide +kernel
theorem dX12_act_0 : decode cX12_act 0 = .ok (.aload_n 0, 1) := by decide +kernel
theorem dX12_act_1 : decode cX12_act 1 = .ok (.iconst 0, 1) := by decide +kernel
theorem dX12_act_2 : decode cX12_act 2 = .ok (.putfield 99, 3) := by decide +kernel
theorem dX12_act_5 : decode cX12_act 5 = .ok (.aload_n 0, 1) := by decide +kernel
theorem dX12_act_6 : decode cX12_act 6 = .ok (.iload_n 1, 1) := by decide +kernel
theorem dX12_act_7 : decode cX12_act 7 = .ok (.invokevirtual 132, 3) := by decide +kernel
theorem dX12_act_10 : decode cX12_act 10 = .ok (.ifCond .eq 15, 3) := by decide +kernel
theorem dX12_act_13 : decode cX12_act 13 = .ok (.iload_n 2, 1) := by decide +kernel
theorem dX12_act_14 : decode cX12_act 14 = .ok (.i2l, 1) := by decide +kernel
theorem dX12_act_15 : decode cX12_act 15 = .ok (.lconst 0, 1) := by decide +kernel
theorem dX12_act_16 : decode cX12_act 16 = .ok (.ldc2_w 142, 3) := by decide +kernel
theorem dX12_act_19 : decode cX12_act 19 = .ok (.invokestatic 118, 3) := by decide +kernel
theorem dX12_act_22 : decode cX12_act 22 = .ok (.ifCond .ne 5, 3) := by decide +kernel
theorem dX12_act_25 : decode cX12_act 25 = .ok (.iconst (-1), 1) := by decide +kernel
theorem dX12_act_26 : decode cX12_act 26 = .ok (.ireturn, 1) := by decide +kernel
theorem dX12_act_27 : decode cX12_act 27 = .ok (.iload_n 2, 1) := by decide +kernel
theorem dX12_act_28 : decode cX12_act 28 = .ok (.tableswitch 109 0 7 #[48, 55, 62, 62, 62, 86, 93, 99], 48) := by decide +kernel
theorem dX12_act_76 : decode cX12_act 76 = .ok (.aload_n 0, 1) := by decide +kernel
theorem dX12_act_77 : decode cX12_act 77 = .ok (.getfield 7, 3) := by decide +kernel
theorem dX12_act_80 : decode cX12_act 80 = .ok (.iload_n 1, 1) := by decide +kernel
theorem dX12_act_81 : decode cX12_act 81 = .ok (.iaload, 1) := by decide +kernel
theorem dX12_act_82 : decode cX12_act 82 = .ok (.ireturn, 1) := by decide +kernel
theorem dX12_act_83 : decode cX12_act 83 = .ok (.aload_n 0, 1) := by decide +kernel
theorem dX12_act_84 : decode cX12_act 84 = .ok (.getfield 13, 3) := by decide +kernel
theorem dX12_act_87 : decode cX12_act 87 = .ok (.iload_n 1, 1) := by decide +kernel
theorem dX12_act_88 : decode cX12_act 88 = .ok (.iaload, 1) := by decide +kernel
theorem dX12_act_89 : decode cX12_act 89 = .ok (.ireturn, 1) := by decide +kernel
theorem dX12_act_90 : decode cX12_act 90 = .ok (.aload_n 0, 1) := by decide +kernel
theorem dX12_act_91 : decode cX12_act 91 = .ok (.getfield 16, 3) := by decide +kernel
theorem dX12_act_94 : decode cX12_act 94 = .ok (.iconst 3, 1) := by decide +kernel
theorem dX12_act_95 : decode cX12_act 95 = .ok (.iload_n 1, 1) := by decide +kernel
theorem dX12_act_96 : decode cX12_act 96 = .ok (.imul, 1) := by decide +kernel
theorem dX12_act_97 : decode cX12_act 97 = .ok (.iload_n 2, 1) := by decide +kernel
theorem dX12_act_98 : decode cX12_act 98 = .ok (.iadd, 1) := by decide +kernel
theorem dX12_act_99 : decode cX12_act 99 = .ok (.iconst 2, 1) := by decide +kernel
theorem dX12_act_100 : decode cX12_act 100 = .ok (.isub, 1) := by decide +kernel
theorem dX12_act_101 : decode cX12_act 101 = .ok (.iaload, 1) := by decide +kernel
theorem dX12_act_102 : decode cX12_act 102 = .ok (.istore_n 3, 1) := by decide +kernel
theorem dX12_act_103 : decode cX12_act 103 = .ok (.iload_n 3, 1) := by decide +kernel
theorem dX12_act_104 : decode cX12_act 104 = .ok (.ifCond .ge 8, 3) := by decide +kernel
theorem dX12_act_107 : decode cX12_act 107 = .ok (.bipush (-2), 2) := by decide +kernel
theorem dX12_act_109 : decode cX12_act 109 = .ok (.goto 4, 3) := by decide +kernel
theorem dX12_act_112 : decode cX12_act 112 = .ok (.iload_n 3, 1) := by decide +kernel
theorem dX12_act_113 : decode cX12_act 113 = .ok (.ireturn, 1) := by decide +kernel
theorem dX12_act_114 : decode cX12_act 114 = .ok (.aload_n 0, 1) := by decide +kernel
theorem dX12_act_115 : decode cX12_act 115 = .ok (.getfield 19, 3) := by decide +kernel
theorem dX12_act_118 : decode cX12_act 118 = .ok (.iload_n 1, 1) := by decide +kernel
theorem dX12_act_119 : decode cX12_act 119 = .ok (.iaload, 1) := by decide +kernel
theorem dX12_act_120 : decode cX12_act 120 = .ok (.ireturn, 1) := by decide +kernel
theorem dX12_act_121 : decode cX12_act 121 = .ok (.aload_n 0, 1) := by decide +kernel
theorem dX12_act_122 : decode cX12_act 122 = .ok (.iload_n 1, 1) := by decide +kernel
theorem dX12_act_123 : decode cX12_act 123 = .ok (.invokevirtual 168, 3) := by decide +kernel
theorem dX12_act_126 : decode cX12_act 126 = .ok (.ireturn, 1) := by decide +kernel
theorem dX12_act_127 : decode cX12_act 127 = .ok (.aload_n 0, 1) := by decide +kernel
theorem dX12_act_128 : decode cX12_act 128 = .ok (.invokevirtual 171, 3) := by decide +kernel
theorem dX12_act_131 : decode cX12_act 131 = .ok (.aload_n 0, 1) := by decide +kernel
theorem dX12_act_132 : decode cX12_act 132 = .ok (.iload_n 1, 1) := by decide +kernel
theorem dX12_act_133 : decode cX12_act 133 = .ok (.invokevirtual 174, 3) := by decide +kernel
theorem dX12_act_136 : decode cX12_act 136 = .ok (.ireturn, 1) := by decide +kernel
theorem dX12_act_137 : decode cX12_act 137 = .ok (.aload_n 0, 1) := by decide +kernel
theorem dX12_act_138 : decode cX12_act 138 = .ok (.iload_n 1, 1) := by decide +kernel
theorem dX12_act_139 : decode cX12_act 139 = .ok (.invokevirtual 146, 3) := by decide +kernel
theorem dX12_act_142 : decode cX12_act 142 = .ok (.ireturn, 1) := by decide +kernel
theorem dX12_span_0 : decode cX12_span 0 = .ok (.aload_n 0, 1) := by decide +kernel
theorem dX12_span_1 : decode cX12_span 1 = .ok (.aload_n 0, 1) := by decide +kernel
theorem dX12_span_2 : decode cX12_span 2 = .ok (.iload_n 1, 1) := by decide +kernel
theorem dX12_span_3 : decode cX12_span 3 = .ok (.invokevirtual 132, 3) := by decide +kernel
theorem dX12_span_6 : decode cX12_span 6 = .ok (.ifCond .eq 7, 3) := by decide +kernel
theorem dX12_span_9 : decode cX12_span 9 = .ok (.iconst 0, 1) := by decide +kernel
theorem dX12_span_10 : decode cX12_span 10 = .ok (.goto 4, 3) := by decide +kernel
theorem dX12_span_13 : decode cX12_span 13 = .ok (.iconst 1, 1) := by decide +kernel
theorem dX12_span_14 : decode cX12_span 14 = .ok (.putfield 99, 3) := by decide +kernel
theorem dX12_span_17 : decode cX12_span 17 = .ok (.aload_n 0, 1) := by decide +kernel
theorem dX12_span_18 : decode cX12_span 18 = .ok (.getfield 99, 3) := by decide +kernel
theorem dX12_span_21 : decode cX12_span 21 = .ok (.ifCond .le 5, 3) := by decide +kernel
theorem dX12_span_24 : decode cX12_span 24 = .ok (.lconst 0, 1) := by decide +kernel
theorem dX12_span_25 : decode cX12_span 25 = .ok (.lreturn, 1) := by decide +kernel
theorem dX12_span_26 : decode cX12_span 26 = .ok (.aload_n 0, 1) := by decide +kernel
theorem dX12_span_27 : decode cX12_span 27 = .ok (.invokevirtual 171, 3) := by decide +kernel
theorem dX12_span_30 : decode cX12_span 30 = .ok (.iload_n 2, 1) := by decide +kernel
theorem dX12_span_31 : decode cX12_span 31 = .ok (.ifCond .eq 12, 3) := by decide +kernel
theorem dX12_span_34 : decode cX12_span 34 = .ok (.aload_n 0, 1) := by decide +kernel
theorem dX12_span_35 : decode cX12_span 35 = .ok (.getfield 66, 3) := by decide +kernel
theorem dX12_span_38 : decode cX12_span 38 = .ok (.iload_n 1, 1) := by decide +kernel
theorem dX12_span_39 : decode cX12_span 39 = .ok (.laload, 1) := by decide +kernel
theorem dX12_span_40 : decode cX12_span 40 = .ok (.goto 9, 3) := by decide +kernel
theorem dX12_span_43 : decode cX12_span 43 = .ok (.aload_n 0, 1) := by decide +kernel
theorem dX12_span_44 : decode cX12_span 44 = .ok (.getfield 63, 3) := by decide +kernel
theorem dX12_span_47 : decode cX12_span 47 = .ok (.iload_n 1, 1) := by decide +kernel
theorem dX12_span_48 : decode cX12_span 48 = .ok (.laload, 1) := by decide +kernel
theorem dX12_span_49 : decode cX12_span 49 = .ok (.lreturn, 1) := by decide +kernel
theorem dX12_isOperand_0 : decode cX12_isOperand 0 = .ok (.aload_n 0, 1) := by decide +kernel
theorem dX12_isOperand_1 : decode cX12_isOperand 1 = .ok (.getfield 16, 3) := by decide +kernel
theorem dX12_isOperand_4 : decode cX12_isOperand 4 = .ok (.iconst 3, 1) := by decide +kernel
theorem dX12_isOperand_5 : decode cX12_isOperand 5 = .ok (.iload_n 2, 1) := by decide +kernel
theorem dX12_isOperand_6 : decode cX12_isOperand 6 = .ok (.imul, 1) := by decide +kernel
theorem dX12_isOperand_7 : decode cX12_isOperand 7 = .ok (.iaload, 1) := by decide +kernel
theorem dX12_isOperand_8 : decode cX12_isOperand 8 = .ok (.iload_n 1, 1) := by decide +kernel
theorem dX12_isOperand_9 : decode cX12_isOperand 9 = .ok (.if_icmp .eq 31, 3) := by decide +kernel
theorem dX12_isOperand_12 : decode cX12_isOperand 12 = .ok (.aload_n 0, 1) := by decide +kernel
theorem dX12_isOperand_13 : decode cX12_isOperand 13 = .ok (.getfield 16, 3) := by decide +kernel
theorem dX12_isOperand_16 : decode cX12_isOperand 16 = .ok (.iconst 3, 1) := by decide +kernel
theorem dX12_isOperand_17 : decode cX12_isOperand 17 = .ok (.iload_n 2, 1) := by decide +kernel
theorem dX12_isOperand_18 : decode cX12_isOperand 18 = .ok (.imul, 1) := by decide +kernel
theorem dX12_isOperand_19 : decode cX12_isOperand 19 = .ok (.iconst 1, 1) := by decide +kernel
theorem dX12_isOperand_20 : decode cX12_isOperand 20 = .ok (.iadd, 1) := by decide +kernel
theorem dX12_isOperand_21 : decode cX12_isOperand 21 = .ok (.iaload, 1) := by decide +kernel
theorem dX12_isOperand_22 : decode cX12_isOperand 22 = .ok (.iload_n 1, 1) := by decide +kernel
theorem dX12_isOperand_23 : decode cX12_isOperand 23 = .ok (.if_icmp .eq 17, 3) := by decide +kernel
theorem dX12_isOperand_26 : decode cX12_isOperand 26 = .ok (.aload_n 0, 1) := by decide +kernel
theorem dX12_isOperand_27 : decode cX12_isOperand 27 = .ok (.getfield 16, 3) := by decide +kernel
theorem dX12_isOperand_30 : decode cX12_isOperand 30 = .ok (.iconst 3, 1) := by decide +kernel
theorem dX12_isOperand_31 : decode cX12_isOperand 31 = .ok (.iload_n 2, 1) := by decide +kernel
theorem dX12_isOperand_32 : decode cX12_isOperand 32 = .ok (.imul, 1) := by decide +kernel
theorem dX12_isOperand_33 : decode cX12_isOperand 33 = .ok (.iconst 2, 1) := by decide +kernel
theorem dX12_isOperand_34 : decode cX12_isOperand 34 = .ok (.iadd, 1) := by decide +kernel
theorem dX12_isOperand_35 : decode cX12_isOperand 35 = .ok (.iaload, 1) := by decide +kernel
theorem dX12_isOperand_36 : decode cX12_isOperand 36 = .ok (.iload_n 1, 1) := by decide +kernel
theorem dX12_isOperand_37 : decode cX12_isOperand 37 = .ok (.if_icmp .ne 7, 3) := by decide +kernel
theorem dX12_isOperand_40 : decode cX12_isOperand 40 = .ok (.iconst 1, 1) := by decide +kernel
theorem dX12_isOperand_41 : decode cX12_isOperand 41 = .ok (.goto 4, 3) := by decide +kernel
theorem dX12_isOperand_44 : decode cX12_isOperand 44 = .ok (.iconst 0, 1) := by decide +kernel
theorem dX12_isOperand_45 : decode cX12_isOperand 45 = .ok (.ireturn, 1) := by decide +kernel
theorem dX12_canFail_0 : decode cX12_canFail 0 = .ok (.aload_n 0, 1) := by decide +kernel
theorem dX12_canFail_1 : decode cX12_canFail 1 = .ok (.getfield 7, 3) := by decide +kernel
theorem dX12_canFail_4 : decode cX12_canFail 4 = .ok (.iload_n 1, 1) := by decide +kernel
theorem dX12_canFail_5 : decode cX12_canFail 5 = .ok (.iaload, 1) := by decide +kernel
theorem dX12_canFail_6 : decode cX12_canFail 6 = .ok (.iconst 1, 1) := by decide +kernel
theorem dX12_canFail_7 : decode cX12_canFail 7 = .ok (.if_icmp .eq 35, 3) := by decide +kernel
theorem dX12_canFail_10 : decode cX12_canFail 10 = .ok (.aload_n 0, 1) := by decide +kernel
theorem dX12_canFail_11 : decode cX12_canFail 11 = .ok (.getfield 7, 3) := by decide +kernel
theorem dX12_canFail_14 : decode cX12_canFail 14 = .ok (.iload_n 1, 1) := by decide +kernel
theorem dX12_canFail_15 : decode cX12_canFail 15 = .ok (.iaload, 1) := by decide +kernel
theorem dX12_canFail_16 : decode cX12_canFail 16 = .ok (.iconst 5, 1) := by decide +kernel
theorem dX12_canFail_17 : decode cX12_canFail 17 = .ok (.if_icmp .eq 25, 3) := by decide +kernel
theorem dX12_canFail_20 : decode cX12_canFail 20 = .ok (.aload_n 0, 1) := by decide +kernel
theorem dX12_canFail_21 : decode cX12_canFail 21 = .ok (.getfield 7, 3) := by decide +kernel
theorem dX12_canFail_24 : decode cX12_canFail 24 = .ok (.iload_n 1, 1) := by decide +kernel
theorem dX12_canFail_25 : decode cX12_canFail 25 = .ok (.iaload, 1) := by decide +kernel
theorem dX12_canFail_26 : decode cX12_canFail 26 = .ok (.bipush 8, 2) := by decide +kernel
theorem dX12_canFail_28 : decode cX12_canFail 28 = .ok (.if_icmp .eq 14, 3) := by decide +kernel
theorem dX12_canFail_31 : decode cX12_canFail 31 = .ok (.aload_n 0, 1) := by decide +kernel
theorem dX12_canFail_32 : decode cX12_canFail 32 = .ok (.getfield 7, 3) := by decide +kernel
theorem dX12_canFail_35 : decode cX12_canFail 35 = .ok (.iload_n 1, 1) := by decide +kernel
theorem dX12_canFail_36 : decode cX12_canFail 36 = .ok (.iaload, 1) := by decide +kernel
theorem dX12_canFail_37 : decode cX12_canFail 37 = .ok (.bipush 9, 2) := by decide +kernel
theorem dX12_canFail_39 : decode cX12_canFail 39 = .ok (.if_icmp .ne 7, 3) := by decide +kernel
theorem dX12_canFail_42 : decode cX12_canFail 42 = .ok (.iconst 1, 1) := by decide +kernel
theorem dX12_canFail_43 : decode cX12_canFail 43 = .ok (.goto 4, 3) := by decide +kernel
theorem dX12_canFail_46 : decode cX12_canFail 46 = .ok (.iconst 0, 1) := by decide +kernel
theorem dX12_canFail_47 : decode cX12_canFail 47 = .ok (.ireturn, 1) := by decide +kernel
theorem dX12_meet_0 : decode cX12_meet 0 = .ok (.aload_n 0, 1) := by decide +kernel
theorem dX12_meet_1 : decode cX12_meet 1 = .ok (.getfield 16, 3) := by decide +kernel
theorem dX12_meet_4 : decode cX12_meet 4 = .ok (.iconst 3, 1) := by decide +kernel
theorem dX12_meet_5 : decode cX12_meet 5 = .ok (.iload_n 1, 1) := by decide +kernel
theorem dX12_meet_6 : decode cX12_meet 6 = .ok (.imul, 1) := by decide +kernel
theorem dX12_meet_7 : decode cX12_meet 7 = .ok (.iaload, 1) := by decide +kernel
theorem dX12_meet_8 : decode cX12_meet 8 = .ok (.istore_n 3, 1) := by decide +kernel
theorem dX12_meet_9 : decode cX12_meet 9 = .ok (.aload_n 0, 1) := by decide +kernel
theorem dX12_meet_10 : decode cX12_meet 10 = .ok (.getfield 16, 3) := by decide +kernel
theorem dX12_meet_13 : decode cX12_meet 13 = .ok (.iconst 3, 1) := by decide +kernel
theorem dX12_meet_14 : decode cX12_meet 14 = .ok (.iload_n 2, 1) := by decide +kernel
theorem dX12_meet_15 : decode cX12_meet 15 = .ok (.imul, 1) := by decide +kernel
theorem dX12_meet_16 : decode cX12_meet 16 = .ok (.iaload, 1) := by decide +kernel
theorem dX12_meet_17 : decode cX12_meet 17 = .ok (.istore 4, 2) := by decide +kernel
theorem dX12_meet_19 : decode cX12_meet 19 = .ok (.aload_n 0, 1) := by decide +kernel
theorem dX12_meet_20 : decode cX12_meet 20 = .ok (.getfield 63, 3) := by decide +kernel
theorem dX12_meet_23 : decode cX12_meet 23 = .ok (.iload_n 3, 1) := by decide +kernel
theorem dX12_meet_24 : decode cX12_meet 24 = .ok (.laload, 1) := by decide +kernel
theorem dX12_meet_25 : decode cX12_meet 25 = .ok (.aload_n 0, 1) := by decide +kernel
theorem dX12_meet_26 : decode cX12_meet 26 = .ok (.getfield 66, 3) := by decide +kernel
theorem dX12_meet_29 : decode cX12_meet 29 = .ok (.iload 4, 2) := by decide +kernel
theorem dX12_meet_31 : decode cX12_meet 31 = .ok (.laload, 1) := by decide +kernel
theorem dX12_meet_32 : decode cX12_meet 32 = .ok (.lcmp, 1) := by decide +kernel
theorem dX12_meet_33 : decode cX12_meet 33 = .ok (.ifCond .gt 24, 3) := by decide +kernel
theorem dX12_meet_36 : decode cX12_meet 36 = .ok (.aload_n 0, 1) := by decide +kernel
theorem dX12_meet_37 : decode cX12_meet 37 = .ok (.getfield 63, 3) := by decide +kernel
theorem dX12_meet_40 : decode cX12_meet 40 = .ok (.iload 4, 2) := by decide +kernel
theorem dX12_meet_42 : decode cX12_meet 42 = .ok (.laload, 1) := by decide +kernel
theorem dX12_meet_43 : decode cX12_meet 43 = .ok (.aload_n 0, 1) := by decide +kernel
theorem dX12_meet_44 : decode cX12_meet 44 = .ok (.getfield 66, 3) := by decide +kernel
theorem dX12_meet_47 : decode cX12_meet 47 = .ok (.iload_n 3, 1) := by decide +kernel
theorem dX12_meet_48 : decode cX12_meet 48 = .ok (.laload, 1) := by decide +kernel
theorem dX12_meet_49 : decode cX12_meet 49 = .ok (.lcmp, 1) := by decide +kernel
theorem dX12_meet_50 : decode cX12_meet 50 = .ok (.ifCond .gt 7, 3) := by decide +kernel
theorem dX12_meet_53 : decode cX12_meet 53 = .ok (.iconst 1, 1) := by decide +kernel
theorem dX12_meet_54 : decode cX12_meet 54 = .ok (.goto 4, 3) := by decide +kernel
theorem dX12_meet_57 : decode cX12_meet 57 = .ok (.iconst 0, 1) := by decide +kernel
theorem dX12_meet_58 : decode cX12_meet 58 = .ok (.ireturn, 1) := by decide +kernel
theorem dX12_need_0 : decode cX12_need 0 = .ok (.iconst 0, 1) := by decide +kernel
theorem dX12_need_1 : decode cX12_need 1 = .ok (.istore_n 3, 1) := by decide +kernel
theorem dX12_need_2 : decode cX12_need 2 = .ok (.aload_n 0, 1) := by decide +kernel
theorem dX12_need_3 : decode cX12_need 3 = .ok (.iload_n 1, 1) := by decide +kernel
theorem dX12_need_4 : decode cX12_need 4 = .ok (.invokevirtual 168, 3) := by decide +kernel
theorem dX12_need_7 : decode cX12_need 7 = .ok (.istore 4, 2) := by decide +kernel
theorem dX12_need_9 : decode cX12_need 9 = .ok (.aload_n 0, 1) := by decide +kernel
theorem dX12_need_10 : decode cX12_need 10 = .ok (.getfield 7, 3) := by decide +kernel
theorem dX12_need_13 : decode cX12_need 13 = .ok (.iload_n 1, 1) := by decide +kernel
theorem dX12_need_14 : decode cX12_need 14 = .ok (.iaload, 1) := by decide +kernel
theorem dX12_need_15 : decode cX12_need 15 = .ok (.bipush 8, 2) := by decide +kernel
theorem dX12_need_17 : decode cX12_need 17 = .ok (.if_icmp .eq 14, 3) := by decide +kernel
theorem dX12_need_20 : decode cX12_need 20 = .ok (.aload_n 0, 1) := by decide +kernel
theorem dX12_need_21 : decode cX12_need 21 = .ok (.getfield 7, 3) := by decide +kernel
theorem dX12_need_24 : decode cX12_need 24 = .ok (.iload_n 1, 1) := by decide +kernel
theorem dX12_need_25 : decode cX12_need 25 = .ok (.iaload, 1) := by decide +kernel
theorem dX12_need_26 : decode cX12_need 26 = .ok (.bipush 9, 2) := by decide +kernel
theorem dX12_need_28 : decode cX12_need 28 = .ok (.if_icmp .ne 51, 3) := by decide +kernel
theorem dX12_need_31 : decode cX12_need 31 = .ok (.aload_n 0, 1) := by decide +kernel
theorem dX12_need_32 : decode cX12_need 32 = .ok (.getfield 7, 3) := by decide +kernel
theorem dX12_need_35 : decode cX12_need 35 = .ok (.iload_n 2, 1) := by decide +kernel
theorem dX12_need_36 : decode cX12_need 36 = .ok (.iaload, 1) := by decide +kernel
theorem dX12_need_37 : decode cX12_need 37 = .ok (.bipush 8, 2) := by decide +kernel
theorem dX12_need_39 : decode cX12_need 39 = .ok (.if_icmp .eq 14, 3) := by decide +kernel
theorem dX12_need_42 : decode cX12_need 42 = .ok (.aload_n 0, 1) := by decide +kernel
theorem dX12_need_43 : decode cX12_need 43 = .ok (.getfield 7, 3) := by decide +kernel
theorem dX12_need_46 : decode cX12_need 46 = .ok (.iload_n 2, 1) := by decide +kernel
theorem dX12_need_47 : decode cX12_need 47 = .ok (.iaload, 1) := by decide +kernel
theorem dX12_need_48 : decode cX12_need 48 = .ok (.bipush 9, 2) := by decide +kernel
theorem dX12_need_50 : decode cX12_need 50 = .ok (.if_icmp .ne 29, 3) := by decide +kernel
theorem dX12_need_53 : decode cX12_need 53 = .ok (.aload_n 0, 1) := by decide +kernel
theorem dX12_need_54 : decode cX12_need 54 = .ok (.getfield 7, 3) := by decide +kernel
theorem dX12_need_57 : decode cX12_need 57 = .ok (.iload_n 1, 1) := by decide +kernel
theorem dX12_need_58 : decode cX12_need 58 = .ok (.iaload, 1) := by decide +kernel
theorem dX12_need_59 : decode cX12_need 59 = .ok (.bipush 9, 2) := by decide +kernel
theorem dX12_need_61 : decode cX12_need 61 = .ok (.if_icmp .eq 14, 3) := by decide +kernel
theorem dX12_need_64 : decode cX12_need 64 = .ok (.aload_n 0, 1) := by decide +kernel
theorem dX12_need_65 : decode cX12_need 65 = .ok (.getfield 7, 3) := by decide +kernel
theorem dX12_need_68 : decode cX12_need 68 = .ok (.iload_n 2, 1) := by decide +kernel
theorem dX12_need_69 : decode cX12_need 69 = .ok (.iaload, 1) := by decide +kernel
theorem dX12_need_70 : decode cX12_need 70 = .ok (.bipush 9, 2) := by decide +kernel
theorem dX12_need_72 : decode cX12_need 72 = .ok (.if_icmp .ne 7, 3) := by decide +kernel
theorem dX12_need_75 : decode cX12_need 75 = .ok (.iconst 1, 1) := by decide +kernel
theorem dX12_need_76 : decode cX12_need 76 = .ok (.goto 4, 3) := by decide +kernel
theorem dX12_need_79 : decode cX12_need 79 = .ok (.iconst 0, 1) := by decide +kernel
theorem dX12_need_80 : decode cX12_need 80 = .ok (.istore 5, 2) := by decide +kernel
theorem dX12_need_82 : decode cX12_need 82 = .ok (.iload 5, 2) := by decide +kernel
theorem dX12_need_84 : decode cX12_need 84 = .ok (.ifCond .eq 12, 3) := by decide +kernel
theorem dX12_need_87 : decode cX12_need 87 = .ok (.aload_n 0, 1) := by decide +kernel
theorem dX12_need_88 : decode cX12_need 88 = .ok (.iload_n 1, 1) := by decide +kernel
theorem dX12_need_89 : decode cX12_need 89 = .ok (.iload_n 2, 1) := by decide +kernel
theorem dX12_need_90 : decode cX12_need 90 = .ok (.invokevirtual 177, 3) := by decide +kernel
theorem dX12_need_93 : decode cX12_need 93 = .ok (.ifCond .ne 54, 3) := by decide +kernel
theorem dX12_need_96 : decode cX12_need 96 = .ok (.aload_n 0, 1) := by decide +kernel
theorem dX12_need_97 : decode cX12_need 97 = .ok (.getfield 7, 3) := by decide +kernel
theorem dX12_need_100 : decode cX12_need 100 = .ok (.iload_n 1, 1) := by decide +kernel
theorem dX12_need_101 : decode cX12_need 101 = .ok (.iaload, 1) := by decide +kernel
theorem dX12_need_102 : decode cX12_need 102 = .ok (.aload_n 0, 1) := by decide +kernel
theorem dX12_need_103 : decode cX12_need 103 = .ok (.getfield 7, 3) := by decide +kernel
theorem dX12_need_106 : decode cX12_need 106 = .ok (.iload_n 2, 1) := by decide +kernel
theorem dX12_need_107 : decode cX12_need 107 = .ok (.iaload, 1) := by decide +kernel
theorem dX12_need_108 : decode cX12_need 108 = .ok (.if_icmp .ne 41, 3) := by decide +kernel
theorem dX12_need_111 : decode cX12_need 111 = .ok (.aload_n 0, 1) := by decide +kernel
theorem dX12_need_112 : decode cX12_need 112 = .ok (.getfield 7, 3) := by decide +kernel
theorem dX12_need_115 : decode cX12_need 115 = .ok (.iload_n 1, 1) := by decide +kernel
theorem dX12_need_116 : decode cX12_need 116 = .ok (.iaload, 1) := by decide +kernel
theorem dX12_need_117 : decode cX12_need 117 = .ok (.iconst 1, 1) := by decide +kernel
theorem dX12_need_118 : decode cX12_need 118 = .ok (.if_icmp .eq 14, 3) := by decide +kernel
theorem dX12_need_121 : decode cX12_need 121 = .ok (.aload_n 0, 1) := by decide +kernel
theorem dX12_need_122 : decode cX12_need 122 = .ok (.getfield 7, 3) := by decide +kernel
theorem dX12_need_125 : decode cX12_need 125 = .ok (.iload_n 1, 1) := by decide +kernel
theorem dX12_need_126 : decode cX12_need 126 = .ok (.iaload, 1) := by decide +kernel
theorem dX12_need_127 : decode cX12_need 127 = .ok (.bipush 10, 2) := by decide +kernel
theorem dX12_need_129 : decode cX12_need 129 = .ok (.if_icmp .ne 20, 3) := by decide +kernel
theorem dX12_need_132 : decode cX12_need 132 = .ok (.aload_n 0, 1) := by decide +kernel
theorem dX12_need_133 : decode cX12_need 133 = .ok (.getfield 19, 3) := by decide +kernel
theorem dX12_need_136 : decode cX12_need 136 = .ok (.iload_n 1, 1) := by decide +kernel
theorem dX12_need_137 : decode cX12_need 137 = .ok (.iaload, 1) := by decide +kernel
theorem dX12_need_138 : decode cX12_need 138 = .ok (.aload_n 0, 1) := by decide +kernel
theorem dX12_need_139 : decode cX12_need 139 = .ok (.getfield 19, 3) := by decide +kernel
theorem dX12_need_142 : decode cX12_need 142 = .ok (.iload_n 2, 1) := by decide +kernel
theorem dX12_need_143 : decode cX12_need 143 = .ok (.iaload, 1) := by decide +kernel
theorem dX12_need_144 : decode cX12_need 144 = .ok (.if_icmp .ne 5, 3) := by decide +kernel
theorem dX12_need_147 : decode cX12_need 147 = .ok (.iconst 1, 1) := by decide +kernel
theorem dX12_need_148 : decode cX12_need 148 = .ok (.istore_n 3, 1) := by decide +kernel
theorem dX12_need_149 : decode cX12_need 149 = .ok (.aload_n 0, 1) := by decide +kernel
theorem dX12_need_150 : decode cX12_need 150 = .ok (.iload_n 1, 1) := by decide +kernel
theorem dX12_need_151 : decode cX12_need 151 = .ok (.invokevirtual 181, 3) := by decide +kernel
theorem dX12_need_154 : decode cX12_need 154 = .ok (.ifCond .eq 39, 3) := by decide +kernel
theorem dX12_need_157 : decode cX12_need 157 = .ok (.aload_n 0, 1) := by decide +kernel
theorem dX12_need_158 : decode cX12_need 158 = .ok (.getfield 7, 3) := by decide +kernel
theorem dX12_need_161 : decode cX12_need 161 = .ok (.iload_n 2, 1) := by decide +kernel
theorem dX12_need_162 : decode cX12_need 162 = .ok (.iaload, 1) := by decide +kernel
theorem dX12_need_163 : decode cX12_need 163 = .ok (.iconst 1, 1) := by decide +kernel
theorem dX12_need_164 : decode cX12_need 164 = .ok (.if_icmp .eq 25, 3) := by decide +kernel
theorem dX12_need_167 : decode cX12_need 167 = .ok (.aload_n 0, 1) := by decide +kernel
theorem dX12_need_168 : decode cX12_need 168 = .ok (.getfield 7, 3) := by decide +kernel
theorem dX12_need_171 : decode cX12_need 171 = .ok (.iload_n 2, 1) := by decide +kernel
theorem dX12_need_172 : decode cX12_need 172 = .ok (.iaload, 1) := by decide +kernel
theorem dX12_need_173 : decode cX12_need 173 = .ok (.bipush 9, 2) := by decide +kernel
theorem dX12_need_175 : decode cX12_need 175 = .ok (.if_icmp .eq 14, 3) := by decide +kernel
theorem dX12_need_178 : decode cX12_need 178 = .ok (.aload_n 0, 1) := by decide +kernel
theorem dX12_need_179 : decode cX12_need 179 = .ok (.getfield 7, 3) := by decide +kernel
theorem dX12_need_182 : decode cX12_need 182 = .ok (.iload_n 2, 1) := by decide +kernel
theorem dX12_need_183 : decode cX12_need 183 = .ok (.iaload, 1) := by decide +kernel
theorem dX12_need_184 : decode cX12_need 184 = .ok (.bipush 10, 2) := by decide +kernel
theorem dX12_need_186 : decode cX12_need 186 = .ok (.if_icmp .ne 7, 3) := by decide +kernel
theorem dX12_need_189 : decode cX12_need 189 = .ok (.iconst 1, 1) := by decide +kernel
theorem dX12_need_190 : decode cX12_need 190 = .ok (.goto 4, 3) := by decide +kernel
theorem dX12_need_193 : decode cX12_need 193 = .ok (.iconst 0, 1) := by decide +kernel
theorem dX12_need_194 : decode cX12_need 194 = .ok (.istore 6, 2) := by decide +kernel
theorem dX12_need_196 : decode cX12_need 196 = .ok (.aload_n 0, 1) := by decide +kernel
theorem dX12_need_197 : decode cX12_need 197 = .ok (.iload_n 1, 1) := by decide +kernel
theorem dX12_need_198 : decode cX12_need 198 = .ok (.iload_n 2, 1) := by decide +kernel
theorem dX12_need_199 : decode cX12_need 199 = .ok (.invokevirtual 184, 3) := by decide +kernel
theorem dX12_need_202 : decode cX12_need 202 = .ok (.ifCond .ne 8, 3) := by decide +kernel
theorem dX12_need_205 : decode cX12_need 205 = .ok (.iload 6, 2) := by decide +kernel
theorem dX12_need_207 : decode cX12_need 207 = .ok (.ifCond .eq 14, 3) := by decide +kernel
theorem dX12_need_210 : decode cX12_need 210 = .ok (.iload 4, 2) := by decide +kernel
theorem dX12_need_212 : decode cX12_need 212 = .ok (.iload_n 3, 1) := by decide +kernel
theorem dX12_need_213 : decode cX12_need 213 = .ok (.if_icmp .le 8, 3) := by decide +kernel
theorem dX12_need_216 : decode cX12_need 216 = .ok (.iload 4, 2) := by decide +kernel
theorem dX12_need_218 : decode cX12_need 218 = .ok (.goto 4, 3) := by decide +kernel
theorem dX12_need_221 : decode cX12_need 221 = .ok (.iload_n 3, 1) := by decide +kernel
theorem dX12_need_222 : decode cX12_need 222 = .ok (.ireturn, 1) := by decide +kernel
theorem dX12_needs_0 : decode cX12_needs 0 = .ok (.aload_n 0, 1) := by decide +kernel
theorem dX12_needs_1 : decode cX12_needs 1 = .ok (.iconst 0, 1) := by decide +kernel
theorem dX12_needs_2 : decode cX12_needs 2 = .ok (.putfield 99, 3) := by decide +kernel
theorem dX12_needs_5 : decode cX12_needs 5 = .ok (.aload_n 0, 1) := by decide +kernel
theorem dX12_needs_6 : decode cX12_needs 6 = .ok (.iload_n 2, 1) := by decide +kernel
theorem dX12_needs_7 : decode cX12_needs 7 = .ok (.invokevirtual 132, 3) := by decide +kernel
theorem dX12_needs_10 : decode cX12_needs 10 = .ok (.ifCond .eq 12, 3) := by decide +kernel
theorem dX12_needs_13 : decode cX12_needs 13 = .ok (.iload_n 1, 1) := by decide +kernel
theorem dX12_needs_14 : decode cX12_needs 14 = .ok (.ifCond .lt 8, 3) := by decide +kernel
theorem dX12_needs_17 : decode cX12_needs 17 = .ok (.iload_n 1, 1) := by decide +kernel
theorem dX12_needs_18 : decode cX12_needs 18 = .ok (.iload_n 2, 1) := by decide +kernel
theorem dX12_needs_19 : decode cX12_needs 19 = .ok (.if_icmp .lt 5, 3) := by decide +kernel
theorem dX12_needs_22 : decode cX12_needs 22 = .ok (.iconst (-1), 1) := by decide +kernel
theorem dX12_needs_23 : decode cX12_needs 23 = .ok (.ireturn, 1) := by decide +kernel
theorem dX12_needs_24 : decode cX12_needs 24 = .ok (.aload_n 0, 1) := by decide +kernel
theorem dX12_needs_25 : decode cX12_needs 25 = .ok (.invokevirtual 171, 3) := by decide +kernel
theorem dX12_needs_28 : decode cX12_needs 28 = .ok (.aload_n 0, 1) := by decide +kernel
theorem dX12_needs_29 : decode cX12_needs 29 = .ok (.iload_n 1, 1) := by decide +kernel
theorem dX12_needs_30 : decode cX12_needs 30 = .ok (.iload_n 2, 1) := by decide +kernel
theorem dX12_needs_31 : decode cX12_needs 31 = .ok (.invokevirtual 187, 3) := by decide +kernel
theorem dX12_needs_34 : decode cX12_needs 34 = .ok (.ireturn, 1) := by decide +kernel
theorem dX12_askedFor_0 : decode cX12_askedFor 0 = .ok (.iconst 0, 1) := by decide +kernel
theorem dX12_askedFor_1 : decode cX12_askedFor 1 = .ok (.istore_n 2, 1) := by decide +kernel
theorem dX12_askedFor_2 : decode cX12_askedFor 2 = .ok (.iconst 0, 1) := by decide +kernel
theorem dX12_askedFor_3 : decode cX12_askedFor 3 = .ok (.istore_n 3, 1) := by decide +kernel
theorem dX12_askedFor_4 : decode cX12_askedFor 4 = .ok (.iload_n 3, 1) := by decide +kernel
theorem dX12_askedFor_5 : decode cX12_askedFor 5 = .ok (.iload_n 1, 1) := by decide +kernel
theorem dX12_askedFor_6 : decode cX12_askedFor 6 = .ok (.if_icmp .ge 61, 3) := by decide +kernel
theorem dX12_askedFor_9 : decode cX12_askedFor 9 = .ok (.aload_n 0, 1) := by decide +kernel
theorem dX12_askedFor_10 : decode cX12_askedFor 10 = .ok (.iload_n 3, 1) := by decide +kernel
theorem dX12_askedFor_11 : decode cX12_askedFor 11 = .ok (.iload_n 1, 1) := by decide +kernel
theorem dX12_askedFor_12 : decode cX12_askedFor 12 = .ok (.invokevirtual 187, 3) := by decide +kernel
theorem dX12_askedFor_15 : decode cX12_askedFor 15 = .ok (.istore 4, 2) := by decide +kernel
theorem dX12_askedFor_17 : decode cX12_askedFor 17 = .ok (.iload 4, 2) := by decide +kernel
theorem dX12_askedFor_19 : decode cX12_askedFor 19 = .ok (.ifCond .le 20, 3) := by decide +kernel
theorem dX12_askedFor_22 : decode cX12_askedFor 22 = .ok (.aload_n 0, 1) := by decide +kernel
theorem dX12_askedFor_23 : decode cX12_askedFor 23 = .ok (.getfield 45, 3) := by decide +kernel
theorem dX12_askedFor_26 : decode cX12_askedFor 26 = .ok (.iload_n 3, 1) := by decide +kernel
theorem dX12_askedFor_27 : decode cX12_askedFor 27 = .ok (.iaload, 1) := by decide +kernel
theorem dX12_askedFor_28 : decode cX12_askedFor 28 = .ok (.iload 4, 2) := by decide +kernel
theorem dX12_askedFor_30 : decode cX12_askedFor 30 = .ok (.iadd, 1) := by decide +kernel
theorem dX12_askedFor_31 : decode cX12_askedFor 31 = .ok (.iload_n 2, 1) := by decide +kernel
theorem dX12_askedFor_32 : decode cX12_askedFor 32 = .ok (.if_icmp .le 7, 3) := by decide +kernel
theorem dX12_askedFor_35 : decode cX12_askedFor 35 = .ok (.iconst 1, 1) := by decide +kernel
theorem dX12_askedFor_36 : decode cX12_askedFor 36 = .ok (.goto 4, 3) := by decide +kernel
theorem dX12_askedFor_39 : decode cX12_askedFor 39 = .ok (.iconst 0, 1) := by decide +kernel
theorem dX12_askedFor_40 : decode cX12_askedFor 40 = .ok (.istore 5, 2) := by decide +kernel
theorem dX12_askedFor_42 : decode cX12_askedFor 42 = .ok (.iload 5, 2) := by decide +kernel
theorem dX12_askedFor_44 : decode cX12_askedFor 44 = .ok (.ifCond .eq 15, 3) := by decide +kernel
theorem dX12_askedFor_47 : decode cX12_askedFor 47 = .ok (.aload_n 0, 1) := by decide +kernel
theorem dX12_askedFor_48 : decode cX12_askedFor 48 = .ok (.getfield 45, 3) := by decide +kernel
theorem dX12_askedFor_51 : decode cX12_askedFor 51 = .ok (.iload_n 3, 1) := by decide +kernel
theorem dX12_askedFor_52 : decode cX12_askedFor 52 = .ok (.iaload, 1) := by decide +kernel
theorem dX12_askedFor_53 : decode cX12_askedFor 53 = .ok (.iload 4, 2) := by decide +kernel
theorem dX12_askedFor_55 : decode cX12_askedFor 55 = .ok (.iadd, 1) := by decide +kernel
theorem dX12_askedFor_56 : decode cX12_askedFor 56 = .ok (.goto 4, 3) := by decide +kernel
theorem dX12_askedFor_59 : decode cX12_askedFor 59 = .ok (.iload_n 2, 1) := by decide +kernel
theorem dX12_askedFor_60 : decode cX12_askedFor 60 = .ok (.istore_n 2, 1) := by decide +kernel
theorem dX12_askedFor_61 : decode cX12_askedFor 61 = .ok (.iinc 3 1, 3) := by decide +kernel
theorem dX12_askedFor_64 : decode cX12_askedFor 64 = .ok (.goto (-60), 3) := by decide +kernel
theorem dX12_askedFor_67 : decode cX12_askedFor 67 = .ok (.iload_n 2, 1) := by decide +kernel
theorem dX12_askedFor_68 : decode cX12_askedFor 68 = .ok (.ireturn, 1) := by decide +kernel
theorem dX12_isFree_0 : decode cX12_isFree 0 = .ok (.iconst 1, 1) := by decide +kernel
theorem dX12_isFree_1 : decode cX12_isFree 1 = .ok (.istore 4, 2) := by decide +kernel
theorem dX12_isFree_3 : decode cX12_isFree 3 = .ok (.iconst 0, 1) := by decide +kernel
theorem dX12_isFree_4 : decode cX12_isFree 4 = .ok (.istore 5, 2) := by decide +kernel
theorem dX12_isFree_6 : decode cX12_isFree 6 = .ok (.iload 5, 2) := by decide +kernel
theorem dX12_isFree_8 : decode cX12_isFree 8 = .ok (.iload_n 1, 1) := by decide +kernel
theorem dX12_isFree_9 : decode cX12_isFree 9 = .ok (.if_icmp .ge 93, 3) := by decide +kernel
theorem dX12_isFree_12 : decode cX12_isFree 12 = .ok (.aload_n 0, 1) := by decide +kernel
theorem dX12_isFree_13 : decode cX12_isFree 13 = .ok (.iload 5, 2) := by decide +kernel
theorem dX12_isFree_15 : decode cX12_isFree 15 = .ok (.invokevirtual 146, 3) := by decide +kernel
theorem dX12_isFree_18 : decode cX12_isFree 18 = .ok (.aload_n 0, 1) := by decide +kernel
theorem dX12_isFree_19 : decode cX12_isFree 19 = .ok (.iload_n 1, 1) := by decide +kernel
theorem dX12_isFree_20 : decode cX12_isFree 20 = .ok (.invokevirtual 146, 3) := by decide +kernel
theorem dX12_isFree_23 : decode cX12_isFree 23 = .ok (.if_icmp .ne 18, 3) := by decide +kernel
theorem dX12_isFree_26 : decode cX12_isFree 26 = .ok (.aload_n 0, 1) := by decide +kernel
theorem dX12_isFree_27 : decode cX12_isFree 27 = .ok (.getfield 48, 3) := by decide +kernel
theorem dX12_isFree_30 : decode cX12_isFree 30 = .ok (.iload 5, 2) := by decide +kernel
theorem dX12_isFree_32 : decode cX12_isFree 32 = .ok (.iaload, 1) := by decide +kernel
theorem dX12_isFree_33 : decode cX12_isFree 33 = .ok (.iload_n 2, 1) := by decide +kernel
theorem dX12_isFree_34 : decode cX12_isFree 34 = .ok (.if_icmp .ne 7, 3) := by decide +kernel
theorem dX12_isFree_37 : decode cX12_isFree 37 = .ok (.iconst 1, 1) := by decide +kernel
theorem dX12_isFree_38 : decode cX12_isFree 38 = .ok (.goto 4, 3) := by decide +kernel
theorem dX12_isFree_41 : decode cX12_isFree 41 = .ok (.iconst 0, 1) := by decide +kernel
theorem dX12_isFree_42 : decode cX12_isFree 42 = .ok (.istore 6, 2) := by decide +kernel
theorem dX12_isFree_44 : decode cX12_isFree 44 = .ok (.iload 4, 2) := by decide +kernel
theorem dX12_isFree_46 : decode cX12_isFree 46 = .ok (.ifCond .eq 47, 3) := by decide +kernel
theorem dX12_isFree_49 : decode cX12_isFree 49 = .ok (.iload 6, 2) := by decide +kernel
theorem dX12_isFree_51 : decode cX12_isFree 51 = .ok (.ifCond .eq 38, 3) := by decide +kernel
theorem dX12_isFree_54 : decode cX12_isFree 54 = .ok (.aload_n 0, 1) := by decide +kernel
theorem dX12_isFree_55 : decode cX12_isFree 55 = .ok (.getfield 45, 3) := by decide +kernel
theorem dX12_isFree_58 : decode cX12_isFree 58 = .ok (.iload 5, 2) := by decide +kernel
theorem dX12_isFree_60 : decode cX12_isFree 60 = .ok (.iaload, 1) := by decide +kernel
theorem dX12_isFree_61 : decode cX12_isFree 61 = .ok (.aload_n 0, 1) := by decide +kernel
theorem dX12_isFree_62 : decode cX12_isFree 62 = .ok (.iload 5, 2) := by decide +kernel
theorem dX12_isFree_64 : decode cX12_isFree 64 = .ok (.invokevirtual 191, 3) := by decide +kernel
theorem dX12_isFree_67 : decode cX12_isFree 67 = .ok (.iadd, 1) := by decide +kernel
theorem dX12_isFree_68 : decode cX12_isFree 68 = .ok (.iload_n 3, 1) := by decide +kernel
theorem dX12_isFree_69 : decode cX12_isFree 69 = .ok (.if_icmp .le 20, 3) := by decide +kernel
theorem dX12_isFree_72 : decode cX12_isFree 72 = .ok (.iload_n 3, 1) := by decide +kernel
theorem dX12_isFree_73 : decode cX12_isFree 73 = .ok (.aload_n 0, 1) := by decide +kernel
theorem dX12_isFree_74 : decode cX12_isFree 74 = .ok (.iload_n 1, 1) := by decide +kernel
theorem dX12_isFree_75 : decode cX12_isFree 75 = .ok (.invokevirtual 191, 3) := by decide +kernel
theorem dX12_isFree_78 : decode cX12_isFree 78 = .ok (.iadd, 1) := by decide +kernel
theorem dX12_isFree_79 : decode cX12_isFree 79 = .ok (.aload_n 0, 1) := by decide +kernel
theorem dX12_isFree_80 : decode cX12_isFree 80 = .ok (.getfield 45, 3) := by decide +kernel
theorem dX12_isFree_83 : decode cX12_isFree 83 = .ok (.iload 5, 2) := by decide +kernel
theorem dX12_isFree_85 : decode cX12_isFree 85 = .ok (.iaload, 1) := by decide +kernel
theorem dX12_isFree_86 : decode cX12_isFree 86 = .ok (.if_icmp .gt 7, 3) := by decide +kernel
theorem dX12_isFree_89 : decode cX12_isFree 89 = .ok (.iconst 1, 1) := by decide +kernel
theorem dX12_isFree_90 : decode cX12_isFree 90 = .ok (.goto 4, 3) := by decide +kernel
theorem dX12_isFree_93 : decode cX12_isFree 93 = .ok (.iconst 0, 1) := by decide +kernel
theorem dX12_isFree_94 : decode cX12_isFree 94 = .ok (.istore 4, 2) := by decide +kernel
theorem dX12_isFree_96 : decode cX12_isFree 96 = .ok (.iinc 5 1, 3) := by decide +kernel
theorem dX12_isFree_99 : decode cX12_isFree 99 = .ok (.goto (-93), 3) := by decide +kernel
theorem dX12_isFree_102 : decode cX12_isFree 102 = .ok (.iload 4, 2) := by decide +kernel
theorem dX12_isFree_104 : decode cX12_isFree 104 = .ok (.ireturn, 1) := by decide +kernel
theorem dX12_freePart_0 : decode cX12_freePart 0 = .ok (.iconst 0, 1) := by decide +kernel
theorem dX12_freePart_1 : decode cX12_freePart 1 = .ok (.istore_n 3, 1) := by decide +kernel
theorem dX12_freePart_2 : decode cX12_freePart 2 = .ok (.iload_n 3, 1) := by decide +kernel
theorem dX12_freePart_3 : decode cX12_freePart 3 = .ok (.aload_n 0, 1) := by decide +kernel
theorem dX12_freePart_4 : decode cX12_freePart 4 = .ok (.getfield 26, 3) := by decide +kernel
theorem dX12_freePart_7 : decode cX12_freePart 7 = .ok (.aload_n 0, 1) := by decide +kernel
theorem dX12_freePart_8 : decode cX12_freePart 8 = .ok (.iload_n 1, 1) := by decide +kernel
theorem dX12_freePart_9 : decode cX12_freePart 9 = .ok (.invokevirtual 146, 3) := by decide +kernel
theorem dX12_freePart_12 : decode cX12_freePart 12 = .ok (.iaload, 1) := by decide +kernel
theorem dX12_freePart_13 : decode cX12_freePart 13 = .ok (.if_icmp .ge 21, 3) := by decide +kernel
theorem dX12_freePart_16 : decode cX12_freePart 16 = .ok (.aload_n 0, 1) := by decide +kernel
theorem dX12_freePart_17 : decode cX12_freePart 17 = .ok (.iload_n 1, 1) := by decide +kernel
theorem dX12_freePart_18 : decode cX12_freePart 18 = .ok (.iload_n 3, 1) := by decide +kernel
theorem dX12_freePart_19 : decode cX12_freePart 19 = .ok (.iload_n 2, 1) := by decide +kernel
theorem dX12_freePart_20 : decode cX12_freePart 20 = .ok (.invokevirtual 194, 3) := by decide +kernel
theorem dX12_freePart_23 : decode cX12_freePart 23 = .ok (.ifCond .eq 5, 3) := by decide +kernel
theorem dX12_freePart_26 : decode cX12_freePart 26 = .ok (.iload_n 3, 1) := by decide +kernel
theorem dX12_freePart_27 : decode cX12_freePart 27 = .ok (.ireturn, 1) := by decide +kernel
theorem dX12_freePart_28 : decode cX12_freePart 28 = .ok (.iinc 3 1, 3) := by decide +kernel
theorem dX12_freePart_31 : decode cX12_freePart 31 = .ok (.goto (-29), 3) := by decide +kernel
theorem dX12_freePart_34 : decode cX12_freePart 34 = .ok (.bipush (-2), 2) := by decide +kernel
theorem dX12_freePart_36 : decode cX12_freePart 36 = .ok (.ireturn, 1) := by decide +kernel
theorem dX12_isUsed_0 : decode cX12_isUsed 0 = .ok (.iconst 0, 1) := by decide +kernel
theorem dX12_isUsed_1 : decode cX12_isUsed 1 = .ok (.istore_n 2, 1) := by decide +kernel
theorem dX12_isUsed_2 : decode cX12_isUsed 2 = .ok (.iload_n 1, 1) := by decide +kernel
theorem dX12_isUsed_3 : decode cX12_isUsed 3 = .ok (.iconst 1, 1) := by decide +kernel
theorem dX12_isUsed_4 : decode cX12_isUsed 4 = .ok (.iadd, 1) := by decide +kernel
theorem dX12_isUsed_5 : decode cX12_isUsed 5 = .ok (.istore_n 3, 1) := by decide +kernel
theorem dX12_isUsed_6 : decode cX12_isUsed 6 = .ok (.iload_n 3, 1) := by decide +kernel
theorem dX12_isUsed_7 : decode cX12_isUsed 7 = .ok (.aload_n 0, 1) := by decide +kernel
theorem dX12_isUsed_8 : decode cX12_isUsed 8 = .ok (.getfield 103, 3) := by decide +kernel
theorem dX12_isUsed_11 : decode cX12_isUsed 11 = .ok (.if_icmp .ge 28, 3) := by decide +kernel
theorem dX12_isUsed_14 : decode cX12_isUsed 14 = .ok (.iload_n 2, 1) := by decide +kernel
theorem dX12_isUsed_15 : decode cX12_isUsed 15 = .ok (.ifCond .ne 12, 3) := by decide +kernel
theorem dX12_isUsed_18 : decode cX12_isUsed 18 = .ok (.aload_n 0, 1) := by decide +kernel
theorem dX12_isUsed_19 : decode cX12_isUsed 19 = .ok (.iload_n 1, 1) := by decide +kernel
theorem dX12_isUsed_20 : decode cX12_isUsed 20 = .ok (.iload_n 3, 1) := by decide +kernel
theorem dX12_isUsed_21 : decode cX12_isUsed 21 = .ok (.invokevirtual 184, 3) := by decide +kernel
theorem dX12_isUsed_24 : decode cX12_isUsed 24 = .ok (.ifCond .eq 7, 3) := by decide +kernel
theorem dX12_isUsed_27 : decode cX12_isUsed 27 = .ok (.iconst 1, 1) := by decide +kernel
theorem dX12_isUsed_28 : decode cX12_isUsed 28 = .ok (.goto 4, 3) := by decide +kernel
theorem dX12_isUsed_31 : decode cX12_isUsed 31 = .ok (.iconst 0, 1) := by decide +kernel
theorem dX12_isUsed_32 : decode cX12_isUsed 32 = .ok (.istore_n 2, 1) := by decide +kernel
theorem dX12_isUsed_33 : decode cX12_isUsed 33 = .ok (.iinc 3 1, 3) := by decide +kernel
theorem dX12_isUsed_36 : decode cX12_isUsed 36 = .ok (.goto (-30), 3) := by decide +kernel
theorem dX12_isUsed_39 : decode cX12_isUsed 39 = .ok (.iload_n 2, 1) := by decide +kernel
theorem dX12_isUsed_40 : decode cX12_isUsed 40 = .ok (.ifCond .eq 16, 3) := by decide +kernel
theorem dX12_isUsed_43 : decode cX12_isUsed 43 = .ok (.aload_n 0, 1) := by decide +kernel
theorem dX12_isUsed_44 : decode cX12_isUsed 44 = .ok (.getfield 7, 3) := by decide +kernel
theorem dX12_isUsed_47 : decode cX12_isUsed 47 = .ok (.iload_n 1, 1) := by decide +kernel
theorem dX12_isUsed_48 : decode cX12_isUsed 48 = .ok (.iaload, 1) := by decide +kernel
theorem dX12_isUsed_49 : decode cX12_isUsed 49 = .ok (.ifCond .eq 7, 3) := by decide +kernel
theorem dX12_isUsed_52 : decode cX12_isUsed 52 = .ok (.iconst 1, 1) := by decide +kernel
theorem dX12_isUsed_53 : decode cX12_isUsed 53 = .ok (.goto 4, 3) := by decide +kernel
theorem dX12_isUsed_56 : decode cX12_isUsed 56 = .ok (.iconst 0, 1) := by decide +kernel
theorem dX12_isUsed_57 : decode cX12_isUsed 57 = .ok (.ireturn, 1) := by decide +kernel
theorem dX12_lifeEnd_0 : decode cX12_lifeEnd 0 = .ok (.bipush (-2), 2) := by decide +kernel
theorem dX12_lifeEnd_2 : decode cX12_lifeEnd 2 = .ok (.istore_n 2, 1) := by decide +kernel
theorem dX12_lifeEnd_3 : decode cX12_lifeEnd 3 = .ok (.iload_n 1, 1) := by decide +kernel
theorem dX12_lifeEnd_4 : decode cX12_lifeEnd 4 = .ok (.iconst 1, 1) := by decide +kernel
theorem dX12_lifeEnd_5 : decode cX12_lifeEnd 5 = .ok (.iadd, 1) := by decide +kernel
theorem dX12_lifeEnd_6 : decode cX12_lifeEnd 6 = .ok (.istore_n 3, 1) := by decide +kernel
theorem dX12_lifeEnd_7 : decode cX12_lifeEnd 7 = .ok (.iload_n 3, 1) := by decide +kernel
theorem dX12_lifeEnd_8 : decode cX12_lifeEnd 8 = .ok (.aload_n 0, 1) := by decide +kernel
theorem dX12_lifeEnd_9 : decode cX12_lifeEnd 9 = .ok (.getfield 103, 3) := by decide +kernel
theorem dX12_lifeEnd_12 : decode cX12_lifeEnd 12 = .ok (.if_icmp .ge 39, 3) := by decide +kernel
theorem dX12_lifeEnd_15 : decode cX12_lifeEnd 15 = .ok (.aload_n 0, 1) := by decide +kernel
theorem dX12_lifeEnd_16 : decode cX12_lifeEnd 16 = .ok (.iload_n 1, 1) := by decide +kernel
theorem dX12_lifeEnd_17 : decode cX12_lifeEnd 17 = .ok (.iload_n 3, 1) := by decide +kernel
theorem dX12_lifeEnd_18 : decode cX12_lifeEnd 18 = .ok (.invokevirtual 184, 3) := by decide +kernel
theorem dX12_lifeEnd_21 : decode cX12_lifeEnd 21 = .ok (.ifCond .eq 22, 3) := by decide +kernel
theorem dX12_lifeEnd_24 : decode cX12_lifeEnd 24 = .ok (.aload_n 0, 1) := by decide +kernel
theorem dX12_lifeEnd_25 : decode cX12_lifeEnd 25 = .ok (.getfield 45, 3) := by decide +kernel
theorem dX12_lifeEnd_28 : decode cX12_lifeEnd 28 = .ok (.iload_n 3, 1) := by decide +kernel
theorem dX12_lifeEnd_29 : decode cX12_lifeEnd 29 = .ok (.iaload, 1) := by decide +kernel
theorem dX12_lifeEnd_30 : decode cX12_lifeEnd 30 = .ok (.iload_n 2, 1) := by decide +kernel
theorem dX12_lifeEnd_31 : decode cX12_lifeEnd 31 = .ok (.if_icmp .le 12, 3) := by decide +kernel
theorem dX12_lifeEnd_34 : decode cX12_lifeEnd 34 = .ok (.aload_n 0, 1) := by decide +kernel
theorem dX12_lifeEnd_35 : decode cX12_lifeEnd 35 = .ok (.getfield 45, 3) := by decide +kernel
theorem dX12_lifeEnd_38 : decode cX12_lifeEnd 38 = .ok (.iload_n 3, 1) := by decide +kernel
theorem dX12_lifeEnd_39 : decode cX12_lifeEnd 39 = .ok (.iaload, 1) := by decide +kernel
theorem dX12_lifeEnd_40 : decode cX12_lifeEnd 40 = .ok (.goto 4, 3) := by decide +kernel
theorem dX12_lifeEnd_43 : decode cX12_lifeEnd 43 = .ok (.iload_n 2, 1) := by decide +kernel
theorem dX12_lifeEnd_44 : decode cX12_lifeEnd 44 = .ok (.istore_n 2, 1) := by decide +kernel
theorem dX12_lifeEnd_45 : decode cX12_lifeEnd 45 = .ok (.iinc 3 1, 3) := by decide +kernel
theorem dX12_lifeEnd_48 : decode cX12_lifeEnd 48 = .ok (.goto (-41), 3) := by decide +kernel
theorem dX12_lifeEnd_51 : decode cX12_lifeEnd 51 = .ok (.iload_n 2, 1) := by decide +kernel
theorem dX12_lifeEnd_52 : decode cX12_lifeEnd 52 = .ok (.ireturn, 1) := by decide +kernel
theorem dX12_lifeBegin_0 : decode cX12_lifeBegin 0 = .ok (.aload_n 0, 1) := by decide +kernel
theorem dX12_lifeBegin_1 : decode cX12_lifeBegin 1 = .ok (.getfield 45, 3) := by decide +kernel
theorem dX12_lifeBegin_4 : decode cX12_lifeBegin 4 = .ok (.iload_n 1, 1) := by decide +kernel
theorem dX12_lifeBegin_5 : decode cX12_lifeBegin 5 = .ok (.iaload, 1) := by decide +kernel
theorem dX12_lifeBegin_6 : decode cX12_lifeBegin 6 = .ok (.aload_n 0, 1) := by decide +kernel
theorem dX12_lifeBegin_7 : decode cX12_lifeBegin 7 = .ok (.iload_n 1, 1) := by decide +kernel
theorem dX12_lifeBegin_8 : decode cX12_lifeBegin 8 = .ok (.invokevirtual 168, 3) := by decide +kernel
theorem dX12_lifeBegin_11 : decode cX12_lifeBegin 11 = .ok (.iadd, 1) := by decide +kernel
theorem dX12_lifeBegin_12 : decode cX12_lifeBegin 12 = .ok (.ireturn, 1) := by decide +kernel
theorem dX12_liveTogether_0 : decode cX12_liveTogether 0 = .ok (.aload_n 0, 1) := by decide +kernel
theorem dX12_liveTogether_1 : decode cX12_liveTogether 1 = .ok (.iload_n 1, 1) := by decide +kernel
theorem dX12_liveTogether_2 : decode cX12_liveTogether 2 = .ok (.invokevirtual 198, 3) := by decide +kernel
theorem dX12_liveTogether_5 : decode cX12_liveTogether 5 = .ok (.aload_n 0, 1) := by decide +kernel
theorem dX12_liveTogether_6 : decode cX12_liveTogether 6 = .ok (.iload_n 2, 1) := by decide +kernel
theorem dX12_liveTogether_7 : decode cX12_liveTogether 7 = .ok (.invokevirtual 201, 3) := by decide +kernel
theorem dX12_liveTogether_10 : decode cX12_liveTogether 10 = .ok (.if_icmp .gt 20, 3) := by decide +kernel
theorem dX12_liveTogether_13 : decode cX12_liveTogether 13 = .ok (.aload_n 0, 1) := by decide +kernel
theorem dX12_liveTogether_14 : decode cX12_liveTogether 14 = .ok (.iload_n 2, 1) := by decide +kernel
theorem dX12_liveTogether_15 : decode cX12_liveTogether 15 = .ok (.invokevirtual 198, 3) := by decide +kernel
theorem dX12_liveTogether_18 : decode cX12_liveTogether 18 = .ok (.aload_n 0, 1) := by decide +kernel
theorem dX12_liveTogether_19 : decode cX12_liveTogether 19 = .ok (.iload_n 1, 1) := by decide +kernel
theorem dX12_liveTogether_20 : decode cX12_liveTogether 20 = .ok (.invokevirtual 201, 3) := by decide +kernel
theorem dX12_liveTogether_23 : decode cX12_liveTogether 23 = .ok (.if_icmp .gt 7, 3) := by decide +kernel
theorem dX12_liveTogether_26 : decode cX12_liveTogether 26 = .ok (.iconst 1, 1) := by decide +kernel
theorem dX12_liveTogether_27 : decode cX12_liveTogether 27 = .ok (.goto 4, 3) := by decide +kernel
theorem dX12_liveTogether_30 : decode cX12_liveTogether 30 = .ok (.iconst 0, 1) := by decide +kernel
theorem dX12_liveTogether_31 : decode cX12_liveTogether 31 = .ok (.ireturn, 1) := by decide +kernel
theorem dX12_freeRegister_0 : decode cX12_freeRegister 0 = .ok (.iconst 0, 1) := by decide +kernel
theorem dX12_freeRegister_1 : decode cX12_freeRegister 1 = .ok (.istore_n 2, 1) := by decide +kernel
theorem dX12_freeRegister_2 : decode cX12_freeRegister 2 = .ok (.iconst 1, 1) := by decide +kernel
theorem dX12_freeRegister_3 : decode cX12_freeRegister 3 = .ok (.istore_n 3, 1) := by decide +kernel
theorem dX12_freeRegister_4 : decode cX12_freeRegister 4 = .ok (.iload_n 3, 1) := by decide +kernel
theorem dX12_freeRegister_5 : decode cX12_freeRegister 5 = .ok (.ifCond .eq 67, 3) := by decide +kernel
theorem dX12_freeRegister_8 : decode cX12_freeRegister 8 = .ok (.iconst 0, 1) := by decide +kernel
theorem dX12_freeRegister_9 : decode cX12_freeRegister 9 = .ok (.istore_n 3, 1) := by decide +kernel
theorem dX12_freeRegister_10 : decode cX12_freeRegister 10 = .ok (.iconst 0, 1) := by decide +kernel
theorem dX12_freeRegister_11 : decode cX12_freeRegister 11 = .ok (.istore 4, 2) := by decide +kernel
theorem dX12_freeRegister_13 : decode cX12_freeRegister 13 = .ok (.iload 4, 2) := by decide +kernel
theorem dX12_freeRegister_15 : decode cX12_freeRegister 15 = .ok (.aload_n 0, 1) := by decide +kernel
theorem dX12_freeRegister_16 : decode cX12_freeRegister 16 = .ok (.getfield 103, 3) := by decide +kernel
theorem dX12_freeRegister_19 : decode cX12_freeRegister 19 = .ok (.if_icmp .ge 38, 3) := by decide +kernel
theorem dX12_freeRegister_22 : decode cX12_freeRegister 22 = .ok (.iload 4, 2) := by decide +kernel
theorem dX12_freeRegister_24 : decode cX12_freeRegister 24 = .ok (.iload_n 1, 1) := by decide +kernel
theorem dX12_freeRegister_25 : decode cX12_freeRegister 25 = .ok (.if_icmp .eq 26, 3) := by decide +kernel
theorem dX12_freeRegister_28 : decode cX12_freeRegister 28 = .ok (.aload_n 0, 1) := by decide +kernel
theorem dX12_freeRegister_29 : decode cX12_freeRegister 29 = .ok (.getfield 51, 3) := by decide +kernel
theorem dX12_freeRegister_32 : decode cX12_freeRegister 32 = .ok (.iload 4, 2) := by decide +kernel
theorem dX12_freeRegister_34 : decode cX12_freeRegister 34 = .ok (.iaload, 1) := by decide +kernel
theorem dX12_freeRegister_35 : decode cX12_freeRegister 35 = .ok (.iload_n 2, 1) := by decide +kernel
theorem dX12_freeRegister_36 : decode cX12_freeRegister 36 = .ok (.if_icmp .ne 15, 3) := by decide +kernel
theorem dX12_freeRegister_39 : decode cX12_freeRegister 39 = .ok (.aload_n 0, 1) := by decide +kernel
theorem dX12_freeRegister_40 : decode cX12_freeRegister 40 = .ok (.iload_n 1, 1) := by decide +kernel
theorem dX12_freeRegister_41 : decode cX12_freeRegister 41 = .ok (.iload 4, 2) := by decide +kernel
theorem dX12_freeRegister_43 : decode cX12_freeRegister 43 = .ok (.invokevirtual 204, 3) := by decide +kernel
theorem dX12_freeRegister_46 : decode cX12_freeRegister 46 = .ok (.ifCond .eq 5, 3) := by decide +kernel
theorem dX12_freeRegister_49 : decode cX12_freeRegister 49 = .ok (.iconst 1, 1) := by decide +kernel
theorem dX12_freeRegister_50 : decode cX12_freeRegister 50 = .ok (.istore_n 3, 1) := by decide +kernel
theorem dX12_freeRegister_51 : decode cX12_freeRegister 51 = .ok (.iinc 4 1, 3) := by decide +kernel
theorem dX12_freeRegister_54 : decode cX12_freeRegister 54 = .ok (.goto (-41), 3) := by decide +kernel
theorem dX12_freeRegister_57 : decode cX12_freeRegister 57 = .ok (.iload_n 2, 1) := by decide +kernel
theorem dX12_freeRegister_58 : decode cX12_freeRegister 58 = .ok (.iload_n 3, 1) := by decide +kernel
theorem dX12_freeRegister_59 : decode cX12_freeRegister 59 = .ok (.ifCond .eq 7, 3) := by decide +kernel
theorem dX12_freeRegister_62 : decode cX12_freeRegister 62 = .ok (.iconst 1, 1) := by decide +kernel
theorem dX12_freeRegister_63 : decode cX12_freeRegister 63 = .ok (.goto 4, 3) := by decide +kernel
theorem dX12_freeRegister_66 : decode cX12_freeRegister 66 = .ok (.iconst 0, 1) := by decide +kernel
theorem dX12_freeRegister_67 : decode cX12_freeRegister 67 = .ok (.iadd, 1) := by decide +kernel
theorem dX12_freeRegister_68 : decode cX12_freeRegister 68 = .ok (.istore_n 2, 1) := by decide +kernel
theorem dX12_freeRegister_69 : decode cX12_freeRegister 69 = .ok (.goto (-65), 3) := by decide +kernel
theorem dX12_freeRegister_72 : decode cX12_freeRegister 72 = .ok (.iload_n 2, 1) := by decide +kernel
theorem dX12_freeRegister_73 : decode cX12_freeRegister 73 = .ok (.ireturn, 1) := by decide +kernel
theorem dX12_findRegisters_0 : decode cX12_findRegisters 0 = .ok (.aload_n 0, 1) := by decide +kernel
theorem dX12_findRegisters_1 : decode cX12_findRegisters 1 = .ok (.iconst 0, 1) := by decide +kernel
theorem dX12_findRegisters_2 : decode cX12_findRegisters 2 = .ok (.putfield 207, 3) := by decide +kernel
theorem dX12_findRegisters_5 : decode cX12_findRegisters 5 = .ok (.iconst 0, 1) := by decide +kernel
theorem dX12_findRegisters_6 : decode cX12_findRegisters 6 = .ok (.istore_n 1, 1) := by decide +kernel
theorem dX12_findRegisters_7 : decode cX12_findRegisters 7 = .ok (.iload_n 1, 1) := by decide +kernel
theorem dX12_findRegisters_8 : decode cX12_findRegisters 8 = .ok (.aload_n 0, 1) := by decide +kernel
theorem dX12_findRegisters_9 : decode cX12_findRegisters 9 = .ok (.getfield 103, 3) := by decide +kernel
theorem dX12_findRegisters_12 : decode cX12_findRegisters 12 = .ok (.if_icmp .ge 17, 3) := by decide +kernel
theorem dX12_findRegisters_15 : decode cX12_findRegisters 15 = .ok (.aload_n 0, 1) := by decide +kernel
theorem dX12_findRegisters_16 : decode cX12_findRegisters 16 = .ok (.getfield 51, 3) := by decide +kernel
theorem dX12_findRegisters_19 : decode cX12_findRegisters 19 = .ok (.iload_n 1, 1) := by decide +kernel
theorem dX12_findRegisters_20 : decode cX12_findRegisters 20 = .ok (.bipush (-2), 2) := by decide +kernel
theorem dX12_findRegisters_22 : decode cX12_findRegisters 22 = .ok (.iastore, 1) := by decide +kernel
theorem dX12_findRegisters_23 : decode cX12_findRegisters 23 = .ok (.iinc 1 1, 3) := by decide +kernel
theorem dX12_findRegisters_26 : decode cX12_findRegisters 26 = .ok (.goto (-19), 3) := by decide +kernel
theorem dX12_findRegisters_29 : decode cX12_findRegisters 29 = .ok (.iconst 0, 1) := by decide +kernel
theorem dX12_findRegisters_30 : decode cX12_findRegisters 30 = .ok (.istore_n 1, 1) := by decide +kernel
theorem dX12_findRegisters_31 : decode cX12_findRegisters 31 = .ok (.iload_n 1, 1) := by decide +kernel
theorem dX12_findRegisters_32 : decode cX12_findRegisters 32 = .ok (.aload_n 0, 1) := by decide +kernel
theorem dX12_findRegisters_33 : decode cX12_findRegisters 33 = .ok (.getfield 210, 3) := by decide +kernel
theorem dX12_findRegisters_36 : decode cX12_findRegisters 36 = .ok (.if_icmp .gt 85, 3) := by decide +kernel
theorem dX12_findRegisters_39 : decode cX12_findRegisters 39 = .ok (.iconst 0, 1) := by decide +kernel
theorem dX12_findRegisters_40 : decode cX12_findRegisters 40 = .ok (.istore_n 2, 1) := by decide +kernel
theorem dX12_findRegisters_41 : decode cX12_findRegisters 41 = .ok (.iload_n 2, 1) := by decide +kernel
theorem dX12_findRegisters_42 : decode cX12_findRegisters 42 = .ok (.aload_n 0, 1) := by decide +kernel
theorem dX12_findRegisters_43 : decode cX12_findRegisters 43 = .ok (.getfield 103, 3) := by decide +kernel
theorem dX12_findRegisters_46 : decode cX12_findRegisters 46 = .ok (.if_icmp .ge 69, 3) := by decide +kernel
theorem dX12_findRegisters_49 : decode cX12_findRegisters 49 = .ok (.aload_n 0, 1) := by decide +kernel
theorem dX12_findRegisters_50 : decode cX12_findRegisters 50 = .ok (.iload_n 2, 1) := by decide +kernel
theorem dX12_findRegisters_51 : decode cX12_findRegisters 51 = .ok (.invokevirtual 213, 3) := by decide +kernel
theorem dX12_findRegisters_54 : decode cX12_findRegisters 54 = .ok (.ifCond .eq 55, 3) := by decide +kernel
theorem dX12_findRegisters_57 : decode cX12_findRegisters 57 = .ok (.aload_n 0, 1) := by decide +kernel
theorem dX12_findRegisters_58 : decode cX12_findRegisters 58 = .ok (.iload_n 2, 1) := by decide +kernel
theorem dX12_findRegisters_59 : decode cX12_findRegisters 59 = .ok (.invokevirtual 198, 3) := by decide +kernel
theorem dX12_findRegisters_62 : decode cX12_findRegisters 62 = .ok (.iload_n 1, 1) := by decide +kernel
theorem dX12_findRegisters_63 : decode cX12_findRegisters 63 = .ok (.if_icmp .ne 46, 3) := by decide +kernel
theorem dX12_findRegisters_66 : decode cX12_findRegisters 66 = .ok (.aload_n 0, 1) := by decide +kernel
theorem dX12_findRegisters_67 : decode cX12_findRegisters 67 = .ok (.getfield 51, 3) := by decide +kernel
theorem dX12_findRegisters_70 : decode cX12_findRegisters 70 = .ok (.iload_n 2, 1) := by decide +kernel
theorem dX12_findRegisters_71 : decode cX12_findRegisters 71 = .ok (.aload_n 0, 1) := by decide +kernel
theorem dX12_findRegisters_72 : decode cX12_findRegisters 72 = .ok (.iload_n 2, 1) := by decide +kernel
theorem dX12_findRegisters_73 : decode cX12_findRegisters 73 = .ok (.invokevirtual 216, 3) := by decide +kernel
theorem dX12_findRegisters_76 : decode cX12_findRegisters 76 = .ok (.iastore, 1) := by decide +kernel
theorem dX12_findRegisters_77 : decode cX12_findRegisters 77 = .ok (.aload_n 0, 1) := by decide +kernel
theorem dX12_findRegisters_78 : decode cX12_findRegisters 78 = .ok (.aload_n 0, 1) := by decide +kernel
theorem dX12_findRegisters_79 : decode cX12_findRegisters 79 = .ok (.getfield 51, 3) := by decide +kernel
theorem dX12_findRegisters_82 : decode cX12_findRegisters 82 = .ok (.iload_n 2, 1) := by decide +kernel
theorem dX12_findRegisters_83 : decode cX12_findRegisters 83 = .ok (.iaload, 1) := by decide +kernel
theorem dX12_findRegisters_84 : decode cX12_findRegisters 84 = .ok (.aload_n 0, 1) := by decide +kernel
theorem dX12_findRegisters_85 : decode cX12_findRegisters 85 = .ok (.getfield 207, 3) := by decide +kernel
theorem dX12_findRegisters_88 : decode cX12_findRegisters 88 = .ok (.if_icmp .lt 14, 3) := by decide +kernel
theorem dX12_findRegisters_91 : decode cX12_findRegisters 91 = .ok (.aload_n 0, 1) := by decide +kernel
theorem dX12_findRegisters_92 : decode cX12_findRegisters 92 = .ok (.getfield 51, 3) := by decide +kernel
theorem dX12_findRegisters_95 : decode cX12_findRegisters 95 = .ok (.iload_n 2, 1) := by decide +kernel
theorem dX12_findRegisters_96 : decode cX12_findRegisters 96 = .ok (.iaload, 1) := by decide +kernel
theorem dX12_findRegisters_97 : decode cX12_findRegisters 97 = .ok (.iconst 1, 1) := by decide +kernel
theorem dX12_findRegisters_98 : decode cX12_findRegisters 98 = .ok (.iadd, 1) := by decide +kernel
theorem dX12_findRegisters_99 : decode cX12_findRegisters 99 = .ok (.goto 7, 3) := by decide +kernel
theorem dX12_findRegisters_102 : decode cX12_findRegisters 102 = .ok (.aload_n 0, 1) := by decide +kernel
theorem dX12_findRegisters_103 : decode cX12_findRegisters 103 = .ok (.getfield 207, 3) := by decide +kernel
theorem dX12_findRegisters_106 : decode cX12_findRegisters 106 = .ok (.putfield 207, 3) := by decide +kernel
theorem dX12_findRegisters_109 : decode cX12_findRegisters 109 = .ok (.iinc 2 1, 3) := by decide +kernel
theorem dX12_findRegisters_112 : decode cX12_findRegisters 112 = .ok (.goto (-71), 3) := by decide +kernel
theorem dX12_findRegisters_115 : decode cX12_findRegisters 115 = .ok (.iinc 1 1, 3) := by decide +kernel
theorem dX12_findRegisters_118 : decode cX12_findRegisters 118 = .ok (.goto (-87), 3) := by decide +kernel
theorem dX12_findRegisters_121 : decode cX12_findRegisters 121 = .ok (.return_, 1) := by decide +kernel
theorem dX12_lay_0 : decode cX12_lay 0 = .ok (.aload_n 0, 1) := by decide +kernel
theorem dX12_lay_1 : decode cX12_lay 1 = .ok (.iconst 0, 1) := by decide +kernel
theorem dX12_lay_2 : decode cX12_lay 2 = .ok (.putfield 99, 3) := by decide +kernel
theorem dX12_lay_5 : decode cX12_lay 5 = .ok (.aload_n 0, 1) := by decide +kernel
theorem dX12_lay_6 : decode cX12_lay 6 = .ok (.getfield 103, 3) := by decide +kernel
theorem dX12_lay_9 : decode cX12_lay 9 = .ok (.ifCond .ne 6, 3) := by decide +kernel
theorem dX12_lay_12 : decode cX12_lay 12 = .ok (.bipush (-2), 2) := by decide +kernel
theorem dX12_lay_14 : decode cX12_lay 14 = .ok (.ireturn, 1) := by decide +kernel
theorem dX12_lay_15 : decode cX12_lay 15 = .ok (.aload_n 0, 1) := by decide +kernel
theorem dX12_lay_16 : decode cX12_lay 16 = .ok (.invokevirtual 171, 3) := by decide +kernel
theorem dX12_lay_19 : decode cX12_lay 19 = .ok (.aload_n 0, 1) := by decide +kernel
theorem dX12_lay_20 : decode cX12_lay 20 = .ok (.iconst 0, 1) := by decide +kernel
theorem dX12_lay_21 : decode cX12_lay 21 = .ok (.putfield 210, 3) := by decide +kernel
theorem dX12_lay_24 : decode cX12_lay 24 = .ok (.iconst 0, 1) := by decide +kernel
theorem dX12_lay_25 : decode cX12_lay 25 = .ok (.istore_n 1, 1) := by decide +kernel
theorem dX12_lay_26 : decode cX12_lay 26 = .ok (.iload_n 1, 1) := by decide +kernel
theorem dX12_lay_27 : decode cX12_lay 27 = .ok (.aload_n 0, 1) := by decide +kernel
theorem dX12_lay_28 : decode cX12_lay 28 = .ok (.getfield 103, 3) := by decide +kernel
theorem dX12_lay_31 : decode cX12_lay 31 = .ok (.if_icmp .ge 109, 3) := by decide +kernel
theorem dX12_lay_34 : decode cX12_lay 34 = .ok (.aload_n 0, 1) := by decide +kernel
theorem dX12_lay_35 : decode cX12_lay 35 = .ok (.getfield 69, 3) := by decide +kernel
theorem dX12_lay_38 : decode cX12_lay 38 = .ok (.iload_n 1, 1) := by decide +kernel
theorem dX12_lay_39 : decode cX12_lay 39 = .ok (.aload_n 0, 1) := by decide +kernel
theorem dX12_lay_40 : decode cX12_lay 40 = .ok (.iload_n 1, 1) := by decide +kernel
theorem dX12_lay_41 : decode cX12_lay 41 = .ok (.invokevirtual 219, 3) := by decide +kernel
theorem dX12_lay_44 : decode cX12_lay 44 = .ok (.iastore, 1) := by decide +kernel
theorem dX12_lay_45 : decode cX12_lay 45 = .ok (.aload_n 0, 1) := by decide +kernel
theorem dX12_lay_46 : decode cX12_lay 46 = .ok (.getfield 69, 3) := by decide +kernel
theorem dX12_lay_49 : decode cX12_lay 49 = .ok (.iload_n 1, 1) := by decide +kernel
theorem dX12_lay_50 : decode cX12_lay 50 = .ok (.iaload, 1) := by decide +kernel
theorem dX12_lay_51 : decode cX12_lay 51 = .ok (.istore_n 2, 1) := by decide +kernel
theorem dX12_lay_52 : decode cX12_lay 52 = .ok (.aload_n 0, 1) := by decide +kernel
theorem dX12_lay_53 : decode cX12_lay 53 = .ok (.getfield 48, 3) := by decide +kernel
theorem dX12_lay_56 : decode cX12_lay 56 = .ok (.iload_n 1, 1) := by decide +kernel
theorem dX12_lay_57 : decode cX12_lay 57 = .ok (.bipush (-2), 2) := by decide +kernel
theorem dX12_lay_59 : decode cX12_lay 59 = .ok (.iastore, 1) := by decide +kernel
theorem dX12_lay_60 : decode cX12_lay 60 = .ok (.aload_n 0, 1) := by decide +kernel
theorem dX12_lay_61 : decode cX12_lay 61 = .ok (.iload_n 1, 1) := by decide +kernel
theorem dX12_lay_62 : decode cX12_lay 62 = .ok (.invokevirtual 146, 3) := by decide +kernel
theorem dX12_lay_65 : decode cX12_lay 65 = .ok (.ifCond .lt 30, 3) := by decide +kernel
theorem dX12_lay_68 : decode cX12_lay 68 = .ok (.aload_n 0, 1) := by decide +kernel
theorem dX12_lay_69 : decode cX12_lay 69 = .ok (.iload_n 1, 1) := by decide +kernel
theorem dX12_lay_70 : decode cX12_lay 70 = .ok (.iload_n 2, 1) := by decide +kernel
theorem dX12_lay_71 : decode cX12_lay 71 = .ok (.invokevirtual 222, 3) := by decide +kernel
theorem dX12_lay_74 : decode cX12_lay 74 = .ok (.ifCond .ge 9, 3) := by decide +kernel
theorem dX12_lay_77 : decode cX12_lay 77 = .ok (.iinc 2 1, 3) := by decide +kernel
theorem dX12_lay_80 : decode cX12_lay 80 = .ok (.goto (-12), 3) := by decide +kernel
theorem dX12_lay_83 : decode cX12_lay 83 = .ok (.aload_n 0, 1) := by decide +kernel
theorem dX12_lay_84 : decode cX12_lay 84 = .ok (.getfield 48, 3) := by decide +kernel
theorem dX12_lay_87 : decode cX12_lay 87 = .ok (.iload_n 1, 1) := by decide +kernel
theorem dX12_lay_88 : decode cX12_lay 88 = .ok (.aload_n 0, 1) := by decide +kernel
theorem dX12_lay_89 : decode cX12_lay 89 = .ok (.iload_n 1, 1) := by decide +kernel
theorem dX12_lay_90 : decode cX12_lay 90 = .ok (.iload_n 2, 1) := by decide +kernel
theorem dX12_lay_91 : decode cX12_lay 91 = .ok (.invokevirtual 222, 3) := by decide +kernel
theorem dX12_lay_94 : decode cX12_lay 94 = .ok (.iastore, 1) := by decide +kernel
theorem dX12_lay_95 : decode cX12_lay 95 = .ok (.aload_n 0, 1) := by decide +kernel
theorem dX12_lay_96 : decode cX12_lay 96 = .ok (.getfield 45, 3) := by decide +kernel
theorem dX12_lay_99 : decode cX12_lay 99 = .ok (.iload_n 1, 1) := by decide +kernel
theorem dX12_lay_100 : decode cX12_lay 100 = .ok (.iload_n 2, 1) := by decide +kernel
theorem dX12_lay_101 : decode cX12_lay 101 = .ok (.iastore, 1) := by decide +kernel
theorem dX12_lay_102 : decode cX12_lay 102 = .ok (.aload_n 0, 1) := by decide +kernel
theorem dX12_lay_103 : decode cX12_lay 103 = .ok (.iload_n 2, 1) := by decide +kernel
theorem dX12_lay_104 : decode cX12_lay 104 = .ok (.aload_n 0, 1) := by decide +kernel
theorem dX12_lay_105 : decode cX12_lay 105 = .ok (.iload_n 1, 1) := by decide +kernel
theorem dX12_lay_106 : decode cX12_lay 106 = .ok (.invokevirtual 168, 3) := by decide +kernel
theorem dX12_lay_109 : decode cX12_lay 109 = .ok (.iadd, 1) := by decide +kernel
theorem dX12_lay_110 : decode cX12_lay 110 = .ok (.aload_n 0, 1) := by decide +kernel
theorem dX12_lay_111 : decode cX12_lay 111 = .ok (.getfield 210, 3) := by decide +kernel
theorem dX12_lay_114 : decode cX12_lay 114 = .ok (.if_icmp .le 13, 3) := by decide +kernel
theorem dX12_lay_117 : decode cX12_lay 117 = .ok (.iload_n 2, 1) := by decide +kernel
theorem dX12_lay_118 : decode cX12_lay 118 = .ok (.aload_n 0, 1) := by decide +kernel
theorem dX12_lay_119 : decode cX12_lay 119 = .ok (.iload_n 1, 1) := by decide +kernel
theorem dX12_lay_120 : decode cX12_lay 120 = .ok (.invokevirtual 168, 3) := by decide +kernel
theorem dX12_lay_123 : decode cX12_lay 123 = .ok (.iadd, 1) := by decide +kernel
theorem dX12_lay_124 : decode cX12_lay 124 = .ok (.goto 7, 3) := by decide +kernel
theorem dX12_lay_127 : decode cX12_lay 127 = .ok (.aload_n 0, 1) := by decide +kernel
theorem dX12_lay_128 : decode cX12_lay 128 = .ok (.getfield 210, 3) := by decide +kernel
theorem dX12_lay_131 : decode cX12_lay 131 = .ok (.putfield 210, 3) := by decide +kernel
theorem dX12_lay_134 : decode cX12_lay 134 = .ok (.iinc 1 1, 3) := by decide +kernel
theorem dX12_lay_137 : decode cX12_lay 137 = .ok (.goto (-111), 3) := by decide +kernel
theorem dX12_lay_140 : decode cX12_lay 140 = .ok (.aload_n 0, 1) := by decide +kernel
theorem dX12_lay_141 : decode cX12_lay 141 = .ok (.invokevirtual 225, 3) := by decide +kernel
theorem dX12_lay_144 : decode cX12_lay 144 = .ok (.aload_n 0, 1) := by decide +kernel
theorem dX12_lay_145 : decode cX12_lay 145 = .ok (.iconst 1, 1) := by decide +kernel
theorem dX12_lay_146 : decode cX12_lay 146 = .ok (.putfield 106, 3) := by decide +kernel
theorem dX12_lay_149 : decode cX12_lay 149 = .ok (.aload_n 0, 1) := by decide +kernel
theorem dX12_lay_150 : decode cX12_lay 150 = .ok (.getfield 210, 3) := by decide +kernel
theorem dX12_lay_153 : decode cX12_lay 153 = .ok (.ireturn, 1) := by decide +kernel
theorem dX12_justBehind_0 : decode cX12_justBehind 0 = .ok (.iconst 0, 1) := by decide +kernel
theorem dX12_justBehind_1 : decode cX12_justBehind 1 = .ok (.istore_n 2, 1) := by decide +kernel
theorem dX12_justBehind_2 : decode cX12_justBehind 2 = .ok (.iload_n 2, 1) := by decide +kernel
theorem dX12_justBehind_3 : decode cX12_justBehind 3 = .ok (.iload_n 1, 1) := by decide +kernel
theorem dX12_justBehind_4 : decode cX12_justBehind 4 = .ok (.if_icmp .ge 39, 3) := by decide +kernel
theorem dX12_justBehind_7 : decode cX12_justBehind 7 = .ok (.aload_n 0, 1) := by decide +kernel
theorem dX12_justBehind_8 : decode cX12_justBehind 8 = .ok (.iload_n 2, 1) := by decide +kernel
theorem dX12_justBehind_9 : decode cX12_justBehind 9 = .ok (.iload_n 1, 1) := by decide +kernel
theorem dX12_justBehind_10 : decode cX12_justBehind 10 = .ok (.invokevirtual 187, 3) := by decide +kernel
theorem dX12_justBehind_13 : decode cX12_justBehind 13 = .ok (.istore_n 3, 1) := by decide +kernel
theorem dX12_justBehind_14 : decode cX12_justBehind 14 = .ok (.iload_n 3, 1) := by decide +kernel
theorem dX12_justBehind_15 : decode cX12_justBehind 15 = .ok (.ifCond .le 22, 3) := by decide +kernel
theorem dX12_justBehind_18 : decode cX12_justBehind 18 = .ok (.aload_n 0, 1) := by decide +kernel
theorem dX12_justBehind_19 : decode cX12_justBehind 19 = .ok (.getfield 45, 3) := by decide +kernel
theorem dX12_justBehind_22 : decode cX12_justBehind 22 = .ok (.iload_n 1, 1) := by decide +kernel
theorem dX12_justBehind_23 : decode cX12_justBehind 23 = .ok (.iaload, 1) := by decide +kernel
theorem dX12_justBehind_24 : decode cX12_justBehind 24 = .ok (.aload_n 0, 1) := by decide +kernel
theorem dX12_justBehind_25 : decode cX12_justBehind 25 = .ok (.getfield 45, 3) := by decide +kernel
theorem dX12_justBehind_28 : decode cX12_justBehind 28 = .ok (.iload_n 2, 1) := by decide +kernel
theorem dX12_justBehind_29 : decode cX12_justBehind 29 = .ok (.iaload, 1) := by decide +kernel
theorem dX12_justBehind_30 : decode cX12_justBehind 30 = .ok (.isub, 1) := by decide +kernel
theorem dX12_justBehind_31 : decode cX12_justBehind 31 = .ok (.iload_n 3, 1) := by decide +kernel
theorem dX12_justBehind_32 : decode cX12_justBehind 32 = .ok (.if_icmp .ne 5, 3) := by decide +kernel
theorem dX12_justBehind_35 : decode cX12_justBehind 35 = .ok (.iload_n 2, 1) := by decide +kernel
theorem dX12_justBehind_36 : decode cX12_justBehind 36 = .ok (.ireturn, 1) := by decide +kernel
theorem dX12_justBehind_37 : decode cX12_justBehind 37 = .ok (.iinc 2 1, 3) := by decide +kernel
theorem dX12_justBehind_40 : decode cX12_justBehind 40 = .ok (.goto (-38), 3) := by decide +kernel
theorem dX12_justBehind_43 : decode cX12_justBehind 43 = .ok (.bipush (-2), 2) := by decide +kernel
theorem dX12_justBehind_45 : decode cX12_justBehind 45 = .ok (.ireturn, 1) := by decide +kernel
theorem dX12_tick_0 : decode cX12_tick 0 = .ok (.aload_n 0, 1) := by decide +kernel
theorem dX12_tick_1 : decode cX12_tick 1 = .ok (.iconst 0, 1) := by decide +kernel
theorem dX12_tick_2 : decode cX12_tick 2 = .ok (.putfield 99, 3) := by decide +kernel
theorem dX12_tick_5 : decode cX12_tick 5 = .ok (.aload_n 0, 1) := by decide +kernel
theorem dX12_tick_6 : decode cX12_tick 6 = .ok (.iload_n 1, 1) := by decide +kernel
theorem dX12_tick_7 : decode cX12_tick 7 = .ok (.invokevirtual 132, 3) := by decide +kernel
theorem dX12_tick_10 : decode cX12_tick 10 = .ok (.ifCond .eq 15, 3) := by decide +kernel
theorem dX12_tick_13 : decode cX12_tick 13 = .ok (.iload_n 2, 1) := by decide +kernel
theorem dX12_tick_14 : decode cX12_tick 14 = .ok (.i2l, 1) := by decide +kernel
theorem dX12_tick_15 : decode cX12_tick 15 = .ok (.lconst 0, 1) := by decide +kernel
theorem dX12_tick_16 : decode cX12_tick 16 = .ok (.ldc2_w 138, 3) := by decide +kernel
theorem dX12_tick_19 : decode cX12_tick 19 = .ok (.invokestatic 118, 3) := by decide +kernel
theorem dX12_tick_22 : decode cX12_tick 22 = .ok (.ifCond .ne 5, 3) := by decide +kernel
theorem dX12_tick_25 : decode cX12_tick 25 = .ok (.iconst (-1), 1) := by decide +kernel
theorem dX12_tick_26 : decode cX12_tick 26 = .ok (.ireturn, 1) := by decide +kernel
theorem dX12_tick_27 : decode cX12_tick 27 = .ok (.aload_n 0, 1) := by decide +kernel
theorem dX12_tick_28 : decode cX12_tick 28 = .ok (.getfield 106, 3) := by decide +kernel
theorem dX12_tick_31 : decode cX12_tick 31 = .ok (.ifCond .ne 6, 3) := by decide +kernel
theorem dX12_tick_34 : decode cX12_tick 34 = .ok (.bipush (-3), 2) := by decide +kernel
theorem dX12_tick_36 : decode cX12_tick 36 = .ok (.ireturn, 1) := by decide +kernel
theorem dX12_tick_37 : decode cX12_tick 37 = .ok (.aload_n 0, 1) := by decide +kernel
theorem dX12_tick_38 : decode cX12_tick 38 = .ok (.invokevirtual 171, 3) := by decide +kernel
theorem dX12_tick_41 : decode cX12_tick 41 = .ok (.iload_n 2, 1) := by decide +kernel
theorem dX12_tick_42 : decode cX12_tick 42 = .ok (.tableswitch 105 0 5 #[38, 45, 52, 58, 79, 86], 38) := by decide +kernel
theorem dX12_tick_80 : decode cX12_tick 80 = .ok (.aload_n 0, 1) := by decide +kernel
theorem dX12_tick_81 : decode cX12_tick 81 = .ok (.getfield 45, 3) := by decide +kernel
theorem dX12_tick_84 : decode cX12_tick 84 = .ok (.iload_n 1, 1) := by decide +kernel
theorem dX12_tick_85 : decode cX12_tick 85 = .ok (.iaload, 1) := by decide +kernel
theorem dX12_tick_86 : decode cX12_tick 86 = .ok (.ireturn, 1) := by decide +kernel
theorem dX12_tick_87 : decode cX12_tick 87 = .ok (.aload_n 0, 1) := by decide +kernel
theorem dX12_tick_88 : decode cX12_tick 88 = .ok (.getfield 48, 3) := by decide +kernel
theorem dX12_tick_91 : decode cX12_tick 91 = .ok (.iload_n 1, 1) := by decide +kernel
theorem dX12_tick_92 : decode cX12_tick 92 = .ok (.iaload, 1) := by decide +kernel
theorem dX12_tick_93 : decode cX12_tick 93 = .ok (.ireturn, 1) := by decide +kernel
theorem dX12_tick_94 : decode cX12_tick 94 = .ok (.aload_n 0, 1) := by decide +kernel
theorem dX12_tick_95 : decode cX12_tick 95 = .ok (.iload_n 1, 1) := by decide +kernel
theorem dX12_tick_96 : decode cX12_tick 96 = .ok (.invokevirtual 228, 3) := by decide +kernel
theorem dX12_tick_99 : decode cX12_tick 99 = .ok (.ireturn, 1) := by decide +kernel
theorem dX12_tick_100 : decode cX12_tick 100 = .ok (.aload_n 0, 1) := by decide +kernel
theorem dX12_tick_101 : decode cX12_tick 101 = .ok (.getfield 45, 3) := by decide +kernel
theorem dX12_tick_104 : decode cX12_tick 104 = .ok (.iload_n 1, 1) := by decide +kernel
theorem dX12_tick_105 : decode cX12_tick 105 = .ok (.iaload, 1) := by decide +kernel
theorem dX12_tick_106 : decode cX12_tick 106 = .ok (.aload_n 0, 1) := by decide +kernel
theorem dX12_tick_107 : decode cX12_tick 107 = .ok (.getfield 69, 3) := by decide +kernel
theorem dX12_tick_110 : decode cX12_tick 110 = .ok (.iload_n 1, 1) := by decide +kernel
theorem dX12_tick_111 : decode cX12_tick 111 = .ok (.iaload, 1) := by decide +kernel
theorem dX12_tick_112 : decode cX12_tick 112 = .ok (.if_icmp .le 7, 3) := by decide +kernel
theorem dX12_tick_115 : decode cX12_tick 115 = .ok (.iconst 1, 1) := by decide +kernel
theorem dX12_tick_116 : decode cX12_tick 116 = .ok (.goto 4, 3) := by decide +kernel
theorem dX12_tick_119 : decode cX12_tick 119 = .ok (.iconst 0, 1) := by decide +kernel
theorem dX12_tick_120 : decode cX12_tick 120 = .ok (.ireturn, 1) := by decide +kernel
theorem dX12_tick_121 : decode cX12_tick 121 = .ok (.aload_n 0, 1) := by decide +kernel
theorem dX12_tick_122 : decode cX12_tick 122 = .ok (.getfield 51, 3) := by decide +kernel
theorem dX12_tick_125 : decode cX12_tick 125 = .ok (.iload_n 1, 1) := by decide +kernel
theorem dX12_tick_126 : decode cX12_tick 126 = .ok (.iaload, 1) := by decide +kernel
theorem dX12_tick_127 : decode cX12_tick 127 = .ok (.ireturn, 1) := by decide +kernel
theorem dX12_tick_128 : decode cX12_tick 128 = .ok (.aload_n 0, 1) := by decide +kernel
theorem dX12_tick_129 : decode cX12_tick 129 = .ok (.iload_n 1, 1) := by decide +kernel
theorem dX12_tick_130 : decode cX12_tick 130 = .ok (.invokevirtual 213, 3) := by decide +kernel
theorem dX12_tick_133 : decode cX12_tick 133 = .ok (.ifCond .eq 11, 3) := by decide +kernel
theorem dX12_tick_136 : decode cX12_tick 136 = .ok (.aload_n 0, 1) := by decide +kernel
theorem dX12_tick_137 : decode cX12_tick 137 = .ok (.iload_n 1, 1) := by decide +kernel
theorem dX12_tick_138 : decode cX12_tick 138 = .ok (.invokevirtual 198, 3) := by decide +kernel
theorem dX12_tick_141 : decode cX12_tick 141 = .ok (.goto 5, 3) := by decide +kernel
theorem dX12_tick_144 : decode cX12_tick 144 = .ok (.bipush (-2), 2) := by decide +kernel
theorem dX12_tick_146 : decode cX12_tick 146 = .ok (.ireturn, 1) := by decide +kernel
theorem dX12_tick_147 : decode cX12_tick 147 = .ok (.aload_n 0, 1) := by decide +kernel
theorem dX12_tick_148 : decode cX12_tick 148 = .ok (.iload_n 1, 1) := by decide +kernel
theorem dX12_tick_149 : decode cX12_tick 149 = .ok (.invokevirtual 213, 3) := by decide +kernel
theorem dX12_tick_152 : decode cX12_tick 152 = .ok (.ifCond .eq 11, 3) := by decide +kernel
theorem dX12_tick_155 : decode cX12_tick 155 = .ok (.aload_n 0, 1) := by decide +kernel
theorem dX12_tick_156 : decode cX12_tick 156 = .ok (.iload_n 1, 1) := by decide +kernel
theorem dX12_tick_157 : decode cX12_tick 157 = .ok (.invokevirtual 201, 3) := by decide +kernel
theorem dX12_tick_160 : decode cX12_tick 160 = .ok (.goto 5, 3) := by decide +kernel
theorem dX12_tick_163 : decode cX12_tick 163 = .ok (.bipush (-2), 2) := by decide +kernel
theorem dX12_tick_165 : decode cX12_tick 165 = .ok (.ireturn, 1) := by decide +kernel
theorem dX12_freeTicks_0 : decode cX12_freeTicks 0 = .ok (.aload_n 0, 1) := by decide +kernel
theorem dX12_freeTicks_1 : decode cX12_freeTicks 1 = .ok (.invokevirtual 171, 3) := by decide +kernel
theorem dX12_freeTicks_4 : decode cX12_freeTicks 4 = .ok (.iconst 0, 1) := by decide +kernel
theorem dX12_freeTicks_5 : decode cX12_freeTicks 5 = .ok (.istore_n 1, 1) := by decide +kernel
theorem dX12_freeTicks_6 : decode cX12_freeTicks 6 = .ok (.iconst 0, 1) := by decide +kernel
theorem dX12_freeTicks_7 : decode cX12_freeTicks 7 = .ok (.istore_n 2, 1) := by decide +kernel
theorem dX12_freeTicks_8 : decode cX12_freeTicks 8 = .ok (.iload_n 2, 1) := by decide +kernel
theorem dX12_freeTicks_9 : decode cX12_freeTicks 9 = .ok (.aload_n 0, 1) := by decide +kernel
theorem dX12_freeTicks_10 : decode cX12_freeTicks 10 = .ok (.getfield 103, 3) := by decide +kernel
theorem dX12_freeTicks_13 : decode cX12_freeTicks 13 = .ok (.if_icmp .ge 21, 3) := by decide +kernel
theorem dX12_freeTicks_16 : decode cX12_freeTicks 16 = .ok (.aload_n 0, 1) := by decide +kernel
theorem dX12_freeTicks_17 : decode cX12_freeTicks 17 = .ok (.getfield 72, 3) := by decide +kernel
theorem dX12_freeTicks_20 : decode cX12_freeTicks 20 = .ok (.iload_n 2, 1) := by decide +kernel
theorem dX12_freeTicks_21 : decode cX12_freeTicks 21 = .ok (.aload_n 0, 1) := by decide +kernel
theorem dX12_freeTicks_22 : decode cX12_freeTicks 22 = .ok (.getfield 45, 3) := by decide +kernel
theorem dX12_freeTicks_25 : decode cX12_freeTicks 25 = .ok (.iload_n 2, 1) := by decide +kernel
theorem dX12_freeTicks_26 : decode cX12_freeTicks 26 = .ok (.iaload, 1) := by decide +kernel
theorem dX12_freeTicks_27 : decode cX12_freeTicks 27 = .ok (.iastore, 1) := by decide +kernel
theorem dX12_freeTicks_28 : decode cX12_freeTicks 28 = .ok (.iinc 2 1, 3) := by decide +kernel
theorem dX12_freeTicks_31 : decode cX12_freeTicks 31 = .ok (.goto (-23), 3) := by decide +kernel
theorem dX12_freeTicks_34 : decode cX12_freeTicks 34 = .ok (.iconst 0, 1) := by decide +kernel
theorem dX12_freeTicks_35 : decode cX12_freeTicks 35 = .ok (.istore_n 2, 1) := by decide +kernel
theorem dX12_freeTicks_36 : decode cX12_freeTicks 36 = .ok (.iload_n 2, 1) := by decide +kernel
theorem dX12_freeTicks_37 : decode cX12_freeTicks 37 = .ok (.aload_n 0, 1) := by decide +kernel
theorem dX12_freeTicks_38 : decode cX12_freeTicks 38 = .ok (.getfield 103, 3) := by decide +kernel
theorem dX12_freeTicks_41 : decode cX12_freeTicks 41 = .ok (.if_icmp .ge 53, 3) := by decide +kernel
theorem dX12_freeTicks_44 : decode cX12_freeTicks 44 = .ok (.aload_n 0, 1) := by decide +kernel
theorem dX12_freeTicks_45 : decode cX12_freeTicks 45 = .ok (.getfield 45, 3) := by decide +kernel
theorem dX12_freeTicks_48 : decode cX12_freeTicks 48 = .ok (.iload_n 2, 1) := by decide +kernel
theorem dX12_freeTicks_49 : decode cX12_freeTicks 49 = .ok (.aload_n 0, 1) := by decide +kernel
theorem dX12_freeTicks_50 : decode cX12_freeTicks 50 = .ok (.iload_n 2, 1) := by decide +kernel
theorem dX12_freeTicks_51 : decode cX12_freeTicks 51 = .ok (.invokevirtual 219, 3) := by decide +kernel
theorem dX12_freeTicks_54 : decode cX12_freeTicks 54 = .ok (.iastore, 1) := by decide +kernel
theorem dX12_freeTicks_55 : decode cX12_freeTicks 55 = .ok (.aload_n 0, 1) := by decide +kernel
theorem dX12_freeTicks_56 : decode cX12_freeTicks 56 = .ok (.getfield 45, 3) := by decide +kernel
theorem dX12_freeTicks_59 : decode cX12_freeTicks 59 = .ok (.iload_n 2, 1) := by decide +kernel
theorem dX12_freeTicks_60 : decode cX12_freeTicks 60 = .ok (.iaload, 1) := by decide +kernel
theorem dX12_freeTicks_61 : decode cX12_freeTicks 61 = .ok (.aload_n 0, 1) := by decide +kernel
theorem dX12_freeTicks_62 : decode cX12_freeTicks 62 = .ok (.iload_n 2, 1) := by decide +kernel
theorem dX12_freeTicks_63 : decode cX12_freeTicks 63 = .ok (.invokevirtual 168, 3) := by decide +kernel
theorem dX12_freeTicks_66 : decode cX12_freeTicks 66 = .ok (.iadd, 1) := by decide +kernel
theorem dX12_freeTicks_67 : decode cX12_freeTicks 67 = .ok (.iload_n 1, 1) := by decide +kernel
theorem dX12_freeTicks_68 : decode cX12_freeTicks 68 = .ok (.if_icmp .le 18, 3) := by decide +kernel
theorem dX12_freeTicks_71 : decode cX12_freeTicks 71 = .ok (.aload_n 0, 1) := by decide +kernel
theorem dX12_freeTicks_72 : decode cX12_freeTicks 72 = .ok (.getfield 45, 3) := by decide +kernel
theorem dX12_freeTicks_75 : decode cX12_freeTicks 75 = .ok (.iload_n 2, 1) := by decide +kernel
theorem dX12_freeTicks_76 : decode cX12_freeTicks 76 = .ok (.iaload, 1) := by decide +kernel
theorem dX12_freeTicks_77 : decode cX12_freeTicks 77 = .ok (.aload_n 0, 1) := by decide +kernel
theorem dX12_freeTicks_78 : decode cX12_freeTicks 78 = .ok (.iload_n 2, 1) := by decide +kernel
theorem dX12_freeTicks_79 : decode cX12_freeTicks 79 = .ok (.invokevirtual 168, 3) := by decide +kernel
theorem dX12_freeTicks_82 : decode cX12_freeTicks 82 = .ok (.iadd, 1) := by decide +kernel
theorem dX12_freeTicks_83 : decode cX12_freeTicks 83 = .ok (.goto 4, 3) := by decide +kernel
theorem dX12_freeTicks_86 : decode cX12_freeTicks 86 = .ok (.iload_n 1, 1) := by decide +kernel
theorem dX12_freeTicks_87 : decode cX12_freeTicks 87 = .ok (.istore_n 1, 1) := by decide +kernel
theorem dX12_freeTicks_88 : decode cX12_freeTicks 88 = .ok (.iinc 2 1, 3) := by decide +kernel
theorem dX12_freeTicks_91 : decode cX12_freeTicks 91 = .ok (.goto (-55), 3) := by decide +kernel
theorem dX12_freeTicks_94 : decode cX12_freeTicks 94 = .ok (.iconst 0, 1) := by decide +kernel
theorem dX12_freeTicks_95 : decode cX12_freeTicks 95 = .ok (.istore_n 2, 1) := by decide +kernel
theorem dX12_freeTicks_96 : decode cX12_freeTicks 96 = .ok (.iload_n 2, 1) := by decide +kernel
theorem dX12_freeTicks_97 : decode cX12_freeTicks 97 = .ok (.aload_n 0, 1) := by decide +kernel
theorem dX12_freeTicks_98 : decode cX12_freeTicks 98 = .ok (.getfield 103, 3) := by decide +kernel
theorem dX12_freeTicks_101 : decode cX12_freeTicks 101 = .ok (.if_icmp .ge 21, 3) := by decide +kernel
theorem dX12_freeTicks_104 : decode cX12_freeTicks 104 = .ok (.aload_n 0, 1) := by decide +kernel
theorem dX12_freeTicks_105 : decode cX12_freeTicks 105 = .ok (.getfield 45, 3) := by decide +kernel
theorem dX12_freeTicks_108 : decode cX12_freeTicks 108 = .ok (.iload_n 2, 1) := by decide +kernel
theorem dX12_freeTicks_109 : decode cX12_freeTicks 109 = .ok (.aload_n 0, 1) := by decide +kernel
theorem dX12_freeTicks_110 : decode cX12_freeTicks 110 = .ok (.getfield 72, 3) := by decide +kernel
theorem dX12_freeTicks_113 : decode cX12_freeTicks 113 = .ok (.iload_n 2, 1) := by decide +kernel
theorem dX12_freeTicks_114 : decode cX12_freeTicks 114 = .ok (.iaload, 1) := by decide +kernel
theorem dX12_freeTicks_115 : decode cX12_freeTicks 115 = .ok (.iastore, 1) := by decide +kernel
theorem dX12_freeTicks_116 : decode cX12_freeTicks 116 = .ok (.iinc 2 1, 3) := by decide +kernel
theorem dX12_freeTicks_119 : decode cX12_freeTicks 119 = .ok (.goto (-23), 3) := by decide +kernel
theorem dX12_freeTicks_122 : decode cX12_freeTicks 122 = .ok (.iload_n 1, 1) := by decide +kernel
theorem dX12_freeTicks_123 : decode cX12_freeTicks 123 = .ok (.ireturn, 1) := by decide +kernel
theorem dX12_filled_0 : decode cX12_filled 0 = .ok (.iconst 0, 1) := by decide +kernel
theorem dX12_filled_1 : decode cX12_filled 1 = .ok (.istore_n 2, 1) := by decide +kernel
theorem dX12_filled_2 : decode cX12_filled 2 = .ok (.iconst 0, 1) := by decide +kernel
theorem dX12_filled_3 : decode cX12_filled 3 = .ok (.istore_n 3, 1) := by decide +kernel
theorem dX12_filled_4 : decode cX12_filled 4 = .ok (.iload_n 3, 1) := by decide +kernel
theorem dX12_filled_5 : decode cX12_filled 5 = .ok (.aload_n 0, 1) := by decide +kernel
theorem dX12_filled_6 : decode cX12_filled 6 = .ok (.getfield 103, 3) := by decide +kernel
theorem dX12_filled_9 : decode cX12_filled 9 = .ok (.if_icmp .ge 30, 3) := by decide +kernel
theorem dX12_filled_12 : decode cX12_filled 12 = .ok (.iload_n 2, 1) := by decide +kernel
theorem dX12_filled_13 : decode cX12_filled 13 = .ok (.aload_n 0, 1) := by decide +kernel
theorem dX12_filled_14 : decode cX12_filled 14 = .ok (.iload_n 3, 1) := by decide +kernel
theorem dX12_filled_15 : decode cX12_filled 15 = .ok (.invokevirtual 146, 3) := by decide +kernel
theorem dX12_filled_18 : decode cX12_filled 18 = .ok (.iload_n 1, 1) := by decide +kernel
theorem dX12_filled_19 : decode cX12_filled 19 = .ok (.if_icmp .ne 11, 3) := by decide +kernel
theorem dX12_filled_22 : decode cX12_filled 22 = .ok (.aload_n 0, 1) := by decide +kernel
theorem dX12_filled_23 : decode cX12_filled 23 = .ok (.iload_n 3, 1) := by decide +kernel
theorem dX12_filled_24 : decode cX12_filled 24 = .ok (.invokevirtual 191, 3) := by decide +kernel
theorem dX12_filled_27 : decode cX12_filled 27 = .ok (.goto 4, 3) := by decide +kernel
theorem dX12_filled_30 : decode cX12_filled 30 = .ok (.iconst 0, 1) := by decide +kernel
theorem dX12_filled_31 : decode cX12_filled 31 = .ok (.iadd, 1) := by decide +kernel
theorem dX12_filled_32 : decode cX12_filled 32 = .ok (.istore_n 2, 1) := by decide +kernel
theorem dX12_filled_33 : decode cX12_filled 33 = .ok (.iinc 3 1, 3) := by decide +kernel
theorem dX12_filled_36 : decode cX12_filled 36 = .ok (.goto (-32), 3) := by decide +kernel
theorem dX12_filled_39 : decode cX12_filled 39 = .ok (.iload_n 2, 1) := by decide +kernel
theorem dX12_filled_40 : decode cX12_filled 40 = .ok (.aload_n 0, 1) := by decide +kernel
theorem dX12_filled_41 : decode cX12_filled 41 = .ok (.getfield 26, 3) := by decide +kernel
theorem dX12_filled_44 : decode cX12_filled 44 = .ok (.iload_n 1, 1) := by decide +kernel
theorem dX12_filled_45 : decode cX12_filled 45 = .ok (.iaload, 1) := by decide +kernel
theorem dX12_filled_46 : decode cX12_filled 46 = .ok (.iadd, 1) := by decide +kernel
theorem dX12_filled_47 : decode cX12_filled 47 = .ok (.iconst 1, 1) := by decide +kernel
theorem dX12_filled_48 : decode cX12_filled 48 = .ok (.isub, 1) := by decide +kernel
theorem dX12_filled_49 : decode cX12_filled 49 = .ok (.aload_n 0, 1) := by decide +kernel
theorem dX12_filled_50 : decode cX12_filled 50 = .ok (.getfield 26, 3) := by decide +kernel
theorem dX12_filled_53 : decode cX12_filled 53 = .ok (.iload_n 1, 1) := by decide +kernel
theorem dX12_filled_54 : decode cX12_filled 54 = .ok (.iaload, 1) := by decide +kernel
theorem dX12_filled_55 : decode cX12_filled 55 = .ok (.idiv, 1) := by decide +kernel
theorem dX12_filled_56 : decode cX12_filled 56 = .ok (.ireturn, 1) := by decide +kernel
theorem dX12_bound_0 : decode cX12_bound 0 = .ok (.aload_n 0, 1) := by decide +kernel
theorem dX12_bound_1 : decode cX12_bound 1 = .ok (.iconst 0, 1) := by decide +kernel
theorem dX12_bound_2 : decode cX12_bound 2 = .ok (.putfield 99, 3) := by decide +kernel
theorem dX12_bound_5 : decode cX12_bound 5 = .ok (.iload_n 1, 1) := by decide +kernel
theorem dX12_bound_6 : decode cX12_bound 6 = .ok (.i2l, 1) := by decide +kernel
theorem dX12_bound_7 : decode cX12_bound 7 = .ok (.lconst 0, 1) := by decide +kernel
theorem dX12_bound_8 : decode cX12_bound 8 = .ok (.ldc2_w 231, 3) := by decide +kernel
theorem dX12_bound_11 : decode cX12_bound 11 = .ok (.invokestatic 118, 3) := by decide +kernel
theorem dX12_bound_14 : decode cX12_bound 14 = .ok (.ifCond .ne 5, 3) := by decide +kernel
theorem dX12_bound_17 : decode cX12_bound 17 = .ok (.iconst (-1), 1) := by decide +kernel
theorem dX12_bound_18 : decode cX12_bound 18 = .ok (.ireturn, 1) := by decide +kernel
theorem dX12_bound_19 : decode cX12_bound 19 = .ok (.iload_n 1, 1) := by decide +kernel
theorem dX12_bound_20 : decode cX12_bound 20 = .ok (.iconst 5, 1) := by decide +kernel
theorem dX12_bound_21 : decode cX12_bound 21 = .ok (.if_icmp .ge 22, 3) := by decide +kernel
theorem dX12_bound_24 : decode cX12_bound 24 = .ok (.iload_n 1, 1) := by decide +kernel
theorem dX12_bound_25 : decode cX12_bound 25 = .ok (.ifCond .ne 10, 3) := by decide +kernel
theorem dX12_bound_28 : decode cX12_bound 28 = .ok (.aload_n 0, 1) := by decide +kernel
theorem dX12_bound_29 : decode cX12_bound 29 = .ok (.invokevirtual 233, 3) := by decide +kernel
theorem dX12_bound_32 : decode cX12_bound 32 = .ok (.goto 10, 3) := by decide +kernel
theorem dX12_bound_35 : decode cX12_bound 35 = .ok (.aload_n 0, 1) := by decide +kernel
theorem dX12_bound_36 : decode cX12_bound 36 = .ok (.iload_n 1, 1) := by decide +kernel
theorem dX12_bound_37 : decode cX12_bound 37 = .ok (.iconst 1, 1) := by decide +kernel
theorem dX12_bound_38 : decode cX12_bound 38 = .ok (.isub, 1) := by decide +kernel
theorem dX12_bound_39 : decode cX12_bound 39 = .ok (.invokevirtual 237, 3) := by decide +kernel
theorem dX12_bound_42 : decode cX12_bound 42 = .ok (.ireturn, 1) := by decide +kernel
theorem dX12_bound_43 : decode cX12_bound 43 = .ok (.aload_n 0, 1) := by decide +kernel
theorem dX12_bound_44 : decode cX12_bound 44 = .ok (.invokevirtual 233, 3) := by decide +kernel
theorem dX12_bound_47 : decode cX12_bound 47 = .ok (.istore_n 2, 1) := by decide +kernel
theorem dX12_bound_48 : decode cX12_bound 48 = .ok (.iconst 0, 1) := by decide +kernel
theorem dX12_bound_49 : decode cX12_bound 49 = .ok (.istore_n 3, 1) := by decide +kernel
theorem dX12_bound_50 : decode cX12_bound 50 = .ok (.iload_n 3, 1) := by decide +kernel
theorem dX12_bound_51 : decode cX12_bound 51 = .ok (.iconst 4, 1) := by decide +kernel
theorem dX12_bound_52 : decode cX12_bound 52 = .ok (.if_icmp .ge 28, 3) := by decide +kernel
theorem dX12_bound_55 : decode cX12_bound 55 = .ok (.aload_n 0, 1) := by decide +kernel
theorem dX12_bound_56 : decode cX12_bound 56 = .ok (.iload_n 3, 1) := by decide +kernel
theorem dX12_bound_57 : decode cX12_bound 57 = .ok (.invokevirtual 237, 3) := by decide +kernel
theorem dX12_bound_60 : decode cX12_bound 60 = .ok (.iload_n 2, 1) := by decide +kernel
theorem dX12_bound_61 : decode cX12_bound 61 = .ok (.if_icmp .le 11, 3) := by decide +kernel
theorem dX12_bound_64 : decode cX12_bound 64 = .ok (.aload_n 0, 1) := by decide +kernel
theorem dX12_bound_65 : decode cX12_bound 65 = .ok (.iload_n 3, 1) := by decide +kernel
theorem dX12_bound_66 : decode cX12_bound 66 = .ok (.invokevirtual 237, 3) := by decide +kernel
theorem dX12_bound_69 : decode cX12_bound 69 = .ok (.goto 4, 3) := by decide +kernel
theorem dX12_bound_72 : decode cX12_bound 72 = .ok (.iload_n 2, 1) := by decide +kernel
theorem dX12_bound_73 : decode cX12_bound 73 = .ok (.istore_n 2, 1) := by decide +kernel
theorem dX12_bound_74 : decode cX12_bound 74 = .ok (.iinc 3 1, 3) := by decide +kernel
theorem dX12_bound_77 : decode cX12_bound 77 = .ok (.goto (-27), 3) := by decide +kernel
theorem dX12_bound_80 : decode cX12_bound 80 = .ok (.iload_n 2, 1) := by decide +kernel
theorem dX12_bound_81 : decode cX12_bound 81 = .ok (.ireturn, 1) := by decide +kernel
theorem dX12_registers_0 : decode cX12_registers 0 = .ok (.aload_n 0, 1) := by decide +kernel
theorem dX12_registers_1 : decode cX12_registers 1 = .ok (.iconst 0, 1) := by decide +kernel
theorem dX12_registers_2 : decode cX12_registers 2 = .ok (.putfield 99, 3) := by decide +kernel
theorem dX12_registers_5 : decode cX12_registers 5 = .ok (.aload_n 0, 1) := by decide +kernel
theorem dX12_registers_6 : decode cX12_registers 6 = .ok (.getfield 106, 3) := by decide +kernel
theorem dX12_registers_9 : decode cX12_registers 9 = .ok (.ifCond .eq 10, 3) := by decide +kernel
theorem dX12_registers_12 : decode cX12_registers 12 = .ok (.aload_n 0, 1) := by decide +kernel
theorem dX12_registers_13 : decode cX12_registers 13 = .ok (.getfield 207, 3) := by decide +kernel
theorem dX12_registers_16 : decode cX12_registers 16 = .ok (.goto 5, 3) := by decide +kernel
theorem dX12_registers_19 : decode cX12_registers 19 = .ok (.bipush (-3), 2) := by decide +kernel
theorem dX12_registers_21 : decode cX12_registers 21 = .ok (.ireturn, 1) := by decide +kernel
theorem dX12_source_0 : decode cX12_source 0 = .ok (.aload_n 0, 1) := by decide +kernel
theorem dX12_source_1 : decode cX12_source 1 = .ok (.getfield 16, 3) := by decide +kernel
theorem dX12_source_4 : decode cX12_source 4 = .ok (.iconst 3, 1) := by decide +kernel
theorem dX12_source_5 : decode cX12_source 5 = .ok (.iload_n 1, 1) := by decide +kernel
theorem dX12_source_6 : decode cX12_source 6 = .ok (.imul, 1) := by decide +kernel
theorem dX12_source_7 : decode cX12_source 7 = .ok (.iload_n 2, 1) := by decide +kernel
theorem dX12_source_8 : decode cX12_source 8 = .ok (.iadd, 1) := by decide +kernel
theorem dX12_source_9 : decode cX12_source 9 = .ok (.iaload, 1) := by decide +kernel
theorem dX12_source_10 : decode cX12_source 10 = .ok (.istore_n 3, 1) := by decide +kernel
theorem dX12_source_11 : decode cX12_source 11 = .ok (.iload_n 3, 1) := by decide +kernel
theorem dX12_source_12 : decode cX12_source 12 = .ok (.ifCond .ge 7, 3) := by decide +kernel
theorem dX12_source_15 : decode cX12_source 15 = .ok (.iconst (-1), 1) := by decide +kernel
theorem dX12_source_16 : decode cX12_source 16 = .ok (.goto 25, 3) := by decide +kernel
theorem dX12_source_19 : decode cX12_source 19 = .ok (.aload_n 0, 1) := by decide +kernel
theorem dX12_source_20 : decode cX12_source 20 = .ok (.getfield 7, 3) := by decide +kernel
theorem dX12_source_23 : decode cX12_source 23 = .ok (.iload_n 3, 1) := by decide +kernel
theorem dX12_source_24 : decode cX12_source 24 = .ok (.iaload, 1) := by decide +kernel
theorem dX12_source_25 : decode cX12_source 25 = .ok (.ifCond .ne 10, 3) := by decide +kernel
theorem dX12_source_28 : decode cX12_source 28 = .ok (.bipush 100, 2) := by decide +kernel
theorem dX12_source_30 : decode cX12_source 30 = .ok (.iload_n 3, 1) := by decide +kernel
theorem dX12_source_31 : decode cX12_source 31 = .ok (.iadd, 1) := by decide +kernel
theorem dX12_source_32 : decode cX12_source 32 = .ok (.goto 9, 3) := by decide +kernel
theorem dX12_source_35 : decode cX12_source 35 = .ok (.aload_n 0, 1) := by decide +kernel
theorem dX12_source_36 : decode cX12_source 36 = .ok (.getfield 51, 3) := by decide +kernel
theorem dX12_source_39 : decode cX12_source 39 = .ok (.iload_n 3, 1) := by decide +kernel
theorem dX12_source_40 : decode cX12_source 40 = .ok (.iaload, 1) := by decide +kernel
theorem dX12_source_41 : decode cX12_source 41 = .ok (.ireturn, 1) := by decide +kernel
theorem dX12_chooser_0 : decode cX12_chooser 0 = .ok (.aload_n 0, 1) := by decide +kernel
theorem dX12_chooser_1 : decode cX12_chooser 1 = .ok (.iconst 0, 1) := by decide +kernel
theorem dX12_chooser_2 : decode cX12_chooser 2 = .ok (.putfield 99, 3) := by decide +kernel
theorem dX12_chooser_5 : decode cX12_chooser 5 = .ok (.iload_n 1, 1) := by decide +kernel
theorem dX12_chooser_6 : decode cX12_chooser 6 = .ok (.i2l, 1) := by decide +kernel
theorem dX12_chooser_7 : decode cX12_chooser 7 = .ok (.lconst 0, 1) := by decide +kernel
theorem dX12_chooser_8 : decode cX12_chooser 8 = .ok (.ldc2_w 130, 3) := by decide +kernel
theorem dX12_chooser_11 : decode cX12_chooser 11 = .ok (.invokestatic 118, 3) := by decide +kernel
theorem dX12_chooser_14 : decode cX12_chooser 14 = .ok (.ifCond .eq 17, 3) := by decide +kernel
theorem dX12_chooser_17 : decode cX12_chooser 17 = .ok (.iload_n 2, 1) := by decide +kernel
theorem dX12_chooser_18 : decode cX12_chooser 18 = .ok (.ifCond .lt 13, 3) := by decide +kernel
theorem dX12_chooser_21 : decode cX12_chooser 21 = .ok (.iload_n 2, 1) := by decide +kernel
theorem dX12_chooser_22 : decode cX12_chooser 22 = .ok (.aload_n 0, 1) := by decide +kernel
theorem dX12_chooser_23 : decode cX12_chooser 23 = .ok (.getfield 26, 3) := by decide +kernel
theorem dX12_chooser_26 : decode cX12_chooser 26 = .ok (.iload_n 1, 1) := by decide +kernel
theorem dX12_chooser_27 : decode cX12_chooser 27 = .ok (.iaload, 1) := by decide +kernel
theorem dX12_chooser_28 : decode cX12_chooser 28 = .ok (.if_icmp .lt 5, 3) := by decide +kernel
theorem dX12_chooser_31 : decode cX12_chooser 31 = .ok (.iconst (-1), 1) := by decide +kernel
theorem dX12_chooser_32 : decode cX12_chooser 32 = .ok (.ireturn, 1) := by decide +kernel
theorem dX12_chooser_33 : decode cX12_chooser 33 = .ok (.aload_n 0, 1) := by decide +kernel
theorem dX12_chooser_34 : decode cX12_chooser 34 = .ok (.getfield 106, 3) := by decide +kernel
theorem dX12_chooser_37 : decode cX12_chooser 37 = .ok (.ifCond .ne 6, 3) := by decide +kernel
theorem dX12_chooser_40 : decode cX12_chooser 40 = .ok (.bipush (-3), 2) := by decide +kernel
theorem dX12_chooser_42 : decode cX12_chooser 42 = .ok (.ireturn, 1) := by decide +kernel
theorem dX12_chooser_43 : decode cX12_chooser 43 = .ok (.iload_n 3, 1) := by decide +kernel
theorem dX12_chooser_44 : decode cX12_chooser 44 = .ok (.ifCond .eq 7, 3) := by decide +kernel
theorem dX12_chooser_47 : decode cX12_chooser 47 = .ok (.iconst 1, 1) := by decide +kernel
theorem dX12_chooser_48 : decode cX12_chooser 48 = .ok (.goto 4, 3) := by decide +kernel
theorem dX12_chooser_51 : decode cX12_chooser 51 = .ok (.iconst 0, 1) := by decide +kernel
theorem dX12_chooser_52 : decode cX12_chooser 52 = .ok (.istore 4, 2) := by decide +kernel
theorem dX12_chooser_54 : decode cX12_chooser 54 = .ok (.iconst 0, 1) := by decide +kernel
theorem dX12_chooser_55 : decode cX12_chooser 55 = .ok (.istore 5, 2) := by decide +kernel
theorem dX12_chooser_57 : decode cX12_chooser 57 = .ok (.iconst 0, 1) := by decide +kernel
theorem dX12_chooser_58 : decode cX12_chooser 58 = .ok (.istore 6, 2) := by decide +kernel
theorem dX12_chooser_60 : decode cX12_chooser 60 = .ok (.iload 6, 2) := by decide +kernel
theorem dX12_chooser_62 : decode cX12_chooser 62 = .ok (.aload_n 0, 1) := by decide +kernel
theorem dX12_chooser_63 : decode cX12_chooser 63 = .ok (.getfield 103, 3) := by decide +kernel
theorem dX12_chooser_66 : decode cX12_chooser 66 = .ok (.if_icmp .ge 133, 3) := by decide +kernel
theorem dX12_chooser_69 : decode cX12_chooser 69 = .ok (.aload_n 0, 1) := by decide +kernel
theorem dX12_chooser_70 : decode cX12_chooser 70 = .ok (.iload 6, 2) := by decide +kernel
theorem dX12_chooser_72 : decode cX12_chooser 72 = .ok (.invokevirtual 146, 3) := by decide +kernel
theorem dX12_chooser_75 : decode cX12_chooser 75 = .ok (.iload_n 1, 1) := by decide +kernel
theorem dX12_chooser_76 : decode cX12_chooser 76 = .ok (.if_icmp .ne 25, 3) := by decide +kernel
theorem dX12_chooser_79 : decode cX12_chooser 79 = .ok (.aload_n 0, 1) := by decide +kernel
theorem dX12_chooser_80 : decode cX12_chooser 80 = .ok (.getfield 48, 3) := by decide +kernel
theorem dX12_chooser_83 : decode cX12_chooser 83 = .ok (.iload 6, 2) := by decide +kernel
theorem dX12_chooser_85 : decode cX12_chooser 85 = .ok (.iaload, 1) := by decide +kernel
theorem dX12_chooser_86 : decode cX12_chooser 86 = .ok (.iload_n 2, 1) := by decide +kernel
theorem dX12_chooser_87 : decode cX12_chooser 87 = .ok (.if_icmp .ne 14, 3) := by decide +kernel
theorem dX12_chooser_90 : decode cX12_chooser 90 = .ok (.aload_n 0, 1) := by decide +kernel
theorem dX12_chooser_91 : decode cX12_chooser 91 = .ok (.iload 6, 2) := by decide +kernel
theorem dX12_chooser_93 : decode cX12_chooser 93 = .ok (.iload 4, 2) := by decide +kernel
theorem dX12_chooser_95 : decode cX12_chooser 95 = .ok (.invokevirtual 240, 3) := by decide +kernel
theorem dX12_chooser_98 : decode cX12_chooser 98 = .ok (.goto 4, 3) := by decide +kernel
theorem dX12_chooser_101 : decode cX12_chooser 101 = .ok (.iconst (-1), 1) := by decide +kernel
theorem dX12_chooser_102 : decode cX12_chooser 102 = .ok (.istore 7, 2) := by decide +kernel
theorem dX12_chooser_104 : decode cX12_chooser 104 = .ok (.iload 7, 2) := by decide +kernel
theorem dX12_chooser_106 : decode cX12_chooser 106 = .ok (.ifCond .ge 7, 3) := by decide +kernel
theorem dX12_chooser_109 : decode cX12_chooser 109 = .ok (.iconst 1, 1) := by decide +kernel
theorem dX12_chooser_110 : decode cX12_chooser 110 = .ok (.goto 4, 3) := by decide +kernel
theorem dX12_chooser_113 : decode cX12_chooser 113 = .ok (.iconst 0, 1) := by decide +kernel
theorem dX12_chooser_114 : decode cX12_chooser 114 = .ok (.istore 8, 2) := by decide +kernel
theorem dX12_chooser_116 : decode cX12_chooser 116 = .ok (.iconst 0, 1) := by decide +kernel
theorem dX12_chooser_117 : decode cX12_chooser 117 = .ok (.istore 9, 2) := by decide +kernel
theorem dX12_chooser_119 : decode cX12_chooser 119 = .ok (.iload 9, 2) := by decide +kernel
theorem dX12_chooser_121 : decode cX12_chooser 121 = .ok (.iload 6, 2) := by decide +kernel
theorem dX12_chooser_123 : decode cX12_chooser 123 = .ok (.if_icmp .ge 55, 3) := by decide +kernel
theorem dX12_chooser_126 : decode cX12_chooser 126 = .ok (.iload 8, 2) := by decide +kernel
theorem dX12_chooser_128 : decode cX12_chooser 128 = .ok (.ifCond .ne 37, 3) := by decide +kernel
theorem dX12_chooser_131 : decode cX12_chooser 131 = .ok (.aload_n 0, 1) := by decide +kernel
theorem dX12_chooser_132 : decode cX12_chooser 132 = .ok (.iload 9, 2) := by decide +kernel
theorem dX12_chooser_134 : decode cX12_chooser 134 = .ok (.invokevirtual 146, 3) := by decide +kernel
theorem dX12_chooser_137 : decode cX12_chooser 137 = .ok (.iload_n 1, 1) := by decide +kernel
theorem dX12_chooser_138 : decode cX12_chooser 138 = .ok (.if_icmp .ne 31, 3) := by decide +kernel
theorem dX12_chooser_141 : decode cX12_chooser 141 = .ok (.aload_n 0, 1) := by decide +kernel
theorem dX12_chooser_142 : decode cX12_chooser 142 = .ok (.getfield 48, 3) := by decide +kernel
theorem dX12_chooser_145 : decode cX12_chooser 145 = .ok (.iload 9, 2) := by decide +kernel
theorem dX12_chooser_147 : decode cX12_chooser 147 = .ok (.iaload, 1) := by decide +kernel
theorem dX12_chooser_148 : decode cX12_chooser 148 = .ok (.iload_n 2, 1) := by decide +kernel
theorem dX12_chooser_149 : decode cX12_chooser 149 = .ok (.if_icmp .ne 20, 3) := by decide +kernel
theorem dX12_chooser_152 : decode cX12_chooser 152 = .ok (.aload_n 0, 1) := by decide +kernel
theorem dX12_chooser_153 : decode cX12_chooser 153 = .ok (.iload 9, 2) := by decide +kernel
theorem dX12_chooser_155 : decode cX12_chooser 155 = .ok (.iload 4, 2) := by decide +kernel
theorem dX12_chooser_157 : decode cX12_chooser 157 = .ok (.invokevirtual 240, 3) := by decide +kernel
theorem dX12_chooser_160 : decode cX12_chooser 160 = .ok (.iload 7, 2) := by decide +kernel
theorem dX12_chooser_162 : decode cX12_chooser 162 = .ok (.if_icmp .ne 7, 3) := by decide +kernel
theorem dX12_chooser_165 : decode cX12_chooser 165 = .ok (.iconst 1, 1) := by decide +kernel
theorem dX12_chooser_166 : decode cX12_chooser 166 = .ok (.goto 4, 3) := by decide +kernel
theorem dX12_chooser_169 : decode cX12_chooser 169 = .ok (.iconst 0, 1) := by decide +kernel
theorem dX12_chooser_170 : decode cX12_chooser 170 = .ok (.istore 8, 2) := by decide +kernel
theorem dX12_chooser_172 : decode cX12_chooser 172 = .ok (.iinc 9 1, 3) := by decide +kernel
theorem dX12_chooser_175 : decode cX12_chooser 175 = .ok (.goto (-56), 3) := by decide +kernel
theorem dX12_chooser_178 : decode cX12_chooser 178 = .ok (.iload 5, 2) := by decide +kernel
theorem dX12_chooser_180 : decode cX12_chooser 180 = .ok (.iload 8, 2) := by decide +kernel
theorem dX12_chooser_182 : decode cX12_chooser 182 = .ok (.ifCond .eq 7, 3) := by decide +kernel
theorem dX12_chooser_185 : decode cX12_chooser 185 = .ok (.iconst 0, 1) := by decide +kernel
theorem dX12_chooser_186 : decode cX12_chooser 186 = .ok (.goto 4, 3) := by decide +kernel
theorem dX12_chooser_189 : decode cX12_chooser 189 = .ok (.iconst 1, 1) := by decide +kernel
theorem dX12_chooser_190 : decode cX12_chooser 190 = .ok (.iadd, 1) := by decide +kernel
theorem dX12_chooser_191 : decode cX12_chooser 191 = .ok (.istore 5, 2) := by decide +kernel
theorem dX12_chooser_193 : decode cX12_chooser 193 = .ok (.iinc 6 1, 3) := by decide +kernel
theorem dX12_chooser_196 : decode cX12_chooser 196 = .ok (.goto (-136), 3) := by decide +kernel
theorem dX12_chooser_199 : decode cX12_chooser 199 = .ok (.iload 5, 2) := by decide +kernel
theorem dX12_chooser_201 : decode cX12_chooser 201 = .ok (.ireturn, 1) := by decide +kernel
theorem dX12_at_0 : decode cX12_at 0 = .ok (.aload_n 0, 1) := by decide +kernel
theorem dX12_at_1 : decode cX12_at 1 = .ok (.iconst 0, 1) := by decide +kernel
theorem dX12_at_2 : decode cX12_at 2 = .ok (.putfield 99, 3) := by decide +kernel
theorem dX12_at_5 : decode cX12_at 5 = .ok (.iload_n 1, 1) := by decide +kernel
theorem dX12_at_6 : decode cX12_at 6 = .ok (.ifCond .lt 7, 3) := by decide +kernel
theorem dX12_at_9 : decode cX12_at 9 = .ok (.iload_n 2, 1) := by decide +kernel
theorem dX12_at_10 : decode cX12_at 10 = .ok (.ifCond .ge 5, 3) := by decide +kernel
theorem dX12_at_13 : decode cX12_at 13 = .ok (.iconst (-1), 1) := by decide +kernel
theorem dX12_at_14 : decode cX12_at 14 = .ok (.ireturn, 1) := by decide +kernel
theorem dX12_at_15 : decode cX12_at 15 = .ok (.aload_n 0, 1) := by decide +kernel
theorem dX12_at_16 : decode cX12_at 16 = .ok (.getfield 106, 3) := by decide +kernel
theorem dX12_at_19 : decode cX12_at 19 = .ok (.ifCond .ne 6, 3) := by decide +kernel
theorem dX12_at_22 : decode cX12_at 22 = .ok (.bipush (-3), 2) := by decide +kernel
theorem dX12_at_24 : decode cX12_at 24 = .ok (.ireturn, 1) := by decide +kernel
theorem dX12_at_25 : decode cX12_at 25 = .ok (.iconst 0, 1) := by decide +kernel
theorem dX12_at_26 : decode cX12_at 26 = .ok (.istore_n 3, 1) := by decide +kernel
theorem dX12_at_27 : decode cX12_at 27 = .ok (.iconst 0, 1) := by decide +kernel
theorem dX12_at_28 : decode cX12_at 28 = .ok (.istore 4, 2) := by decide +kernel
theorem dX12_at_30 : decode cX12_at 30 = .ok (.iload 4, 2) := by decide +kernel
theorem dX12_at_32 : decode cX12_at 32 = .ok (.aload_n 0, 1) := by decide +kernel
theorem dX12_at_33 : decode cX12_at 33 = .ok (.getfield 103, 3) := by decide +kernel
theorem dX12_at_36 : decode cX12_at 36 = .ok (.if_icmp .ge 31, 3) := by decide +kernel
theorem dX12_at_39 : decode cX12_at 39 = .ok (.aload_n 0, 1) := by decide +kernel
theorem dX12_at_40 : decode cX12_at 40 = .ok (.getfield 45, 3) := by decide +kernel
theorem dX12_at_43 : decode cX12_at 43 = .ok (.iload 4, 2) := by decide +kernel
theorem dX12_at_45 : decode cX12_at 45 = .ok (.iaload, 1) := by decide +kernel
theorem dX12_at_46 : decode cX12_at 46 = .ok (.iload_n 1, 1) := by decide +kernel
theorem dX12_at_47 : decode cX12_at 47 = .ok (.if_icmp .ne 14, 3) := by decide +kernel
theorem dX12_at_50 : decode cX12_at 50 = .ok (.iload_n 3, 1) := by decide +kernel
theorem dX12_at_51 : decode cX12_at 51 = .ok (.iload_n 2, 1) := by decide +kernel
theorem dX12_at_52 : decode cX12_at 52 = .ok (.if_icmp .ne 6, 3) := by decide +kernel
theorem dX12_at_55 : decode cX12_at 55 = .ok (.iload 4, 2) := by decide +kernel
theorem dX12_at_57 : decode cX12_at 57 = .ok (.ireturn, 1) := by decide +kernel
theorem dX12_at_58 : decode cX12_at 58 = .ok (.iinc 3 1, 3) := by decide +kernel
theorem dX12_at_61 : decode cX12_at 61 = .ok (.iinc 4 1, 3) := by decide +kernel
theorem dX12_at_64 : decode cX12_at 64 = .ok (.goto (-34), 3) := by decide +kernel
theorem dX12_at_67 : decode cX12_at 67 = .ok (.bipush (-2), 2) := by decide +kernel
theorem dX12_at_69 : decode cX12_at 69 = .ok (.ireturn, 1) := by decide +kernel
theorem dX12_numberAt_0 : decode cX12_numberAt 0 = .ok (.aload_n 0, 1) := by decide +kernel
theorem dX12_numberAt_1 : decode cX12_numberAt 1 = .ok (.getfield 75, 3) := by decide +kernel
theorem dX12_numberAt_4 : decode cX12_numberAt 4 = .ok (.aload_n 0, 1) := by decide +kernel
theorem dX12_numberAt_5 : decode cX12_numberAt 5 = .ok (.getfield 16, 3) := by decide +kernel
theorem dX12_numberAt_8 : decode cX12_numberAt 8 = .ok (.iconst 3, 1) := by decide +kernel
theorem dX12_numberAt_9 : decode cX12_numberAt 9 = .ok (.iload_n 1, 1) := by decide +kernel
theorem dX12_numberAt_10 : decode cX12_numberAt 10 = .ok (.imul, 1) := by decide +kernel
theorem dX12_numberAt_11 : decode cX12_numberAt 11 = .ok (.iload_n 2, 1) := by decide +kernel
theorem dX12_numberAt_12 : decode cX12_numberAt 12 = .ok (.iadd, 1) := by decide +kernel
theorem dX12_numberAt_13 : decode cX12_numberAt 13 = .ok (.iaload, 1) := by decide +kernel
theorem dX12_numberAt_14 : decode cX12_numberAt 14 = .ok (.laload, 1) := by decide +kernel
theorem dX12_numberAt_15 : decode cX12_numberAt 15 = .ok (.lreturn, 1) := by decide +kernel
theorem dX12_why_0 : decode cX12_why 0 = .ok (.aload_n 0, 1) := by decide +kernel
theorem dX12_why_1 : decode cX12_why 1 = .ok (.getfield 7, 3) := by decide +kernel
theorem dX12_why_4 : decode cX12_why 4 = .ok (.iload_n 1, 1) := by decide +kernel
theorem dX12_why_5 : decode cX12_why 5 = .ok (.iaload, 1) := by decide +kernel
theorem dX12_why_6 : decode cX12_why 6 = .ok (.tableswitch 120 1 9 #[50, 120, 120, 120, 81, 120, 120, 98, 98], 50) := by decide +kernel
theorem dX12_why_56 : decode cX12_why 56 = .ok (.aload_n 0, 1) := by decide +kernel
theorem dX12_why_57 : decode cX12_why 57 = .ok (.getfield 78, 3) := by decide +kernel
theorem dX12_why_60 : decode cX12_why 60 = .ok (.aload_n 0, 1) := by decide +kernel
theorem dX12_why_61 : decode cX12_why 61 = .ok (.getfield 19, 3) := by decide +kernel
theorem dX12_why_64 : decode cX12_why 64 = .ok (.iload_n 1, 1) := by decide +kernel
theorem dX12_why_65 : decode cX12_why 65 = .ok (.iaload, 1) := by decide +kernel
theorem dX12_why_66 : decode cX12_why 66 = .ok (.iaload, 1) := by decide +kernel
theorem dX12_why_67 : decode cX12_why 67 = .ok (.aload_n 0, 1) := by decide +kernel
theorem dX12_why_68 : decode cX12_why 68 = .ok (.getfield 36, 3) := by decide +kernel
theorem dX12_why_71 : decode cX12_why 71 = .ok (.aload_n 0, 1) := by decide +kernel
theorem dX12_why_72 : decode cX12_why 72 = .ok (.getfield 19, 3) := by decide +kernel
theorem dX12_why_75 : decode cX12_why 75 = .ok (.iload_n 1, 1) := by decide +kernel
theorem dX12_why_76 : decode cX12_why 76 = .ok (.iaload, 1) := by decide +kernel
theorem dX12_why_77 : decode cX12_why 77 = .ok (.iaload, 1) := by decide +kernel
theorem dX12_why_78 : decode cX12_why 78 = .ok (.if_icmp .ne 7, 3) := by decide +kernel
theorem dX12_why_81 : decode cX12_why 81 = .ok (.iconst 3, 1) := by decide +kernel
theorem dX12_why_82 : decode cX12_why 82 = .ok (.goto 4, 3) := by decide +kernel
theorem dX12_why_85 : decode cX12_why 85 = .ok (.iconst 0, 1) := by decide +kernel
theorem dX12_why_86 : decode cX12_why 86 = .ok (.ireturn, 1) := by decide +kernel
theorem dX12_why_87 : decode cX12_why 87 = .ok (.aload_n 0, 1) := by decide +kernel
theorem dX12_why_88 : decode cX12_why 88 = .ok (.iload_n 1, 1) := by decide +kernel
theorem dX12_why_89 : decode cX12_why 89 = .ok (.iconst 1, 1) := by decide +kernel
theorem dX12_why_90 : decode cX12_why 90 = .ok (.invokevirtual 243, 3) := by decide +kernel
theorem dX12_why_93 : decode cX12_why 93 = .ok (.lconst 0, 1) := by decide +kernel
theorem dX12_why_94 : decode cX12_why 94 = .ok (.lcmp, 1) := by decide +kernel
theorem dX12_why_95 : decode cX12_why 95 = .ok (.ifCond .ne 7, 3) := by decide +kernel
theorem dX12_why_98 : decode cX12_why 98 = .ok (.iconst 1, 1) := by decide +kernel
theorem dX12_why_99 : decode cX12_why 99 = .ok (.goto 4, 3) := by decide +kernel
theorem dX12_why_102 : decode cX12_why 102 = .ok (.iconst 0, 1) := by decide +kernel
theorem dX12_why_103 : decode cX12_why 103 = .ok (.ireturn, 1) := by decide +kernel
theorem dX12_why_104 : decode cX12_why 104 = .ok (.aload_n 0, 1) := by decide +kernel
theorem dX12_why_105 : decode cX12_why 105 = .ok (.iload_n 1, 1) := by decide +kernel
theorem dX12_why_106 : decode cX12_why 106 = .ok (.iconst 0, 1) := by decide +kernel
theorem dX12_why_107 : decode cX12_why 107 = .ok (.invokevirtual 243, 3) := by decide +kernel
theorem dX12_why_110 : decode cX12_why 110 = .ok (.lconst 0, 1) := by decide +kernel
theorem dX12_why_111 : decode cX12_why 111 = .ok (.ldc2_w 144, 3) := by decide +kernel
theorem dX12_why_114 : decode cX12_why 114 = .ok (.invokestatic 118, 3) := by decide +kernel
theorem dX12_why_117 : decode cX12_why 117 = .ok (.ifCond .eq 7, 3) := by decide +kernel
theorem dX12_why_120 : decode cX12_why 120 = .ok (.iconst 0, 1) := by decide +kernel
theorem dX12_why_121 : decode cX12_why 121 = .ok (.goto 4, 3) := by decide +kernel
theorem dX12_why_124 : decode cX12_why 124 = .ok (.iconst 2, 1) := by decide +kernel
theorem dX12_why_125 : decode cX12_why 125 = .ok (.ireturn, 1) := by decide +kernel
theorem dX12_why_126 : decode cX12_why 126 = .ok (.iconst 0, 1) := by decide +kernel
theorem dX12_why_127 : decode cX12_why 127 = .ok (.ireturn, 1) := by decide +kernel
theorem dX12_given_0 : decode cX12_given 0 = .ok (.aload_n 0, 1) := by decide +kernel
theorem dX12_given_1 : decode cX12_given 1 = .ok (.getfield 7, 3) := by decide +kernel
theorem dX12_given_4 : decode cX12_given 4 = .ok (.iload_n 1, 1) := by decide +kernel
theorem dX12_given_5 : decode cX12_given 5 = .ok (.iaload, 1) := by decide +kernel
theorem dX12_given_6 : decode cX12_given 6 = .ok (.tableswitch 213 0 9 #[54, 61, 88, 102, 116, 130, 144, 166, 193, 206], 54) := by decide +kernel
theorem dX12_given_60 : decode cX12_given 60 = .ok (.aload_n 0, 1) := by decide +kernel
theorem dX12_given_61 : decode cX12_given 61 = .ok (.getfield 22, 3) := by decide +kernel
theorem dX12_given_64 : decode cX12_given 64 = .ok (.iload_n 1, 1) := by decide +kernel
theorem dX12_given_65 : decode cX12_given 65 = .ok (.laload, 1) := by decide +kernel
theorem dX12_given_66 : decode cX12_given 66 = .ok (.lreturn, 1) := by decide +kernel
theorem dX12_given_67 : decode cX12_given 67 = .ok (.aload_n 0, 1) := by decide +kernel
theorem dX12_given_68 : decode cX12_given 68 = .ok (.getfield 39, 3) := by decide +kernel
theorem dX12_given_71 : decode cX12_given 71 = .ok (.bipush 20, 2) := by decide +kernel
theorem dX12_given_73 : decode cX12_given 73 = .ok (.aload_n 0, 1) := by decide +kernel
theorem dX12_given_74 : decode cX12_given 74 = .ok (.getfield 19, 3) := by decide +kernel
theorem dX12_given_77 : decode cX12_given 77 = .ok (.iload_n 1, 1) := by decide +kernel
theorem dX12_given_78 : decode cX12_given 78 = .ok (.iaload, 1) := by decide +kernel
theorem dX12_given_79 : decode cX12_given 79 = .ok (.imul, 1) := by decide +kernel
theorem dX12_given_80 : decode cX12_given 80 = .ok (.aload_n 0, 1) := by decide +kernel
theorem dX12_given_81 : decode cX12_given 81 = .ok (.getfield 78, 3) := by decide +kernel
theorem dX12_given_84 : decode cX12_given 84 = .ok (.aload_n 0, 1) := by decide +kernel
theorem dX12_given_85 : decode cX12_given 85 = .ok (.getfield 19, 3) := by decide +kernel
theorem dX12_given_88 : decode cX12_given 88 = .ok (.iload_n 1, 1) := by decide +kernel
theorem dX12_given_89 : decode cX12_given 89 = .ok (.iaload, 1) := by decide +kernel
theorem dX12_given_90 : decode cX12_given 90 = .ok (.iaload, 1) := by decide +kernel
theorem dX12_given_91 : decode cX12_given 91 = .ok (.iadd, 1) := by decide +kernel
theorem dX12_given_92 : decode cX12_given 92 = .ok (.laload, 1) := by decide +kernel
theorem dX12_given_93 : decode cX12_given 93 = .ok (.lreturn, 1) := by decide +kernel
theorem dX12_given_94 : decode cX12_given 94 = .ok (.aload_n 0, 1) := by decide +kernel
theorem dX12_given_95 : decode cX12_given 95 = .ok (.iload_n 1, 1) := by decide +kernel
theorem dX12_given_96 : decode cX12_given 96 = .ok (.iconst 0, 1) := by decide +kernel
theorem dX12_given_97 : decode cX12_given 97 = .ok (.invokevirtual 243, 3) := by decide +kernel
theorem dX12_given_100 : decode cX12_given 100 = .ok (.aload_n 0, 1) := by decide +kernel
theorem dX12_given_101 : decode cX12_given 101 = .ok (.iload_n 1, 1) := by decide +kernel
theorem dX12_given_102 : decode cX12_given 102 = .ok (.iconst 1, 1) := by decide +kernel
theorem dX12_given_103 : decode cX12_given 103 = .ok (.invokevirtual 243, 3) := by decide +kernel
theorem dX12_given_106 : decode cX12_given 106 = .ok (.ladd, 1) := by decide +kernel
theorem dX12_given_107 : decode cX12_given 107 = .ok (.lreturn, 1) := by decide +kernel
theorem dX12_given_108 : decode cX12_given 108 = .ok (.aload_n 0, 1) := by decide +kernel
theorem dX12_given_109 : decode cX12_given 109 = .ok (.iload_n 1, 1) := by decide +kernel
theorem dX12_given_110 : decode cX12_given 110 = .ok (.iconst 0, 1) := by decide +kernel
theorem dX12_given_111 : decode cX12_given 111 = .ok (.invokevirtual 243, 3) := by decide +kernel
theorem dX12_given_114 : decode cX12_given 114 = .ok (.aload_n 0, 1) := by decide +kernel
theorem dX12_given_115 : decode cX12_given 115 = .ok (.iload_n 1, 1) := by decide +kernel
theorem dX12_given_116 : decode cX12_given 116 = .ok (.iconst 1, 1) := by decide +kernel
theorem dX12_given_117 : decode cX12_given 117 = .ok (.invokevirtual 243, 3) := by decide +kernel
theorem dX12_given_120 : decode cX12_given 120 = .ok (.lsub, 1) := by decide +kernel
theorem dX12_given_121 : decode cX12_given 121 = .ok (.lreturn, 1) := by decide +kernel
theorem dX12_given_122 : decode cX12_given 122 = .ok (.aload_n 0, 1) := by decide +kernel
theorem dX12_given_123 : decode cX12_given 123 = .ok (.iload_n 1, 1) := by decide +kernel
theorem dX12_given_124 : decode cX12_given 124 = .ok (.iconst 0, 1) := by decide +kernel
theorem dX12_given_125 : decode cX12_given 125 = .ok (.invokevirtual 243, 3) := by decide +kernel
theorem dX12_given_128 : decode cX12_given 128 = .ok (.aload_n 0, 1) := by decide +kernel
theorem dX12_given_129 : decode cX12_given 129 = .ok (.iload_n 1, 1) := by decide +kernel
theorem dX12_given_130 : decode cX12_given 130 = .ok (.iconst 1, 1) := by decide +kernel
theorem dX12_given_131 : decode cX12_given 131 = .ok (.invokevirtual 243, 3) := by decide +kernel
theorem dX12_given_134 : decode cX12_given 134 = .ok (.lmul, 1) := by decide +kernel
theorem dX12_given_135 : decode cX12_given 135 = .ok (.lreturn, 1) := by decide +kernel
theorem dX12_given_136 : decode cX12_given 136 = .ok (.aload_n 0, 1) := by decide +kernel
theorem dX12_given_137 : decode cX12_given 137 = .ok (.iload_n 1, 1) := by decide +kernel
theorem dX12_given_138 : decode cX12_given 138 = .ok (.iconst 0, 1) := by decide +kernel
theorem dX12_given_139 : decode cX12_given 139 = .ok (.invokevirtual 243, 3) := by decide +kernel
theorem dX12_given_142 : decode cX12_given 142 = .ok (.aload_n 0, 1) := by decide +kernel
theorem dX12_given_143 : decode cX12_given 143 = .ok (.iload_n 1, 1) := by decide +kernel
theorem dX12_given_144 : decode cX12_given 144 = .ok (.iconst 1, 1) := by decide +kernel
theorem dX12_given_145 : decode cX12_given 145 = .ok (.invokevirtual 243, 3) := by decide +kernel
theorem dX12_given_148 : decode cX12_given 148 = .ok (.ldiv, 1) := by decide +kernel
theorem dX12_given_149 : decode cX12_given 149 = .ok (.lreturn, 1) := by decide +kernel
theorem dX12_given_150 : decode cX12_given 150 = .ok (.aload_n 0, 1) := by decide +kernel
theorem dX12_given_151 : decode cX12_given 151 = .ok (.iload_n 1, 1) := by decide +kernel
theorem dX12_given_152 : decode cX12_given 152 = .ok (.iconst 0, 1) := by decide +kernel
theorem dX12_given_153 : decode cX12_given 153 = .ok (.invokevirtual 243, 3) := by decide +kernel
theorem dX12_given_156 : decode cX12_given 156 = .ok (.aload_n 0, 1) := by decide +kernel
theorem dX12_given_157 : decode cX12_given 157 = .ok (.iload_n 1, 1) := by decide +kernel
theorem dX12_given_158 : decode cX12_given 158 = .ok (.iconst 1, 1) := by decide +kernel
theorem dX12_given_159 : decode cX12_given 159 = .ok (.invokevirtual 243, 3) := by decide +kernel
theorem dX12_given_162 : decode cX12_given 162 = .ok (.lcmp, 1) := by decide +kernel
theorem dX12_given_163 : decode cX12_given 163 = .ok (.ifCond .ge 7, 3) := by decide +kernel
theorem dX12_given_166 : decode cX12_given 166 = .ok (.lconst 1, 1) := by decide +kernel
theorem dX12_given_167 : decode cX12_given 167 = .ok (.goto 4, 3) := by decide +kernel
theorem dX12_given_170 : decode cX12_given 170 = .ok (.lconst 0, 1) := by decide +kernel
theorem dX12_given_171 : decode cX12_given 171 = .ok (.lreturn, 1) := by decide +kernel
theorem dX12_given_172 : decode cX12_given 172 = .ok (.aload_n 0, 1) := by decide +kernel
theorem dX12_given_173 : decode cX12_given 173 = .ok (.iload_n 1, 1) := by decide +kernel
theorem dX12_given_174 : decode cX12_given 174 = .ok (.iconst 0, 1) := by decide +kernel
theorem dX12_given_175 : decode cX12_given 175 = .ok (.invokevirtual 243, 3) := by decide +kernel
theorem dX12_given_178 : decode cX12_given 178 = .ok (.lconst 0, 1) := by decide +kernel
theorem dX12_given_179 : decode cX12_given 179 = .ok (.lcmp, 1) := by decide +kernel
theorem dX12_given_180 : decode cX12_given 180 = .ok (.ifCond .eq 12, 3) := by decide +kernel
theorem dX12_given_183 : decode cX12_given 183 = .ok (.aload_n 0, 1) := by decide +kernel
theorem dX12_given_184 : decode cX12_given 184 = .ok (.iload_n 1, 1) := by decide +kernel
theorem dX12_given_185 : decode cX12_given 185 = .ok (.iconst 1, 1) := by decide +kernel
theorem dX12_given_186 : decode cX12_given 186 = .ok (.invokevirtual 243, 3) := by decide +kernel
theorem dX12_given_189 : decode cX12_given 189 = .ok (.goto 9, 3) := by decide +kernel
theorem dX12_given_192 : decode cX12_given 192 = .ok (.aload_n 0, 1) := by decide +kernel
theorem dX12_given_193 : decode cX12_given 193 = .ok (.iload_n 1, 1) := by decide +kernel
theorem dX12_given_194 : decode cX12_given 194 = .ok (.iconst 2, 1) := by decide +kernel
theorem dX12_given_195 : decode cX12_given 195 = .ok (.invokevirtual 243, 3) := by decide +kernel
theorem dX12_given_198 : decode cX12_given 198 = .ok (.lreturn, 1) := by decide +kernel
theorem dX12_given_199 : decode cX12_given 199 = .ok (.aload_n 0, 1) := by decide +kernel
theorem dX12_given_200 : decode cX12_given 200 = .ok (.getfield 60, 3) := by decide +kernel
theorem dX12_given_203 : decode cX12_given 203 = .ok (.aload_n 0, 1) := by decide +kernel
theorem dX12_given_204 : decode cX12_given 204 = .ok (.iload_n 1, 1) := by decide +kernel
theorem dX12_given_205 : decode cX12_given 205 = .ok (.iconst 0, 1) := by decide +kernel
theorem dX12_given_206 : decode cX12_given 206 = .ok (.invokevirtual 243, 3) := by decide +kernel
theorem dX12_given_209 : decode cX12_given 209 = .ok (.l2i, 1) := by decide +kernel
theorem dX12_given_210 : decode cX12_given 210 = .ok (.laload, 1) := by decide +kernel
theorem dX12_given_211 : decode cX12_given 211 = .ok (.lreturn, 1) := by decide +kernel
theorem dX12_given_212 : decode cX12_given 212 = .ok (.aload_n 0, 1) := by decide +kernel
theorem dX12_given_213 : decode cX12_given 213 = .ok (.iload_n 1, 1) := by decide +kernel
theorem dX12_given_214 : decode cX12_given 214 = .ok (.iconst 1, 1) := by decide +kernel
theorem dX12_given_215 : decode cX12_given 215 = .ok (.invokevirtual 243, 3) := by decide +kernel
theorem dX12_given_218 : decode cX12_given 218 = .ok (.lreturn, 1) := by decide +kernel
theorem dX12_given_219 : decode cX12_given 219 = .ok (.aload_n 0, 1) := by decide +kernel
theorem dX12_given_220 : decode cX12_given 220 = .ok (.iload_n 1, 1) := by decide +kernel
theorem dX12_given_221 : decode cX12_given 221 = .ok (.iconst 0, 1) := by decide +kernel
theorem dX12_given_222 : decode cX12_given 222 = .ok (.invokevirtual 243, 3) := by decide +kernel
theorem dX12_given_225 : decode cX12_given 225 = .ok (.lreturn, 1) := by decide +kernel
theorem dX12_begin_0 : decode cX12_begin 0 = .ok (.aload_n 0, 1) := by decide +kernel
theorem dX12_begin_1 : decode cX12_begin 1 = .ok (.dup, 1) := by decide +kernel
theorem dX12_begin_2 : decode cX12_begin 2 = .ok (.getfield 247, 3) := by decide +kernel
theorem dX12_begin_5 : decode cX12_begin 5 = .ok (.iconst 1, 1) := by decide +kernel
theorem dX12_begin_6 : decode cX12_begin 6 = .ok (.iadd, 1) := by decide +kernel
theorem dX12_begin_7 : decode cX12_begin 7 = .ok (.putfield 247, 3) := by decide +kernel
theorem dX12_begin_10 : decode cX12_begin 10 = .ok (.aload_n 0, 1) := by decide +kernel
theorem dX12_begin_11 : decode cX12_begin 11 = .ok (.iload_n 1, 1) := by decide +kernel
theorem dX12_begin_12 : decode cX12_begin 12 = .ok (.invokevirtual 250, 3) := by decide +kernel
theorem dX12_begin_15 : decode cX12_begin 15 = .ok (.istore_n 2, 1) := by decide +kernel
theorem dX12_begin_16 : decode cX12_begin 16 = .ok (.iload_n 2, 1) := by decide +kernel
theorem dX12_begin_17 : decode cX12_begin 17 = .ok (.ifCond .le 5, 3) := by decide +kernel
theorem dX12_begin_20 : decode cX12_begin 20 = .ok (.iload_n 2, 1) := by decide +kernel
theorem dX12_begin_21 : decode cX12_begin 21 = .ok (.ireturn, 1) := by decide +kernel
theorem dX12_begin_22 : decode cX12_begin 22 = .ok (.aload_n 0, 1) := by decide +kernel
theorem dX12_begin_23 : decode cX12_begin 23 = .ok (.getfield 75, 3) := by decide +kernel
theorem dX12_begin_26 : decode cX12_begin 26 = .ok (.iload_n 1, 1) := by decide +kernel
theorem dX12_begin_27 : decode cX12_begin 27 = .ok (.aload_n 0, 1) := by decide +kernel
theorem dX12_begin_28 : decode cX12_begin 28 = .ok (.iload_n 1, 1) := by decide +kernel
theorem dX12_begin_29 : decode cX12_begin 29 = .ok (.invokevirtual 253, 3) := by decide +kernel
theorem dX12_begin_32 : decode cX12_begin 32 = .ok (.aload_n 0, 1) := by decide +kernel
theorem dX12_begin_33 : decode cX12_begin 33 = .ok (.getfield 13, 3) := by decide +kernel
theorem dX12_begin_36 : decode cX12_begin 36 = .ok (.iload_n 1, 1) := by decide +kernel
theorem dX12_begin_37 : decode cX12_begin 37 = .ok (.iaload, 1) := by decide +kernel
theorem dX12_begin_38 : decode cX12_begin 38 = .ok (.invokestatic 126, 3) := by decide +kernel
theorem dX12_begin_41 : decode cX12_begin 41 = .ok (.lastore, 1) := by decide +kernel
theorem dX12_begin_42 : decode cX12_begin 42 = .ok (.aload_n 0, 1) := by decide +kernel
theorem dX12_begin_43 : decode cX12_begin 43 = .ok (.getfield 7, 3) := by decide +kernel
theorem dX12_begin_46 : decode cX12_begin 46 = .ok (.iload_n 1, 1) := by decide +kernel
theorem dX12_begin_47 : decode cX12_begin 47 = .ok (.iaload, 1) := by decide +kernel
theorem dX12_begin_48 : decode cX12_begin 48 = .ok (.iconst 1, 1) := by decide +kernel
theorem dX12_begin_49 : decode cX12_begin 49 = .ok (.if_icmp .ne 21, 3) := by decide +kernel
theorem dX12_begin_52 : decode cX12_begin 52 = .ok (.aload_n 0, 1) := by decide +kernel
theorem dX12_begin_53 : decode cX12_begin 53 = .ok (.getfield 78, 3) := by decide +kernel
theorem dX12_begin_56 : decode cX12_begin 56 = .ok (.aload_n 0, 1) := by decide +kernel
theorem dX12_begin_57 : decode cX12_begin 57 = .ok (.getfield 19, 3) := by decide +kernel
theorem dX12_begin_60 : decode cX12_begin 60 = .ok (.iload_n 1, 1) := by decide +kernel
theorem dX12_begin_61 : decode cX12_begin 61 = .ok (.iaload, 1) := by decide +kernel
theorem dX12_begin_62 : decode cX12_begin 62 = .ok (.dup2, 1) := by decide +kernel
theorem dX12_begin_63 : decode cX12_begin 63 = .ok (.iaload, 1) := by decide +kernel
theorem dX12_begin_64 : decode cX12_begin 64 = .ok (.iconst 1, 1) := by decide +kernel
theorem dX12_begin_65 : decode cX12_begin 65 = .ok (.iadd, 1) := by decide +kernel
theorem dX12_begin_66 : decode cX12_begin 66 = .ok (.iastore, 1) := by decide +kernel
theorem dX12_begin_67 : decode cX12_begin 67 = .ok (.goto 93, 3) := by decide +kernel
theorem dX12_begin_70 : decode cX12_begin 70 = .ok (.aload_n 0, 1) := by decide +kernel
theorem dX12_begin_71 : decode cX12_begin 71 = .ok (.getfield 7, 3) := by decide +kernel
theorem dX12_begin_74 : decode cX12_begin 74 = .ok (.iload_n 1, 1) := by decide +kernel
theorem dX12_begin_75 : decode cX12_begin 75 = .ok (.iaload, 1) := by decide +kernel
theorem dX12_begin_76 : decode cX12_begin 76 = .ok (.bipush 9, 2) := by decide +kernel
theorem dX12_begin_78 : decode cX12_begin 78 = .ok (.if_icmp .ne 24, 3) := by decide +kernel
theorem dX12_begin_81 : decode cX12_begin 81 = .ok (.aload_n 0, 1) := by decide +kernel
theorem dX12_begin_82 : decode cX12_begin 82 = .ok (.getfield 60, 3) := by decide +kernel
theorem dX12_begin_85 : decode cX12_begin 85 = .ok (.aload_n 0, 1) := by decide +kernel
theorem dX12_begin_86 : decode cX12_begin 86 = .ok (.iload_n 1, 1) := by decide +kernel
theorem dX12_begin_87 : decode cX12_begin 87 = .ok (.iconst 0, 1) := by decide +kernel
theorem dX12_begin_88 : decode cX12_begin 88 = .ok (.invokevirtual 243, 3) := by decide +kernel
theorem dX12_begin_91 : decode cX12_begin 91 = .ok (.l2i, 1) := by decide +kernel
theorem dX12_begin_92 : decode cX12_begin 92 = .ok (.aload_n 0, 1) := by decide +kernel
theorem dX12_begin_93 : decode cX12_begin 93 = .ok (.getfield 75, 3) := by decide +kernel
theorem dX12_begin_96 : decode cX12_begin 96 = .ok (.iload_n 1, 1) := by decide +kernel
theorem dX12_begin_97 : decode cX12_begin 97 = .ok (.laload, 1) := by decide +kernel
theorem dX12_begin_98 : decode cX12_begin 98 = .ok (.lastore, 1) := by decide +kernel
theorem dX12_begin_99 : decode cX12_begin 99 = .ok (.goto 61, 3) := by decide +kernel
theorem dX12_begin_102 : decode cX12_begin 102 = .ok (.aload_n 0, 1) := by decide +kernel
theorem dX12_begin_103 : decode cX12_begin 103 = .ok (.getfield 7, 3) := by decide +kernel
theorem dX12_begin_106 : decode cX12_begin 106 = .ok (.iload_n 1, 1) := by decide +kernel
theorem dX12_begin_107 : decode cX12_begin 107 = .ok (.iaload, 1) := by decide +kernel
theorem dX12_begin_108 : decode cX12_begin 108 = .ok (.bipush 10, 2) := by decide +kernel
theorem dX12_begin_110 : decode cX12_begin 110 = .ok (.if_icmp .ne 50, 3) := by decide +kernel
theorem dX12_begin_113 : decode cX12_begin 113 = .ok (.aload_n 0, 1) := by decide +kernel
theorem dX12_begin_114 : decode cX12_begin 114 = .ok (.getfield 57, 3) := by decide +kernel
theorem dX12_begin_117 : decode cX12_begin 117 = .ok (.bipush 16, 2) := by decide +kernel
theorem dX12_begin_119 : decode cX12_begin 119 = .ok (.aload_n 0, 1) := by decide +kernel
theorem dX12_begin_120 : decode cX12_begin 120 = .ok (.getfield 19, 3) := by decide +kernel
theorem dX12_begin_123 : decode cX12_begin 123 = .ok (.iload_n 1, 1) := by decide +kernel
theorem dX12_begin_124 : decode cX12_begin 124 = .ok (.iaload, 1) := by decide +kernel
theorem dX12_begin_125 : decode cX12_begin 125 = .ok (.imul, 1) := by decide +kernel
theorem dX12_begin_126 : decode cX12_begin 126 = .ok (.aload_n 0, 1) := by decide +kernel
theorem dX12_begin_127 : decode cX12_begin 127 = .ok (.getfield 54, 3) := by decide +kernel
theorem dX12_begin_130 : decode cX12_begin 130 = .ok (.aload_n 0, 1) := by decide +kernel
theorem dX12_begin_131 : decode cX12_begin 131 = .ok (.getfield 19, 3) := by decide +kernel
theorem dX12_begin_134 : decode cX12_begin 134 = .ok (.iload_n 1, 1) := by decide +kernel
theorem dX12_begin_135 : decode cX12_begin 135 = .ok (.iaload, 1) := by decide +kernel
theorem dX12_begin_136 : decode cX12_begin 136 = .ok (.iaload, 1) := by decide +kernel
theorem dX12_begin_137 : decode cX12_begin 137 = .ok (.iadd, 1) := by decide +kernel
theorem dX12_begin_138 : decode cX12_begin 138 = .ok (.aload_n 0, 1) := by decide +kernel
theorem dX12_begin_139 : decode cX12_begin 139 = .ok (.getfield 75, 3) := by decide +kernel
theorem dX12_begin_142 : decode cX12_begin 142 = .ok (.iload_n 1, 1) := by decide +kernel
theorem dX12_begin_143 : decode cX12_begin 143 = .ok (.laload, 1) := by decide +kernel
theorem dX12_begin_144 : decode cX12_begin 144 = .ok (.lastore, 1) := by decide +kernel
theorem dX12_begin_145 : decode cX12_begin 145 = .ok (.aload_n 0, 1) := by decide +kernel
theorem dX12_begin_146 : decode cX12_begin 146 = .ok (.getfield 54, 3) := by decide +kernel
theorem dX12_begin_149 : decode cX12_begin 149 = .ok (.aload_n 0, 1) := by decide +kernel
theorem dX12_begin_150 : decode cX12_begin 150 = .ok (.getfield 19, 3) := by decide +kernel
theorem dX12_begin_153 : decode cX12_begin 153 = .ok (.iload_n 1, 1) := by decide +kernel
theorem dX12_begin_154 : decode cX12_begin 154 = .ok (.iaload, 1) := by decide +kernel
theorem dX12_begin_155 : decode cX12_begin 155 = .ok (.dup2, 1) := by decide +kernel
theorem dX12_begin_156 : decode cX12_begin 156 = .ok (.iaload, 1) := by decide +kernel
theorem dX12_begin_157 : decode cX12_begin 157 = .ok (.iconst 1, 1) := by decide +kernel
theorem dX12_begin_158 : decode cX12_begin 158 = .ok (.iadd, 1) := by decide +kernel
theorem dX12_begin_159 : decode cX12_begin 159 = .ok (.iastore, 1) := by decide +kernel
theorem dX12_begin_160 : decode cX12_begin 160 = .ok (.iconst 0, 1) := by decide +kernel
theorem dX12_begin_161 : decode cX12_begin 161 = .ok (.ireturn, 1) := by decide +kernel
theorem dX12_run_0 : decode cX12_run 0 = .ok (.aload_n 0, 1) := by decide +kernel
theorem dX12_run_1 : decode cX12_run 1 = .ok (.iconst 0, 1) := by decide +kernel
theorem dX12_run_2 : decode cX12_run 2 = .ok (.putfield 99, 3) := by decide +kernel
theorem dX12_run_5 : decode cX12_run 5 = .ok (.aload_n 0, 1) := by decide +kernel
theorem dX12_run_6 : decode cX12_run 6 = .ok (.getfield 103, 3) := by decide +kernel
theorem dX12_run_9 : decode cX12_run 9 = .ok (.ifCond .ne 6, 3) := by decide +kernel
theorem dX12_run_12 : decode cX12_run 12 = .ok (.bipush (-2), 2) := by decide +kernel
theorem dX12_run_14 : decode cX12_run 14 = .ok (.ireturn, 1) := by decide +kernel
theorem dX12_run_15 : decode cX12_run 15 = .ok (.iload_n 1, 1) := by decide +kernel
theorem dX12_run_16 : decode cX12_run 16 = .ok (.ifCond .eq 13, 3) := by decide +kernel
theorem dX12_run_19 : decode cX12_run 19 = .ok (.aload_n 0, 1) := by decide +kernel
theorem dX12_run_20 : decode cX12_run 20 = .ok (.getfield 106, 3) := by decide +kernel
theorem dX12_run_23 : decode cX12_run 23 = .ok (.ifCond .ne 6, 3) := by decide +kernel
theorem dX12_run_26 : decode cX12_run 26 = .ok (.bipush (-3), 2) := by decide +kernel
theorem dX12_run_28 : decode cX12_run 28 = .ok (.ireturn, 1) := by decide +kernel
theorem dX12_run_29 : decode cX12_run 29 = .ok (.iconst 0, 1) := by decide +kernel
theorem dX12_run_30 : decode cX12_run 30 = .ok (.istore_n 2, 1) := by decide +kernel
theorem dX12_run_31 : decode cX12_run 31 = .ok (.iload_n 2, 1) := by decide +kernel
theorem dX12_run_32 : decode cX12_run 32 = .ok (.iconst 4, 1) := by decide +kernel
theorem dX12_run_33 : decode cX12_run 33 = .ok (.if_icmp .ge 23, 3) := by decide +kernel
theorem dX12_run_36 : decode cX12_run 36 = .ok (.aload_n 0, 1) := by decide +kernel
theorem dX12_run_37 : decode cX12_run 37 = .ok (.getfield 78, 3) := by decide +kernel
theorem dX12_run_40 : decode cX12_run 40 = .ok (.iload_n 2, 1) := by decide +kernel
theorem dX12_run_41 : decode cX12_run 41 = .ok (.iconst 0, 1) := by decide +kernel
theorem dX12_run_42 : decode cX12_run 42 = .ok (.iastore, 1) := by decide +kernel
theorem dX12_run_43 : decode cX12_run 43 = .ok (.aload_n 0, 1) := by decide +kernel
theorem dX12_run_44 : decode cX12_run 44 = .ok (.getfield 54, 3) := by decide +kernel
theorem dX12_run_47 : decode cX12_run 47 = .ok (.iload_n 2, 1) := by decide +kernel
theorem dX12_run_48 : decode cX12_run 48 = .ok (.iconst 0, 1) := by decide +kernel
theorem dX12_run_49 : decode cX12_run 49 = .ok (.iastore, 1) := by decide +kernel
theorem dX12_run_50 : decode cX12_run 50 = .ok (.iinc 2 1, 3) := by decide +kernel
theorem dX12_run_53 : decode cX12_run 53 = .ok (.goto (-22), 3) := by decide +kernel
theorem dX12_run_56 : decode cX12_run 56 = .ok (.iconst 0, 1) := by decide +kernel
theorem dX12_run_57 : decode cX12_run 57 = .ok (.istore_n 2, 1) := by decide +kernel
theorem dX12_run_58 : decode cX12_run 58 = .ok (.iload_n 2, 1) := by decide +kernel
theorem dX12_run_59 : decode cX12_run 59 = .ok (.bipush 16, 2) := by decide +kernel
theorem dX12_run_61 : decode cX12_run 61 = .ok (.if_icmp .ge 21, 3) := by decide +kernel
theorem dX12_run_64 : decode cX12_run 64 = .ok (.aload_n 0, 1) := by decide +kernel
theorem dX12_run_65 : decode cX12_run 65 = .ok (.getfield 60, 3) := by decide +kernel
theorem dX12_run_68 : decode cX12_run 68 = .ok (.iload_n 2, 1) := by decide +kernel
theorem dX12_run_69 : decode cX12_run 69 = .ok (.aload_n 0, 1) := by decide +kernel
theorem dX12_run_70 : decode cX12_run 70 = .ok (.getfield 42, 3) := by decide +kernel
theorem dX12_run_73 : decode cX12_run 73 = .ok (.iload_n 2, 1) := by decide +kernel
theorem dX12_run_74 : decode cX12_run 74 = .ok (.laload, 1) := by decide +kernel
theorem dX12_run_75 : decode cX12_run 75 = .ok (.lastore, 1) := by decide +kernel
theorem dX12_run_76 : decode cX12_run 76 = .ok (.iinc 2 1, 3) := by decide +kernel
theorem dX12_run_79 : decode cX12_run 79 = .ok (.goto (-21), 3) := by decide +kernel
theorem dX12_run_82 : decode cX12_run 82 = .ok (.aload_n 0, 1) := by decide +kernel
theorem dX12_run_83 : decode cX12_run 83 = .ok (.iconst 0, 1) := by decide +kernel
theorem dX12_run_84 : decode cX12_run 84 = .ok (.putfield 257, 3) := by decide +kernel
theorem dX12_run_87 : decode cX12_run 87 = .ok (.aload_n 0, 1) := by decide +kernel
theorem dX12_run_88 : decode cX12_run 88 = .ok (.bipush (-2), 2) := by decide +kernel
theorem dX12_run_90 : decode cX12_run 90 = .ok (.putfield 260, 3) := by decide +kernel
theorem dX12_run_93 : decode cX12_run 93 = .ok (.aload_n 0, 1) := by decide +kernel
theorem dX12_run_94 : decode cX12_run 94 = .ok (.iconst 0, 1) := by decide +kernel
theorem dX12_run_95 : decode cX12_run 95 = .ok (.putfield 247, 3) := by decide +kernel
theorem dX12_run_98 : decode cX12_run 98 = .ok (.iload_n 1, 1) := by decide +kernel
theorem dX12_run_99 : decode cX12_run 99 = .ok (.ifCond .eq 10, 3) := by decide +kernel
theorem dX12_run_102 : decode cX12_run 102 = .ok (.aload_n 0, 1) := by decide +kernel
theorem dX12_run_103 : decode cX12_run 103 = .ok (.getfield 210, 3) := by decide +kernel
theorem dX12_run_106 : decode cX12_run 106 = .ok (.goto 4, 3) := by decide +kernel
theorem dX12_run_109 : decode cX12_run 109 = .ok (.iconst 0, 1) := by decide +kernel
theorem dX12_run_110 : decode cX12_run 110 = .ok (.istore_n 2, 1) := by decide +kernel
theorem dX12_run_111 : decode cX12_run 111 = .ok (.iconst 0, 1) := by decide +kernel
theorem dX12_run_112 : decode cX12_run 112 = .ok (.istore_n 3, 1) := by decide +kernel
theorem dX12_run_113 : decode cX12_run 113 = .ok (.iload_n 3, 1) := by decide +kernel
theorem dX12_run_114 : decode cX12_run 114 = .ok (.iload_n 2, 1) := by decide +kernel
theorem dX12_run_115 : decode cX12_run 115 = .ok (.if_icmp .gt 86, 3) := by decide +kernel
theorem dX12_run_118 : decode cX12_run 118 = .ok (.iconst 0, 1) := by decide +kernel
theorem dX12_run_119 : decode cX12_run 119 = .ok (.istore 4, 2) := by decide +kernel
theorem dX12_run_121 : decode cX12_run 121 = .ok (.iload 4, 2) := by decide +kernel
theorem dX12_run_123 : decode cX12_run 123 = .ok (.aload_n 0, 1) := by decide +kernel
theorem dX12_run_124 : decode cX12_run 124 = .ok (.getfield 103, 3) := by decide +kernel
theorem dX12_run_127 : decode cX12_run 127 = .ok (.if_icmp .ge 68, 3) := by decide +kernel
theorem dX12_run_130 : decode cX12_run 130 = .ok (.iload_n 1, 1) := by decide +kernel
theorem dX12_run_131 : decode cX12_run 131 = .ok (.ifCond .eq 14, 3) := by decide +kernel
theorem dX12_run_134 : decode cX12_run 134 = .ok (.aload_n 0, 1) := by decide +kernel
theorem dX12_run_135 : decode cX12_run 135 = .ok (.getfield 45, 3) := by decide +kernel
theorem dX12_run_138 : decode cX12_run 138 = .ok (.iload 4, 2) := by decide +kernel
theorem dX12_run_140 : decode cX12_run 140 = .ok (.iaload, 1) := by decide +kernel
theorem dX12_run_141 : decode cX12_run 141 = .ok (.iload_n 3, 1) := by decide +kernel
theorem dX12_run_142 : decode cX12_run 142 = .ok (.if_icmp .ne 47, 3) := by decide +kernel
theorem dX12_run_145 : decode cX12_run 145 = .ok (.aload_n 0, 1) := by decide +kernel
theorem dX12_run_146 : decode cX12_run 146 = .ok (.getfield 260, 3) := by decide +kernel
theorem dX12_run_149 : decode cX12_run 149 = .ok (.ifCond .lt 15, 3) := by decide +kernel
theorem dX12_run_152 : decode cX12_run 152 = .ok (.iload 4, 2) := by decide +kernel
theorem dX12_run_154 : decode cX12_run 154 = .ok (.aload_n 0, 1) := by decide +kernel
theorem dX12_run_155 : decode cX12_run 155 = .ok (.getfield 260, 3) := by decide +kernel
theorem dX12_run_158 : decode cX12_run 158 = .ok (.if_icmp .le 6, 3) := by decide +kernel
theorem dX12_run_161 : decode cX12_run 161 = .ok (.goto 28, 3) := by decide +kernel
theorem dX12_run_164 : decode cX12_run 164 = .ok (.aload_n 0, 1) := by decide +kernel
theorem dX12_run_165 : decode cX12_run 165 = .ok (.iload 4, 2) := by decide +kernel
theorem dX12_run_167 : decode cX12_run 167 = .ok (.invokevirtual 263, 3) := by decide +kernel
theorem dX12_run_170 : decode cX12_run 170 = .ok (.istore 5, 2) := by decide +kernel
theorem dX12_run_172 : decode cX12_run 172 = .ok (.iload 5, 2) := by decide +kernel
theorem dX12_run_174 : decode cX12_run 174 = .ok (.ifCond .le 15, 3) := by decide +kernel
theorem dX12_run_177 : decode cX12_run 177 = .ok (.aload_n 0, 1) := by decide +kernel
theorem dX12_run_178 : decode cX12_run 178 = .ok (.iload 5, 2) := by decide +kernel
theorem dX12_run_180 : decode cX12_run 180 = .ok (.putfield 257, 3) := by decide +kernel
theorem dX12_run_183 : decode cX12_run 183 = .ok (.aload_n 0, 1) := by decide +kernel
theorem dX12_run_184 : decode cX12_run 184 = .ok (.iload 4, 2) := by decide +kernel
theorem dX12_run_186 : decode cX12_run 186 = .ok (.putfield 260, 3) := by decide +kernel
theorem dX12_run_189 : decode cX12_run 189 = .ok (.iinc 4 1, 3) := by decide +kernel
theorem dX12_run_192 : decode cX12_run 192 = .ok (.goto (-71), 3) := by decide +kernel
theorem dX12_run_195 : decode cX12_run 195 = .ok (.iinc 3 1, 3) := by decide +kernel
theorem dX12_run_198 : decode cX12_run 198 = .ok (.goto (-85), 3) := by decide +kernel
theorem dX12_run_201 : decode cX12_run 201 = .ok (.aload_n 0, 1) := by decide +kernel
theorem dX12_run_202 : decode cX12_run 202 = .ok (.iload_n 1, 1) := by decide +kernel
theorem dX12_run_203 : decode cX12_run 203 = .ok (.ifCond .ne 7, 3) := by decide +kernel
theorem dX12_run_206 : decode cX12_run 206 = .ok (.iconst 0, 1) := by decide +kernel
theorem dX12_run_207 : decode cX12_run 207 = .ok (.goto 26, 3) := by decide +kernel
theorem dX12_run_210 : decode cX12_run 210 = .ok (.aload_n 0, 1) := by decide +kernel
theorem dX12_run_211 : decode cX12_run 211 = .ok (.getfield 260, 3) := by decide +kernel
theorem dX12_run_214 : decode cX12_run 214 = .ok (.ifCond .ge 10, 3) := by decide +kernel
theorem dX12_run_217 : decode cX12_run 217 = .ok (.aload_n 0, 1) := by decide +kernel
theorem dX12_run_218 : decode cX12_run 218 = .ok (.getfield 210, 3) := by decide +kernel
theorem dX12_run_221 : decode cX12_run 221 = .ok (.goto 12, 3) := by decide +kernel
theorem dX12_run_224 : decode cX12_run 224 = .ok (.aload_n 0, 1) := by decide +kernel
theorem dX12_run_225 : decode cX12_run 225 = .ok (.getfield 45, 3) := by decide +kernel
theorem dX12_run_228 : decode cX12_run 228 = .ok (.aload_n 0, 1) := by decide +kernel
theorem dX12_run_229 : decode cX12_run 229 = .ok (.getfield 260, 3) := by decide +kernel
theorem dX12_run_232 : decode cX12_run 232 = .ok (.iaload, 1) := by decide +kernel
theorem dX12_run_233 : decode cX12_run 233 = .ok (.putfield 266, 3) := by decide +kernel
theorem dX12_run_236 : decode cX12_run 236 = .ok (.aload_n 0, 1) := by decide +kernel
theorem dX12_run_237 : decode cX12_run 237 = .ok (.iconst 1, 1) := by decide +kernel
theorem dX12_run_238 : decode cX12_run 238 = .ok (.putfield 110, 3) := by decide +kernel
theorem dX12_run_241 : decode cX12_run 241 = .ok (.aload_n 0, 1) := by decide +kernel
theorem dX12_run_242 : decode cX12_run 242 = .ok (.getfield 257, 3) := by decide +kernel
theorem dX12_run_245 : decode cX12_run 245 = .ok (.ireturn, 1) := by decide +kernel
theorem dX12_told_0 : decode cX12_told 0 = .ok (.aload_n 0, 1) := by decide +kernel
theorem dX12_told_1 : decode cX12_told 1 = .ok (.iconst 0, 1) := by decide +kernel
theorem dX12_told_2 : decode cX12_told 2 = .ok (.putfield 99, 3) := by decide +kernel
theorem dX12_told_5 : decode cX12_told 5 = .ok (.iload_n 1, 1) := by decide +kernel
theorem dX12_told_6 : decode cX12_told 6 = .ok (.i2l, 1) := by decide +kernel
theorem dX12_told_7 : decode cX12_told 7 = .ok (.lconst 0, 1) := by decide +kernel
theorem dX12_told_8 : decode cX12_told 8 = .ok (.ldc2_w 140, 3) := by decide +kernel
theorem dX12_told_11 : decode cX12_told 11 = .ok (.invokestatic 118, 3) := by decide +kernel
theorem dX12_told_14 : decode cX12_told 14 = .ok (.ifCond .ne 5, 3) := by decide +kernel
theorem dX12_told_17 : decode cX12_told 17 = .ok (.iconst (-1), 1) := by decide +kernel
theorem dX12_told_18 : decode cX12_told 18 = .ok (.ireturn, 1) := by decide +kernel
theorem dX12_told_19 : decode cX12_told 19 = .ok (.aload_n 0, 1) := by decide +kernel
theorem dX12_told_20 : decode cX12_told 20 = .ok (.getfield 110, 3) := by decide +kernel
theorem dX12_told_23 : decode cX12_told 23 = .ok (.ifCond .ne 6, 3) := by decide +kernel
theorem dX12_told_26 : decode cX12_told 26 = .ok (.bipush (-3), 2) := by decide +kernel
theorem dX12_told_28 : decode cX12_told 28 = .ok (.ireturn, 1) := by decide +kernel
theorem dX12_told_29 : decode cX12_told 29 = .ok (.iload_n 1, 1) := by decide +kernel
theorem dX12_told_30 : decode cX12_told 30 = .ok (.ifCond .ne 10, 3) := by decide +kernel
theorem dX12_told_33 : decode cX12_told 33 = .ok (.aload_n 0, 1) := by decide +kernel
theorem dX12_told_34 : decode cX12_told 34 = .ok (.getfield 257, 3) := by decide +kernel
theorem dX12_told_37 : decode cX12_told 37 = .ok (.goto 66, 3) := by decide +kernel
theorem dX12_told_40 : decode cX12_told 40 = .ok (.iload_n 1, 1) := by decide +kernel
theorem dX12_told_41 : decode cX12_told 41 = .ok (.iconst 1, 1) := by decide +kernel
theorem dX12_told_42 : decode cX12_told 42 = .ok (.if_icmp .ne 10, 3) := by decide +kernel
theorem dX12_told_45 : decode cX12_told 45 = .ok (.aload_n 0, 1) := by decide +kernel
theorem dX12_told_46 : decode cX12_told 46 = .ok (.getfield 260, 3) := by decide +kernel
theorem dX12_told_49 : decode cX12_told 49 = .ok (.goto 54, 3) := by decide +kernel
theorem dX12_told_52 : decode cX12_told 52 = .ok (.iload_n 1, 1) := by decide +kernel
theorem dX12_told_53 : decode cX12_told 53 = .ok (.iconst 2, 1) := by decide +kernel
theorem dX12_told_54 : decode cX12_told 54 = .ok (.if_icmp .ne 10, 3) := by decide +kernel
theorem dX12_told_57 : decode cX12_told 57 = .ok (.aload_n 0, 1) := by decide +kernel
theorem dX12_told_58 : decode cX12_told 58 = .ok (.getfield 247, 3) := by decide +kernel
theorem dX12_told_61 : decode cX12_told 61 = .ok (.goto 42, 3) := by decide +kernel
theorem dX12_told_64 : decode cX12_told 64 = .ok (.iload_n 1, 1) := by decide +kernel
theorem dX12_told_65 : decode cX12_told 65 = .ok (.iconst 3, 1) := by decide +kernel
theorem dX12_told_66 : decode cX12_told 66 = .ok (.if_icmp .ne 10, 3) := by decide +kernel
theorem dX12_told_69 : decode cX12_told 69 = .ok (.aload_n 0, 1) := by decide +kernel
theorem dX12_told_70 : decode cX12_told 70 = .ok (.getfield 266, 3) := by decide +kernel
theorem dX12_told_73 : decode cX12_told 73 = .ok (.goto 30, 3) := by decide +kernel
theorem dX12_told_76 : decode cX12_told 76 = .ok (.aload_n 0, 1) := by decide +kernel
theorem dX12_told_77 : decode cX12_told 77 = .ok (.getfield 54, 3) := by decide +kernel
theorem dX12_told_80 : decode cX12_told 80 = .ok (.iconst 0, 1) := by decide +kernel
theorem dX12_told_81 : decode cX12_told 81 = .ok (.iaload, 1) := by decide +kernel
theorem dX12_told_82 : decode cX12_told 82 = .ok (.aload_n 0, 1) := by decide +kernel
theorem dX12_told_83 : decode cX12_told 83 = .ok (.getfield 54, 3) := by decide +kernel
theorem dX12_told_86 : decode cX12_told 86 = .ok (.iconst 1, 1) := by decide +kernel
theorem dX12_told_87 : decode cX12_told 87 = .ok (.iaload, 1) := by decide +kernel
theorem dX12_told_88 : decode cX12_told 88 = .ok (.iadd, 1) := by decide +kernel
theorem dX12_told_89 : decode cX12_told 89 = .ok (.aload_n 0, 1) := by decide +kernel
theorem dX12_told_90 : decode cX12_told 90 = .ok (.getfield 54, 3) := by decide +kernel
theorem dX12_told_93 : decode cX12_told 93 = .ok (.iconst 2, 1) := by decide +kernel
theorem dX12_told_94 : decode cX12_told 94 = .ok (.iaload, 1) := by decide +kernel
theorem dX12_told_95 : decode cX12_told 95 = .ok (.iadd, 1) := by decide +kernel
theorem dX12_told_96 : decode cX12_told 96 = .ok (.aload_n 0, 1) := by decide +kernel
theorem dX12_told_97 : decode cX12_told 97 = .ok (.getfield 54, 3) := by decide +kernel
theorem dX12_told_100 : decode cX12_told 100 = .ok (.iconst 3, 1) := by decide +kernel
theorem dX12_told_101 : decode cX12_told 101 = .ok (.iaload, 1) := by decide +kernel
theorem dX12_told_102 : decode cX12_told 102 = .ok (.iadd, 1) := by decide +kernel
theorem dX12_told_103 : decode cX12_told 103 = .ok (.ireturn, 1) := by decide +kernel
theorem dX12_out_0 : decode cX12_out 0 = .ok (.iload_n 1, 1) := by decide +kernel
theorem dX12_out_1 : decode cX12_out 1 = .ok (.i2l, 1) := by decide +kernel
theorem dX12_out_2 : decode cX12_out 2 = .ok (.lconst 0, 1) := by decide +kernel
theorem dX12_out_3 : decode cX12_out 3 = .ok (.ldc2_w 130, 3) := by decide +kernel
theorem dX12_out_6 : decode cX12_out 6 = .ok (.invokestatic 118, 3) := by decide +kernel
theorem dX12_out_9 : decode cX12_out 9 = .ok (.ifCond .eq 28, 3) := by decide +kernel
theorem dX12_out_12 : decode cX12_out 12 = .ok (.iload_n 2, 1) := by decide +kernel
theorem dX12_out_13 : decode cX12_out 13 = .ok (.ifCond .lt 24, 3) := by decide +kernel
theorem dX12_out_16 : decode cX12_out 16 = .ok (.aload_n 0, 1) := by decide +kernel
theorem dX12_out_17 : decode cX12_out 17 = .ok (.getfield 110, 3) := by decide +kernel
theorem dX12_out_20 : decode cX12_out 20 = .ok (.ifCond .eq 13, 3) := by decide +kernel
theorem dX12_out_23 : decode cX12_out 23 = .ok (.iload_n 2, 1) := by decide +kernel
theorem dX12_out_24 : decode cX12_out 24 = .ok (.aload_n 0, 1) := by decide +kernel
theorem dX12_out_25 : decode cX12_out 25 = .ok (.getfield 54, 3) := by decide +kernel
theorem dX12_out_28 : decode cX12_out 28 = .ok (.iload_n 1, 1) := by decide +kernel
theorem dX12_out_29 : decode cX12_out 29 = .ok (.iaload, 1) := by decide +kernel
theorem dX12_out_30 : decode cX12_out 30 = .ok (.if_icmp .ge 7, 3) := by decide +kernel
theorem dX12_out_33 : decode cX12_out 33 = .ok (.iconst 1, 1) := by decide +kernel
theorem dX12_out_34 : decode cX12_out 34 = .ok (.goto 4, 3) := by decide +kernel
theorem dX12_out_37 : decode cX12_out 37 = .ok (.iconst 0, 1) := by decide +kernel
theorem dX12_out_38 : decode cX12_out 38 = .ok (.istore_n 3, 1) := by decide +kernel
theorem dX12_out_39 : decode cX12_out 39 = .ok (.aload_n 0, 1) := by decide +kernel
theorem dX12_out_40 : decode cX12_out 40 = .ok (.iload_n 3, 1) := by decide +kernel
theorem dX12_out_41 : decode cX12_out 41 = .ok (.ifCond .ne 7, 3) := by decide +kernel
theorem dX12_out_44 : decode cX12_out 44 = .ok (.iconst 1, 1) := by decide +kernel
theorem dX12_out_45 : decode cX12_out 45 = .ok (.goto 15, 3) := by decide +kernel
theorem dX12_out_48 : decode cX12_out 48 = .ok (.aload_n 0, 1) := by decide +kernel
theorem dX12_out_49 : decode cX12_out 49 = .ok (.getfield 110, 3) := by decide +kernel
theorem dX12_out_52 : decode cX12_out 52 = .ok (.ifCond .ne 7, 3) := by decide +kernel
theorem dX12_out_55 : decode cX12_out 55 = .ok (.iconst 2, 1) := by decide +kernel
theorem dX12_out_56 : decode cX12_out 56 = .ok (.goto 4, 3) := by decide +kernel
theorem dX12_out_59 : decode cX12_out 59 = .ok (.iconst 0, 1) := by decide +kernel
theorem dX12_out_60 : decode cX12_out 60 = .ok (.putfield 99, 3) := by decide +kernel
theorem dX12_out_63 : decode cX12_out 63 = .ok (.aload_n 0, 1) := by decide +kernel
theorem dX12_out_64 : decode cX12_out 64 = .ok (.getfield 99, 3) := by decide +kernel
theorem dX12_out_67 : decode cX12_out 67 = .ok (.ifCond .le 7, 3) := by decide +kernel
theorem dX12_out_70 : decode cX12_out 70 = .ok (.lconst 0, 1) := by decide +kernel
theorem dX12_out_71 : decode cX12_out 71 = .ok (.goto 14, 3) := by decide +kernel
theorem dX12_out_74 : decode cX12_out 74 = .ok (.aload_n 0, 1) := by decide +kernel
theorem dX12_out_75 : decode cX12_out 75 = .ok (.getfield 57, 3) := by decide +kernel
theorem dX12_out_78 : decode cX12_out 78 = .ok (.bipush 16, 2) := by decide +kernel
theorem dX12_out_80 : decode cX12_out 80 = .ok (.iload_n 1, 1) := by decide +kernel
theorem dX12_out_81 : decode cX12_out 81 = .ok (.imul, 1) := by decide +kernel
theorem dX12_out_82 : decode cX12_out 82 = .ok (.iload_n 2, 1) := by decide +kernel
theorem dX12_out_83 : decode cX12_out 83 = .ok (.iadd, 1) := by decide +kernel
theorem dX12_out_84 : decode cX12_out 84 = .ok (.laload, 1) := by decide +kernel
theorem dX12_out_85 : decode cX12_out 85 = .ok (.lreturn, 1) := by decide +kernel
theorem dX12_outs_0 : decode cX12_outs 0 = .ok (.aload_n 0, 1) := by decide +kernel
theorem dX12_outs_1 : decode cX12_outs 1 = .ok (.iconst 0, 1) := by decide +kernel
theorem dX12_outs_2 : decode cX12_outs 2 = .ok (.putfield 99, 3) := by decide +kernel
theorem dX12_outs_5 : decode cX12_outs 5 = .ok (.iload_n 1, 1) := by decide +kernel
theorem dX12_outs_6 : decode cX12_outs 6 = .ok (.i2l, 1) := by decide +kernel
theorem dX12_outs_7 : decode cX12_outs 7 = .ok (.lconst 0, 1) := by decide +kernel
theorem dX12_outs_8 : decode cX12_outs 8 = .ok (.ldc2_w 130, 3) := by decide +kernel
theorem dX12_outs_11 : decode cX12_outs 11 = .ok (.invokestatic 118, 3) := by decide +kernel
theorem dX12_outs_14 : decode cX12_outs 14 = .ok (.ifCond .ne 7, 3) := by decide +kernel
theorem dX12_outs_17 : decode cX12_outs 17 = .ok (.iconst (-1), 1) := by decide +kernel
theorem dX12_outs_18 : decode cX12_outs 18 = .ok (.goto 21, 3) := by decide +kernel
theorem dX12_outs_21 : decode cX12_outs 21 = .ok (.aload_n 0, 1) := by decide +kernel
theorem dX12_outs_22 : decode cX12_outs 22 = .ok (.getfield 110, 3) := by decide +kernel
theorem dX12_outs_25 : decode cX12_outs 25 = .ok (.ifCond .ne 8, 3) := by decide +kernel
theorem dX12_outs_28 : decode cX12_outs 28 = .ok (.bipush (-3), 2) := by decide +kernel
theorem dX12_outs_30 : decode cX12_outs 30 = .ok (.goto 9, 3) := by decide +kernel
theorem dX12_outs_33 : decode cX12_outs 33 = .ok (.aload_n 0, 1) := by decide +kernel
theorem dX12_outs_34 : decode cX12_outs 34 = .ok (.getfield 54, 3) := by decide +kernel
theorem dX12_outs_37 : decode cX12_outs 37 = .ok (.iload_n 1, 1) := by decide +kernel
theorem dX12_outs_38 : decode cX12_outs 38 = .ok (.iaload, 1) := by decide +kernel
theorem dX12_outs_39 : decode cX12_outs 39 = .ok (.ireturn, 1) := by decide +kernel
theorem dX12_row_0 : decode cX12_row 0 = .ok (.aload_n 0, 1) := by decide +kernel
theorem dX12_row_1 : decode cX12_row 1 = .ok (.iload_n 1, 1) := by decide +kernel
theorem dX12_row_2 : decode cX12_row 2 = .ok (.i2l, 1) := by decide +kernel
theorem dX12_row_3 : decode cX12_row 3 = .ok (.lconst 0, 1) := by decide +kernel
theorem dX12_row_4 : decode cX12_row 4 = .ok (.ldc2_w 144, 3) := by decide +kernel
theorem dX12_row_7 : decode cX12_row 7 = .ok (.invokestatic 118, 3) := by decide +kernel
theorem dX12_row_10 : decode cX12_row 10 = .ok (.ifCond .ne 7, 3) := by decide +kernel
theorem dX12_row_13 : decode cX12_row 13 = .ok (.iconst 1, 1) := by decide +kernel
theorem dX12_row_14 : decode cX12_row 14 = .ok (.goto 15, 3) := by decide +kernel
theorem dX12_row_17 : decode cX12_row 17 = .ok (.aload_n 0, 1) := by decide +kernel
theorem dX12_row_18 : decode cX12_row 18 = .ok (.getfield 110, 3) := by decide +kernel
theorem dX12_row_21 : decode cX12_row 21 = .ok (.ifCond .ne 7, 3) := by decide +kernel
theorem dX12_row_24 : decode cX12_row 24 = .ok (.iconst 2, 1) := by decide +kernel
theorem dX12_row_25 : decode cX12_row 25 = .ok (.goto 4, 3) := by decide +kernel
theorem dX12_row_28 : decode cX12_row 28 = .ok (.iconst 0, 1) := by decide +kernel
theorem dX12_row_29 : decode cX12_row 29 = .ok (.putfield 99, 3) := by decide +kernel
theorem dX12_row_32 : decode cX12_row 32 = .ok (.aload_n 0, 1) := by decide +kernel
theorem dX12_row_33 : decode cX12_row 33 = .ok (.getfield 99, 3) := by decide +kernel
theorem dX12_row_36 : decode cX12_row 36 = .ok (.ifCond .le 7, 3) := by decide +kernel
theorem dX12_row_39 : decode cX12_row 39 = .ok (.lconst 0, 1) := by decide +kernel
theorem dX12_row_40 : decode cX12_row 40 = .ok (.goto 9, 3) := by decide +kernel
theorem dX12_row_43 : decode cX12_row 43 = .ok (.aload_n 0, 1) := by decide +kernel
theorem dX12_row_44 : decode cX12_row 44 = .ok (.getfield 60, 3) := by decide +kernel
theorem dX12_row_47 : decode cX12_row 47 = .ok (.iload_n 1, 1) := by decide +kernel
theorem dX12_row_48 : decode cX12_row 48 = .ok (.laload, 1) := by decide +kernel
theorem dX12_row_49 : decode cX12_row 49 = .ok (.lreturn, 1) := by decide +kernel
theorem dX12_operandsOf_0 : decode cX12_operandsOf 0 = .ok (.iconst 0, 1) := by decide +kernel
theorem dX12_operandsOf_1 : decode cX12_operandsOf 1 = .ok (.istore_n 2, 1) := by decide +kernel
theorem dX12_operandsOf_2 : decode cX12_operandsOf 2 = .ok (.iconst 3, 1) := by decide +kernel
theorem dX12_operandsOf_3 : decode cX12_operandsOf 3 = .ok (.iload_n 1, 1) := by decide +kernel
theorem dX12_operandsOf_4 : decode cX12_operandsOf 4 = .ok (.imul, 1) := by decide +kernel
theorem dX12_operandsOf_5 : decode cX12_operandsOf 5 = .ok (.istore_n 3, 1) := by decide +kernel
theorem dX12_operandsOf_6 : decode cX12_operandsOf 6 = .ok (.iload_n 3, 1) := by decide +kernel
theorem dX12_operandsOf_7 : decode cX12_operandsOf 7 = .ok (.iconst 3, 1) := by decide +kernel
theorem dX12_operandsOf_8 : decode cX12_operandsOf 8 = .ok (.iload_n 1, 1) := by decide +kernel
theorem dX12_operandsOf_9 : decode cX12_operandsOf 9 = .ok (.imul, 1) := by decide +kernel
theorem dX12_operandsOf_10 : decode cX12_operandsOf 10 = .ok (.iconst 3, 1) := by decide +kernel
theorem dX12_operandsOf_11 : decode cX12_operandsOf 11 = .ok (.iadd, 1) := by decide +kernel
theorem dX12_operandsOf_12 : decode cX12_operandsOf 12 = .ok (.if_icmp .ge 26, 3) := by decide +kernel
theorem dX12_operandsOf_15 : decode cX12_operandsOf 15 = .ok (.iload_n 2, 1) := by decide +kernel
theorem dX12_operandsOf_16 : decode cX12_operandsOf 16 = .ok (.aload_n 0, 1) := by decide +kernel
theorem dX12_operandsOf_17 : decode cX12_operandsOf 17 = .ok (.getfield 16, 3) := by decide +kernel
theorem dX12_operandsOf_20 : decode cX12_operandsOf 20 = .ok (.iload_n 3, 1) := by decide +kernel
theorem dX12_operandsOf_21 : decode cX12_operandsOf 21 = .ok (.iaload, 1) := by decide +kernel
theorem dX12_operandsOf_22 : decode cX12_operandsOf 22 = .ok (.ifCond .lt 7, 3) := by decide +kernel
theorem dX12_operandsOf_25 : decode cX12_operandsOf 25 = .ok (.iconst 1, 1) := by decide +kernel
theorem dX12_operandsOf_26 : decode cX12_operandsOf 26 = .ok (.goto 4, 3) := by decide +kernel
theorem dX12_operandsOf_29 : decode cX12_operandsOf 29 = .ok (.iconst 0, 1) := by decide +kernel
theorem dX12_operandsOf_30 : decode cX12_operandsOf 30 = .ok (.iadd, 1) := by decide +kernel
theorem dX12_operandsOf_31 : decode cX12_operandsOf 31 = .ok (.istore_n 2, 1) := by decide +kernel
theorem dX12_operandsOf_32 : decode cX12_operandsOf 32 = .ok (.iinc 3 1, 3) := by decide +kernel
theorem dX12_operandsOf_35 : decode cX12_operandsOf 35 = .ok (.goto (-29), 3) := by decide +kernel
theorem dX12_operandsOf_38 : decode cX12_operandsOf 38 = .ok (.iload_n 2, 1) := by decide +kernel
theorem dX12_operandsOf_39 : decode cX12_operandsOf 39 = .ok (.ireturn, 1) := by decide +kernel
theorem dX12_count_0 : decode cX12_count 0 = .ok (.aload_n 0, 1) := by decide +kernel
theorem dX12_count_1 : decode cX12_count 1 = .ok (.iconst 0, 1) := by decide +kernel
theorem dX12_count_2 : decode cX12_count 2 = .ok (.putfield 99, 3) := by decide +kernel
theorem dX12_count_5 : decode cX12_count 5 = .ok (.iconst 0, 1) := by decide +kernel
theorem dX12_count_6 : decode cX12_count 6 = .ok (.istore_n 2, 1) := by decide +kernel
theorem dX12_count_7 : decode cX12_count 7 = .ok (.iload_n 1, 1) := by decide +kernel
theorem dX12_count_8 : decode cX12_count 8 = .ok (.tableswitch 112 0 6 #[44, 49, 75, 103, 103, 103, 103], 44) := by decide +kernel
theorem dX12_count_52 : decode cX12_count 52 = .ok (.aload_n 0, 1) := by decide +kernel
theorem dX12_count_53 : decode cX12_count 53 = .ok (.getfield 103, 3) := by decide +kernel
theorem dX12_count_56 : decode cX12_count 56 = .ok (.ireturn, 1) := by decide +kernel
theorem dX12_count_57 : decode cX12_count 57 = .ok (.iconst 0, 1) := by decide +kernel
theorem dX12_count_58 : decode cX12_count 58 = .ok (.istore_n 3, 1) := by decide +kernel
theorem dX12_count_59 : decode cX12_count 59 = .ok (.iload_n 3, 1) := by decide +kernel
theorem dX12_count_60 : decode cX12_count 60 = .ok (.aload_n 0, 1) := by decide +kernel
theorem dX12_count_61 : decode cX12_count 61 = .ok (.getfield 103, 3) := by decide +kernel
theorem dX12_count_64 : decode cX12_count 64 = .ok (.if_icmp .ge 17, 3) := by decide +kernel
theorem dX12_count_67 : decode cX12_count 67 = .ok (.iload_n 2, 1) := by decide +kernel
