theorem dL_minute_406 : decode cL_minute 406 = .ok (.iload 5, 2) := by decide +kernel
theorem dL_minute_408 : decode cL_minute 408 = .ok (.iload 8, 2) := by decide +kernel
theorem dL_minute_410 : decode cL_minute 410 = .ok (.ifCond .eq 7, 3) := by decide +kernel
theorem dL_minute_413 : decode cL_minute 413 = .ok (.iconst 1, 1) := by decide +kernel
theorem dL_minute_414 : decode cL_minute 414 = .ok (.goto 4, 3) := by decide +kernel
theorem dL_minute_417 : decode cL_minute 417 = .ok (.iconst 0, 1) := by decide +kernel
theorem dL_minute_418 : decode cL_minute 418 = .ok (.iadd, 1) := by decide +kernel
theorem dL_minute_419 : decode cL_minute 419 = .ok (.istore 5, 2) := by decide +kernel
theorem dL_minute_421 : decode cL_minute 421 = .ok (.iinc 7 1, 3) := by decide +kernel
theorem dL_minute_424 : decode cL_minute 424 = .ok (.goto (-116), 3) := by decide +kernel
theorem dL_minute_427 : decode cL_minute 427 = .ok (.iconst 0, 1) := by decide +kernel
theorem dL_minute_428 : decode cL_minute 428 = .ok (.istore 7, 2) := by decide +kernel
theorem dL_minute_430 : decode cL_minute 430 = .ok (.iload 7, 2) := by decide +kernel
theorem dL_minute_432 : decode cL_minute 432 = .ok (.aload 4, 2) := by decide +kernel
theorem dL_minute_434 : decode cL_minute 434 = .ok (.iconst 0, 1) := by decide +kernel
theorem dL_minute_435 : decode cL_minute 435 = .ok (.iaload, 1) := by decide +kernel
theorem dL_minute_436 : decode cL_minute 436 = .ok (.if_icmp .ge 117, 3) := by decide +kernel
theorem dL_minute_439 : decode cL_minute 439 = .ok (.aload_n 0, 1) := by decide +kernel
theorem dL_minute_440 : decode cL_minute 440 = .ok (.bipush 8, 2) := by decide +kernel
theorem dL_minute_442 : decode cL_minute 442 = .ok (.iload 7, 2) := by decide +kernel
theorem dL_minute_444 : decode cL_minute 444 = .ok (.imul, 1) := by decide +kernel
theorem dL_minute_445 : decode cL_minute 445 = .ok (.iconst 3, 1) := by decide +kernel
theorem dL_minute_446 : decode cL_minute 446 = .ok (.iadd, 1) := by decide +kernel
theorem dL_minute_447 : decode cL_minute 447 = .ok (.iaload, 1) := by decide +kernel
theorem dL_minute_448 : decode cL_minute 448 = .ok (.iconst 1, 1) := by decide +kernel
theorem dL_minute_449 : decode cL_minute 449 = .ok (.if_icmp .ne 7, 3) := by decide +kernel
theorem dL_minute_452 : decode cL_minute 452 = .ok (.iconst 1, 1) := by decide +kernel
theorem dL_minute_453 : decode cL_minute 453 = .ok (.goto 4, 3) := by decide +kernel
theorem dL_minute_456 : decode cL_minute 456 = .ok (.iconst 0, 1) := by decide +kernel
theorem dL_minute_457 : decode cL_minute 457 = .ok (.istore 8, 2) := by decide +kernel
theorem dL_minute_459 : decode cL_minute 459 = .ok (.aload_n 0, 1) := by decide +kernel
theorem dL_minute_460 : decode cL_minute 460 = .ok (.bipush 8, 2) := by decide +kernel
theorem dL_minute_462 : decode cL_minute 462 = .ok (.iload 7, 2) := by decide +kernel
theorem dL_minute_464 : decode cL_minute 464 = .ok (.imul, 1) := by decide +kernel
theorem dL_minute_465 : decode cL_minute 465 = .ok (.iconst 4, 1) := by decide +kernel
theorem dL_minute_466 : decode cL_minute 466 = .ok (.iadd, 1) := by decide +kernel
theorem dL_minute_467 : decode cL_minute 467 = .ok (.dup2, 1) := by decide +kernel
theorem dL_minute_468 : decode cL_minute 468 = .ok (.iaload, 1) := by decide +kernel
theorem dL_minute_469 : decode cL_minute 469 = .ok (.iload 8, 2) := by decide +kernel
theorem dL_minute_471 : decode cL_minute 471 = .ok (.ifCond .eq 7, 3) := by decide +kernel
theorem dL_minute_474 : decode cL_minute 474 = .ok (.iconst 1, 1) := by decide +kernel
theorem dL_minute_475 : decode cL_minute 475 = .ok (.goto 4, 3) := by decide +kernel
theorem dL_minute_478 : decode cL_minute 478 = .ok (.iconst 0, 1) := by decide +kernel
theorem dL_minute_479 : decode cL_minute 479 = .ok (.isub, 1) := by decide +kernel
theorem dL_minute_480 : decode cL_minute 480 = .ok (.iastore, 1) := by decide +kernel
theorem dL_minute_481 : decode cL_minute 481 = .ok (.iload 8, 2) := by decide +kernel
theorem dL_minute_483 : decode cL_minute 483 = .ok (.ifCond .eq 19, 3) := by decide +kernel
theorem dL_minute_486 : decode cL_minute 486 = .ok (.aload_n 0, 1) := by decide +kernel
theorem dL_minute_487 : decode cL_minute 487 = .ok (.bipush 8, 2) := by decide +kernel
theorem dL_minute_489 : decode cL_minute 489 = .ok (.iload 7, 2) := by decide +kernel
theorem dL_minute_491 : decode cL_minute 491 = .ok (.imul, 1) := by decide +kernel
theorem dL_minute_492 : decode cL_minute 492 = .ok (.iconst 4, 1) := by decide +kernel
theorem dL_minute_493 : decode cL_minute 493 = .ok (.iadd, 1) := by decide +kernel
theorem dL_minute_494 : decode cL_minute 494 = .ok (.iaload, 1) := by decide +kernel
theorem dL_minute_495 : decode cL_minute 495 = .ok (.ifCond .ne 7, 3) := by decide +kernel
theorem dL_minute_498 : decode cL_minute 498 = .ok (.iconst 1, 1) := by decide +kernel
theorem dL_minute_499 : decode cL_minute 499 = .ok (.goto 4, 3) := by decide +kernel
theorem dL_minute_502 : decode cL_minute 502 = .ok (.iconst 0, 1) := by decide +kernel
theorem dL_minute_503 : decode cL_minute 503 = .ok (.istore 9, 2) := by decide +kernel
theorem dL_minute_505 : decode cL_minute 505 = .ok (.aload_n 0, 1) := by decide +kernel
theorem dL_minute_506 : decode cL_minute 506 = .ok (.bipush 8, 2) := by decide +kernel
theorem dL_minute_508 : decode cL_minute 508 = .ok (.iload 7, 2) := by decide +kernel
theorem dL_minute_510 : decode cL_minute 510 = .ok (.imul, 1) := by decide +kernel
theorem dL_minute_511 : decode cL_minute 511 = .ok (.iconst 3, 1) := by decide +kernel
theorem dL_minute_512 : decode cL_minute 512 = .ok (.iadd, 1) := by decide +kernel
theorem dL_minute_513 : decode cL_minute 513 = .ok (.iload 9, 2) := by decide +kernel
theorem dL_minute_515 : decode cL_minute 515 = .ok (.ifCond .eq 7, 3) := by decide +kernel
theorem dL_minute_518 : decode cL_minute 518 = .ok (.iconst 2, 1) := by decide +kernel
theorem dL_minute_519 : decode cL_minute 519 = .ok (.goto 12, 3) := by decide +kernel
theorem dL_minute_522 : decode cL_minute 522 = .ok (.aload_n 0, 1) := by decide +kernel
theorem dL_minute_523 : decode cL_minute 523 = .ok (.bipush 8, 2) := by decide +kernel
theorem dL_minute_525 : decode cL_minute 525 = .ok (.iload 7, 2) := by decide +kernel
theorem dL_minute_527 : decode cL_minute 527 = .ok (.imul, 1) := by decide +kernel
theorem dL_minute_528 : decode cL_minute 528 = .ok (.iconst 3, 1) := by decide +kernel
theorem dL_minute_529 : decode cL_minute 529 = .ok (.iadd, 1) := by decide +kernel
theorem dL_minute_530 : decode cL_minute 530 = .ok (.iaload, 1) := by decide +kernel
theorem dL_minute_531 : decode cL_minute 531 = .ok (.iastore, 1) := by decide +kernel
theorem dL_minute_532 : decode cL_minute 532 = .ok (.iload 5, 2) := by decide +kernel
theorem dL_minute_534 : decode cL_minute 534 = .ok (.iload 9, 2) := by decide +kernel
theorem dL_minute_536 : decode cL_minute 536 = .ok (.ifCond .eq 7, 3) := by decide +kernel
theorem dL_minute_539 : decode cL_minute 539 = .ok (.iconst 1, 1) := by decide +kernel
theorem dL_minute_540 : decode cL_minute 540 = .ok (.goto 4, 3) := by decide +kernel
theorem dL_minute_543 : decode cL_minute 543 = .ok (.iconst 0, 1) := by decide +kernel
theorem dL_minute_544 : decode cL_minute 544 = .ok (.iadd, 1) := by decide +kernel
theorem dL_minute_545 : decode cL_minute 545 = .ok (.istore 5, 2) := by decide +kernel
theorem dL_minute_547 : decode cL_minute 547 = .ok (.iinc 7 1, 3) := by decide +kernel
theorem dL_minute_550 : decode cL_minute 550 = .ok (.goto (-120), 3) := by decide +kernel
theorem dL_minute_553 : decode cL_minute 553 = .ok (.iconst 0, 1) := by decide +kernel
theorem dL_minute_554 : decode cL_minute 554 = .ok (.istore 7, 2) := by decide +kernel
theorem dL_minute_556 : decode cL_minute 556 = .ok (.iload 7, 2) := by decide +kernel
theorem dL_minute_558 : decode cL_minute 558 = .ok (.aload 4, 2) := by decide +kernel
theorem dL_minute_560 : decode cL_minute 560 = .ok (.iconst 0, 1) := by decide +kernel
theorem dL_minute_561 : decode cL_minute 561 = .ok (.iaload, 1) := by decide +kernel
theorem dL_minute_562 : decode cL_minute 562 = .ok (.if_icmp .ge 103, 3) := by decide +kernel
theorem dL_minute_565 : decode cL_minute 565 = .ok (.aload_n 0, 1) := by decide +kernel
theorem dL_minute_566 : decode cL_minute 566 = .ok (.bipush 8, 2) := by decide +kernel
theorem dL_minute_568 : decode cL_minute 568 = .ok (.iload 7, 2) := by decide +kernel
theorem dL_minute_570 : decode cL_minute 570 = .ok (.imul, 1) := by decide +kernel
theorem dL_minute_571 : decode cL_minute 571 = .ok (.iconst 3, 1) := by decide +kernel
theorem dL_minute_572 : decode cL_minute 572 = .ok (.iadd, 1) := by decide +kernel
theorem dL_minute_573 : decode cL_minute 573 = .ok (.iaload, 1) := by decide +kernel
theorem dL_minute_574 : decode cL_minute 574 = .ok (.iconst 1, 1) := by decide +kernel
theorem dL_minute_575 : decode cL_minute 575 = .ok (.if_icmp .ne 21, 3) := by decide +kernel
theorem dL_minute_578 : decode cL_minute 578 = .ok (.aload_n 0, 1) := by decide +kernel
theorem dL_minute_579 : decode cL_minute 579 = .ok (.aload_n 1, 1) := by decide +kernel
theorem dL_minute_580 : decode cL_minute 580 = .ok (.aload 4, 2) := by decide +kernel
theorem dL_minute_582 : decode cL_minute 582 = .ok (.iload 7, 2) := by decide +kernel
theorem dL_minute_584 : decode cL_minute 584 = .ok (.iload 7, 2) := by decide +kernel
theorem dL_minute_586 : decode cL_minute 586 = .ok (.invokestatic 19, 3) := by decide +kernel
theorem dL_minute_589 : decode cL_minute 589 = .ok (.ifCond .eq 7, 3) := by decide +kernel
theorem dL_minute_592 : decode cL_minute 592 = .ok (.iconst 1, 1) := by decide +kernel
theorem dL_minute_593 : decode cL_minute 593 = .ok (.goto 4, 3) := by decide +kernel
theorem dL_minute_596 : decode cL_minute 596 = .ok (.iconst 0, 1) := by decide +kernel
theorem dL_minute_597 : decode cL_minute 597 = .ok (.istore 8, 2) := by decide +kernel
theorem dL_minute_599 : decode cL_minute 599 = .ok (.aload_n 0, 1) := by decide +kernel
theorem dL_minute_600 : decode cL_minute 600 = .ok (.bipush 8, 2) := by decide +kernel
theorem dL_minute_602 : decode cL_minute 602 = .ok (.iload 7, 2) := by decide +kernel
theorem dL_minute_604 : decode cL_minute 604 = .ok (.imul, 1) := by decide +kernel
theorem dL_minute_605 : decode cL_minute 605 = .ok (.iconst 3, 1) := by decide +kernel
theorem dL_minute_606 : decode cL_minute 606 = .ok (.iadd, 1) := by decide +kernel
theorem dL_minute_607 : decode cL_minute 607 = .ok (.iload 8, 2) := by decide +kernel
theorem dL_minute_609 : decode cL_minute 609 = .ok (.ifCond .eq 7, 3) := by decide +kernel
theorem dL_minute_612 : decode cL_minute 612 = .ok (.iconst 0, 1) := by decide +kernel
theorem dL_minute_613 : decode cL_minute 613 = .ok (.goto 12, 3) := by decide +kernel
theorem dL_minute_616 : decode cL_minute 616 = .ok (.aload_n 0, 1) := by decide +kernel
theorem dL_minute_617 : decode cL_minute 617 = .ok (.bipush 8, 2) := by decide +kernel
theorem dL_minute_619 : decode cL_minute 619 = .ok (.iload 7, 2) := by decide +kernel
theorem dL_minute_621 : decode cL_minute 621 = .ok (.imul, 1) := by decide +kernel
theorem dL_minute_622 : decode cL_minute 622 = .ok (.iconst 3, 1) := by decide +kernel
theorem dL_minute_623 : decode cL_minute 623 = .ok (.iadd, 1) := by decide +kernel
theorem dL_minute_624 : decode cL_minute 624 = .ok (.iaload, 1) := by decide +kernel
theorem dL_minute_625 : decode cL_minute 625 = .ok (.iastore, 1) := by decide +kernel
theorem dL_minute_626 : decode cL_minute 626 = .ok (.aload 4, 2) := by decide +kernel
theorem dL_minute_628 : decode cL_minute 628 = .ok (.bipush 7, 2) := by decide +kernel
theorem dL_minute_630 : decode cL_minute 630 = .ok (.dup2, 1) := by decide +kernel
theorem dL_minute_631 : decode cL_minute 631 = .ok (.iaload, 1) := by decide +kernel
theorem dL_minute_632 : decode cL_minute 632 = .ok (.iload 8, 2) := by decide +kernel
theorem dL_minute_634 : decode cL_minute 634 = .ok (.ifCond .eq 7, 3) := by decide +kernel
theorem dL_minute_637 : decode cL_minute 637 = .ok (.iconst 1, 1) := by decide +kernel
theorem dL_minute_638 : decode cL_minute 638 = .ok (.goto 4, 3) := by decide +kernel
theorem dL_minute_641 : decode cL_minute 641 = .ok (.iconst 0, 1) := by decide +kernel
theorem dL_minute_642 : decode cL_minute 642 = .ok (.iadd, 1) := by decide +kernel
theorem dL_minute_643 : decode cL_minute 643 = .ok (.iastore, 1) := by decide +kernel
theorem dL_minute_644 : decode cL_minute 644 = .ok (.iload 5, 2) := by decide +kernel
theorem dL_minute_646 : decode cL_minute 646 = .ok (.iload 8, 2) := by decide +kernel
theorem dL_minute_648 : decode cL_minute 648 = .ok (.ifCond .eq 7, 3) := by decide +kernel
theorem dL_minute_651 : decode cL_minute 651 = .ok (.iconst 1, 1) := by decide +kernel
theorem dL_minute_652 : decode cL_minute 652 = .ok (.goto 4, 3) := by decide +kernel
theorem dL_minute_655 : decode cL_minute 655 = .ok (.iconst 0, 1) := by decide +kernel
theorem dL_minute_656 : decode cL_minute 656 = .ok (.iadd, 1) := by decide +kernel
theorem dL_minute_657 : decode cL_minute 657 = .ok (.istore 5, 2) := by decide +kernel
theorem dL_minute_659 : decode cL_minute 659 = .ok (.iinc 7 1, 3) := by decide +kernel
theorem dL_minute_662 : decode cL_minute 662 = .ok (.goto (-106), 3) := by decide +kernel
theorem dL_minute_665 : decode cL_minute 665 = .ok (.iload 5, 2) := by decide +kernel
theorem dL_minute_667 : decode cL_minute 667 = .ok (.ireturn, 1) := by decide +kernel
theorem dL_likeness_0 : decode cL_likeness 0 = .ok (.bipush 10, 2) := by decide +kernel
theorem dL_likeness_2 : decode cL_likeness 2 = .ok (.istore 4, 2) := by decide +kernel
theorem dL_likeness_4 : decode cL_likeness 4 = .ok (.iload_n 3, 1) := by decide +kernel
theorem dL_likeness_5 : decode cL_likeness 5 = .ok (.istore 5, 2) := by decide +kernel
theorem dL_likeness_7 : decode cL_likeness 7 = .ok (.iconst 0, 1) := by decide +kernel
theorem dL_likeness_8 : decode cL_likeness 8 = .ok (.istore 6, 2) := by decide +kernel
theorem dL_likeness_10 : decode cL_likeness 10 = .ok (.iload 6, 2) := by decide +kernel
theorem dL_likeness_12 : decode cL_likeness 12 = .ok (.aload_n 1, 1) := by decide +kernel
theorem dL_likeness_13 : decode cL_likeness 13 = .ok (.iconst 0, 1) := by decide +kernel
theorem dL_likeness_14 : decode cL_likeness 14 = .ok (.iaload, 1) := by decide +kernel
theorem dL_likeness_15 : decode cL_likeness 15 = .ok (.if_icmp .ge 56, 3) := by decide +kernel
theorem dL_likeness_18 : decode cL_likeness 18 = .ok (.iload 5, 2) := by decide +kernel
theorem dL_likeness_20 : decode cL_likeness 20 = .ok (.aload_n 0, 1) := by decide +kernel
theorem dL_likeness_21 : decode cL_likeness 21 = .ok (.bipush 8, 2) := by decide +kernel
theorem dL_likeness_23 : decode cL_likeness 23 = .ok (.iload 6, 2) := by decide +kernel
theorem dL_likeness_25 : decode cL_likeness 25 = .ok (.imul, 1) := by decide +kernel
theorem dL_likeness_26 : decode cL_likeness 26 = .ok (.iconst 5, 1) := by decide +kernel
theorem dL_likeness_27 : decode cL_likeness 27 = .ok (.iadd, 1) := by decide +kernel
theorem dL_likeness_28 : decode cL_likeness 28 = .ok (.iaload, 1) := by decide +kernel
theorem dL_likeness_29 : decode cL_likeness 29 = .ok (.iload_n 2, 1) := by decide +kernel
theorem dL_likeness_30 : decode cL_likeness 30 = .ok (.if_icmp .ne 31, 3) := by decide +kernel
theorem dL_likeness_33 : decode cL_likeness 33 = .ok (.aload_n 0, 1) := by decide +kernel
theorem dL_likeness_34 : decode cL_likeness 34 = .ok (.bipush 8, 2) := by decide +kernel
theorem dL_likeness_36 : decode cL_likeness 36 = .ok (.iload 6, 2) := by decide +kernel
theorem dL_likeness_38 : decode cL_likeness 38 = .ok (.imul, 1) := by decide +kernel
theorem dL_likeness_39 : decode cL_likeness 39 = .ok (.iconst 3, 1) := by decide +kernel
theorem dL_likeness_40 : decode cL_likeness 40 = .ok (.iadd, 1) := by decide +kernel
theorem dL_likeness_41 : decode cL_likeness 41 = .ok (.iaload, 1) := by decide +kernel
theorem dL_likeness_42 : decode cL_likeness 42 = .ok (.iconst 1, 1) := by decide +kernel
theorem dL_likeness_43 : decode cL_likeness 43 = .ok (.if_icmp .ne 18, 3) := by decide +kernel
theorem dL_likeness_46 : decode cL_likeness 46 = .ok (.iconst 1, 1) := by decide +kernel
theorem dL_likeness_47 : decode cL_likeness 47 = .ok (.aload_n 0, 1) := by decide +kernel
theorem dL_likeness_48 : decode cL_likeness 48 = .ok (.bipush 8, 2) := by decide +kernel
theorem dL_likeness_50 : decode cL_likeness 50 = .ok (.iload 6, 2) := by decide +kernel
theorem dL_likeness_52 : decode cL_likeness 52 = .ok (.imul, 1) := by decide +kernel
theorem dL_likeness_53 : decode cL_likeness 53 = .ok (.bipush 6, 2) := by decide +kernel
theorem dL_likeness_55 : decode cL_likeness 55 = .ok (.iadd, 1) := by decide +kernel
theorem dL_likeness_56 : decode cL_likeness 56 = .ok (.iaload, 1) := by decide +kernel
theorem dL_likeness_57 : decode cL_likeness 57 = .ok (.ishl, 1) := by decide +kernel
theorem dL_likeness_58 : decode cL_likeness 58 = .ok (.goto 4, 3) := by decide +kernel
theorem dL_likeness_61 : decode cL_likeness 61 = .ok (.iconst 0, 1) := by decide +kernel
theorem dL_likeness_62 : decode cL_likeness 62 = .ok (.ixor, 1) := by decide +kernel
theorem dL_likeness_63 : decode cL_likeness 63 = .ok (.istore 5, 2) := by decide +kernel
theorem dL_likeness_65 : decode cL_likeness 65 = .ok (.iinc 6 1, 3) := by decide +kernel
theorem dL_likeness_68 : decode cL_likeness 68 = .ok (.goto (-58), 3) := by decide +kernel
theorem dL_likeness_71 : decode cL_likeness 71 = .ok (.iload 5, 2) := by decide +kernel
theorem dL_likeness_73 : decode cL_likeness 73 = .ok (.istore 6, 2) := by decide +kernel
theorem dL_likeness_75 : decode cL_likeness 75 = .ok (.iload 6, 2) := by decide +kernel
theorem dL_likeness_77 : decode cL_likeness 77 = .ok (.ifCond .eq 18, 3) := by decide +kernel
theorem dL_likeness_80 : decode cL_likeness 80 = .ok (.iinc 4 (-1), 3) := by decide +kernel
theorem dL_likeness_83 : decode cL_likeness 83 = .ok (.iload 6, 2) := by decide +kernel
theorem dL_likeness_85 : decode cL_likeness 85 = .ok (.iload 6, 2) := by decide +kernel
theorem dL_likeness_87 : decode cL_likeness 87 = .ok (.iconst 1, 1) := by decide +kernel
theorem dL_likeness_88 : decode cL_likeness 88 = .ok (.isub, 1) := by decide +kernel
theorem dL_likeness_89 : decode cL_likeness 89 = .ok (.iand, 1) := by decide +kernel
theorem dL_likeness_90 : decode cL_likeness 90 = .ok (.istore 6, 2) := by decide +kernel
theorem dL_likeness_92 : decode cL_likeness 92 = .ok (.goto (-17), 3) := by decide +kernel
theorem dL_likeness_95 : decode cL_likeness 95 = .ok (.iload 4, 2) := by decide +kernel
theorem dL_likeness_97 : decode cL_likeness 97 = .ok (.ireturn, 1) := by decide +kernel
set_option maxRecDepth 20000 in
theorem ggL_isTold_X2_time : GoodIn wsL_isTold wsX2_time := goodIn_r _ [5, 6, 155, 156, 157, 158, 159, 160, 161, 162, 163, 164, 165, 166] (by decide +kernel) (by decide +kernel)
set_option maxRecDepth 20000 in
theorem gL_isTold_X2_time : GoodIn wsL_isTold (wsV RL 23 RX2 yX2_time wsX2_time) := goodIn_app (goodIn_of _ (by decide +kernel)) ggL_isTold_X2_time
set_option maxRecDepth 20000 in
theorem ggL_isTold_X2_lanterns : GoodIn wsL_isTold wsX2_lanterns := goodIn_r _ [10, 11, 155, 156, 157, 158, 159, 160, 161, 162, 163, 164, 165, 166] (by decide +kernel) (by decide +kernel)
set_option maxRecDepth 20000 in
theorem gL_isTold_X2_lanterns : GoodIn wsL_isTold (wsV RL 29 RX2 yX2_lanterns wsX2_lanterns) := goodIn_app (goodIn_of _ (by decide +kernel)) ggL_isTold_X2_lanterns
set_option maxRecDepth 20000 in
theorem ggL_isTold_X2_blownOut : GoodIn wsL_isTold wsX2_blownOut := goodIn_r _ [15, 16, 155, 156, 157, 158, 159, 160, 161, 162, 163, 164, 165, 166] (by decide +kernel) (by decide +kernel)
set_option maxRecDepth 20000 in
theorem gL_isTold_X2_blownOut : GoodIn wsL_isTold (wsV RL 32 RX2 yX2_blownOut wsX2_blownOut) := goodIn_app (goodIn_of _ (by decide +kernel)) ggL_isTold_X2_blownOut
set_option maxRecDepth 20000 in
theorem ggL_isTold_X2_ordered : GoodIn wsL_isTold wsX2_ordered := goodIn_r _ [20, 21, 155, 156, 157, 158, 159, 160, 161, 162, 163, 164, 165, 166] (by decide +kernel) (by decide +kernel)
set_option maxRecDepth 20000 in
theorem gL_isTold_X2_ordered : GoodIn wsL_isTold (wsV RL 35 RX2 yX2_ordered wsX2_ordered) := goodIn_app (goodIn_of _ (by decide +kernel)) ggL_isTold_X2_ordered
set_option maxRecDepth 20000 in
theorem ggL_isTold_L_place : GoodIn wsL_isTold wsL_place := goodIn_r _ [25] (by decide +kernel) (by decide +kernel)
set_option maxRecDepth 20000 in
theorem gL_isTold_L_place : GoodIn wsL_isTold (va_wsS RL 9 yL_place wsL_place) := goodIn_app (goodIn_of _ (by decide +kernel)) ggL_isTold_L_place
set_option maxRecDepth 20000 in
theorem ggL_isTold_L_apart : GoodIn wsL_isTold wsL_apart := goodIn_r _ [28, 22, 23, 24, 25] (by decide +kernel) (by decide +kernel)
set_option maxRecDepth 20000 in
theorem gL_isTold_L_apart : GoodIn wsL_isTold (va_wsS RL 15 yL_apart wsL_apart) := goodIn_app (goodIn_of _ (by decide +kernel)) ggL_isTold_L_apart
set_option maxRecDepth 20000 in
theorem ggL_isTold_X2_stateOf : GoodIn wsL_isTold wsX2_stateOf := goodIn_ca (goodIn_r _ [32, 33, 34, 35, 36, 4, 37, 38, 39, 40, 41, 42, 43, 167, 168, 169, 170, 171, 172, 173, 155, 156, 157, 158, 159, 160, 161, 162, 163, 164, 165, 166] (by decide +kernel) (by decide +kernel)) (goodIn_sub (fun _ h => List.mem_cons_of_mem _ (List.mem_append_left _ (List.mem_append_right _ h))) (by decide +kernel))
set_option maxRecDepth 20000 in
theorem gL_isTold_X2_stateOf : GoodIn wsL_isTold (wsV RL 38 RX2 yX2_stateOf wsX2_stateOf) := goodIn_app (goodIn_of _ (by decide +kernel)) ggL_isTold_X2_stateOf
set_option maxRecDepth 20000 in
theorem ggL_isTold_X2_left : GoodIn wsL_isTold wsX2_left := goodIn_ca (goodIn_r _ [47, 48, 34, 35, 36, 4, 37, 38, 39, 40, 41, 42, 43, 167, 168, 169, 170, 171, 172, 173, 155, 156, 157, 158, 159, 160, 161, 162, 163, 164, 165, 166] (by decide +kernel) (by decide +kernel)) (goodIn_sub (fun _ h => List.mem_cons_of_mem _ (List.mem_append_left _ (List.mem_append_right _ h))) (by decide +kernel))
set_option maxRecDepth 20000 in
theorem gL_isTold_X2_left : GoodIn wsL_isTold (wsV RL 42 RX2 yX2_left wsX2_left) := goodIn_app (goodIn_of _ (by decide +kernel)) ggL_isTold_X2_left
set_option maxRecDepth 20000 in
theorem ggL_isTold_X2_placeOf : GoodIn wsL_isTold wsX2_placeOf := goodIn_ca (goodIn_r _ [52, 34, 35, 36, 4, 37, 38, 39, 40, 41, 42, 43, 53, 54, 55, 56, 57, 58, 59, 60, 61, 155, 156, 157, 158, 159, 160, 161, 162, 163, 164, 165, 166, 167, 168, 169, 170, 171, 172, 173, 174, 175, 176, 177, 178, 179, 180] (by decide +kernel) (by decide +kernel)) (goodIn_sub (fun _ h => List.mem_cons_of_mem _ (List.mem_append_left _ (List.mem_append_right _ h))) (by decide +kernel))
set_option maxRecDepth 20000 in
theorem gL_isTold_X2_placeOf : GoodIn wsL_isTold (wsV RL 45 RX2 yX2_placeOf wsX2_placeOf) := goodIn_app (goodIn_of _ (by decide +kernel)) ggL_isTold_X2_placeOf
set_option maxRecDepth 20000 in
theorem ggL_isTold_X2_nearest : GoodIn wsL_isTold wsX2_nearest := goodIn_ca (goodIn_r _ [65, 66, 67, 68, 34, 35, 36, 4, 37, 38, 39, 40, 41, 42, 43, 69, 70, 71, 72, 73, 74, 75, 76, 77, 78, 56, 79, 80, 54, 55, 57, 58, 59, 60, 61, 81, 82, 83, 84, 85, 86, 87, 88, 89, 90, 91, 92, 93, 94, 95, 96, 97, 98, 99, 167, 168, 169, 170, 171, 172, 173, 174, 175, 176, 177, 178, 179, 180, 155, 156, 157, 158, 159, 160, 161, 162, 163, 164, 165, 166] (by decide +kernel) (by decide +kernel)) (goodIn_sub (fun _ h => List.mem_cons_of_mem _ (List.mem_append_left _ (List.mem_append_right _ h))) (by decide +kernel))
set_option maxRecDepth 20000 in
theorem gL_isTold_X2_nearest : GoodIn wsL_isTold (wsV RL 48 RX2 yX2_nearest wsX2_nearest) := goodIn_app (goodIn_of _ (by decide +kernel)) ggL_isTold_X2_nearest
set_option maxRecDepth 20000 in
theorem ggL_isTold_X2_nearestOfAll : GoodIn wsL_isTold wsX2_nearestOfAll := goodIn_ca (goodIn_r _ [103, 40, 33, 34, 35, 36, 4, 37, 38, 39, 41, 42, 43, 53, 54, 55, 56, 57, 58, 59, 60, 61, 104, 77, 78, 79, 80, 99, 81, 82, 83, 84, 85, 86, 87, 88, 89, 155, 156, 157, 158, 159, 160, 161, 162, 163, 164, 165, 166, 167, 168, 169, 170, 171, 172, 173, 174, 175, 176, 177, 178, 179, 180] (by decide +kernel) (by decide +kernel)) (goodIn_sub (fun _ h => List.mem_cons_of_mem _ (List.mem_append_left _ (List.mem_append_right _ h))) (by decide +kernel))
set_option maxRecDepth 20000 in
theorem gL_isTold_X2_nearestOfAll : GoodIn wsL_isTold (wsV RL 51 RX2 yX2_nearestOfAll wsX2_nearestOfAll) := goodIn_app (goodIn_of _ (by decide +kernel)) ggL_isTold_X2_nearestOfAll
set_option maxRecDepth 20000 in
theorem ggL_isTold_X2_sortOf : GoodIn wsL_isTold wsX2_sortOf := goodIn_ca (goodIn_r _ [108, 67, 109, 110, 111, 4, 112, 38, 39, 113, 41, 42, 43, 174, 175, 176, 177, 178, 179, 180, 155, 156, 157, 158, 159, 160, 161, 162, 163, 164, 165, 166] (by decide +kernel) (by decide +kernel)) (goodIn_sub (fun _ h => List.mem_cons_of_mem _ (List.mem_append_left _ (List.mem_append_right _ h))) (by decide +kernel))
set_option maxRecDepth 20000 in
theorem gL_isTold_X2_sortOf : GoodIn wsL_isTold (wsV RL 54 RX2 yX2_sortOf wsX2_sortOf) := goodIn_app (goodIn_of _ (by decide +kernel)) ggL_isTold_X2_sortOf
set_option maxRecDepth 20000 in
theorem ggL_isTold_X2_front : GoodIn wsL_isTold wsX2_front := goodIn_ca (goodIn_r _ [117, 67, 118, 109, 110, 111, 4, 112, 38, 39, 113, 41, 42, 43, 174, 175, 176, 177, 178, 179, 180, 155, 156, 157, 158, 159, 160, 161, 162, 163, 164, 165, 166] (by decide +kernel) (by decide +kernel)) (goodIn_sub (fun _ h => List.mem_cons_of_mem _ (List.mem_append_left _ (List.mem_append_right _ h))) (by decide +kernel))
set_option maxRecDepth 20000 in
theorem gL_isTold_X2_front : GoodIn wsL_isTold (wsV RL 57 RX2 yX2_front wsX2_front) := goodIn_app (goodIn_of _ (by decide +kernel)) ggL_isTold_X2_front
set_option maxRecDepth 20000 in
theorem ggL_isTold_X2_load : GoodIn wsL_isTold wsX2_load := goodIn_ca (goodIn_r _ [122, 109, 110, 111, 4, 112, 38, 39, 113, 41, 42, 43, 123, 124, 125, 72, 126, 74, 127, 128, 129, 56, 130, 131, 132, 133, 155, 156, 157, 158, 159, 160, 161, 162, 163, 164, 165, 166, 174, 175, 176, 177, 178, 179, 180, 167, 168, 169, 170, 171, 172, 173] (by decide +kernel) (by decide +kernel)) (goodIn_sub (fun _ h => List.mem_cons_of_mem _ (List.mem_append_left _ (List.mem_append_right _ h))) (by decide +kernel))
set_option maxRecDepth 20000 in
theorem gL_isTold_X2_load : GoodIn wsL_isTold (wsV RL 60 RX2 yX2_load wsX2_load) := goodIn_app (goodIn_of _ (by decide +kernel)) ggL_isTold_X2_load
set_option maxRecDepth 20000 in
theorem ggL_isTold_L_load : GoodIn wsL_isTold wsL_load := goodIn_r _ [136] (by decide +kernel) (by decide +kernel)
set_option maxRecDepth 20000 in
theorem gL_isTold_L_load : GoodIn wsL_isTold (va_wsS RL 63 yL_load wsL_load) := goodIn_app (goodIn_of _ (by decide +kernel)) ggL_isTold_L_load
set_option maxRecDepth 20000 in
theorem ggL_isTold_X2_likeness : GoodIn wsL_isTold wsX2_likeness := goodIn_ca (goodIn_ca (goodIn_r _ [140, 141, 142, 109, 110, 111, 4, 112, 38, 39, 113, 41, 42, 43, 143, 144, 145, 72, 146, 74, 75, 155, 156, 157, 158, 159, 160, 161, 162, 163, 164, 165, 166, 174, 175, 176, 177, 178, 179, 180, 167, 168, 169, 170, 171, 172, 173] (by decide +kernel) (by decide +kernel)) (goodIn_sub (fun _ h => List.mem_cons_of_mem _ (List.mem_append_right _ h)) (by decide +kernel))) (goodIn_sub (fun _ h => List.mem_cons_of_mem _ (List.mem_append_left _ (List.mem_append_right _ h))) (by decide +kernel))
set_option maxRecDepth 20000 in
theorem gL_isTold_X2_likeness : GoodIn wsL_isTold (wsV RL 65 RX2 yX2_likeness wsX2_likeness) := goodIn_app (goodIn_of _ (by decide +kernel)) ggL_isTold_X2_likeness
set_option maxRecDepth 20000 in
theorem ggL_isTold_L_likeness : GoodIn wsL_isTold wsL_likeness := goodIn_r _ [149] (by decide +kernel) (by decide +kernel)
set_option maxRecDepth 20000 in
theorem gL_isTold_L_likeness : GoodIn wsL_isTold (va_wsS RL 69 yL_likeness wsL_likeness) := goodIn_app (goodIn_of _ (by decide +kernel)) ggL_isTold_L_likeness
set_option maxRecDepth 20000 in
theorem ggL_isTold_X2_prize : GoodIn wsL_isTold wsX2_prize := goodIn_ca (goodIn_r _ [153, 141, 142, 94, 67, 154, 41, 42, 4, 43, 143, 144, 145, 72, 146, 74, 75, 155, 156, 157, 158, 159, 160, 161, 162, 163, 164, 165, 166, 174, 175, 176, 177, 178, 179, 180, 167, 168, 169, 170, 171, 172, 173] (by decide +kernel) (by decide +kernel)) (goodIn_sub (fun _ h => List.mem_cons_of_mem _ (List.mem_append_right _ h)) (by decide +kernel))
set_option maxRecDepth 20000 in
theorem gL_isTold_X2_prize : GoodIn wsL_isTold (wsV RL 71 RX2 yX2_prize wsX2_prize) := goodIn_app (goodIn_of _ (by decide +kernel)) ggL_isTold_X2_prize
theorem dL_isTold_0 : decode cL_isTold 0 = .ok (.iconst (-1), 1) := by decide +kernel
theorem dL_isTold_1 : decode cL_isTold 1 = .ok (.istore 6, 2) := by decide +kernel
theorem dL_isTold_3 : decode cL_isTold 3 = .ok (.aload_n 0, 1) := by decide +kernel
theorem dL_isTold_4 : decode cL_isTold 4 = .ok (.invokevirtual 23, 3) := by decide +kernel
theorem dL_isTold_7 : decode cL_isTold 7 = .ok (.aload 4, 2) := by decide +kernel
theorem dL_isTold_9 : decode cL_isTold 9 = .ok (.iconst 5, 1) := by decide +kernel
theorem dL_isTold_10 : decode cL_isTold 10 = .ok (.iaload, 1) := by decide +kernel
theorem dL_isTold_11 : decode cL_isTold 11 = .ok (.if_icmp .ne 42, 3) := by decide +kernel
theorem dL_isTold_14 : decode cL_isTold 14 = .ok (.aload_n 0, 1) := by decide +kernel
theorem dL_isTold_15 : decode cL_isTold 15 = .ok (.invokevirtual 29, 3) := by decide +kernel
theorem dL_isTold_18 : decode cL_isTold 18 = .ok (.aload 4, 2) := by decide +kernel
theorem dL_isTold_20 : decode cL_isTold 20 = .ok (.iconst 0, 1) := by decide +kernel
theorem dL_isTold_21 : decode cL_isTold 21 = .ok (.iaload, 1) := by decide +kernel
theorem dL_isTold_22 : decode cL_isTold 22 = .ok (.if_icmp .ne 31, 3) := by decide +kernel
theorem dL_isTold_25 : decode cL_isTold 25 = .ok (.aload_n 0, 1) := by decide +kernel
theorem dL_isTold_26 : decode cL_isTold 26 = .ok (.invokevirtual 32, 3) := by decide +kernel
theorem dL_isTold_29 : decode cL_isTold 29 = .ok (.aload 4, 2) := by decide +kernel
theorem dL_isTold_31 : decode cL_isTold 31 = .ok (.bipush 6, 2) := by decide +kernel
theorem dL_isTold_33 : decode cL_isTold 33 = .ok (.iaload, 1) := by decide +kernel
theorem dL_isTold_34 : decode cL_isTold 34 = .ok (.if_icmp .ne 19, 3) := by decide +kernel
theorem dL_isTold_37 : decode cL_isTold 37 = .ok (.aload_n 0, 1) := by decide +kernel
theorem dL_isTold_38 : decode cL_isTold 38 = .ok (.invokevirtual 35, 3) := by decide +kernel
theorem dL_isTold_41 : decode cL_isTold 41 = .ok (.aload 4, 2) := by decide +kernel
theorem dL_isTold_43 : decode cL_isTold 43 = .ok (.bipush 7, 2) := by decide +kernel
theorem dL_isTold_45 : decode cL_isTold 45 = .ok (.iaload, 1) := by decide +kernel
theorem dL_isTold_46 : decode cL_isTold 46 = .ok (.if_icmp .ne 7, 3) := by decide +kernel
theorem dL_isTold_49 : decode cL_isTold 49 = .ok (.iconst 1, 1) := by decide +kernel
theorem dL_isTold_50 : decode cL_isTold 50 = .ok (.goto 4, 3) := by decide +kernel
theorem dL_isTold_53 : decode cL_isTold 53 = .ok (.iconst 0, 1) := by decide +kernel
theorem dL_isTold_54 : decode cL_isTold 54 = .ok (.istore 7, 2) := by decide +kernel
theorem dL_isTold_56 : decode cL_isTold 56 = .ok (.iconst 0, 1) := by decide +kernel
theorem dL_isTold_57 : decode cL_isTold 57 = .ok (.istore 8, 2) := by decide +kernel
theorem dL_isTold_59 : decode cL_isTold 59 = .ok (.iload 8, 2) := by decide +kernel
theorem dL_isTold_61 : decode cL_isTold 61 = .ok (.aload 4, 2) := by decide +kernel
theorem dL_isTold_63 : decode cL_isTold 63 = .ok (.iconst 0, 1) := by decide +kernel
theorem dL_isTold_64 : decode cL_isTold 64 = .ok (.iaload, 1) := by decide +kernel
theorem dL_isTold_65 : decode cL_isTold 65 = .ok (.if_icmp .ge 195, 3) := by decide +kernel
theorem dL_isTold_68 : decode cL_isTold 68 = .ok (.iload 7, 2) := by decide +kernel
theorem dL_isTold_70 : decode cL_isTold 70 = .ok (.ifCond .eq 190, 3) := by decide +kernel
theorem dL_isTold_73 : decode cL_isTold 73 = .ok (.aload_n 1, 1) := by decide +kernel
theorem dL_isTold_74 : decode cL_isTold 74 = .ok (.aload_n 2, 1) := by decide +kernel
theorem dL_isTold_75 : decode cL_isTold 75 = .ok (.iload 8, 2) := by decide +kernel
theorem dL_isTold_77 : decode cL_isTold 77 = .ok (.invokestatic 9, 3) := by decide +kernel
theorem dL_isTold_80 : decode cL_isTold 80 = .ok (.istore 9, 2) := by decide +kernel
theorem dL_isTold_82 : decode cL_isTold 82 = .ok (.iconst (-1), 1) := by decide +kernel
theorem dL_isTold_83 : decode cL_isTold 83 = .ok (.istore 10, 2) := by decide +kernel
theorem dL_isTold_85 : decode cL_isTold 85 = .ok (.iconst 0, 1) := by decide +kernel
theorem dL_isTold_86 : decode cL_isTold 86 = .ok (.istore 11, 2) := by decide +kernel
theorem dL_isTold_88 : decode cL_isTold 88 = .ok (.iload 11, 2) := by decide +kernel
theorem dL_isTold_90 : decode cL_isTold 90 = .ok (.aload 4, 2) := by decide +kernel
theorem dL_isTold_92 : decode cL_isTold 92 = .ok (.iconst 0, 1) := by decide +kernel
theorem dL_isTold_93 : decode cL_isTold 93 = .ok (.iaload, 1) := by decide +kernel
theorem dL_isTold_94 : decode cL_isTold 94 = .ok (.if_icmp .ge 75, 3) := by decide +kernel
theorem dL_isTold_97 : decode cL_isTold 97 = .ok (.iload 9, 2) := by decide +kernel
theorem dL_isTold_99 : decode cL_isTold 99 = .ok (.ifCond .lt 70, 3) := by decide +kernel
theorem dL_isTold_102 : decode cL_isTold 102 = .ok (.iload 11, 2) := by decide +kernel
theorem dL_isTold_104 : decode cL_isTold 104 = .ok (.iload 8, 2) := by decide +kernel
theorem dL_isTold_106 : decode cL_isTold 106 = .ok (.if_icmp .eq 16, 3) := by decide +kernel
theorem dL_isTold_109 : decode cL_isTold 109 = .ok (.aload_n 1, 1) := by decide +kernel
theorem dL_isTold_110 : decode cL_isTold 110 = .ok (.bipush 8, 2) := by decide +kernel
theorem dL_isTold_112 : decode cL_isTold 112 = .ok (.iload 11, 2) := by decide +kernel
theorem dL_isTold_114 : decode cL_isTold 114 = .ok (.imul, 1) := by decide +kernel
theorem dL_isTold_115 : decode cL_isTold 115 = .ok (.iconst 3, 1) := by decide +kernel
theorem dL_isTold_116 : decode cL_isTold 116 = .ok (.iadd, 1) := by decide +kernel
theorem dL_isTold_117 : decode cL_isTold 117 = .ok (.iaload, 1) := by decide +kernel
theorem dL_isTold_118 : decode cL_isTold 118 = .ok (.iconst 1, 1) := by decide +kernel
theorem dL_isTold_119 : decode cL_isTold 119 = .ok (.if_icmp .eq 7, 3) := by decide +kernel
theorem dL_isTold_122 : decode cL_isTold 122 = .ok (.iconst (-1), 1) := by decide +kernel
theorem dL_isTold_123 : decode cL_isTold 123 = .ok (.goto 12, 3) := by decide +kernel
theorem dL_isTold_126 : decode cL_isTold 126 = .ok (.aload_n 1, 1) := by decide +kernel
theorem dL_isTold_127 : decode cL_isTold 127 = .ok (.aload_n 2, 1) := by decide +kernel
theorem dL_isTold_128 : decode cL_isTold 128 = .ok (.iload 11, 2) := by decide +kernel
theorem dL_isTold_130 : decode cL_isTold 130 = .ok (.iload 8, 2) := by decide +kernel
theorem dL_isTold_132 : decode cL_isTold 132 = .ok (.invokestatic 15, 3) := by decide +kernel
theorem dL_isTold_135 : decode cL_isTold 135 = .ok (.istore 12, 2) := by decide +kernel
theorem dL_isTold_137 : decode cL_isTold 137 = .ok (.iload 12, 2) := by decide +kernel
theorem dL_isTold_139 : decode cL_isTold 139 = .ok (.ifCond .lt 20, 3) := by decide +kernel
theorem dL_isTold_142 : decode cL_isTold 142 = .ok (.iload 10, 2) := by decide +kernel
theorem dL_isTold_144 : decode cL_isTold 144 = .ok (.ifCond .lt 10, 3) := by decide +kernel
theorem dL_isTold_147 : decode cL_isTold 147 = .ok (.iload 12, 2) := by decide +kernel
theorem dL_isTold_149 : decode cL_isTold 149 = .ok (.iload 10, 2) := by decide +kernel
theorem dL_isTold_151 : decode cL_isTold 151 = .ok (.if_icmp .ge 8, 3) := by decide +kernel
theorem dL_isTold_154 : decode cL_isTold 154 = .ok (.iload 12, 2) := by decide +kernel
theorem dL_isTold_156 : decode cL_isTold 156 = .ok (.goto 5, 3) := by decide +kernel
theorem dL_isTold_159 : decode cL_isTold 159 = .ok (.iload 10, 2) := by decide +kernel
theorem dL_isTold_161 : decode cL_isTold 161 = .ok (.istore 10, 2) := by decide +kernel
theorem dL_isTold_163 : decode cL_isTold 163 = .ok (.iinc 11 1, 3) := by decide +kernel
theorem dL_isTold_166 : decode cL_isTold 166 = .ok (.goto (-78), 3) := by decide +kernel
theorem dL_isTold_169 : decode cL_isTold 169 = .ok (.aload_n 0, 1) := by decide +kernel
theorem dL_isTold_170 : decode cL_isTold 170 = .ok (.iload 8, 2) := by decide +kernel
theorem dL_isTold_172 : decode cL_isTold 172 = .ok (.invokevirtual 38, 3) := by decide +kernel
theorem dL_isTold_175 : decode cL_isTold 175 = .ok (.aload_n 1, 1) := by decide +kernel
theorem dL_isTold_176 : decode cL_isTold 176 = .ok (.bipush 8, 2) := by decide +kernel
theorem dL_isTold_178 : decode cL_isTold 178 = .ok (.iload 8, 2) := by decide +kernel
theorem dL_isTold_180 : decode cL_isTold 180 = .ok (.imul, 1) := by decide +kernel
theorem dL_isTold_181 : decode cL_isTold 181 = .ok (.iconst 3, 1) := by decide +kernel
theorem dL_isTold_182 : decode cL_isTold 182 = .ok (.iadd, 1) := by decide +kernel
theorem dL_isTold_183 : decode cL_isTold 183 = .ok (.iaload, 1) := by decide +kernel
theorem dL_isTold_184 : decode cL_isTold 184 = .ok (.if_icmp .ne 67, 3) := by decide +kernel
theorem dL_isTold_187 : decode cL_isTold 187 = .ok (.aload_n 0, 1) := by decide +kernel
theorem dL_isTold_188 : decode cL_isTold 188 = .ok (.iload 8, 2) := by decide +kernel
theorem dL_isTold_190 : decode cL_isTold 190 = .ok (.invokevirtual 42, 3) := by decide +kernel
theorem dL_isTold_193 : decode cL_isTold 193 = .ok (.aload_n 1, 1) := by decide +kernel
theorem dL_isTold_194 : decode cL_isTold 194 = .ok (.bipush 8, 2) := by decide +kernel
theorem dL_isTold_196 : decode cL_isTold 196 = .ok (.iload 8, 2) := by decide +kernel
theorem dL_isTold_198 : decode cL_isTold 198 = .ok (.imul, 1) := by decide +kernel
theorem dL_isTold_199 : decode cL_isTold 199 = .ok (.iconst 4, 1) := by decide +kernel
theorem dL_isTold_200 : decode cL_isTold 200 = .ok (.iadd, 1) := by decide +kernel
theorem dL_isTold_201 : decode cL_isTold 201 = .ok (.iaload, 1) := by decide +kernel
theorem dL_isTold_202 : decode cL_isTold 202 = .ok (.if_icmp .ne 49, 3) := by decide +kernel
theorem dL_isTold_205 : decode cL_isTold 205 = .ok (.aload_n 0, 1) := by decide +kernel
theorem dL_isTold_206 : decode cL_isTold 206 = .ok (.iload 8, 2) := by decide +kernel
theorem dL_isTold_208 : decode cL_isTold 208 = .ok (.invokevirtual 45, 3) := by decide +kernel
theorem dL_isTold_211 : decode cL_isTold 211 = .ok (.iload 9, 2) := by decide +kernel
theorem dL_isTold_213 : decode cL_isTold 213 = .ok (.ifCond .ge 7, 3) := by decide +kernel
theorem dL_isTold_216 : decode cL_isTold 216 = .ok (.iconst (-1), 1) := by decide +kernel
theorem dL_isTold_217 : decode cL_isTold 217 = .ok (.goto 5, 3) := by decide +kernel
theorem dL_isTold_220 : decode cL_isTold 220 = .ok (.iload 9, 2) := by decide +kernel
theorem dL_isTold_222 : decode cL_isTold 222 = .ok (.if_icmp .ne 29, 3) := by decide +kernel
theorem dL_isTold_225 : decode cL_isTold 225 = .ok (.aload_n 0, 1) := by decide +kernel
theorem dL_isTold_226 : decode cL_isTold 226 = .ok (.iload 8, 2) := by decide +kernel
theorem dL_isTold_228 : decode cL_isTold 228 = .ok (.invokevirtual 48, 3) := by decide +kernel
theorem dL_isTold_231 : decode cL_isTold 231 = .ok (.iload 10, 2) := by decide +kernel
theorem dL_isTold_233 : decode cL_isTold 233 = .ok (.if_icmp .ne 18, 3) := by decide +kernel
theorem dL_isTold_236 : decode cL_isTold 236 = .ok (.aload_n 0, 1) := by decide +kernel
theorem dL_isTold_237 : decode cL_isTold 237 = .ok (.iload 8, 2) := by decide +kernel
theorem dL_isTold_239 : decode cL_isTold 239 = .ok (.invokevirtual 51, 3) := by decide +kernel
theorem dL_isTold_242 : decode cL_isTold 242 = .ok (.iload 10, 2) := by decide +kernel
theorem dL_isTold_244 : decode cL_isTold 244 = .ok (.if_icmp .ne 7, 3) := by decide +kernel
theorem dL_isTold_247 : decode cL_isTold 247 = .ok (.iconst 1, 1) := by decide +kernel
theorem dL_isTold_248 : decode cL_isTold 248 = .ok (.goto 4, 3) := by decide +kernel
theorem dL_isTold_251 : decode cL_isTold 251 = .ok (.iconst 0, 1) := by decide +kernel
theorem dL_isTold_252 : decode cL_isTold 252 = .ok (.istore 7, 2) := by decide +kernel
theorem dL_isTold_254 : decode cL_isTold 254 = .ok (.iinc 8 1, 3) := by decide +kernel
theorem dL_isTold_257 : decode cL_isTold 257 = .ok (.goto (-198), 3) := by decide +kernel
theorem dL_isTold_260 : decode cL_isTold 260 = .ok (.iconst 0, 1) := by decide +kernel
theorem dL_isTold_261 : decode cL_isTold 261 = .ok (.istore 8, 2) := by decide +kernel
theorem dL_isTold_263 : decode cL_isTold 263 = .ok (.iload 8, 2) := by decide +kernel
theorem dL_isTold_265 : decode cL_isTold 265 = .ok (.aload 4, 2) := by decide +kernel
theorem dL_isTold_267 : decode cL_isTold 267 = .ok (.iconst 1, 1) := by decide +kernel
theorem dL_isTold_268 : decode cL_isTold 268 = .ok (.iaload, 1) := by decide +kernel
theorem dL_isTold_269 : decode cL_isTold 269 = .ok (.if_icmp .ge 109, 3) := by decide +kernel
theorem dL_isTold_272 : decode cL_isTold 272 = .ok (.iload 7, 2) := by decide +kernel
theorem dL_isTold_274 : decode cL_isTold 274 = .ok (.ifCond .eq 104, 3) := by decide +kernel
theorem dL_isTold_277 : decode cL_isTold 277 = .ok (.aload_n 0, 1) := by decide +kernel
theorem dL_isTold_278 : decode cL_isTold 278 = .ok (.iload 8, 2) := by decide +kernel
theorem dL_isTold_280 : decode cL_isTold 280 = .ok (.invokevirtual 54, 3) := by decide +kernel
theorem dL_isTold_283 : decode cL_isTold 283 = .ok (.aload_n 2, 1) := by decide +kernel
theorem dL_isTold_284 : decode cL_isTold 284 = .ok (.iconst 4, 1) := by decide +kernel
theorem dL_isTold_285 : decode cL_isTold 285 = .ok (.iload 8, 2) := by decide +kernel
theorem dL_isTold_287 : decode cL_isTold 287 = .ok (.imul, 1) := by decide +kernel
theorem dL_isTold_288 : decode cL_isTold 288 = .ok (.iconst 2, 1) := by decide +kernel
theorem dL_isTold_289 : decode cL_isTold 289 = .ok (.iadd, 1) := by decide +kernel
theorem dL_isTold_290 : decode cL_isTold 290 = .ok (.iaload, 1) := by decide +kernel
theorem dL_isTold_291 : decode cL_isTold 291 = .ok (.if_icmp .ne 78, 3) := by decide +kernel
theorem dL_isTold_294 : decode cL_isTold 294 = .ok (.aload_n 0, 1) := by decide +kernel
theorem dL_isTold_295 : decode cL_isTold 295 = .ok (.iload 8, 2) := by decide +kernel
theorem dL_isTold_297 : decode cL_isTold 297 = .ok (.invokevirtual 57, 3) := by decide +kernel
theorem dL_isTold_300 : decode cL_isTold 300 = .ok (.aload_n 2, 1) := by decide +kernel
theorem dL_isTold_301 : decode cL_isTold 301 = .ok (.iconst 4, 1) := by decide +kernel
theorem dL_isTold_302 : decode cL_isTold 302 = .ok (.iload 8, 2) := by decide +kernel
theorem dL_isTold_304 : decode cL_isTold 304 = .ok (.imul, 1) := by decide +kernel
theorem dL_isTold_305 : decode cL_isTold 305 = .ok (.iconst 2, 1) := by decide +kernel
theorem dL_isTold_306 : decode cL_isTold 306 = .ok (.iadd, 1) := by decide +kernel
theorem dL_isTold_307 : decode cL_isTold 307 = .ok (.iaload, 1) := by decide +kernel
theorem dL_isTold_308 : decode cL_isTold 308 = .ok (.iconst 1, 1) := by decide +kernel
theorem dL_isTold_309 : decode cL_isTold 309 = .ok (.if_icmp .ne 14, 3) := by decide +kernel
theorem dL_isTold_312 : decode cL_isTold 312 = .ok (.aload_n 2, 1) := by decide +kernel
theorem dL_isTold_313 : decode cL_isTold 313 = .ok (.iconst 4, 1) := by decide +kernel
theorem dL_isTold_314 : decode cL_isTold 314 = .ok (.iload 8, 2) := by decide +kernel
theorem dL_isTold_316 : decode cL_isTold 316 = .ok (.imul, 1) := by decide +kernel
theorem dL_isTold_317 : decode cL_isTold 317 = .ok (.iconst 3, 1) := by decide +kernel
theorem dL_isTold_318 : decode cL_isTold 318 = .ok (.iadd, 1) := by decide +kernel
theorem dL_isTold_319 : decode cL_isTold 319 = .ok (.iaload, 1) := by decide +kernel
theorem dL_isTold_320 : decode cL_isTold 320 = .ok (.goto 4, 3) := by decide +kernel
theorem dL_isTold_323 : decode cL_isTold 323 = .ok (.iconst (-1), 1) := by decide +kernel
theorem dL_isTold_324 : decode cL_isTold 324 = .ok (.if_icmp .ne 45, 3) := by decide +kernel
theorem dL_isTold_327 : decode cL_isTold 327 = .ok (.aload_n 0, 1) := by decide +kernel
theorem dL_isTold_328 : decode cL_isTold 328 = .ok (.iload 8, 2) := by decide +kernel
theorem dL_isTold_330 : decode cL_isTold 330 = .ok (.invokevirtual 60, 3) := by decide +kernel
theorem dL_isTold_333 : decode cL_isTold 333 = .ok (.aload_n 1, 1) := by decide +kernel
theorem dL_isTold_334 : decode cL_isTold 334 = .ok (.aload 4, 2) := by decide +kernel
theorem dL_isTold_336 : decode cL_isTold 336 = .ok (.iload 8, 2) := by decide +kernel
theorem dL_isTold_338 : decode cL_isTold 338 = .ok (.invokestatic 63, 3) := by decide +kernel
theorem dL_isTold_341 : decode cL_isTold 341 = .ok (.if_icmp .ne 28, 3) := by decide +kernel
theorem dL_isTold_344 : decode cL_isTold 344 = .ok (.aload_n 0, 1) := by decide +kernel
theorem dL_isTold_345 : decode cL_isTold 345 = .ok (.iload 8, 2) := by decide +kernel
theorem dL_isTold_347 : decode cL_isTold 347 = .ok (.iload 5, 2) := by decide +kernel
theorem dL_isTold_349 : decode cL_isTold 349 = .ok (.invokevirtual 65, 3) := by decide +kernel
theorem dL_isTold_352 : decode cL_isTold 352 = .ok (.aload_n 1, 1) := by decide +kernel
theorem dL_isTold_353 : decode cL_isTold 353 = .ok (.aload 4, 2) := by decide +kernel
theorem dL_isTold_355 : decode cL_isTold 355 = .ok (.iload 8, 2) := by decide +kernel
theorem dL_isTold_357 : decode cL_isTold 357 = .ok (.iload 5, 2) := by decide +kernel
theorem dL_isTold_359 : decode cL_isTold 359 = .ok (.invokestatic 69, 3) := by decide +kernel
theorem dL_isTold_362 : decode cL_isTold 362 = .ok (.if_icmp .ne 7, 3) := by decide +kernel
theorem dL_isTold_365 : decode cL_isTold 365 = .ok (.iconst 1, 1) := by decide +kernel
theorem dL_isTold_366 : decode cL_isTold 366 = .ok (.goto 4, 3) := by decide +kernel
theorem dL_isTold_369 : decode cL_isTold 369 = .ok (.iconst 0, 1) := by decide +kernel
theorem dL_isTold_370 : decode cL_isTold 370 = .ok (.istore 7, 2) := by decide +kernel
theorem dL_isTold_372 : decode cL_isTold 372 = .ok (.iinc 8 1, 3) := by decide +kernel
theorem dL_isTold_375 : decode cL_isTold 375 = .ok (.goto (-112), 3) := by decide +kernel
theorem dL_isTold_378 : decode cL_isTold 378 = .ok (.iconst 0, 1) := by decide +kernel
theorem dL_isTold_379 : decode cL_isTold 379 = .ok (.istore 8, 2) := by decide +kernel
theorem dL_isTold_381 : decode cL_isTold 381 = .ok (.iload 8, 2) := by decide +kernel
theorem dL_isTold_383 : decode cL_isTold 383 = .ok (.aload 4, 2) := by decide +kernel
theorem dL_isTold_385 : decode cL_isTold 385 = .ok (.iconst 2, 1) := by decide +kernel
theorem dL_isTold_386 : decode cL_isTold 386 = .ok (.iaload, 1) := by decide +kernel
theorem dL_isTold_387 : decode cL_isTold 387 = .ok (.if_icmp .ge 50, 3) := by decide +kernel
theorem dL_isTold_390 : decode cL_isTold 390 = .ok (.iload 6, 2) := by decide +kernel
theorem dL_isTold_392 : decode cL_isTold 392 = .ok (.ifCond .lt 28, 3) := by decide +kernel
theorem dL_isTold_395 : decode cL_isTold 395 = .ok (.aload_n 1, 1) := by decide +kernel
theorem dL_isTold_396 : decode cL_isTold 396 = .ok (.aload 4, 2) := by decide +kernel
theorem dL_isTold_398 : decode cL_isTold 398 = .ok (.aload_n 3, 1) := by decide +kernel
theorem dL_isTold_399 : decode cL_isTold 399 = .ok (.iload 8, 2) := by decide +kernel
theorem dL_isTold_401 : decode cL_isTold 401 = .ok (.iaload, 1) := by decide +kernel
theorem dL_isTold_402 : decode cL_isTold 402 = .ok (.iload 5, 2) := by decide +kernel
theorem dL_isTold_404 : decode cL_isTold 404 = .ok (.invokestatic 69, 3) := by decide +kernel
theorem dL_isTold_407 : decode cL_isTold 407 = .ok (.aload_n 1, 1) := by decide +kernel
theorem dL_isTold_408 : decode cL_isTold 408 = .ok (.aload 4, 2) := by decide +kernel
theorem dL_isTold_410 : decode cL_isTold 410 = .ok (.iload 6, 2) := by decide +kernel
theorem dL_isTold_412 : decode cL_isTold 412 = .ok (.iload 5, 2) := by decide +kernel
theorem dL_isTold_414 : decode cL_isTold 414 = .ok (.invokestatic 69, 3) := by decide +kernel
theorem dL_isTold_417 : decode cL_isTold 417 = .ok (.if_icmp .le 10, 3) := by decide +kernel
theorem dL_isTold_420 : decode cL_isTold 420 = .ok (.aload_n 3, 1) := by decide +kernel
theorem dL_isTold_421 : decode cL_isTold 421 = .ok (.iload 8, 2) := by decide +kernel
theorem dL_isTold_423 : decode cL_isTold 423 = .ok (.iaload, 1) := by decide +kernel
theorem dL_isTold_424 : decode cL_isTold 424 = .ok (.goto 5, 3) := by decide +kernel
theorem dL_isTold_427 : decode cL_isTold 427 = .ok (.iload 6, 2) := by decide +kernel
theorem dL_isTold_429 : decode cL_isTold 429 = .ok (.istore 6, 2) := by decide +kernel
theorem dL_isTold_431 : decode cL_isTold 431 = .ok (.iinc 8 1, 3) := by decide +kernel
theorem dL_isTold_434 : decode cL_isTold 434 = .ok (.goto (-53), 3) := by decide +kernel
theorem dL_isTold_437 : decode cL_isTold 437 = .ok (.iload 7, 2) := by decide +kernel
theorem dL_isTold_439 : decode cL_isTold 439 = .ok (.ifCond .eq 18, 3) := by decide +kernel
theorem dL_isTold_442 : decode cL_isTold 442 = .ok (.aload_n 0, 1) := by decide +kernel
theorem dL_isTold_443 : decode cL_isTold 443 = .ok (.iload 5, 2) := by decide +kernel
theorem dL_isTold_445 : decode cL_isTold 445 = .ok (.invokevirtual 71, 3) := by decide +kernel
theorem dL_isTold_448 : decode cL_isTold 448 = .ok (.iload 6, 2) := by decide +kernel
theorem dL_isTold_450 : decode cL_isTold 450 = .ok (.if_icmp .ne 7, 3) := by decide +kernel
theorem dL_isTold_453 : decode cL_isTold 453 = .ok (.iconst 1, 1) := by decide +kernel
theorem dL_isTold_454 : decode cL_isTold 454 = .ok (.goto 4, 3) := by decide +kernel
theorem dL_isTold_457 : decode cL_isTold 457 = .ok (.iconst 0, 1) := by decide +kernel
theorem dL_isTold_458 : decode cL_isTold 458 = .ok (.ireturn, 1) := by decide +kernel
set_option maxRecDepth 20000 in
theorem ggL_hung_X2_hang : GoodIn wsL_hung wsX2_hang := goodIn_ca (goodIn_ca (goodIn_ca (goodIn_r _ [7, 8, 9, 10, 11, 12, 13, 14, 15, 16, 17, 18, 19, 6, 20, 21, 22, 23, 24, 25, 26, 27, 28, 29, 30, 31, 32, 33, 34, 35, 36, 37, 38, 39, 40, 41, 42, 43, 44, 45, 46, 47, 48, 49, 50, 51, 52, 53, 54, 55, 56, 57, 58, 59, 60, 61, 62, 63, 64, 65, 66, 67, 68, 69, 70, 71, 72, 73, 74, 75, 76, 77, 78, 79, 80] (by decide +kernel) (by decide +kernel)) (goodIn_sub (fun _ h => List.mem_cons_of_mem _ (List.mem_append_left _ (List.mem_append_left _ (List.mem_append_right _ h)))) (by decide +kernel))) (goodIn_sub (fun _ h => List.mem_cons_of_mem _ (List.mem_append_left _ (List.mem_append_right _ h))) (by decide +kernel))) (goodIn_sub (fun _ h => List.mem_cons_of_mem _ (List.mem_append_right _ h)) (by decide +kernel))
set_option maxRecDepth 20000 in
theorem gL_hung_X2_hang : GoodIn wsL_hung (wsV RL 74 RX2 yX2_hang wsX2_hang) := goodIn_app (goodIn_of _ (by decide +kernel)) ggL_hung_X2_hang
theorem dL_hung_0 : decode cL_hung 0 = .ok (.aload_n 0, 1) := by decide +kernel
theorem dL_hung_1 : decode cL_hung 1 = .ok (.iload_n 1, 1) := by decide +kernel
theorem dL_hung_2 : decode cL_hung 2 = .ok (.iload_n 2, 1) := by decide +kernel
theorem dL_hung_3 : decode cL_hung 3 = .ok (.iload_n 3, 1) := by decide +kernel
theorem dL_hung_4 : decode cL_hung 4 = .ok (.invokevirtual 74, 3) := by decide +kernel
theorem dL_hung_7 : decode cL_hung 7 = .ok (.ireturn, 1) := by decide +kernel
theorem dL_hung_8 : decode cL_hung 8 = .ok (.astore 4, 2) := by decide +kernel
theorem dL_hung_10 : decode cL_hung 10 = .ok (.bipush (-3), 2) := by decide +kernel
theorem dL_hung_12 : decode cL_hung 12 = .ok (.ireturn, 1) := by decide +kernel
theorem dL_hung_13 : decode cL_hung 13 = .ok (.astore 4, 2) := by decide +kernel
theorem dL_hung_15 : decode cL_hung 15 = .ok (.bipush (-2), 2) := by decide +kernel
theorem dL_hung_17 : decode cL_hung 17 = .ok (.ireturn, 1) := by decide +kernel
set_option maxRecDepth 20000 in
theorem ggL_taken_X2_takeDown : GoodIn wsL_taken wsX2_takeDown := goodIn_ca (goodIn_ca (goodIn_r _ [6, 7, 8, 9, 10, 11, 12, 13, 5, 14, 15, 16, 17, 18, 19, 20, 21, 22, 23, 24, 25, 26, 27, 28, 29, 30, 31, 32, 33, 34, 35, 36, 37, 38, 39, 40, 41, 42, 43, 44, 45, 46, 47, 48, 49, 50, 51, 52, 53, 54, 55, 56, 57, 58, 59, 60] (by decide +kernel) (by decide +kernel)) (goodIn_sub (fun _ h => List.mem_cons_of_mem _ (List.mem_append_left _ (List.mem_append_right _ h))) (by decide +kernel))) (goodIn_sub (fun _ h => List.mem_cons_of_mem _ (List.mem_append_right _ h)) (by decide +kernel))
set_option maxRecDepth 20000 in
theorem gL_taken_X2_takeDown : GoodIn wsL_taken (wsV RL 82 RX2 yX2_takeDown wsX2_takeDown) := goodIn_app (goodIn_of _ (by decide +kernel)) ggL_taken_X2_takeDown
theorem dL_taken_0 : decode cL_taken 0 = .ok (.aload_n 0, 1) := by decide +kernel
theorem dL_taken_1 : decode cL_taken 1 = .ok (.iload_n 1, 1) := by decide +kernel
theorem dL_taken_2 : decode cL_taken 2 = .ok (.invokevirtual 82, 3) := by decide +kernel
theorem dL_taken_5 : decode cL_taken 5 = .ok (.ireturn, 1) := by decide +kernel
theorem dL_taken_6 : decode cL_taken 6 = .ok (.astore_n 2, 1) := by decide +kernel
theorem dL_taken_7 : decode cL_taken 7 = .ok (.bipush (-2), 2) := by decide +kernel
theorem dL_taken_9 : decode cL_taken 9 = .ok (.ireturn, 1) := by decide +kernel
set_option maxRecDepth 20000 in
theorem ggL_kindled_X2_light : GoodIn wsL_kindled wsX2_light := goodIn_ca (goodIn_ca (goodIn_r _ [6, 7, 8, 9, 10, 11, 12, 13, 5, 14, 15, 16, 17, 18, 19, 20, 21, 22, 23, 24, 25, 26, 27, 28, 29, 30, 31, 32, 33, 34, 35, 36, 37, 38, 39, 40, 41, 42, 43, 44, 45, 46, 47, 48, 49, 50, 51, 52, 53, 54, 55, 56, 57, 58, 59, 60, 61, 62, 63, 64, 65, 66, 67, 68, 69, 70] (by decide +kernel) (by decide +kernel)) (goodIn_sub (fun _ h => List.mem_cons_of_mem _ (List.mem_append_left _ (List.mem_append_right _ h))) (by decide +kernel))) (goodIn_sub (fun _ h => List.mem_cons_of_mem _ (List.mem_append_right _ h)) (by decide +kernel))
set_option maxRecDepth 20000 in
theorem gL_kindled_X2_light : GoodIn wsL_kindled (wsV RL 85 RX2 yX2_light wsX2_light) := goodIn_app (goodIn_of _ (by decide +kernel)) ggL_kindled_X2_light
theorem dL_kindled_0 : decode cL_kindled 0 = .ok (.aload_n 0, 1) := by decide +kernel
theorem dL_kindled_1 : decode cL_kindled 1 = .ok (.iload_n 1, 1) := by decide +kernel
theorem dL_kindled_2 : decode cL_kindled 2 = .ok (.invokevirtual 85, 3) := by decide +kernel
theorem dL_kindled_5 : decode cL_kindled 5 = .ok (.ireturn, 1) := by decide +kernel
theorem dL_kindled_6 : decode cL_kindled 6 = .ok (.astore_n 2, 1) := by decide +kernel
theorem dL_kindled_7 : decode cL_kindled 7 = .ok (.bipush (-2), 2) := by decide +kernel
theorem dL_kindled_9 : decode cL_kindled 9 = .ok (.ireturn, 1) := by decide +kernel
set_option maxRecDepth 20000 in
theorem ggL_putOut_X2_putOut : GoodIn wsL_putOut wsX2_putOut := goodIn_ca (goodIn_ca (goodIn_r _ [6, 7, 8, 9, 10, 11, 12, 13, 5, 14, 15, 16, 17, 18, 19, 20, 21, 22, 23, 24, 25, 26, 27, 28, 29, 30, 31, 32, 33, 34, 35, 36, 37, 38, 39, 40, 41, 42, 43, 44, 45] (by decide +kernel) (by decide +kernel)) (goodIn_sub (fun _ h => List.mem_cons_of_mem _ (List.mem_append_left _ (List.mem_append_right _ h))) (by decide +kernel))) (goodIn_sub (fun _ h => List.mem_cons_of_mem _ (List.mem_append_right _ h)) (by decide +kernel))
set_option maxRecDepth 20000 in
theorem gL_putOut_X2_putOut : GoodIn wsL_putOut (wsV RL 88 RX2 yX2_putOut wsX2_putOut) := goodIn_app (goodIn_of _ (by decide +kernel)) ggL_putOut_X2_putOut
theorem dL_putOut_0 : decode cL_putOut 0 = .ok (.aload_n 0, 1) := by decide +kernel
theorem dL_putOut_1 : decode cL_putOut 1 = .ok (.iload_n 1, 1) := by decide +kernel
theorem dL_putOut_2 : decode cL_putOut 2 = .ok (.invokevirtual 88, 3) := by decide +kernel
theorem dL_putOut_5 : decode cL_putOut 5 = .ok (.ireturn, 1) := by decide +kernel
theorem dL_putOut_6 : decode cL_putOut 6 = .ok (.astore_n 2, 1) := by decide +kernel
theorem dL_putOut_7 : decode cL_putOut 7 = .ok (.bipush (-2), 2) := by decide +kernel
theorem dL_putOut_9 : decode cL_putOut 9 = .ok (.ireturn, 1) := by decide +kernel
set_option maxRecDepth 20000 in
theorem ggL_launched_X2_launch : GoodIn wsL_launched wsX2_launch := goodIn_ca (goodIn_ca (goodIn_r _ [6, 7, 8, 9, 10, 11, 12, 13, 14, 15, 16, 5, 17, 18, 19, 20, 21, 22, 23, 24, 25, 26, 27, 28, 29, 30, 31, 32, 33, 34, 35, 36, 37, 38, 39, 40, 41, 42, 43, 44, 45, 46, 47, 48, 49, 50, 51, 52, 53, 54, 55, 56, 57] (by decide +kernel) (by decide +kernel)) (goodIn_sub (fun _ h => List.mem_cons_of_mem _ (List.mem_append_left _ (List.mem_append_right _ h))) (by decide +kernel))) (goodIn_sub (fun _ h => List.mem_cons_of_mem _ (List.mem_append_right _ h)) (by decide +kernel))
set_option maxRecDepth 20000 in
theorem gL_launched_X2_launch : GoodIn wsL_launched (wsV RL 91 RX2 yX2_launch wsX2_launch) := goodIn_app (goodIn_of _ (by decide +kernel)) ggL_launched_X2_launch
theorem dL_launched_0 : decode cL_launched 0 = .ok (.aload_n 0, 1) := by decide +kernel
theorem dL_launched_1 : decode cL_launched 1 = .ok (.iload_n 1, 1) := by decide +kernel
theorem dL_launched_2 : decode cL_launched 2 = .ok (.invokevirtual 91, 3) := by decide +kernel
theorem dL_launched_5 : decode cL_launched 5 = .ok (.ireturn, 1) := by decide +kernel
theorem dL_launched_6 : decode cL_launched 6 = .ok (.astore_n 2, 1) := by decide +kernel
theorem dL_launched_7 : decode cL_launched 7 = .ok (.bipush (-2), 2) := by decide +kernel
theorem dL_launched_9 : decode cL_launched 9 = .ok (.ireturn, 1) := by decide +kernel
set_option maxRecDepth 20000 in
theorem ggL_isHung_L_load : GoodIn wsL_isHung wsL_load := goodIn_r _ [4] (by decide +kernel) (by decide +kernel)
set_option maxRecDepth 20000 in
theorem gL_isHung_L_load : GoodIn wsL_isHung (va_wsS RL 63 yL_load wsL_load) := goodIn_app (goodIn_of _ (by decide +kernel)) ggL_isHung_L_load
set_option maxRecDepth 20000 in
theorem ggL_isHung_L_hung : GoodIn wsL_isHung wsL_hung := goodIn_ca (goodIn_ca (goodIn_ca (goodIn_r _ [7, 8, 9, 10, 11, 12, 13, 14, 15, 16, 17, 18, 19, 20, 21, 22, 23, 24, 25, 26, 27, 28, 29, 30, 31, 32, 33, 34, 35, 36, 37, 38, 39, 40, 41, 42, 43, 44, 45, 46, 47, 48, 49, 50, 51, 52, 53, 54, 55, 56, 57, 58, 59, 60, 61, 127, 128, 129, 130, 131, 132, 133, 134, 135, 136, 137, 138, 139, 140, 141, 142, 143, 144, 145, 146, 147, 148, 149, 150, 151, 152] (by decide +kernel) (by decide +kernel)) (goodIn_sub (fun _ h => List.mem_cons_of_mem _ (List.mem_append_left _ (List.mem_append_left _ (List.mem_append_right _ h)))) (by decide +kernel))) (goodIn_sub (fun _ h => List.mem_cons_of_mem _ (List.mem_append_left _ (List.mem_append_right _ h))) (by decide +kernel))) (goodIn_sub (fun _ h => List.mem_cons_of_mem _ (List.mem_append_right _ h)) (by decide +kernel))
set_option maxRecDepth 20000 in
theorem gL_isHung_L_hung : GoodIn wsL_isHung (va_wsS RL 94 yL_hung wsL_hung) := goodIn_app (goodIn_of _ (by decide +kernel)) ggL_isHung_L_hung
set_option maxRecDepth 20000 in
theorem ggL_isHung_L_taken : GoodIn wsL_isHung wsL_taken := goodIn_ca (goodIn_ca (goodIn_r _ [64, 9, 65, 66, 67, 13, 68, 19, 20, 21, 69, 24, 25, 26, 27, 15, 16, 28, 29, 30, 31, 70, 71, 72, 40, 73, 42, 60, 61, 74, 75, 76, 50, 77, 78, 127, 128, 129, 130, 131, 132, 133, 134, 135, 136, 137, 138, 139, 140, 141, 142, 143, 144, 145, 146, 147, 148, 149, 150, 151, 152] (by decide +kernel) (by decide +kernel)) (goodIn_sub (fun _ h => List.mem_cons_of_mem _ (List.mem_append_right _ h)) (by decide +kernel))) (goodIn_sub (fun _ h => List.mem_cons_of_mem _ (List.mem_append_left _ (List.mem_append_left _ (List.mem_append_right _ h)))) (by decide +kernel))
set_option maxRecDepth 20000 in
theorem gL_isHung_L_taken : GoodIn wsL_isHung (va_wsS RL 98 yL_taken wsL_taken) := goodIn_app (goodIn_of _ (by decide +kernel)) ggL_isHung_L_taken
set_option maxRecDepth 20000 in
theorem ggL_isHung_L_putOut : GoodIn wsL_isHung wsL_putOut := goodIn_ca (goodIn_ca (goodIn_r _ [81, 9, 82, 83, 84, 13, 85, 19, 20, 86, 87, 24, 25, 26, 27, 15, 16, 28, 29, 30, 31, 74, 75, 76, 50, 77, 78, 127, 128, 129, 130, 131, 132, 133, 141, 142, 143, 144, 145, 146, 147, 148, 149, 150, 151, 152] (by decide +kernel) (by decide +kernel)) (goodIn_sub (fun _ h => List.mem_cons_of_mem _ (List.mem_append_right _ h)) (by decide +kernel))) (goodIn_sub (fun _ h => List.mem_cons_of_mem _ (List.mem_append_left _ (List.mem_append_left _ (List.mem_append_right _ h)))) (by decide +kernel))
set_option maxRecDepth 20000 in
theorem gL_isHung_L_putOut : GoodIn wsL_isHung (va_wsS RL 102 yL_putOut wsL_putOut) := goodIn_app (goodIn_of _ (by decide +kernel)) ggL_isHung_L_putOut
set_option maxRecDepth 20000 in
theorem ggL_isHung_L_place : GoodIn wsL_isHung wsL_place := goodIn_r _ [90] (by decide +kernel) (by decide +kernel)
set_option maxRecDepth 20000 in
theorem gL_isHung_L_place : GoodIn wsL_isHung (va_wsS RL 9 yL_place wsL_place) := goodIn_app (goodIn_of _ (by decide +kernel)) ggL_isHung_L_place
set_option maxRecDepth 20000 in
theorem ggL_isHung_L_isClose : GoodIn wsL_isHung wsL_isClose := goodIn_r _ [93, 94, 95, 3, 96, 88, 89, 90] (by decide +kernel) (by decide +kernel)
set_option maxRecDepth 20000 in
theorem gL_isHung_L_isClose : GoodIn wsL_isHung (va_wsS RL 19 yL_isClose wsL_isClose) := goodIn_app (goodIn_of _ (by decide +kernel)) ggL_isHung_L_isClose
set_option maxRecDepth 20000 in
theorem ggL_isHung_L_kindled : GoodIn wsL_isHung wsL_kindled := goodIn_ca (goodIn_ca (goodIn_r _ [99, 9, 100, 101, 102, 13, 103, 19, 20, 86, 87, 24, 25, 26, 27, 15, 16, 28, 29, 30, 31, 104, 105, 106, 50, 107, 108, 109, 110, 111, 112, 113, 114, 115, 116, 117, 118, 119, 120, 121, 122, 123, 124, 125, 126, 127, 128, 129, 130, 131, 132, 133, 141, 142, 143, 144, 145, 146, 147, 148, 149, 150, 151, 152, 134, 135, 136, 137, 138, 139, 140] (by decide +kernel) (by decide +kernel)) (goodIn_sub (fun _ h => List.mem_cons_of_mem _ (List.mem_append_right _ h)) (by decide +kernel))) (goodIn_sub (fun _ h => List.mem_cons_of_mem _ (List.mem_append_left _ (List.mem_append_left _ (List.mem_append_right _ h)))) (by decide +kernel))
set_option maxRecDepth 20000 in
theorem gL_isHung_L_kindled : GoodIn wsL_isHung (va_wsS RL 104 yL_kindled wsL_kindled) := goodIn_app (goodIn_of _ (by decide +kernel)) ggL_isHung_L_kindled
theorem dL_isHung_0 : decode cL_isHung 0 = .ok (.iload 5, 2) := by decide +kernel
theorem dL_isHung_2 : decode cL_isHung 2 = .ok (.aload_n 3, 1) := by decide +kernel
theorem dL_isHung_3 : decode cL_isHung 3 = .ok (.iconst 0, 1) := by decide +kernel
theorem dL_isHung_4 : decode cL_isHung 4 = .ok (.iaload, 1) := by decide +kernel
theorem dL_isHung_5 : decode cL_isHung 5 = .ok (.irem, 1) := by decide +kernel
theorem dL_isHung_6 : decode cL_isHung 6 = .ok (.istore 6, 2) := by decide +kernel
theorem dL_isHung_8 : decode cL_isHung 8 = .ok (.bipush 8, 2) := by decide +kernel
theorem dL_isHung_10 : decode cL_isHung 10 = .ok (.iload 6, 2) := by decide +kernel
theorem dL_isHung_12 : decode cL_isHung 12 = .ok (.imul, 1) := by decide +kernel
theorem dL_isHung_13 : decode cL_isHung 13 = .ok (.istore 7, 2) := by decide +kernel
theorem dL_isHung_15 : decode cL_isHung 15 = .ok (.iload 5, 2) := by decide +kernel
theorem dL_isHung_17 : decode cL_isHung 17 = .ok (.bipush 8, 2) := by decide +kernel
theorem dL_isHung_19 : decode cL_isHung 19 = .ok (.idiv, 1) := by decide +kernel
theorem dL_isHung_20 : decode cL_isHung 20 = .ok (.aload_n 3, 1) := by decide +kernel
theorem dL_isHung_21 : decode cL_isHung 21 = .ok (.iconst 1, 1) := by decide +kernel
theorem dL_isHung_22 : decode cL_isHung 22 = .ok (.iaload, 1) := by decide +kernel
theorem dL_isHung_23 : decode cL_isHung 23 = .ok (.irem, 1) := by decide +kernel
theorem dL_isHung_24 : decode cL_isHung 24 = .ok (.istore 8, 2) := by decide +kernel
theorem dL_isHung_26 : decode cL_isHung 26 = .ok (.iload 5, 2) := by decide +kernel
theorem dL_isHung_28 : decode cL_isHung 28 = .ok (.bipush 64, 2) := by decide +kernel
theorem dL_isHung_30 : decode cL_isHung 30 = .ok (.idiv, 1) := by decide +kernel
theorem dL_isHung_31 : decode cL_isHung 31 = .ok (.bipush 10, 2) := by decide +kernel
theorem dL_isHung_33 : decode cL_isHung 33 = .ok (.irem, 1) := by decide +kernel
theorem dL_isHung_34 : decode cL_isHung 34 = .ok (.istore 9, 2) := by decide +kernel
theorem dL_isHung_36 : decode cL_isHung 36 = .ok (.iload 4, 2) := by decide +kernel
theorem dL_isHung_38 : decode cL_isHung 38 = .ok (.iconst 5, 1) := by decide +kernel
theorem dL_isHung_39 : decode cL_isHung 39 = .ok (.if_icmp .ge 211, 3) := by decide +kernel
theorem dL_isHung_42 : decode cL_isHung 42 = .ok (.iconst 0, 1) := by decide +kernel
theorem dL_isHung_43 : decode cL_isHung 43 = .ok (.istore 10, 2) := by decide +kernel
theorem dL_isHung_45 : decode cL_isHung 45 = .ok (.iconst 0, 1) := by decide +kernel
theorem dL_isHung_46 : decode cL_isHung 46 = .ok (.istore 11, 2) := by decide +kernel
theorem dL_isHung_48 : decode cL_isHung 48 = .ok (.iload 11, 2) := by decide +kernel
theorem dL_isHung_50 : decode cL_isHung 50 = .ok (.aload_n 3, 1) := by decide +kernel
theorem dL_isHung_51 : decode cL_isHung 51 = .ok (.iconst 0, 1) := by decide +kernel
theorem dL_isHung_52 : decode cL_isHung 52 = .ok (.iaload, 1) := by decide +kernel
theorem dL_isHung_53 : decode cL_isHung 53 = .ok (.if_icmp .ge 50, 3) := by decide +kernel
theorem dL_isHung_56 : decode cL_isHung 56 = .ok (.iload 10, 2) := by decide +kernel
theorem dL_isHung_58 : decode cL_isHung 58 = .ok (.ifCond .ne 32, 3) := by decide +kernel
theorem dL_isHung_61 : decode cL_isHung 61 = .ok (.aload_n 1, 1) := by decide +kernel
theorem dL_isHung_62 : decode cL_isHung 62 = .ok (.bipush 8, 2) := by decide +kernel
theorem dL_isHung_64 : decode cL_isHung 64 = .ok (.iload 11, 2) := by decide +kernel
theorem dL_isHung_66 : decode cL_isHung 66 = .ok (.imul, 1) := by decide +kernel
theorem dL_isHung_67 : decode cL_isHung 67 = .ok (.iconst 5, 1) := by decide +kernel
theorem dL_isHung_68 : decode cL_isHung 68 = .ok (.iadd, 1) := by decide +kernel
theorem dL_isHung_69 : decode cL_isHung 69 = .ok (.iaload, 1) := by decide +kernel
theorem dL_isHung_70 : decode cL_isHung 70 = .ok (.iload 8, 2) := by decide +kernel
theorem dL_isHung_72 : decode cL_isHung 72 = .ok (.if_icmp .ne 22, 3) := by decide +kernel
theorem dL_isHung_75 : decode cL_isHung 75 = .ok (.aload_n 1, 1) := by decide +kernel
theorem dL_isHung_76 : decode cL_isHung 76 = .ok (.bipush 8, 2) := by decide +kernel
theorem dL_isHung_78 : decode cL_isHung 78 = .ok (.iload 11, 2) := by decide +kernel
theorem dL_isHung_80 : decode cL_isHung 80 = .ok (.imul, 1) := by decide +kernel
theorem dL_isHung_81 : decode cL_isHung 81 = .ok (.bipush 6, 2) := by decide +kernel
theorem dL_isHung_83 : decode cL_isHung 83 = .ok (.iadd, 1) := by decide +kernel
theorem dL_isHung_84 : decode cL_isHung 84 = .ok (.iaload, 1) := by decide +kernel
theorem dL_isHung_85 : decode cL_isHung 85 = .ok (.iload 9, 2) := by decide +kernel
theorem dL_isHung_87 : decode cL_isHung 87 = .ok (.if_icmp .ne 7, 3) := by decide +kernel
theorem dL_isHung_90 : decode cL_isHung 90 = .ok (.iconst 1, 1) := by decide +kernel
theorem dL_isHung_91 : decode cL_isHung 91 = .ok (.goto 4, 3) := by decide +kernel
theorem dL_isHung_94 : decode cL_isHung 94 = .ok (.iconst 0, 1) := by decide +kernel
theorem dL_isHung_95 : decode cL_isHung 95 = .ok (.istore 10, 2) := by decide +kernel
theorem dL_isHung_97 : decode cL_isHung 97 = .ok (.iinc 11 1, 3) := by decide +kernel
theorem dL_isHung_100 : decode cL_isHung 100 = .ok (.goto (-52), 3) := by decide +kernel
theorem dL_isHung_103 : decode cL_isHung 103 = .ok (.aload_n 1, 1) := by decide +kernel
theorem dL_isHung_104 : decode cL_isHung 104 = .ok (.iload 7, 2) := by decide +kernel
theorem dL_isHung_106 : decode cL_isHung 106 = .ok (.iconst 5, 1) := by decide +kernel
theorem dL_isHung_107 : decode cL_isHung 107 = .ok (.iadd, 1) := by decide +kernel
theorem dL_isHung_108 : decode cL_isHung 108 = .ok (.iaload, 1) := by decide +kernel
theorem dL_isHung_109 : decode cL_isHung 109 = .ok (.ifCond .ge 65, 3) := by decide +kernel
theorem dL_isHung_112 : decode cL_isHung 112 = .ok (.aload_n 2, 1) := by decide +kernel
theorem dL_isHung_113 : decode cL_isHung 113 = .ok (.iconst 4, 1) := by decide +kernel
theorem dL_isHung_114 : decode cL_isHung 114 = .ok (.iload 8, 2) := by decide +kernel
theorem dL_isHung_116 : decode cL_isHung 116 = .ok (.imul, 1) := by decide +kernel
theorem dL_isHung_117 : decode cL_isHung 117 = .ok (.iconst 2, 1) := by decide +kernel
theorem dL_isHung_118 : decode cL_isHung 118 = .ok (.iadd, 1) := by decide +kernel
theorem dL_isHung_119 : decode cL_isHung 119 = .ok (.iaload, 1) := by decide +kernel
theorem dL_isHung_120 : decode cL_isHung 120 = .ok (.iconst 2, 1) := by decide +kernel
theorem dL_isHung_121 : decode cL_isHung 121 = .ok (.if_icmp .ge 53, 3) := by decide +kernel
theorem dL_isHung_124 : decode cL_isHung 124 = .ok (.aload_n 1, 1) := by decide +kernel
theorem dL_isHung_125 : decode cL_isHung 125 = .ok (.aload_n 3, 1) := by decide +kernel
theorem dL_isHung_126 : decode cL_isHung 126 = .ok (.iload 8, 2) := by decide +kernel
theorem dL_isHung_128 : decode cL_isHung 128 = .ok (.invokestatic 63, 3) := by decide +kernel
theorem dL_isHung_131 : decode cL_isHung 131 = .ok (.bipush 20, 2) := by decide +kernel
theorem dL_isHung_133 : decode cL_isHung 133 = .ok (.aload_n 1, 1) := by decide +kernel
theorem dL_isHung_134 : decode cL_isHung 134 = .ok (.iload 7, 2) := by decide +kernel
theorem dL_isHung_136 : decode cL_isHung 136 = .ok (.iaload, 1) := by decide +kernel
theorem dL_isHung_137 : decode cL_isHung 137 = .ok (.imul, 1) := by decide +kernel
theorem dL_isHung_138 : decode cL_isHung 138 = .ok (.iadd, 1) := by decide +kernel
theorem dL_isHung_139 : decode cL_isHung 139 = .ok (.bipush 30, 2) := by decide +kernel
theorem dL_isHung_141 : decode cL_isHung 141 = .ok (.aload_n 1, 1) := by decide +kernel
theorem dL_isHung_142 : decode cL_isHung 142 = .ok (.iload 7, 2) := by decide +kernel
theorem dL_isHung_144 : decode cL_isHung 144 = .ok (.iconst 1, 1) := by decide +kernel
theorem dL_isHung_145 : decode cL_isHung 145 = .ok (.iadd, 1) := by decide +kernel
theorem dL_isHung_146 : decode cL_isHung 146 = .ok (.iaload, 1) := by decide +kernel
theorem dL_isHung_147 : decode cL_isHung 147 = .ok (.imul, 1) := by decide +kernel
theorem dL_isHung_148 : decode cL_isHung 148 = .ok (.iadd, 1) := by decide +kernel
theorem dL_isHung_149 : decode cL_isHung 149 = .ok (.bipush 50, 2) := by decide +kernel
theorem dL_isHung_151 : decode cL_isHung 151 = .ok (.aload_n 1, 1) := by decide +kernel
theorem dL_isHung_152 : decode cL_isHung 152 = .ok (.iload 7, 2) := by decide +kernel
theorem dL_isHung_154 : decode cL_isHung 154 = .ok (.iconst 2, 1) := by decide +kernel
theorem dL_isHung_155 : decode cL_isHung 155 = .ok (.iadd, 1) := by decide +kernel
theorem dL_isHung_156 : decode cL_isHung 156 = .ok (.iaload, 1) := by decide +kernel
theorem dL_isHung_157 : decode cL_isHung 157 = .ok (.imul, 1) := by decide +kernel
theorem dL_isHung_158 : decode cL_isHung 158 = .ok (.iadd, 1) := by decide +kernel
theorem dL_isHung_159 : decode cL_isHung 159 = .ok (.aload_n 2, 1) := by decide +kernel
theorem dL_isHung_160 : decode cL_isHung 160 = .ok (.iconst 4, 1) := by decide +kernel
theorem dL_isHung_161 : decode cL_isHung 161 = .ok (.iload 8, 2) := by decide +kernel
theorem dL_isHung_163 : decode cL_isHung 163 = .ok (.imul, 1) := by decide +kernel
theorem dL_isHung_164 : decode cL_isHung 164 = .ok (.iconst 1, 1) := by decide +kernel
theorem dL_isHung_165 : decode cL_isHung 165 = .ok (.iadd, 1) := by decide +kernel
theorem dL_isHung_166 : decode cL_isHung 166 = .ok (.iaload, 1) := by decide +kernel
theorem dL_isHung_167 : decode cL_isHung 167 = .ok (.if_icmp .gt 7, 3) := by decide +kernel
theorem dL_isHung_170 : decode cL_isHung 170 = .ok (.iconst 1, 1) := by decide +kernel
theorem dL_isHung_171 : decode cL_isHung 171 = .ok (.goto 4, 3) := by decide +kernel
theorem dL_isHung_174 : decode cL_isHung 174 = .ok (.iconst 0, 1) := by decide +kernel
theorem dL_isHung_175 : decode cL_isHung 175 = .ok (.istore 11, 2) := by decide +kernel
theorem dL_isHung_177 : decode cL_isHung 177 = .ok (.iload 10, 2) := by decide +kernel
theorem dL_isHung_179 : decode cL_isHung 179 = .ok (.ifCond .ne 25, 3) := by decide +kernel
theorem dL_isHung_182 : decode cL_isHung 182 = .ok (.iload 11, 2) := by decide +kernel
theorem dL_isHung_184 : decode cL_isHung 184 = .ok (.ifCond .eq 20, 3) := by decide +kernel
theorem dL_isHung_187 : decode cL_isHung 187 = .ok (.aload_n 1, 1) := by decide +kernel
theorem dL_isHung_188 : decode cL_isHung 188 = .ok (.iload 7, 2) := by decide +kernel
theorem dL_isHung_190 : decode cL_isHung 190 = .ok (.iconst 5, 1) := by decide +kernel
theorem dL_isHung_191 : decode cL_isHung 191 = .ok (.iadd, 1) := by decide +kernel
theorem dL_isHung_192 : decode cL_isHung 192 = .ok (.iload 8, 2) := by decide +kernel
theorem dL_isHung_194 : decode cL_isHung 194 = .ok (.iastore, 1) := by decide +kernel
theorem dL_isHung_195 : decode cL_isHung 195 = .ok (.aload_n 1, 1) := by decide +kernel
theorem dL_isHung_196 : decode cL_isHung 196 = .ok (.iload 7, 2) := by decide +kernel
theorem dL_isHung_198 : decode cL_isHung 198 = .ok (.bipush 6, 2) := by decide +kernel
theorem dL_isHung_200 : decode cL_isHung 200 = .ok (.iadd, 1) := by decide +kernel
theorem dL_isHung_201 : decode cL_isHung 201 = .ok (.iload 9, 2) := by decide +kernel
theorem dL_isHung_203 : decode cL_isHung 203 = .ok (.iastore, 1) := by decide +kernel
theorem dL_isHung_204 : decode cL_isHung 204 = .ok (.aload_n 0, 1) := by decide +kernel
theorem dL_isHung_205 : decode cL_isHung 205 = .ok (.iload 6, 2) := by decide +kernel
theorem dL_isHung_207 : decode cL_isHung 207 = .ok (.iload 8, 2) := by decide +kernel
theorem dL_isHung_209 : decode cL_isHung 209 = .ok (.iload 9, 2) := by decide +kernel
theorem dL_isHung_211 : decode cL_isHung 211 = .ok (.invokestatic 94, 3) := by decide +kernel
theorem dL_isHung_214 : decode cL_isHung 214 = .ok (.iload 10, 2) := by decide +kernel
theorem dL_isHung_216 : decode cL_isHung 216 = .ok (.ifCond .eq 8, 3) := by decide +kernel
theorem dL_isHung_219 : decode cL_isHung 219 = .ok (.bipush (-3), 2) := by decide +kernel
theorem dL_isHung_221 : decode cL_isHung 221 = .ok (.goto 20, 3) := by decide +kernel
theorem dL_isHung_224 : decode cL_isHung 224 = .ok (.iload 11, 2) := by decide +kernel
theorem dL_isHung_226 : decode cL_isHung 226 = .ok (.ifCond .eq 13, 3) := by decide +kernel
theorem dL_isHung_229 : decode cL_isHung 229 = .ok (.aload_n 1, 1) := by decide +kernel
theorem dL_isHung_230 : decode cL_isHung 230 = .ok (.aload_n 3, 1) := by decide +kernel
theorem dL_isHung_231 : decode cL_isHung 231 = .ok (.iload 8, 2) := by decide +kernel
theorem dL_isHung_233 : decode cL_isHung 233 = .ok (.invokestatic 63, 3) := by decide +kernel
theorem dL_isHung_236 : decode cL_isHung 236 = .ok (.goto 5, 3) := by decide +kernel
theorem dL_isHung_239 : decode cL_isHung 239 = .ok (.bipush (-2), 2) := by decide +kernel
theorem dL_isHung_241 : decode cL_isHung 241 = .ok (.if_icmp .ne 7, 3) := by decide +kernel
theorem dL_isHung_244 : decode cL_isHung 244 = .ok (.iconst 1, 1) := by decide +kernel
theorem dL_isHung_245 : decode cL_isHung 245 = .ok (.goto 4, 3) := by decide +kernel
theorem dL_isHung_248 : decode cL_isHung 248 = .ok (.iconst 0, 1) := by decide +kernel
theorem dL_isHung_249 : decode cL_isHung 249 = .ok (.ireturn, 1) := by decide +kernel
theorem dL_isHung_250 : decode cL_isHung 250 = .ok (.iload 4, 2) := by decide +kernel
theorem dL_isHung_252 : decode cL_isHung 252 = .ok (.iconst 5, 1) := by decide +kernel
theorem dL_isHung_253 : decode cL_isHung 253 = .ok (.if_icmp .ne 76, 3) := by decide +kernel
theorem dL_isHung_256 : decode cL_isHung 256 = .ok (.aload_n 1, 1) := by decide +kernel
theorem dL_isHung_257 : decode cL_isHung 257 = .ok (.iload 7, 2) := by decide +kernel
theorem dL_isHung_259 : decode cL_isHung 259 = .ok (.iconst 5, 1) := by decide +kernel
theorem dL_isHung_260 : decode cL_isHung 260 = .ok (.iadd, 1) := by decide +kernel
theorem dL_isHung_261 : decode cL_isHung 261 = .ok (.iaload, 1) := by decide +kernel
theorem dL_isHung_262 : decode cL_isHung 262 = .ok (.istore 10, 2) := by decide +kernel
theorem dL_isHung_264 : decode cL_isHung 264 = .ok (.aload_n 1, 1) := by decide +kernel
theorem dL_isHung_265 : decode cL_isHung 265 = .ok (.iload 7, 2) := by decide +kernel
theorem dL_isHung_267 : decode cL_isHung 267 = .ok (.iconst 5, 1) := by decide +kernel
theorem dL_isHung_268 : decode cL_isHung 268 = .ok (.iadd, 1) := by decide +kernel
theorem dL_isHung_269 : decode cL_isHung 269 = .ok (.iconst (-1), 1) := by decide +kernel
theorem dL_isHung_270 : decode cL_isHung 270 = .ok (.iastore, 1) := by decide +kernel
theorem dL_isHung_271 : decode cL_isHung 271 = .ok (.aload_n 1, 1) := by decide +kernel
theorem dL_isHung_272 : decode cL_isHung 272 = .ok (.iload 7, 2) := by decide +kernel
theorem dL_isHung_274 : decode cL_isHung 274 = .ok (.iconst 3, 1) := by decide +kernel
theorem dL_isHung_275 : decode cL_isHung 275 = .ok (.iadd, 1) := by decide +kernel
theorem dL_isHung_276 : decode cL_isHung 276 = .ok (.iload 10, 2) := by decide +kernel
theorem dL_isHung_278 : decode cL_isHung 278 = .ok (.ifCond .lt 17, 3) := by decide +kernel
theorem dL_isHung_281 : decode cL_isHung 281 = .ok (.aload_n 1, 1) := by decide +kernel
theorem dL_isHung_282 : decode cL_isHung 282 = .ok (.iload 7, 2) := by decide +kernel
theorem dL_isHung_284 : decode cL_isHung 284 = .ok (.iconst 3, 1) := by decide +kernel
theorem dL_isHung_285 : decode cL_isHung 285 = .ok (.iadd, 1) := by decide +kernel
theorem dL_isHung_286 : decode cL_isHung 286 = .ok (.iaload, 1) := by decide +kernel
theorem dL_isHung_287 : decode cL_isHung 287 = .ok (.iconst 1, 1) := by decide +kernel
theorem dL_isHung_288 : decode cL_isHung 288 = .ok (.if_icmp .ne 7, 3) := by decide +kernel
theorem dL_isHung_291 : decode cL_isHung 291 = .ok (.iconst 0, 1) := by decide +kernel
theorem dL_isHung_292 : decode cL_isHung 292 = .ok (.goto 9, 3) := by decide +kernel
theorem dL_isHung_295 : decode cL_isHung 295 = .ok (.aload_n 1, 1) := by decide +kernel
theorem dL_isHung_296 : decode cL_isHung 296 = .ok (.iload 7, 2) := by decide +kernel
theorem dL_isHung_298 : decode cL_isHung 298 = .ok (.iconst 3, 1) := by decide +kernel
theorem dL_isHung_299 : decode cL_isHung 299 = .ok (.iadd, 1) := by decide +kernel
theorem dL_isHung_300 : decode cL_isHung 300 = .ok (.iaload, 1) := by decide +kernel
theorem dL_isHung_301 : decode cL_isHung 301 = .ok (.iastore, 1) := by decide +kernel
theorem dL_isHung_302 : decode cL_isHung 302 = .ok (.aload_n 0, 1) := by decide +kernel
theorem dL_isHung_303 : decode cL_isHung 303 = .ok (.iload 6, 2) := by decide +kernel
theorem dL_isHung_305 : decode cL_isHung 305 = .ok (.invokestatic 98, 3) := by decide +kernel
theorem dL_isHung_308 : decode cL_isHung 308 = .ok (.iload 10, 2) := by decide +kernel
theorem dL_isHung_310 : decode cL_isHung 310 = .ok (.ifCond .ge 8, 3) := by decide +kernel
theorem dL_isHung_313 : decode cL_isHung 313 = .ok (.bipush (-2), 2) := by decide +kernel
theorem dL_isHung_315 : decode cL_isHung 315 = .ok (.goto 5, 3) := by decide +kernel
theorem dL_isHung_318 : decode cL_isHung 318 = .ok (.iload 10, 2) := by decide +kernel
theorem dL_isHung_320 : decode cL_isHung 320 = .ok (.if_icmp .ne 7, 3) := by decide +kernel
theorem dL_isHung_323 : decode cL_isHung 323 = .ok (.iconst 1, 1) := by decide +kernel
theorem dL_isHung_324 : decode cL_isHung 324 = .ok (.goto 4, 3) := by decide +kernel
theorem dL_isHung_327 : decode cL_isHung 327 = .ok (.iconst 0, 1) := by decide +kernel
theorem dL_isHung_328 : decode cL_isHung 328 = .ok (.ireturn, 1) := by decide +kernel
theorem dL_isHung_329 : decode cL_isHung 329 = .ok (.iload 4, 2) := by decide +kernel
theorem dL_isHung_331 : decode cL_isHung 331 = .ok (.bipush 6, 2) := by decide +kernel
theorem dL_isHung_333 : decode cL_isHung 333 = .ok (.if_icmp .ne 79, 3) := by decide +kernel
theorem dL_isHung_336 : decode cL_isHung 336 = .ok (.iload 5, 2) := by decide +kernel
theorem dL_isHung_338 : decode cL_isHung 338 = .ok (.iconst 3, 1) := by decide +kernel
theorem dL_isHung_339 : decode cL_isHung 339 = .ok (.irem, 1) := by decide +kernel
theorem dL_isHung_340 : decode cL_isHung 340 = .ok (.ifCond .ne 72, 3) := by decide +kernel
theorem dL_isHung_343 : decode cL_isHung 343 = .ok (.aload_n 1, 1) := by decide +kernel
theorem dL_isHung_344 : decode cL_isHung 344 = .ok (.iload 7, 2) := by decide +kernel
theorem dL_isHung_346 : decode cL_isHung 346 = .ok (.iconst 3, 1) := by decide +kernel
theorem dL_isHung_347 : decode cL_isHung 347 = .ok (.iadd, 1) := by decide +kernel
theorem dL_isHung_348 : decode cL_isHung 348 = .ok (.iaload, 1) := by decide +kernel
theorem dL_isHung_349 : decode cL_isHung 349 = .ok (.iconst 1, 1) := by decide +kernel
theorem dL_isHung_350 : decode cL_isHung 350 = .ok (.if_icmp .ne 7, 3) := by decide +kernel
theorem dL_isHung_353 : decode cL_isHung 353 = .ok (.iconst 1, 1) := by decide +kernel
theorem dL_isHung_354 : decode cL_isHung 354 = .ok (.goto 4, 3) := by decide +kernel
theorem dL_isHung_357 : decode cL_isHung 357 = .ok (.iconst 0, 1) := by decide +kernel
theorem dL_isHung_358 : decode cL_isHung 358 = .ok (.istore 10, 2) := by decide +kernel
theorem dL_isHung_360 : decode cL_isHung 360 = .ok (.aload_n 1, 1) := by decide +kernel
theorem dL_isHung_361 : decode cL_isHung 361 = .ok (.iload 7, 2) := by decide +kernel
theorem dL_isHung_363 : decode cL_isHung 363 = .ok (.iconst 3, 1) := by decide +kernel
theorem dL_isHung_364 : decode cL_isHung 364 = .ok (.iadd, 1) := by decide +kernel
theorem dL_isHung_365 : decode cL_isHung 365 = .ok (.iload 10, 2) := by decide +kernel
theorem dL_isHung_367 : decode cL_isHung 367 = .ok (.ifCond .eq 7, 3) := by decide +kernel
theorem dL_isHung_370 : decode cL_isHung 370 = .ok (.iconst 0, 1) := by decide +kernel
theorem dL_isHung_371 : decode cL_isHung 371 = .ok (.goto 9, 3) := by decide +kernel
theorem dL_isHung_374 : decode cL_isHung 374 = .ok (.aload_n 1, 1) := by decide +kernel
theorem dL_isHung_375 : decode cL_isHung 375 = .ok (.iload 7, 2) := by decide +kernel
theorem dL_isHung_377 : decode cL_isHung 377 = .ok (.iconst 3, 1) := by decide +kernel
theorem dL_isHung_378 : decode cL_isHung 378 = .ok (.iadd, 1) := by decide +kernel
theorem dL_isHung_379 : decode cL_isHung 379 = .ok (.iaload, 1) := by decide +kernel
theorem dL_isHung_380 : decode cL_isHung 380 = .ok (.iastore, 1) := by decide +kernel
theorem dL_isHung_381 : decode cL_isHung 381 = .ok (.aload_n 0, 1) := by decide +kernel
theorem dL_isHung_382 : decode cL_isHung 382 = .ok (.iload 6, 2) := by decide +kernel
theorem dL_isHung_384 : decode cL_isHung 384 = .ok (.invokestatic 102, 3) := by decide +kernel
theorem dL_isHung_387 : decode cL_isHung 387 = .ok (.iload 10, 2) := by decide +kernel
theorem dL_isHung_389 : decode cL_isHung 389 = .ok (.ifCond .eq 12, 3) := by decide +kernel
theorem dL_isHung_392 : decode cL_isHung 392 = .ok (.aload_n 1, 1) := by decide +kernel
theorem dL_isHung_393 : decode cL_isHung 393 = .ok (.iload 7, 2) := by decide +kernel
theorem dL_isHung_395 : decode cL_isHung 395 = .ok (.iconst 4, 1) := by decide +kernel
theorem dL_isHung_396 : decode cL_isHung 396 = .ok (.iadd, 1) := by decide +kernel
theorem dL_isHung_397 : decode cL_isHung 397 = .ok (.iaload, 1) := by decide +kernel
theorem dL_isHung_398 : decode cL_isHung 398 = .ok (.goto 5, 3) := by decide +kernel
theorem dL_isHung_401 : decode cL_isHung 401 = .ok (.bipush (-2), 2) := by decide +kernel
theorem dL_isHung_403 : decode cL_isHung 403 = .ok (.if_icmp .ne 7, 3) := by decide +kernel
theorem dL_isHung_406 : decode cL_isHung 406 = .ok (.iconst 1, 1) := by decide +kernel
theorem dL_isHung_407 : decode cL_isHung 407 = .ok (.goto 4, 3) := by decide +kernel
theorem dL_isHung_410 : decode cL_isHung 410 = .ok (.iconst 0, 1) := by decide +kernel
theorem dL_isHung_411 : decode cL_isHung 411 = .ok (.ireturn, 1) := by decide +kernel
theorem dL_isHung_412 : decode cL_isHung 412 = .ok (.aload_n 1, 1) := by decide +kernel
theorem dL_isHung_413 : decode cL_isHung 413 = .ok (.aload_n 2, 1) := by decide +kernel
theorem dL_isHung_414 : decode cL_isHung 414 = .ok (.iload 6, 2) := by decide +kernel
theorem dL_isHung_416 : decode cL_isHung 416 = .ok (.invokestatic 9, 3) := by decide +kernel
theorem dL_isHung_419 : decode cL_isHung 419 = .ok (.ifCond .lt 30, 3) := by decide +kernel
theorem dL_isHung_422 : decode cL_isHung 422 = .ok (.aload_n 1, 1) := by decide +kernel
theorem dL_isHung_423 : decode cL_isHung 423 = .ok (.iload 7, 2) := by decide +kernel
theorem dL_isHung_425 : decode cL_isHung 425 = .ok (.iconst 3, 1) := by decide +kernel
theorem dL_isHung_426 : decode cL_isHung 426 = .ok (.iadd, 1) := by decide +kernel
theorem dL_isHung_427 : decode cL_isHung 427 = .ok (.iaload, 1) := by decide +kernel
theorem dL_isHung_428 : decode cL_isHung 428 = .ok (.ifCond .ne 21, 3) := by decide +kernel
theorem dL_isHung_431 : decode cL_isHung 431 = .ok (.aload_n 1, 1) := by decide +kernel
theorem dL_isHung_432 : decode cL_isHung 432 = .ok (.aload_n 2, 1) := by decide +kernel
theorem dL_isHung_433 : decode cL_isHung 433 = .ok (.aload_n 3, 1) := by decide +kernel
theorem dL_isHung_434 : decode cL_isHung 434 = .ok (.iload 6, 2) := by decide +kernel
theorem dL_isHung_436 : decode cL_isHung 436 = .ok (.aload_n 3, 1) := by decide +kernel
theorem dL_isHung_437 : decode cL_isHung 437 = .ok (.iconst 0, 1) := by decide +kernel
theorem dL_isHung_438 : decode cL_isHung 438 = .ok (.iaload, 1) := by decide +kernel
theorem dL_isHung_439 : decode cL_isHung 439 = .ok (.invokestatic 19, 3) := by decide +kernel
theorem dL_isHung_442 : decode cL_isHung 442 = .ok (.ifCond .ne 7, 3) := by decide +kernel
theorem dL_isHung_445 : decode cL_isHung 445 = .ok (.iconst 1, 1) := by decide +kernel
theorem dL_isHung_446 : decode cL_isHung 446 = .ok (.goto 4, 3) := by decide +kernel
theorem dL_isHung_449 : decode cL_isHung 449 = .ok (.iconst 0, 1) := by decide +kernel
theorem dL_isHung_450 : decode cL_isHung 450 = .ok (.istore 10, 2) := by decide +kernel
theorem dL_isHung_452 : decode cL_isHung 452 = .ok (.aload_n 1, 1) := by decide +kernel
theorem dL_isHung_453 : decode cL_isHung 453 = .ok (.iload 7, 2) := by decide +kernel
theorem dL_isHung_455 : decode cL_isHung 455 = .ok (.iconst 3, 1) := by decide +kernel
theorem dL_isHung_456 : decode cL_isHung 456 = .ok (.iadd, 1) := by decide +kernel
theorem dL_isHung_457 : decode cL_isHung 457 = .ok (.iload 10, 2) := by decide +kernel
theorem dL_isHung_459 : decode cL_isHung 459 = .ok (.ifCond .eq 7, 3) := by decide +kernel
theorem dL_isHung_462 : decode cL_isHung 462 = .ok (.iconst 1, 1) := by decide +kernel
theorem dL_isHung_463 : decode cL_isHung 463 = .ok (.goto 9, 3) := by decide +kernel
theorem dL_isHung_466 : decode cL_isHung 466 = .ok (.aload_n 1, 1) := by decide +kernel
