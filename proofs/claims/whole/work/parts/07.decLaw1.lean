theorem d_L_law_411 : decode b_L_law 411 = .ok (.iaload, 1) := by decide +kernel
theorem d_L_law_412 : decode b_L_law 412 = .ok (.aload_n 0, 1) := by decide +kernel
theorem d_L_law_413 : decode b_L_law 413 = .ok (.iload 4, 2) := by decide +kernel
theorem d_L_law_415 : decode b_L_law 415 = .ok (.iconst 4, 1) := by decide +kernel
theorem d_L_law_416 : decode b_L_law 416 = .ok (.iadd, 1) := by decide +kernel
theorem d_L_law_417 : decode b_L_law 417 = .ok (.iaload, 1) := by decide +kernel
theorem d_L_law_418 : decode b_L_law 418 = .ok (.ifCond .eq 7, 3) := by decide +kernel
theorem d_L_law_421 : decode b_L_law 421 = .ok (.iconst 1, 1) := by decide +kernel
theorem d_L_law_422 : decode b_L_law 422 = .ok (.goto 4, 3) := by decide +kernel
theorem d_L_law_425 : decode b_L_law 425 = .ok (.iconst 0, 1) := by decide +kernel
theorem d_L_law_426 : decode b_L_law 426 = .ok (.invokevirtual 93, 3) := by decide +kernel
theorem d_L_law_429 : decode b_L_law 429 = .ok (.aload_n 2, 1) := by decide +kernel
theorem d_L_law_430 : decode b_L_law 430 = .ok (.invokevirtual 79, 3) := by decide +kernel
theorem d_L_law_433 : decode b_L_law 433 = .ok (.iload 5, 2) := by decide +kernel
theorem d_L_law_435 : decode b_L_law 435 = .ok (.if_icmp .eq 5, 3) := by decide +kernel
theorem d_L_law_438 : decode b_L_law 438 = .ok (.iconst 0, 1) := by decide +kernel
theorem d_L_law_439 : decode b_L_law 439 = .ok (.ireturn, 1) := by decide +kernel
theorem d_L_law_440 : decode b_L_law 440 = .ok (.goto 667, 3) := by decide +kernel
theorem d_L_law_443 : decode b_L_law 443 = .ok (.aload_n 1, 1) := by decide +kernel
theorem d_L_law_444 : decode b_L_law 444 = .ok (.invokevirtual 94, 3) := by decide +kernel
theorem d_L_law_447 : decode b_L_law 447 = .ok (.aload_n 2, 1) := by decide +kernel
theorem d_L_law_448 : decode b_L_law 448 = .ok (.invokevirtual 97, 3) := by decide +kernel
theorem d_L_law_451 : decode b_L_law 451 = .ok (.goto 656, 3) := by decide +kernel
theorem d_L_law_454 : decode b_L_law 454 = .ok (.aload_n 1, 1) := by decide +kernel
theorem d_L_law_455 : decode b_L_law 455 = .ok (.invokevirtual 98, 3) := by decide +kernel
theorem d_L_law_458 : decode b_L_law 458 = .ok (.aload_n 2, 1) := by decide +kernel
theorem d_L_law_459 : decode b_L_law 459 = .ok (.invokevirtual 101, 3) := by decide +kernel
theorem d_L_law_462 : decode b_L_law 462 = .ok (.if_icmp .eq 645, 3) := by decide +kernel
theorem d_L_law_465 : decode b_L_law 465 = .ok (.iconst 0, 1) := by decide +kernel
theorem d_L_law_466 : decode b_L_law 466 = .ok (.ireturn, 1) := by decide +kernel
theorem d_L_law_467 : decode b_L_law 467 = .ok (.aload_n 1, 1) := by decide +kernel
theorem d_L_law_468 : decode b_L_law 468 = .ok (.aload_n 0, 1) := by decide +kernel
theorem d_L_law_469 : decode b_L_law 469 = .ok (.iload 4, 2) := by decide +kernel
theorem d_L_law_471 : decode b_L_law 471 = .ok (.iconst 1, 1) := by decide +kernel
theorem d_L_law_472 : decode b_L_law 472 = .ok (.iadd, 1) := by decide +kernel
theorem d_L_law_473 : decode b_L_law 473 = .ok (.iaload, 1) := by decide +kernel
theorem d_L_law_474 : decode b_L_law 474 = .ok (.aload_n 0, 1) := by decide +kernel
theorem d_L_law_475 : decode b_L_law 475 = .ok (.iload 4, 2) := by decide +kernel
theorem d_L_law_477 : decode b_L_law 477 = .ok (.iconst 2, 1) := by decide +kernel
theorem d_L_law_478 : decode b_L_law 478 = .ok (.iadd, 1) := by decide +kernel
theorem d_L_law_479 : decode b_L_law 479 = .ok (.iaload, 1) := by decide +kernel
theorem d_L_law_480 : decode b_L_law 480 = .ok (.aload_n 3, 1) := by decide +kernel
theorem d_L_law_481 : decode b_L_law 481 = .ok (.invokestatic 102, 3) := by decide +kernel
theorem d_L_law_484 : decode b_L_law 484 = .ok (.istore 5, 2) := by decide +kernel
theorem d_L_law_486 : decode b_L_law 486 = .ok (.aload_n 2, 1) := by decide +kernel
theorem d_L_law_487 : decode b_L_law 487 = .ok (.aload_n 0, 1) := by decide +kernel
theorem d_L_law_488 : decode b_L_law 488 = .ok (.iload 4, 2) := by decide +kernel
theorem d_L_law_490 : decode b_L_law 490 = .ok (.iconst 1, 1) := by decide +kernel
theorem d_L_law_491 : decode b_L_law 491 = .ok (.iadd, 1) := by decide +kernel
theorem d_L_law_492 : decode b_L_law 492 = .ok (.iaload, 1) := by decide +kernel
theorem d_L_law_493 : decode b_L_law 493 = .ok (.aload_n 0, 1) := by decide +kernel
theorem d_L_law_494 : decode b_L_law 494 = .ok (.iload 4, 2) := by decide +kernel
theorem d_L_law_496 : decode b_L_law 496 = .ok (.iconst 2, 1) := by decide +kernel
theorem d_L_law_497 : decode b_L_law 497 = .ok (.iadd, 1) := by decide +kernel
theorem d_L_law_498 : decode b_L_law 498 = .ok (.iaload, 1) := by decide +kernel
theorem d_L_law_499 : decode b_L_law 499 = .ok (.invokevirtual 104, 3) := by decide +kernel
theorem d_L_law_502 : decode b_L_law 502 = .ok (.istore 6, 2) := by decide +kernel
theorem d_L_law_504 : decode b_L_law 504 = .ok (.aload_n 2, 1) := by decide +kernel
theorem d_L_law_505 : decode b_L_law 505 = .ok (.invokevirtual 79, 3) := by decide +kernel
theorem d_L_law_508 : decode b_L_law 508 = .ok (.iload 5, 2) := by decide +kernel
theorem d_L_law_510 : decode b_L_law 510 = .ok (.if_icmp .eq 5, 3) := by decide +kernel
theorem d_L_law_513 : decode b_L_law 513 = .ok (.iconst 0, 1) := by decide +kernel
theorem d_L_law_514 : decode b_L_law 514 = .ok (.ireturn, 1) := by decide +kernel
theorem d_L_law_515 : decode b_L_law 515 = .ok (.iload 5, 2) := by decide +kernel
theorem d_L_law_517 : decode b_L_law 517 = .ok (.ifCond .ne 15, 3) := by decide +kernel
theorem d_L_law_520 : decode b_L_law 520 = .ok (.aload_n 3, 1) := by decide +kernel
theorem d_L_law_521 : decode b_L_law 521 = .ok (.iconst 0, 1) := by decide +kernel
theorem d_L_law_522 : decode b_L_law 522 = .ok (.laload, 1) := by decide +kernel
theorem d_L_law_523 : decode b_L_law 523 = .ok (.iload 6, 2) := by decide +kernel
theorem d_L_law_525 : decode b_L_law 525 = .ok (.i2l, 1) := by decide +kernel
theorem d_L_law_526 : decode b_L_law 526 = .ok (.lcmp, 1) := by decide +kernel
theorem d_L_law_527 : decode b_L_law 527 = .ok (.ifCond .eq 5, 3) := by decide +kernel
theorem d_L_law_530 : decode b_L_law 530 = .ok (.iconst 0, 1) := by decide +kernel
theorem d_L_law_531 : decode b_L_law 531 = .ok (.ireturn, 1) := by decide +kernel
theorem d_L_law_532 : decode b_L_law 532 = .ok (.goto 575, 3) := by decide +kernel
theorem d_L_law_535 : decode b_L_law 535 = .ok (.aload_n 1, 1) := by decide +kernel
theorem d_L_law_536 : decode b_L_law 536 = .ok (.aload_n 0, 1) := by decide +kernel
theorem d_L_law_537 : decode b_L_law 537 = .ok (.iload 4, 2) := by decide +kernel
theorem d_L_law_539 : decode b_L_law 539 = .ok (.iconst 1, 1) := by decide +kernel
theorem d_L_law_540 : decode b_L_law 540 = .ok (.iadd, 1) := by decide +kernel
theorem d_L_law_541 : decode b_L_law 541 = .ok (.iaload, 1) := by decide +kernel
theorem d_L_law_542 : decode b_L_law 542 = .ok (.aload_n 0, 1) := by decide +kernel
theorem d_L_law_543 : decode b_L_law 543 = .ok (.iload 4, 2) := by decide +kernel
theorem d_L_law_545 : decode b_L_law 545 = .ok (.iconst 2, 1) := by decide +kernel
theorem d_L_law_546 : decode b_L_law 546 = .ok (.iadd, 1) := by decide +kernel
theorem d_L_law_547 : decode b_L_law 547 = .ok (.iaload, 1) := by decide +kernel
theorem d_L_law_548 : decode b_L_law 548 = .ok (.aload_n 3, 1) := by decide +kernel
theorem d_L_law_549 : decode b_L_law 549 = .ok (.invokestatic 105, 3) := by decide +kernel
theorem d_L_law_552 : decode b_L_law 552 = .ok (.istore 5, 2) := by decide +kernel
theorem d_L_law_554 : decode b_L_law 554 = .ok (.aload_n 2, 1) := by decide +kernel
theorem d_L_law_555 : decode b_L_law 555 = .ok (.aload_n 0, 1) := by decide +kernel
theorem d_L_law_556 : decode b_L_law 556 = .ok (.iload 4, 2) := by decide +kernel
theorem d_L_law_558 : decode b_L_law 558 = .ok (.iconst 1, 1) := by decide +kernel
theorem d_L_law_559 : decode b_L_law 559 = .ok (.iadd, 1) := by decide +kernel
theorem d_L_law_560 : decode b_L_law 560 = .ok (.iaload, 1) := by decide +kernel
theorem d_L_law_561 : decode b_L_law 561 = .ok (.aload_n 0, 1) := by decide +kernel
theorem d_L_law_562 : decode b_L_law 562 = .ok (.iload 4, 2) := by decide +kernel
theorem d_L_law_564 : decode b_L_law 564 = .ok (.iconst 2, 1) := by decide +kernel
theorem d_L_law_565 : decode b_L_law 565 = .ok (.iadd, 1) := by decide +kernel
theorem d_L_law_566 : decode b_L_law 566 = .ok (.iaload, 1) := by decide +kernel
theorem d_L_law_567 : decode b_L_law 567 = .ok (.invokevirtual 107, 3) := by decide +kernel
theorem d_L_law_570 : decode b_L_law 570 = .ok (.istore 6, 2) := by decide +kernel
theorem d_L_law_572 : decode b_L_law 572 = .ok (.aload_n 2, 1) := by decide +kernel
theorem d_L_law_573 : decode b_L_law 573 = .ok (.invokevirtual 79, 3) := by decide +kernel
theorem d_L_law_576 : decode b_L_law 576 = .ok (.iload 5, 2) := by decide +kernel
theorem d_L_law_578 : decode b_L_law 578 = .ok (.if_icmp .eq 5, 3) := by decide +kernel
theorem d_L_law_581 : decode b_L_law 581 = .ok (.iconst 0, 1) := by decide +kernel
theorem d_L_law_582 : decode b_L_law 582 = .ok (.ireturn, 1) := by decide +kernel
theorem d_L_law_583 : decode b_L_law 583 = .ok (.iload 5, 2) := by decide +kernel
theorem d_L_law_585 : decode b_L_law 585 = .ok (.ifCond .ne 15, 3) := by decide +kernel
theorem d_L_law_588 : decode b_L_law 588 = .ok (.aload_n 3, 1) := by decide +kernel
theorem d_L_law_589 : decode b_L_law 589 = .ok (.iconst 0, 1) := by decide +kernel
theorem d_L_law_590 : decode b_L_law 590 = .ok (.laload, 1) := by decide +kernel
theorem d_L_law_591 : decode b_L_law 591 = .ok (.iload 6, 2) := by decide +kernel
theorem d_L_law_593 : decode b_L_law 593 = .ok (.i2l, 1) := by decide +kernel
theorem d_L_law_594 : decode b_L_law 594 = .ok (.lcmp, 1) := by decide +kernel
theorem d_L_law_595 : decode b_L_law 595 = .ok (.ifCond .eq 5, 3) := by decide +kernel
theorem d_L_law_598 : decode b_L_law 598 = .ok (.iconst 0, 1) := by decide +kernel
theorem d_L_law_599 : decode b_L_law 599 = .ok (.ireturn, 1) := by decide +kernel
theorem d_L_law_600 : decode b_L_law 600 = .ok (.goto 507, 3) := by decide +kernel
theorem d_L_law_603 : decode b_L_law 603 = .ok (.aload_n 1, 1) := by decide +kernel
theorem d_L_law_604 : decode b_L_law 604 = .ok (.aload_n 0, 1) := by decide +kernel
theorem d_L_law_605 : decode b_L_law 605 = .ok (.iload 4, 2) := by decide +kernel
theorem d_L_law_607 : decode b_L_law 607 = .ok (.iconst 1, 1) := by decide +kernel
theorem d_L_law_608 : decode b_L_law 608 = .ok (.iadd, 1) := by decide +kernel
theorem d_L_law_609 : decode b_L_law 609 = .ok (.iaload, 1) := by decide +kernel
theorem d_L_law_610 : decode b_L_law 610 = .ok (.aload_n 0, 1) := by decide +kernel
theorem d_L_law_611 : decode b_L_law 611 = .ok (.iload 4, 2) := by decide +kernel
theorem d_L_law_613 : decode b_L_law 613 = .ok (.iconst 2, 1) := by decide +kernel
theorem d_L_law_614 : decode b_L_law 614 = .ok (.iadd, 1) := by decide +kernel
theorem d_L_law_615 : decode b_L_law 615 = .ok (.iaload, 1) := by decide +kernel
theorem d_L_law_616 : decode b_L_law 616 = .ok (.aload_n 3, 1) := by decide +kernel
theorem d_L_law_617 : decode b_L_law 617 = .ok (.invokestatic 108, 3) := by decide +kernel
theorem d_L_law_620 : decode b_L_law 620 = .ok (.istore 5, 2) := by decide +kernel
theorem d_L_law_622 : decode b_L_law 622 = .ok (.aload_n 2, 1) := by decide +kernel
theorem d_L_law_623 : decode b_L_law 623 = .ok (.aload_n 0, 1) := by decide +kernel
theorem d_L_law_624 : decode b_L_law 624 = .ok (.iload 4, 2) := by decide +kernel
theorem d_L_law_626 : decode b_L_law 626 = .ok (.iconst 1, 1) := by decide +kernel
theorem d_L_law_627 : decode b_L_law 627 = .ok (.iadd, 1) := by decide +kernel
theorem d_L_law_628 : decode b_L_law 628 = .ok (.iaload, 1) := by decide +kernel
theorem d_L_law_629 : decode b_L_law 629 = .ok (.aload_n 0, 1) := by decide +kernel
theorem d_L_law_630 : decode b_L_law 630 = .ok (.iload 4, 2) := by decide +kernel
theorem d_L_law_632 : decode b_L_law 632 = .ok (.iconst 2, 1) := by decide +kernel
theorem d_L_law_633 : decode b_L_law 633 = .ok (.iadd, 1) := by decide +kernel
theorem d_L_law_634 : decode b_L_law 634 = .ok (.iaload, 1) := by decide +kernel
theorem d_L_law_635 : decode b_L_law 635 = .ok (.invokevirtual 110, 3) := by decide +kernel
theorem d_L_law_638 : decode b_L_law 638 = .ok (.istore 6, 2) := by decide +kernel
theorem d_L_law_640 : decode b_L_law 640 = .ok (.aload_n 2, 1) := by decide +kernel
theorem d_L_law_641 : decode b_L_law 641 = .ok (.invokevirtual 79, 3) := by decide +kernel
theorem d_L_law_644 : decode b_L_law 644 = .ok (.iload 5, 2) := by decide +kernel
theorem d_L_law_646 : decode b_L_law 646 = .ok (.if_icmp .eq 5, 3) := by decide +kernel
theorem d_L_law_649 : decode b_L_law 649 = .ok (.iconst 0, 1) := by decide +kernel
theorem d_L_law_650 : decode b_L_law 650 = .ok (.ireturn, 1) := by decide +kernel
theorem d_L_law_651 : decode b_L_law 651 = .ok (.iload 5, 2) := by decide +kernel
theorem d_L_law_653 : decode b_L_law 653 = .ok (.ifCond .ne 15, 3) := by decide +kernel
theorem d_L_law_656 : decode b_L_law 656 = .ok (.aload_n 3, 1) := by decide +kernel
theorem d_L_law_657 : decode b_L_law 657 = .ok (.iconst 0, 1) := by decide +kernel
theorem d_L_law_658 : decode b_L_law 658 = .ok (.laload, 1) := by decide +kernel
theorem d_L_law_659 : decode b_L_law 659 = .ok (.iload 6, 2) := by decide +kernel
theorem d_L_law_661 : decode b_L_law 661 = .ok (.i2l, 1) := by decide +kernel
theorem d_L_law_662 : decode b_L_law 662 = .ok (.lcmp, 1) := by decide +kernel
theorem d_L_law_663 : decode b_L_law 663 = .ok (.ifCond .eq 5, 3) := by decide +kernel
theorem d_L_law_666 : decode b_L_law 666 = .ok (.iconst 0, 1) := by decide +kernel
theorem d_L_law_667 : decode b_L_law 667 = .ok (.ireturn, 1) := by decide +kernel
theorem d_L_law_668 : decode b_L_law 668 = .ok (.goto 439, 3) := by decide +kernel
theorem d_L_law_671 : decode b_L_law 671 = .ok (.aload_n 1, 1) := by decide +kernel
theorem d_L_law_672 : decode b_L_law 672 = .ok (.aload_n 0, 1) := by decide +kernel
theorem d_L_law_673 : decode b_L_law 673 = .ok (.iload 4, 2) := by decide +kernel
theorem d_L_law_675 : decode b_L_law 675 = .ok (.iconst 1, 1) := by decide +kernel
theorem d_L_law_676 : decode b_L_law 676 = .ok (.iadd, 1) := by decide +kernel
theorem d_L_law_677 : decode b_L_law 677 = .ok (.iaload, 1) := by decide +kernel
theorem d_L_law_678 : decode b_L_law 678 = .ok (.aload_n 3, 1) := by decide +kernel
theorem d_L_law_679 : decode b_L_law 679 = .ok (.invokestatic 111, 3) := by decide +kernel
theorem d_L_law_682 : decode b_L_law 682 = .ok (.istore 5, 2) := by decide +kernel
theorem d_L_law_684 : decode b_L_law 684 = .ok (.aload_n 2, 1) := by decide +kernel
theorem d_L_law_685 : decode b_L_law 685 = .ok (.aload_n 0, 1) := by decide +kernel
theorem d_L_law_686 : decode b_L_law 686 = .ok (.iload 4, 2) := by decide +kernel
theorem d_L_law_688 : decode b_L_law 688 = .ok (.iconst 1, 1) := by decide +kernel
theorem d_L_law_689 : decode b_L_law 689 = .ok (.iadd, 1) := by decide +kernel
theorem d_L_law_690 : decode b_L_law 690 = .ok (.iaload, 1) := by decide +kernel
theorem d_L_law_691 : decode b_L_law 691 = .ok (.invokevirtual 114, 3) := by decide +kernel
theorem d_L_law_694 : decode b_L_law 694 = .ok (.istore 6, 2) := by decide +kernel
theorem d_L_law_696 : decode b_L_law 696 = .ok (.aload_n 2, 1) := by decide +kernel
theorem d_L_law_697 : decode b_L_law 697 = .ok (.invokevirtual 79, 3) := by decide +kernel
theorem d_L_law_700 : decode b_L_law 700 = .ok (.iload 5, 2) := by decide +kernel
theorem d_L_law_702 : decode b_L_law 702 = .ok (.if_icmp .eq 5, 3) := by decide +kernel
theorem d_L_law_705 : decode b_L_law 705 = .ok (.iconst 0, 1) := by decide +kernel
theorem d_L_law_706 : decode b_L_law 706 = .ok (.ireturn, 1) := by decide +kernel
theorem d_L_law_707 : decode b_L_law 707 = .ok (.iload 5, 2) := by decide +kernel
theorem d_L_law_709 : decode b_L_law 709 = .ok (.ifCond .ne 15, 3) := by decide +kernel
theorem d_L_law_712 : decode b_L_law 712 = .ok (.aload_n 3, 1) := by decide +kernel
theorem d_L_law_713 : decode b_L_law 713 = .ok (.iconst 0, 1) := by decide +kernel
theorem d_L_law_714 : decode b_L_law 714 = .ok (.laload, 1) := by decide +kernel
theorem d_L_law_715 : decode b_L_law 715 = .ok (.iload 6, 2) := by decide +kernel
theorem d_L_law_717 : decode b_L_law 717 = .ok (.i2l, 1) := by decide +kernel
theorem d_L_law_718 : decode b_L_law 718 = .ok (.lcmp, 1) := by decide +kernel
theorem d_L_law_719 : decode b_L_law 719 = .ok (.ifCond .eq 5, 3) := by decide +kernel
theorem d_L_law_722 : decode b_L_law 722 = .ok (.iconst 0, 1) := by decide +kernel
theorem d_L_law_723 : decode b_L_law 723 = .ok (.ireturn, 1) := by decide +kernel
theorem d_L_law_724 : decode b_L_law 724 = .ok (.goto 383, 3) := by decide +kernel
theorem d_L_law_727 : decode b_L_law 727 = .ok (.aload_n 1, 1) := by decide +kernel
theorem d_L_law_728 : decode b_L_law 728 = .ok (.aload_n 3, 1) := by decide +kernel
theorem d_L_law_729 : decode b_L_law 729 = .ok (.invokestatic 115, 3) := by decide +kernel
theorem d_L_law_732 : decode b_L_law 732 = .ok (.istore 5, 2) := by decide +kernel
theorem d_L_law_734 : decode b_L_law 734 = .ok (.aload_n 2, 1) := by decide +kernel
theorem d_L_law_735 : decode b_L_law 735 = .ok (.invokevirtual 118, 3) := by decide +kernel
theorem d_L_law_738 : decode b_L_law 738 = .ok (.istore 6, 2) := by decide +kernel
theorem d_L_law_740 : decode b_L_law 740 = .ok (.aload_n 2, 1) := by decide +kernel
theorem d_L_law_741 : decode b_L_law 741 = .ok (.invokevirtual 79, 3) := by decide +kernel
theorem d_L_law_744 : decode b_L_law 744 = .ok (.iload 5, 2) := by decide +kernel
theorem d_L_law_746 : decode b_L_law 746 = .ok (.if_icmp .eq 5, 3) := by decide +kernel
theorem d_L_law_749 : decode b_L_law 749 = .ok (.iconst 0, 1) := by decide +kernel
theorem d_L_law_750 : decode b_L_law 750 = .ok (.ireturn, 1) := by decide +kernel
theorem d_L_law_751 : decode b_L_law 751 = .ok (.iload 5, 2) := by decide +kernel
theorem d_L_law_753 : decode b_L_law 753 = .ok (.ifCond .ne 15, 3) := by decide +kernel
theorem d_L_law_756 : decode b_L_law 756 = .ok (.aload_n 3, 1) := by decide +kernel
theorem d_L_law_757 : decode b_L_law 757 = .ok (.iconst 0, 1) := by decide +kernel
theorem d_L_law_758 : decode b_L_law 758 = .ok (.laload, 1) := by decide +kernel
theorem d_L_law_759 : decode b_L_law 759 = .ok (.iload 6, 2) := by decide +kernel
theorem d_L_law_761 : decode b_L_law 761 = .ok (.i2l, 1) := by decide +kernel
