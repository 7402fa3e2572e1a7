theorem dlaw_400 : decode code 400 = .ok (.iload 5, 2) := by decide +kernel
theorem dlaw_402 : decode code 402 = .ok (.iconst 1, 1) := by decide +kernel
theorem dlaw_403 : decode code 403 = .ok (.iadd, 1) := by decide +kernel
theorem dlaw_404 : decode code 404 = .ok (.iaload, 1) := by decide +kernel
theorem dlaw_405 : decode code 405 = .ok (.invokevirtual 104, 3) := by decide +kernel
theorem dlaw_408 : decode code 408 = .ok (.dstore 7, 2) := by decide +kernel
theorem dlaw_410 : decode code 410 = .ok (.aload_n 2, 1) := by decide +kernel
theorem dlaw_411 : decode code 411 = .ok (.invokevirtual 80, 3) := by decide +kernel
theorem dlaw_414 : decode code 414 = .ok (.iload 6, 2) := by decide +kernel
theorem dlaw_416 : decode code 416 = .ok (.if_icmp .eq 5, 3) := by decide +kernel
theorem dlaw_419 : decode code 419 = .ok (.iconst 0, 1) := by decide +kernel
theorem dlaw_420 : decode code 420 = .ok (.ireturn, 1) := by decide +kernel
theorem dlaw_421 : decode code 421 = .ok (.iload 6, 2) := by decide +kernel
theorem dlaw_423 : decode code 423 = .ok (.ifCond .ne 35, 3) := by decide +kernel
theorem dlaw_426 : decode code 426 = .ok (.aload 4, 2) := by decide +kernel
theorem dlaw_428 : decode code 428 = .ok (.iconst 0, 1) := by decide +kernel
theorem dlaw_429 : decode code 429 = .ok (.daload, 1) := by decide +kernel
theorem dlaw_430 : decode code 430 = .ok (.dload 7, 2) := by decide +kernel
theorem dlaw_432 : decode code 432 = .ok (.dcmp .l, 1) := by decide +kernel
theorem dlaw_433 : decode code 433 = .ok (.ifCond .eq 25, 3) := by decide +kernel
theorem dlaw_436 : decode code 436 = .ok (.aload 4, 2) := by decide +kernel
theorem dlaw_438 : decode code 438 = .ok (.iconst 0, 1) := by decide +kernel
theorem dlaw_439 : decode code 439 = .ok (.daload, 1) := by decide +kernel
theorem dlaw_440 : decode code 440 = .ok (.aload 4, 2) := by decide +kernel
theorem dlaw_442 : decode code 442 = .ok (.iconst 0, 1) := by decide +kernel
theorem dlaw_443 : decode code 443 = .ok (.daload, 1) := by decide +kernel
theorem dlaw_444 : decode code 444 = .ok (.dcmp .l, 1) := by decide +kernel
theorem dlaw_445 : decode code 445 = .ok (.ifCond .eq 11, 3) := by decide +kernel
theorem dlaw_448 : decode code 448 = .ok (.dload 7, 2) := by decide +kernel
theorem dlaw_450 : decode code 450 = .ok (.dload 7, 2) := by decide +kernel
theorem dlaw_452 : decode code 452 = .ok (.dcmp .l, 1) := by decide +kernel
theorem dlaw_453 : decode code 453 = .ok (.ifCond .ne 5, 3) := by decide +kernel
theorem dlaw_456 : decode code 456 = .ok (.iconst 0, 1) := by decide +kernel
theorem dlaw_457 : decode code 457 = .ok (.ireturn, 1) := by decide +kernel
theorem dlaw_458 : decode code 458 = .ok (.goto 731, 3) := by decide +kernel
theorem dlaw_461 : decode code 461 = .ok (.aload_n 1, 1) := by decide +kernel
theorem dlaw_462 : decode code 462 = .ok (.aload_n 0, 1) := by decide +kernel
theorem dlaw_463 : decode code 463 = .ok (.iload 5, 2) := by decide +kernel
theorem dlaw_465 : decode code 465 = .ok (.iconst 1, 1) := by decide +kernel
theorem dlaw_466 : decode code 466 = .ok (.iadd, 1) := by decide +kernel
theorem dlaw_467 : decode code 467 = .ok (.iaload, 1) := by decide +kernel
theorem dlaw_468 : decode code 468 = .ok (.aload_n 0, 1) := by decide +kernel
theorem dlaw_469 : decode code 469 = .ok (.iload 5, 2) := by decide +kernel
theorem dlaw_471 : decode code 471 = .ok (.iconst 2, 1) := by decide +kernel
theorem dlaw_472 : decode code 472 = .ok (.iadd, 1) := by decide +kernel
theorem dlaw_473 : decode code 473 = .ok (.iaload, 1) := by decide +kernel
theorem dlaw_474 : decode code 474 = .ok (.aload 4, 2) := by decide +kernel
theorem dlaw_476 : decode code 476 = .ok (.invokestatic 105, 3) := by decide +kernel
theorem dlaw_479 : decode code 479 = .ok (.istore 6, 2) := by decide +kernel
theorem dlaw_481 : decode code 481 = .ok (.aload_n 2, 1) := by decide +kernel
theorem dlaw_482 : decode code 482 = .ok (.aload_n 0, 1) := by decide +kernel
theorem dlaw_483 : decode code 483 = .ok (.iload 5, 2) := by decide +kernel
theorem dlaw_485 : decode code 485 = .ok (.iconst 1, 1) := by decide +kernel
theorem dlaw_486 : decode code 486 = .ok (.iadd, 1) := by decide +kernel
theorem dlaw_487 : decode code 487 = .ok (.iaload, 1) := by decide +kernel
theorem dlaw_488 : decode code 488 = .ok (.aload_n 0, 1) := by decide +kernel
theorem dlaw_489 : decode code 489 = .ok (.iload 5, 2) := by decide +kernel
theorem dlaw_491 : decode code 491 = .ok (.iconst 2, 1) := by decide +kernel
theorem dlaw_492 : decode code 492 = .ok (.iadd, 1) := by decide +kernel
theorem dlaw_493 : decode code 493 = .ok (.iaload, 1) := by decide +kernel
theorem dlaw_494 : decode code 494 = .ok (.invokevirtual 108, 3) := by decide +kernel
theorem dlaw_497 : decode code 497 = .ok (.dstore 7, 2) := by decide +kernel
theorem dlaw_499 : decode code 499 = .ok (.aload_n 2, 1) := by decide +kernel
theorem dlaw_500 : decode code 500 = .ok (.invokevirtual 80, 3) := by decide +kernel
theorem dlaw_503 : decode code 503 = .ok (.iload 6, 2) := by decide +kernel
theorem dlaw_505 : decode code 505 = .ok (.if_icmp .eq 5, 3) := by decide +kernel
theorem dlaw_508 : decode code 508 = .ok (.iconst 0, 1) := by decide +kernel
theorem dlaw_509 : decode code 509 = .ok (.ireturn, 1) := by decide +kernel
theorem dlaw_510 : decode code 510 = .ok (.iload 6, 2) := by decide +kernel
theorem dlaw_512 : decode code 512 = .ok (.ifCond .ne 35, 3) := by decide +kernel
theorem dlaw_515 : decode code 515 = .ok (.aload 4, 2) := by decide +kernel
theorem dlaw_517 : decode code 517 = .ok (.iconst 0, 1) := by decide +kernel
theorem dlaw_518 : decode code 518 = .ok (.daload, 1) := by decide +kernel
theorem dlaw_519 : decode code 519 = .ok (.dload 7, 2) := by decide +kernel
theorem dlaw_521 : decode code 521 = .ok (.dcmp .l, 1) := by decide +kernel
theorem dlaw_522 : decode code 522 = .ok (.ifCond .eq 25, 3) := by decide +kernel
theorem dlaw_525 : decode code 525 = .ok (.aload 4, 2) := by decide +kernel
theorem dlaw_527 : decode code 527 = .ok (.iconst 0, 1) := by decide +kernel
theorem dlaw_528 : decode code 528 = .ok (.daload, 1) := by decide +kernel
theorem dlaw_529 : decode code 529 = .ok (.aload 4, 2) := by decide +kernel
theorem dlaw_531 : decode code 531 = .ok (.iconst 0, 1) := by decide +kernel
theorem dlaw_532 : decode code 532 = .ok (.daload, 1) := by decide +kernel
theorem dlaw_533 : decode code 533 = .ok (.dcmp .l, 1) := by decide +kernel
theorem dlaw_534 : decode code 534 = .ok (.ifCond .eq 11, 3) := by decide +kernel
theorem dlaw_537 : decode code 537 = .ok (.dload 7, 2) := by decide +kernel
theorem dlaw_539 : decode code 539 = .ok (.dload 7, 2) := by decide +kernel
theorem dlaw_541 : decode code 541 = .ok (.dcmp .l, 1) := by decide +kernel
theorem dlaw_542 : decode code 542 = .ok (.ifCond .ne 5, 3) := by decide +kernel
theorem dlaw_545 : decode code 545 = .ok (.iconst 0, 1) := by decide +kernel
theorem dlaw_546 : decode code 546 = .ok (.ireturn, 1) := by decide +kernel
theorem dlaw_547 : decode code 547 = .ok (.goto 642, 3) := by decide +kernel
theorem dlaw_550 : decode code 550 = .ok (.aload_n 1, 1) := by decide +kernel
theorem dlaw_551 : decode code 551 = .ok (.aload_n 0, 1) := by decide +kernel
theorem dlaw_552 : decode code 552 = .ok (.iload 5, 2) := by decide +kernel
theorem dlaw_554 : decode code 554 = .ok (.iconst 1, 1) := by decide +kernel
theorem dlaw_555 : decode code 555 = .ok (.iadd, 1) := by decide +kernel
theorem dlaw_556 : decode code 556 = .ok (.iaload, 1) := by decide +kernel
theorem dlaw_557 : decode code 557 = .ok (.aload_n 0, 1) := by decide +kernel
theorem dlaw_558 : decode code 558 = .ok (.iload 5, 2) := by decide +kernel
theorem dlaw_560 : decode code 560 = .ok (.iconst 2, 1) := by decide +kernel
theorem dlaw_561 : decode code 561 = .ok (.iadd, 1) := by decide +kernel
theorem dlaw_562 : decode code 562 = .ok (.iaload, 1) := by decide +kernel
theorem dlaw_563 : decode code 563 = .ok (.aload 4, 2) := by decide +kernel
theorem dlaw_565 : decode code 565 = .ok (.invokestatic 109, 3) := by decide +kernel
theorem dlaw_568 : decode code 568 = .ok (.istore 6, 2) := by decide +kernel
theorem dlaw_570 : decode code 570 = .ok (.aload_n 2, 1) := by decide +kernel
theorem dlaw_571 : decode code 571 = .ok (.aload_n 0, 1) := by decide +kernel
theorem dlaw_572 : decode code 572 = .ok (.iload 5, 2) := by decide +kernel
theorem dlaw_574 : decode code 574 = .ok (.iconst 1, 1) := by decide +kernel
theorem dlaw_575 : decode code 575 = .ok (.iadd, 1) := by decide +kernel
theorem dlaw_576 : decode code 576 = .ok (.iaload, 1) := by decide +kernel
theorem dlaw_577 : decode code 577 = .ok (.aload_n 0, 1) := by decide +kernel
theorem dlaw_578 : decode code 578 = .ok (.iload 5, 2) := by decide +kernel
theorem dlaw_580 : decode code 580 = .ok (.iconst 2, 1) := by decide +kernel
theorem dlaw_581 : decode code 581 = .ok (.iadd, 1) := by decide +kernel
theorem dlaw_582 : decode code 582 = .ok (.iaload, 1) := by decide +kernel
theorem dlaw_583 : decode code 583 = .ok (.invokevirtual 111, 3) := by decide +kernel
theorem dlaw_586 : decode code 586 = .ok (.dstore 7, 2) := by decide +kernel
theorem dlaw_588 : decode code 588 = .ok (.aload_n 2, 1) := by decide +kernel
theorem dlaw_589 : decode code 589 = .ok (.invokevirtual 80, 3) := by decide +kernel
theorem dlaw_592 : decode code 592 = .ok (.iload 6, 2) := by decide +kernel
theorem dlaw_594 : decode code 594 = .ok (.if_icmp .eq 5, 3) := by decide +kernel
theorem dlaw_597 : decode code 597 = .ok (.iconst 0, 1) := by decide +kernel
theorem dlaw_598 : decode code 598 = .ok (.ireturn, 1) := by decide +kernel
theorem dlaw_599 : decode code 599 = .ok (.iload 6, 2) := by decide +kernel
theorem dlaw_601 : decode code 601 = .ok (.ifCond .ne 35, 3) := by decide +kernel
theorem dlaw_604 : decode code 604 = .ok (.aload 4, 2) := by decide +kernel
theorem dlaw_606 : decode code 606 = .ok (.iconst 0, 1) := by decide +kernel
theorem dlaw_607 : decode code 607 = .ok (.daload, 1) := by decide +kernel
theorem dlaw_608 : decode code 608 = .ok (.dload 7, 2) := by decide +kernel
theorem dlaw_610 : decode code 610 = .ok (.dcmp .l, 1) := by decide +kernel
theorem dlaw_611 : decode code 611 = .ok (.ifCond .eq 25, 3) := by decide +kernel
theorem dlaw_614 : decode code 614 = .ok (.aload 4, 2) := by decide +kernel
theorem dlaw_616 : decode code 616 = .ok (.iconst 0, 1) := by decide +kernel
theorem dlaw_617 : decode code 617 = .ok (.daload, 1) := by decide +kernel
theorem dlaw_618 : decode code 618 = .ok (.aload 4, 2) := by decide +kernel
theorem dlaw_620 : decode code 620 = .ok (.iconst 0, 1) := by decide +kernel
theorem dlaw_621 : decode code 621 = .ok (.daload, 1) := by decide +kernel
theorem dlaw_622 : decode code 622 = .ok (.dcmp .l, 1) := by decide +kernel
theorem dlaw_623 : decode code 623 = .ok (.ifCond .eq 11, 3) := by decide +kernel
theorem dlaw_626 : decode code 626 = .ok (.dload 7, 2) := by decide +kernel
theorem dlaw_628 : decode code 628 = .ok (.dload 7, 2) := by decide +kernel
theorem dlaw_630 : decode code 630 = .ok (.dcmp .l, 1) := by decide +kernel
theorem dlaw_631 : decode code 631 = .ok (.ifCond .ne 5, 3) := by decide +kernel
theorem dlaw_634 : decode code 634 = .ok (.iconst 0, 1) := by decide +kernel
theorem dlaw_635 : decode code 635 = .ok (.ireturn, 1) := by decide +kernel
theorem dlaw_636 : decode code 636 = .ok (.goto 553, 3) := by decide +kernel
theorem dlaw_639 : decode code 639 = .ok (.aload_n 1, 1) := by decide +kernel
theorem dlaw_640 : decode code 640 = .ok (.aload_n 0, 1) := by decide +kernel
theorem dlaw_641 : decode code 641 = .ok (.iload 5, 2) := by decide +kernel
theorem dlaw_643 : decode code 643 = .ok (.iconst 1, 1) := by decide +kernel
theorem dlaw_644 : decode code 644 = .ok (.iadd, 1) := by decide +kernel
theorem dlaw_645 : decode code 645 = .ok (.iaload, 1) := by decide +kernel
theorem dlaw_646 : decode code 646 = .ok (.i2d, 1) := by decide +kernel
theorem dlaw_647 : decode code 647 = .ok (.ldc2_w 91, 3) := by decide +kernel
theorem dlaw_650 : decode code 650 = .ok (.dmul, 1) := by decide +kernel
theorem dlaw_651 : decode code 651 = .ok (.aload_n 0, 1) := by decide +kernel
theorem dlaw_652 : decode code 652 = .ok (.iload 5, 2) := by decide +kernel
theorem dlaw_654 : decode code 654 = .ok (.iconst 2, 1) := by decide +kernel
theorem dlaw_655 : decode code 655 = .ok (.iadd, 1) := by decide +kernel
theorem dlaw_656 : decode code 656 = .ok (.iaload, 1) := by decide +kernel
theorem dlaw_657 : decode code 657 = .ok (.aload_n 0, 1) := by decide +kernel
theorem dlaw_658 : decode code 658 = .ok (.iload 5, 2) := by decide +kernel
theorem dlaw_660 : decode code 660 = .ok (.iconst 3, 1) := by decide +kernel
theorem dlaw_661 : decode code 661 = .ok (.iadd, 1) := by decide +kernel
theorem dlaw_662 : decode code 662 = .ok (.iaload, 1) := by decide +kernel
theorem dlaw_663 : decode code 663 = .ok (.i2d, 1) := by decide +kernel
theorem dlaw_664 : decode code 664 = .ok (.ldc2_w 91, 3) := by decide +kernel
theorem dlaw_667 : decode code 667 = .ok (.dmul, 1) := by decide +kernel
theorem dlaw_668 : decode code 668 = .ok (.invokestatic 112, 3) := by decide +kernel
theorem dlaw_671 : decode code 671 = .ok (.istore 6, 2) := by decide +kernel
theorem dlaw_673 : decode code 673 = .ok (.aload_n 2, 1) := by decide +kernel
theorem dlaw_674 : decode code 674 = .ok (.aload_n 0, 1) := by decide +kernel
theorem dlaw_675 : decode code 675 = .ok (.iload 5, 2) := by decide +kernel
theorem dlaw_677 : decode code 677 = .ok (.iconst 1, 1) := by decide +kernel
theorem dlaw_678 : decode code 678 = .ok (.iadd, 1) := by decide +kernel
theorem dlaw_679 : decode code 679 = .ok (.iaload, 1) := by decide +kernel
theorem dlaw_680 : decode code 680 = .ok (.i2d, 1) := by decide +kernel
theorem dlaw_681 : decode code 681 = .ok (.ldc2_w 91, 3) := by decide +kernel
theorem dlaw_684 : decode code 684 = .ok (.dmul, 1) := by decide +kernel
theorem dlaw_685 : decode code 685 = .ok (.aload_n 0, 1) := by decide +kernel
theorem dlaw_686 : decode code 686 = .ok (.iload 5, 2) := by decide +kernel
theorem dlaw_688 : decode code 688 = .ok (.iconst 2, 1) := by decide +kernel
theorem dlaw_689 : decode code 689 = .ok (.iadd, 1) := by decide +kernel
theorem dlaw_690 : decode code 690 = .ok (.iaload, 1) := by decide +kernel
theorem dlaw_691 : decode code 691 = .ok (.aload_n 0, 1) := by decide +kernel
theorem dlaw_692 : decode code 692 = .ok (.iload 5, 2) := by decide +kernel
theorem dlaw_694 : decode code 694 = .ok (.iconst 3, 1) := by decide +kernel
theorem dlaw_695 : decode code 695 = .ok (.iadd, 1) := by decide +kernel
theorem dlaw_696 : decode code 696 = .ok (.iaload, 1) := by decide +kernel
theorem dlaw_697 : decode code 697 = .ok (.i2d, 1) := by decide +kernel
theorem dlaw_698 : decode code 698 = .ok (.ldc2_w 91, 3) := by decide +kernel
theorem dlaw_701 : decode code 701 = .ok (.dmul, 1) := by decide +kernel
theorem dlaw_702 : decode code 702 = .ok (.invokevirtual 115, 3) := by decide +kernel
theorem dlaw_705 : decode code 705 = .ok (.aload_n 2, 1) := by decide +kernel
theorem dlaw_706 : decode code 706 = .ok (.invokevirtual 80, 3) := by decide +kernel
theorem dlaw_709 : decode code 709 = .ok (.iload 6, 2) := by decide +kernel
theorem dlaw_711 : decode code 711 = .ok (.if_icmp .eq 5, 3) := by decide +kernel
theorem dlaw_714 : decode code 714 = .ok (.iconst 0, 1) := by decide +kernel
theorem dlaw_715 : decode code 715 = .ok (.ireturn, 1) := by decide +kernel
theorem dlaw_716 : decode code 716 = .ok (.goto 473, 3) := by decide +kernel
theorem dlaw_719 : decode code 719 = .ok (.aload_n 1, 1) := by decide +kernel
theorem dlaw_720 : decode code 720 = .ok (.aload_n 0, 1) := by decide +kernel
theorem dlaw_721 : decode code 721 = .ok (.iload 5, 2) := by decide +kernel
theorem dlaw_723 : decode code 723 = .ok (.iconst 1, 1) := by decide +kernel
theorem dlaw_724 : decode code 724 = .ok (.iadd, 1) := by decide +kernel
theorem dlaw_725 : decode code 725 = .ok (.iaload, 1) := by decide +kernel
theorem dlaw_726 : decode code 726 = .ok (.aload_n 0, 1) := by decide +kernel
theorem dlaw_727 : decode code 727 = .ok (.iload 5, 2) := by decide +kernel
theorem dlaw_729 : decode code 729 = .ok (.iconst 2, 1) := by decide +kernel
theorem dlaw_730 : decode code 730 = .ok (.iadd, 1) := by decide +kernel
theorem dlaw_731 : decode code 731 = .ok (.iaload, 1) := by decide +kernel
theorem dlaw_732 : decode code 732 = .ok (.aload_n 0, 1) := by decide +kernel
theorem dlaw_733 : decode code 733 = .ok (.iload 5, 2) := by decide +kernel
theorem dlaw_735 : decode code 735 = .ok (.iconst 3, 1) := by decide +kernel
theorem dlaw_736 : decode code 736 = .ok (.iadd, 1) := by decide +kernel
theorem dlaw_737 : decode code 737 = .ok (.iaload, 1) := by decide +kernel
theorem dlaw_738 : decode code 738 = .ok (.aload_n 3, 1) := by decide +kernel
theorem dlaw_739 : decode code 739 = .ok (.invokestatic 116, 3) := by decide +kernel
theorem dlaw_742 : decode code 742 = .ok (.istore 6, 2) := by decide +kernel
theorem dlaw_744 : decode code 744 = .ok (.aload_n 2, 1) := by decide +kernel
theorem dlaw_745 : decode code 745 = .ok (.aload_n 0, 1) := by decide +kernel
theorem dlaw_746 : decode code 746 = .ok (.iload 5, 2) := by decide +kernel
theorem dlaw_748 : decode code 748 = .ok (.iconst 1, 1) := by decide +kernel
theorem dlaw_749 : decode code 749 = .ok (.iadd, 1) := by decide +kernel
theorem dlaw_750 : decode code 750 = .ok (.iaload, 1) := by decide +kernel
theorem dlaw_751 : decode code 751 = .ok (.aload_n 0, 1) := by decide +kernel
theorem dlaw_752 : decode code 752 = .ok (.iload 5, 2) := by decide +kernel
theorem dlaw_754 : decode code 754 = .ok (.iconst 2, 1) := by decide +kernel
theorem dlaw_755 : decode code 755 = .ok (.iadd, 1) := by decide +kernel
theorem dlaw_756 : decode code 756 = .ok (.iaload, 1) := by decide +kernel
theorem dlaw_757 : decode code 757 = .ok (.aload_n 0, 1) := by decide +kernel
theorem dlaw_758 : decode code 758 = .ok (.iload 5, 2) := by decide +kernel
theorem dlaw_760 : decode code 760 = .ok (.iconst 3, 1) := by decide +kernel
theorem dlaw_761 : decode code 761 = .ok (.iadd, 1) := by decide +kernel
theorem dlaw_762 : decode code 762 = .ok (.iaload, 1) := by decide +kernel
theorem dlaw_763 : decode code 763 = .ok (.invokevirtual 119, 3) := by decide +kernel
theorem dlaw_766 : decode code 766 = .ok (.istore 7, 2) := by decide +kernel
theorem dlaw_768 : decode code 768 = .ok (.aload_n 2, 1) := by decide +kernel
theorem dlaw_769 : decode code 769 = .ok (.invokevirtual 80, 3) := by decide +kernel
theorem dlaw_772 : decode code 772 = .ok (.iload 6, 2) := by decide +kernel
theorem dlaw_774 : decode code 774 = .ok (.if_icmp .eq 5, 3) := by decide +kernel
theorem dlaw_777 : decode code 777 = .ok (.iconst 0, 1) := by decide +kernel
theorem dlaw_778 : decode code 778 = .ok (.ireturn, 1) := by decide +kernel
theorem dlaw_779 : decode code 779 = .ok (.iload 6, 2) := by decide +kernel
theorem dlaw_781 : decode code 781 = .ok (.ifCond .ne 15, 3) := by decide +kernel
theorem dlaw_784 : decode code 784 = .ok (.aload_n 3, 1) := by decide +kernel
theorem dlaw_785 : decode code 785 = .ok (.iconst 0, 1) := by decide +kernel
theorem dlaw_786 : decode code 786 = .ok (.laload, 1) := by decide +kernel
theorem dlaw_787 : decode code 787 = .ok (.iload 7, 2) := by decide +kernel
theorem dlaw_789 : decode code 789 = .ok (.i2l, 1) := by decide +kernel
theorem dlaw_790 : decode code 790 = .ok (.lcmp, 1) := by decide +kernel
theorem dlaw_791 : decode code 791 = .ok (.ifCond .eq 5, 3) := by decide +kernel
theorem dlaw_794 : decode code 794 = .ok (.iconst 0, 1) := by decide +kernel
theorem dlaw_795 : decode code 795 = .ok (.ireturn, 1) := by decide +kernel
theorem dlaw_796 : decode code 796 = .ok (.goto 393, 3) := by decide +kernel
theorem dlaw_799 : decode code 799 = .ok (.aload_n 1, 1) := by decide +kernel
