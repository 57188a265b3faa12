theorem dL_step_422 : decode cL_step 422 = .ok (.aload_n 0, 1) := by decide +kernel
theorem dL_step_423 : decode cL_step 423 = .ok (.iload 8, 2) := by decide +kernel
theorem dL_step_425 : decode cL_step 425 = .ok (.iconst 0, 1) := by decide +kernel
theorem dL_step_426 : decode cL_step 426 = .ok (.iconst 0, 1) := by decide +kernel
theorem dL_step_427 : decode cL_step 427 = .ok (.invokestatic 71, 3) := by decide +kernel
theorem dL_step_430 : decode cL_step 430 = .ok (.sipush (-200), 3) := by decide +kernel
theorem dL_step_433 : decode cL_step 433 = .ok (.if_icmp .ne 7, 3) := by decide +kernel
theorem dL_step_436 : decode cL_step 436 = .ok (.iconst 1, 1) := by decide +kernel
theorem dL_step_437 : decode cL_step 437 = .ok (.goto 4, 3) := by decide +kernel
theorem dL_step_440 : decode cL_step 440 = .ok (.iconst 0, 1) := by decide +kernel
theorem dL_step_441 : decode cL_step 441 = .ok (.ireturn, 1) := by decide +kernel
theorem dL_step_442 : decode cL_step 442 = .ok (.aload_n 0, 1) := by decide +kernel
theorem dL_step_443 : decode cL_step 443 = .ok (.iload 6, 2) := by decide +kernel
theorem dL_step_445 : decode cL_step 445 = .ok (.iload 5, 2) := by decide +kernel
theorem dL_step_447 : decode cL_step 447 = .ok (.iconst 3, 1) := by decide +kernel
theorem dL_step_448 : decode cL_step 448 = .ok (.irem, 1) := by decide +kernel
theorem dL_step_449 : decode cL_step 449 = .ok (.ifCond .ne 7, 3) := by decide +kernel
theorem dL_step_452 : decode cL_step 452 = .ok (.iconst 1, 1) := by decide +kernel
theorem dL_step_453 : decode cL_step 453 = .ok (.goto 4, 3) := by decide +kernel
theorem dL_step_456 : decode cL_step 456 = .ok (.iconst 0, 1) := by decide +kernel
theorem dL_step_457 : decode cL_step 457 = .ok (.invokevirtual 75, 3) := by decide +kernel
theorem dL_step_460 : decode cL_step 460 = .ok (.istore 15, 2) := by decide +kernel
theorem dL_step_462 : decode cL_step 462 = .ok (.aload_n 0, 1) := by decide +kernel
theorem dL_step_463 : decode cL_step 463 = .ok (.iload 6, 2) := by decide +kernel
theorem dL_step_465 : decode cL_step 465 = .ok (.iload 5, 2) := by decide +kernel
theorem dL_step_467 : decode cL_step 467 = .ok (.iconst 3, 1) := by decide +kernel
theorem dL_step_468 : decode cL_step 468 = .ok (.irem, 1) := by decide +kernel
theorem dL_step_469 : decode cL_step 469 = .ok (.ifCond .ne 7, 3) := by decide +kernel
theorem dL_step_472 : decode cL_step 472 = .ok (.iconst 1, 1) := by decide +kernel
theorem dL_step_473 : decode cL_step 473 = .ok (.goto 4, 3) := by decide +kernel
theorem dL_step_476 : decode cL_step 476 = .ok (.iconst 0, 1) := by decide +kernel
theorem dL_step_477 : decode cL_step 477 = .ok (.invokevirtual 75, 3) := by decide +kernel
theorem dL_step_480 : decode cL_step 480 = .ok (.iload 5, 2) := by decide +kernel
theorem dL_step_482 : decode cL_step 482 = .ok (.iconst 3, 1) := by decide +kernel
theorem dL_step_483 : decode cL_step 483 = .ok (.irem, 1) := by decide +kernel
theorem dL_step_484 : decode cL_step 484 = .ok (.ifCond .ne 7, 3) := by decide +kernel
theorem dL_step_487 : decode cL_step 487 = .ok (.iconst 1, 1) := by decide +kernel
theorem dL_step_488 : decode cL_step 488 = .ok (.goto 4, 3) := by decide +kernel
theorem dL_step_491 : decode cL_step 491 = .ok (.iconst 0, 1) := by decide +kernel
theorem dL_step_492 : decode cL_step 492 = .ok (.if_icmp .ne 19, 3) := by decide +kernel
theorem dL_step_495 : decode cL_step 495 = .ok (.iload 15, 2) := by decide +kernel
theorem dL_step_497 : decode cL_step 497 = .ok (.ifCond .ne 10, 3) := by decide +kernel
theorem dL_step_500 : decode cL_step 500 = .ok (.aload_n 0, 1) := by decide +kernel
theorem dL_step_501 : decode cL_step 501 = .ok (.invokevirtual 79, 3) := by decide +kernel
theorem dL_step_504 : decode cL_step 504 = .ok (.ifCond .lt 7, 3) := by decide +kernel
theorem dL_step_507 : decode cL_step 507 = .ok (.iconst 1, 1) := by decide +kernel
theorem dL_step_508 : decode cL_step 508 = .ok (.goto 4, 3) := by decide +kernel
theorem dL_step_511 : decode cL_step 511 = .ok (.iconst 0, 1) := by decide +kernel
theorem dL_step_512 : decode cL_step 512 = .ok (.ireturn, 1) := by decide +kernel
theorem dL_step_513 : decode cL_step 513 = .ok (.aload_n 0, 1) := by decide +kernel
theorem dL_step_514 : decode cL_step 514 = .ok (.iload 6, 2) := by decide +kernel
theorem dL_step_516 : decode cL_step 516 = .ok (.iload 9, 2) := by decide +kernel
theorem dL_step_518 : decode cL_step 518 = .ok (.iload 10, 2) := by decide +kernel
theorem dL_step_520 : decode cL_step 520 = .ok (.invokevirtual 82, 3) := by decide +kernel
theorem dL_step_523 : decode cL_step 523 = .ok (.aload_n 0, 1) := by decide +kernel
theorem dL_step_524 : decode cL_step 524 = .ok (.iload 6, 2) := by decide +kernel
theorem dL_step_526 : decode cL_step 526 = .ok (.iconst 0, 1) := by decide +kernel
theorem dL_step_527 : decode cL_step 527 = .ok (.invokevirtual 57, 3) := by decide +kernel
theorem dL_step_530 : decode cL_step 530 = .ok (.iload 9, 2) := by decide +kernel
theorem dL_step_532 : decode cL_step 532 = .ok (.if_icmp .ne 19, 3) := by decide +kernel
theorem dL_step_535 : decode cL_step 535 = .ok (.aload_n 0, 1) := by decide +kernel
theorem dL_step_536 : decode cL_step 536 = .ok (.iload 6, 2) := by decide +kernel
theorem dL_step_538 : decode cL_step 538 = .ok (.iconst 1, 1) := by decide +kernel
theorem dL_step_539 : decode cL_step 539 = .ok (.invokevirtual 57, 3) := by decide +kernel
theorem dL_step_542 : decode cL_step 542 = .ok (.iload 10, 2) := by decide +kernel
theorem dL_step_544 : decode cL_step 544 = .ok (.if_icmp .ne 7, 3) := by decide +kernel
theorem dL_step_547 : decode cL_step 547 = .ok (.iconst 1, 1) := by decide +kernel
theorem dL_step_548 : decode cL_step 548 = .ok (.goto 4, 3) := by decide +kernel
theorem dL_step_551 : decode cL_step 551 = .ok (.iconst 0, 1) := by decide +kernel
theorem dL_step_552 : decode cL_step 552 = .ok (.ireturn, 1) := by decide +kernel
theorem dL_step_553 : decode cL_step 553 = .ok (.aload_n 1, 1) := by decide +kernel
theorem dL_step_554 : decode cL_step 554 = .ok (.iconst 1, 1) := by decide +kernel
theorem dL_step_555 : decode cL_step 555 = .ok (.iaload, 1) := by decide +kernel
theorem dL_step_556 : decode cL_step 556 = .ok (.bipush 30, 2) := by decide +kernel
theorem dL_step_558 : decode cL_step 558 = .ok (.if_icmp .gt 20, 3) := by decide +kernel
theorem dL_step_561 : decode cL_step 561 = .ok (.aload_n 0, 1) := by decide +kernel
theorem dL_step_562 : decode cL_step 562 = .ok (.aload_n 1, 1) := by decide +kernel
theorem dL_step_563 : decode cL_step 563 = .ok (.aload_n 2, 1) := by decide +kernel
theorem dL_step_564 : decode cL_step 564 = .ok (.iload 6, 2) := by decide +kernel
theorem dL_step_566 : decode cL_step 566 = .ok (.iload 7, 2) := by decide +kernel
theorem dL_step_568 : decode cL_step 568 = .ok (.iload 9, 2) := by decide +kernel
theorem dL_step_570 : decode cL_step 570 = .ok (.iload 10, 2) := by decide +kernel
theorem dL_step_572 : decode cL_step 572 = .ok (.invokestatic 86, 3) := by decide +kernel
theorem dL_step_575 : decode cL_step 575 = .ok (.ifCond .eq 7, 3) := by decide +kernel
theorem dL_step_578 : decode cL_step 578 = .ok (.iconst 1, 1) := by decide +kernel
theorem dL_step_579 : decode cL_step 579 = .ok (.goto 4, 3) := by decide +kernel
theorem dL_step_582 : decode cL_step 582 = .ok (.iconst 0, 1) := by decide +kernel
theorem dL_step_583 : decode cL_step 583 = .ok (.ireturn, 1) := by decide +kernel
theorem dL_step_584 : decode cL_step 584 = .ok (.aload_n 1, 1) := by decide +kernel
theorem dL_step_585 : decode cL_step 585 = .ok (.iconst 1, 1) := by decide +kernel
theorem dL_step_586 : decode cL_step 586 = .ok (.iaload, 1) := by decide +kernel
theorem dL_step_587 : decode cL_step 587 = .ok (.bipush 29, 2) := by decide +kernel
theorem dL_step_589 : decode cL_step 589 = .ok (.if_icmp .gt 20, 3) := by decide +kernel
theorem dL_step_592 : decode cL_step 592 = .ok (.aload_n 0, 1) := by decide +kernel
theorem dL_step_593 : decode cL_step 593 = .ok (.aload_n 1, 1) := by decide +kernel
theorem dL_step_594 : decode cL_step 594 = .ok (.aload_n 2, 1) := by decide +kernel
theorem dL_step_595 : decode cL_step 595 = .ok (.iload 8, 2) := by decide +kernel
theorem dL_step_597 : decode cL_step 597 = .ok (.iload 6, 2) := by decide +kernel
theorem dL_step_599 : decode cL_step 599 = .ok (.iload 9, 2) := by decide +kernel
theorem dL_step_601 : decode cL_step 601 = .ok (.iload 10, 2) := by decide +kernel
theorem dL_step_603 : decode cL_step 603 = .ok (.invokestatic 90, 3) := by decide +kernel
theorem dL_step_606 : decode cL_step 606 = .ok (.ifCond .eq 7, 3) := by decide +kernel
theorem dL_step_609 : decode cL_step 609 = .ok (.iconst 1, 1) := by decide +kernel
theorem dL_step_610 : decode cL_step 610 = .ok (.goto 4, 3) := by decide +kernel
theorem dL_step_613 : decode cL_step 613 = .ok (.iconst 0, 1) := by decide +kernel
theorem dL_step_614 : decode cL_step 614 = .ok (.ireturn, 1) := by decide +kernel
theorem dL_step_615 : decode cL_step 615 = .ok (.aload_n 0, 1) := by decide +kernel
theorem dL_step_616 : decode cL_step 616 = .ok (.invokestatic 93, 3) := by decide +kernel
theorem dL_step_619 : decode cL_step 619 = .ok (.istore 16, 2) := by decide +kernel
theorem dL_step_621 : decode cL_step 621 = .ok (.aload_n 1, 1) := by decide +kernel
theorem dL_step_622 : decode cL_step 622 = .ok (.iconst 0, 1) := by decide +kernel
theorem dL_step_623 : decode cL_step 623 = .ok (.dup2, 1) := by decide +kernel
theorem dL_step_624 : decode cL_step 624 = .ok (.iaload, 1) := by decide +kernel
theorem dL_step_625 : decode cL_step 625 = .ok (.iload 16, 2) := by decide +kernel
theorem dL_step_627 : decode cL_step 627 = .ok (.bipush (-2), 2) := by decide +kernel
theorem dL_step_629 : decode cL_step 629 = .ok (.if_icmp .ne 7, 3) := by decide +kernel
theorem dL_step_632 : decode cL_step 632 = .ok (.iconst 0, 1) := by decide +kernel
theorem dL_step_633 : decode cL_step 633 = .ok (.goto 4, 3) := by decide +kernel
theorem dL_step_636 : decode cL_step 636 = .ok (.iconst 1, 1) := by decide +kernel
theorem dL_step_637 : decode cL_step 637 = .ok (.isub, 1) := by decide +kernel
theorem dL_step_638 : decode cL_step 638 = .ok (.iastore, 1) := by decide +kernel
theorem dL_step_639 : decode cL_step 639 = .ok (.aload_n 1, 1) := by decide +kernel
theorem dL_step_640 : decode cL_step 640 = .ok (.iconst 2, 1) := by decide +kernel
theorem dL_step_641 : decode cL_step 641 = .ok (.dup2, 1) := by decide +kernel
theorem dL_step_642 : decode cL_step 642 = .ok (.iaload, 1) := by decide +kernel
theorem dL_step_643 : decode cL_step 643 = .ok (.iload 16, 2) := by decide +kernel
theorem dL_step_645 : decode cL_step 645 = .ok (.bipush (-2), 2) := by decide +kernel
theorem dL_step_647 : decode cL_step 647 = .ok (.if_icmp .ne 7, 3) := by decide +kernel
theorem dL_step_650 : decode cL_step 650 = .ok (.iconst 0, 1) := by decide +kernel
theorem dL_step_651 : decode cL_step 651 = .ok (.goto 4, 3) := by decide +kernel
theorem dL_step_654 : decode cL_step 654 = .ok (.iconst 1, 1) := by decide +kernel
theorem dL_step_655 : decode cL_step 655 = .ok (.isub, 1) := by decide +kernel
theorem dL_step_656 : decode cL_step 656 = .ok (.iastore, 1) := by decide +kernel
theorem dL_step_657 : decode cL_step 657 = .ok (.iload 16, 2) := by decide +kernel
theorem dL_step_659 : decode cL_step 659 = .ok (.bipush (-2), 2) := by decide +kernel
theorem dL_step_661 : decode cL_step 661 = .ok (.if_icmp .eq 11, 3) := by decide +kernel
theorem dL_step_664 : decode cL_step 664 = .ok (.iload 16, 2) := by decide +kernel
theorem dL_step_666 : decode cL_step 666 = .ok (.aload_n 1, 1) := by decide +kernel
theorem dL_step_667 : decode cL_step 667 = .ok (.iconst 2, 1) := by decide +kernel
theorem dL_step_668 : decode cL_step 668 = .ok (.iaload, 1) := by decide +kernel
theorem dL_step_669 : decode cL_step 669 = .ok (.if_icmp .ne 7, 3) := by decide +kernel
theorem dL_step_672 : decode cL_step 672 = .ok (.iconst 1, 1) := by decide +kernel
theorem dL_step_673 : decode cL_step 673 = .ok (.goto 4, 3) := by decide +kernel
theorem dL_step_676 : decode cL_step 676 = .ok (.iconst 0, 1) := by decide +kernel
theorem dL_step_677 : decode cL_step 677 = .ok (.ireturn, 1) := by decide +kernel
theorem dL_step_678 : decode cL_step 678 = .ok (.aload_n 0, 1) := by decide +kernel
theorem dL_step_679 : decode cL_step 679 = .ok (.iload 8, 2) := by decide +kernel
theorem dL_step_681 : decode cL_step 681 = .ok (.iload 5, 2) := by decide +kernel
theorem dL_step_683 : decode cL_step 683 = .ok (.bipush 7, 2) := by decide +kernel
theorem dL_step_685 : decode cL_step 685 = .ok (.idiv, 1) := by decide +kernel
theorem dL_step_686 : decode cL_step 686 = .ok (.sipush 199, 3) := by decide +kernel
theorem dL_step_689 : decode cL_step 689 = .ok (.irem, 1) := by decide +kernel
theorem dL_step_690 : decode cL_step 690 = .ok (.bipush 99, 2) := by decide +kernel
theorem dL_step_692 : decode cL_step 692 = .ok (.isub, 1) := by decide +kernel
theorem dL_step_693 : decode cL_step 693 = .ok (.iconst 1, 1) := by decide +kernel
theorem dL_step_694 : decode cL_step 694 = .ok (.invokestatic 71, 3) := by decide +kernel
theorem dL_step_697 : decode cL_step 697 = .ok (.istore 17, 2) := by decide +kernel
theorem dL_step_699 : decode cL_step 699 = .ok (.iload 17, 2) := by decide +kernel
theorem dL_step_701 : decode cL_step 701 = .ok (.sipush (-200), 3) := by decide +kernel
theorem dL_step_704 : decode cL_step 704 = .ok (.if_icmp .eq 44, 3) := by decide +kernel
theorem dL_step_707 : decode cL_step 707 = .ok (.iload 17, 2) := by decide +kernel
theorem dL_step_709 : decode cL_step 709 = .ok (.bipush (-99), 2) := by decide +kernel
theorem dL_step_711 : decode cL_step 711 = .ok (.if_icmp .lt 41, 3) := by decide +kernel
theorem dL_step_714 : decode cL_step 714 = .ok (.aload_n 0, 1) := by decide +kernel
theorem dL_step_715 : decode cL_step 715 = .ok (.iload 8, 2) := by decide +kernel
theorem dL_step_717 : decode cL_step 717 = .ok (.iload 5, 2) := by decide +kernel
theorem dL_step_719 : decode cL_step 719 = .ok (.bipush 7, 2) := by decide +kernel
theorem dL_step_721 : decode cL_step 721 = .ok (.idiv, 1) := by decide +kernel
theorem dL_step_722 : decode cL_step 722 = .ok (.sipush 199, 3) := by decide +kernel
theorem dL_step_725 : decode cL_step 725 = .ok (.irem, 1) := by decide +kernel
theorem dL_step_726 : decode cL_step 726 = .ok (.bipush 99, 2) := by decide +kernel
theorem dL_step_728 : decode cL_step 728 = .ok (.isub, 1) := by decide +kernel
theorem dL_step_729 : decode cL_step 729 = .ok (.iconst 1, 1) := by decide +kernel
theorem dL_step_730 : decode cL_step 730 = .ok (.invokestatic 71, 3) := by decide +kernel
theorem dL_step_733 : decode cL_step 733 = .ok (.iload 5, 2) := by decide +kernel
theorem dL_step_735 : decode cL_step 735 = .ok (.bipush 7, 2) := by decide +kernel
theorem dL_step_737 : decode cL_step 737 = .ok (.idiv, 1) := by decide +kernel
theorem dL_step_738 : decode cL_step 738 = .ok (.sipush 199, 3) := by decide +kernel
theorem dL_step_741 : decode cL_step 741 = .ok (.irem, 1) := by decide +kernel
theorem dL_step_742 : decode cL_step 742 = .ok (.bipush 99, 2) := by decide +kernel
theorem dL_step_744 : decode cL_step 744 = .ok (.isub, 1) := by decide +kernel
theorem dL_step_745 : decode cL_step 745 = .ok (.if_icmp .ne 7, 3) := by decide +kernel
theorem dL_step_748 : decode cL_step 748 = .ok (.iconst 1, 1) := by decide +kernel
theorem dL_step_749 : decode cL_step 749 = .ok (.goto 4, 3) := by decide +kernel
theorem dL_step_752 : decode cL_step 752 = .ok (.iconst 0, 1) := by decide +kernel
theorem dL_step_753 : decode cL_step 753 = .ok (.ireturn, 1) := by decide +kernel
theorem dL_step_754 : decode cL_step 754 = .ok (.aload_n 0, 1) := by decide +kernel
theorem dL_step_755 : decode cL_step 755 = .ok (.iload 6, 2) := by decide +kernel
theorem dL_step_757 : decode cL_step 757 = .ok (.iload 5, 2) := by decide +kernel
theorem dL_step_759 : decode cL_step 759 = .ok (.iconst 4, 1) := by decide +kernel
theorem dL_step_760 : decode cL_step 760 = .ok (.irem, 1) := by decide +kernel
theorem dL_step_761 : decode cL_step 761 = .ok (.ifCond .ne 7, 3) := by decide +kernel
theorem dL_step_764 : decode cL_step 764 = .ok (.iconst (-1), 1) := by decide +kernel
theorem dL_step_765 : decode cL_step 765 = .ok (.goto 11, 3) := by decide +kernel
theorem dL_step_768 : decode cL_step 768 = .ok (.iload 5, 2) := by decide +kernel
theorem dL_step_770 : decode cL_step 770 = .ok (.iconst 4, 1) := by decide +kernel
theorem dL_step_771 : decode cL_step 771 = .ok (.idiv, 1) := by decide +kernel
theorem dL_step_772 : decode cL_step 772 = .ok (.sipush 9000, 3) := by decide +kernel
theorem dL_step_775 : decode cL_step 775 = .ok (.irem, 1) := by decide +kernel
theorem dL_step_776 : decode cL_step 776 = .ok (.invokevirtual 97, 3) := by decide +kernel
theorem dL_step_779 : decode cL_step 779 = .ok (.istore 18, 2) := by decide +kernel
theorem dL_step_781 : decode cL_step 781 = .ok (.iload 18, 2) := by decide +kernel
theorem dL_step_783 : decode cL_step 783 = .ok (.iconst (-1), 1) := by decide +kernel
theorem dL_step_784 : decode cL_step 784 = .ok (.if_icmp .lt 54, 3) := by decide +kernel
theorem dL_step_787 : decode cL_step 787 = .ok (.aload_n 0, 1) := by decide +kernel
theorem dL_step_788 : decode cL_step 788 = .ok (.iload 6, 2) := by decide +kernel
theorem dL_step_790 : decode cL_step 790 = .ok (.iload 5, 2) := by decide +kernel
theorem dL_step_792 : decode cL_step 792 = .ok (.iconst 4, 1) := by decide +kernel
theorem dL_step_793 : decode cL_step 793 = .ok (.irem, 1) := by decide +kernel
theorem dL_step_794 : decode cL_step 794 = .ok (.ifCond .ne 7, 3) := by decide +kernel
theorem dL_step_797 : decode cL_step 797 = .ok (.iconst (-1), 1) := by decide +kernel
theorem dL_step_798 : decode cL_step 798 = .ok (.goto 11, 3) := by decide +kernel
theorem dL_step_801 : decode cL_step 801 = .ok (.iload 5, 2) := by decide +kernel
theorem dL_step_803 : decode cL_step 803 = .ok (.iconst 4, 1) := by decide +kernel
theorem dL_step_804 : decode cL_step 804 = .ok (.idiv, 1) := by decide +kernel
theorem dL_step_805 : decode cL_step 805 = .ok (.sipush 9000, 3) := by decide +kernel
theorem dL_step_808 : decode cL_step 808 = .ok (.irem, 1) := by decide +kernel
theorem dL_step_809 : decode cL_step 809 = .ok (.invokevirtual 97, 3) := by decide +kernel
theorem dL_step_812 : decode cL_step 812 = .ok (.iload 5, 2) := by decide +kernel
theorem dL_step_814 : decode cL_step 814 = .ok (.iconst 4, 1) := by decide +kernel
theorem dL_step_815 : decode cL_step 815 = .ok (.irem, 1) := by decide +kernel
theorem dL_step_816 : decode cL_step 816 = .ok (.ifCond .ne 7, 3) := by decide +kernel
theorem dL_step_819 : decode cL_step 819 = .ok (.iconst (-1), 1) := by decide +kernel
theorem dL_step_820 : decode cL_step 820 = .ok (.goto 11, 3) := by decide +kernel
theorem dL_step_823 : decode cL_step 823 = .ok (.iload 5, 2) := by decide +kernel
theorem dL_step_825 : decode cL_step 825 = .ok (.iconst 4, 1) := by decide +kernel
theorem dL_step_826 : decode cL_step 826 = .ok (.idiv, 1) := by decide +kernel
theorem dL_step_827 : decode cL_step 827 = .ok (.sipush 9000, 3) := by decide +kernel
theorem dL_step_830 : decode cL_step 830 = .ok (.irem, 1) := by decide +kernel
theorem dL_step_831 : decode cL_step 831 = .ok (.if_icmp .ne 7, 3) := by decide +kernel
theorem dL_step_834 : decode cL_step 834 = .ok (.iconst 1, 1) := by decide +kernel
theorem dL_step_835 : decode cL_step 835 = .ok (.goto 4, 3) := by decide +kernel
theorem dL_step_838 : decode cL_step 838 = .ok (.iconst 0, 1) := by decide +kernel
theorem dL_step_839 : decode cL_step 839 = .ok (.ireturn, 1) := by decide +kernel
theorem dL_step_840 : decode cL_step 840 = .ok (.aload_n 0, 1) := by decide +kernel
theorem dL_step_841 : decode cL_step 841 = .ok (.iload 5, 2) := by decide +kernel
theorem dL_step_843 : decode cL_step 843 = .ok (.sipush 400, 3) := by decide +kernel
theorem dL_step_846 : decode cL_step 846 = .ok (.irem, 1) := by decide +kernel
theorem dL_step_847 : decode cL_step 847 = .ok (.invokestatic 100, 3) := by decide +kernel
theorem dL_step_850 : decode cL_step 850 = .ok (.ireturn, 1) := by decide +kernel
theorem dL_step_851 : decode cL_step 851 = .ok (.aload_n 0, 1) := by decide +kernel
theorem dL_step_852 : decode cL_step 852 = .ok (.iload 5, 2) := by decide +kernel
theorem dL_step_854 : decode cL_step 854 = .ok (.ldc 104, 2) := by decide +kernel
theorem dL_step_856 : decode cL_step 856 = .ok (.irem, 1) := by decide +kernel
theorem dL_step_857 : decode cL_step 857 = .ok (.invokevirtual 105, 3) := by decide +kernel
theorem dL_step_860 : decode cL_step 860 = .ok (.iconst 2, 1) := by decide +kernel
theorem dL_step_861 : decode cL_step 861 = .ok (.aload_n 1, 1) := by decide +kernel
theorem dL_step_862 : decode cL_step 862 = .ok (.iconst 0, 1) := by decide +kernel
theorem dL_step_863 : decode cL_step 863 = .ok (.iaload, 1) := by decide +kernel
theorem dL_step_864 : decode cL_step 864 = .ok (.imul, 1) := by decide +kernel
theorem dL_step_865 : decode cL_step 865 = .ok (.iconst 3, 1) := by decide +kernel
theorem dL_step_866 : decode cL_step 866 = .ok (.isub, 1) := by decide +kernel
theorem dL_step_867 : decode cL_step 867 = .ok (.if_icmp .gt 54, 3) := by decide +kernel
theorem dL_step_870 : decode cL_step 870 = .ok (.aload_n 0, 1) := by decide +kernel
theorem dL_step_871 : decode cL_step 871 = .ok (.iload 5, 2) := by decide +kernel
theorem dL_step_873 : decode cL_step 873 = .ok (.ldc 104, 2) := by decide +kernel
theorem dL_step_875 : decode cL_step 875 = .ok (.irem, 1) := by decide +kernel
theorem dL_step_876 : decode cL_step 876 = .ok (.invokevirtual 105, 3) := by decide +kernel
theorem dL_step_879 : decode cL_step 879 = .ok (.aload_n 0, 1) := by decide +kernel
theorem dL_step_880 : decode cL_step 880 = .ok (.invokevirtual 60, 3) := by decide +kernel
theorem dL_step_883 : decode cL_step 883 = .ok (.if_icmp .gt 38, 3) := by decide +kernel
theorem dL_step_886 : decode cL_step 886 = .ok (.aload_n 0, 1) := by decide +kernel
theorem dL_step_887 : decode cL_step 887 = .ok (.invokevirtual 108, 3) := by decide +kernel
theorem dL_step_890 : decode cL_step 890 = .ok (.aload_n 1, 1) := by decide +kernel
theorem dL_step_891 : decode cL_step 891 = .ok (.iconst 0, 1) := by decide +kernel
theorem dL_step_892 : decode cL_step 892 = .ok (.iaload, 1) := by decide +kernel
theorem dL_step_893 : decode cL_step 893 = .ok (.if_icmp .gt 28, 3) := by decide +kernel
theorem dL_step_896 : decode cL_step 896 = .ok (.aload_n 0, 1) := by decide +kernel
theorem dL_step_897 : decode cL_step 897 = .ok (.invokevirtual 111, 3) := by decide +kernel
theorem dL_step_900 : decode cL_step 900 = .ok (.ifCond .eq 17, 3) := by decide +kernel
theorem dL_step_903 : decode cL_step 903 = .ok (.aload_n 0, 1) := by decide +kernel
theorem dL_step_904 : decode cL_step 904 = .ok (.invokevirtual 115, 3) := by decide +kernel
theorem dL_step_907 : decode cL_step 907 = .ok (.ifCond .eq 10, 3) := by decide +kernel
theorem dL_step_910 : decode cL_step 910 = .ok (.aload_n 1, 1) := by decide +kernel
theorem dL_step_911 : decode cL_step 911 = .ok (.iconst 0, 1) := by decide +kernel
theorem dL_step_912 : decode cL_step 912 = .ok (.iaload, 1) := by decide +kernel
theorem dL_step_913 : decode cL_step 913 = .ok (.iconst 3, 1) := by decide +kernel
theorem dL_step_914 : decode cL_step 914 = .ok (.if_icmp .ge 7, 3) := by decide +kernel
theorem dL_step_917 : decode cL_step 917 = .ok (.iconst 1, 1) := by decide +kernel
theorem dL_step_918 : decode cL_step 918 = .ok (.goto 4, 3) := by decide +kernel
theorem dL_step_921 : decode cL_step 921 = .ok (.iconst 0, 1) := by decide +kernel
theorem dL_step_922 : decode cL_step 922 = .ok (.ireturn, 1) := by decide +kernel
set_option maxRecDepth 20000 in
theorem ggL_isSet_L_asks : GoodIn wsL_isSet wsL_asks := goodIn_ca (goodIn_ca (goodIn_r _ [4, 5, 6, 7, 8, 9, 10, 11, 12, 13, 14, 15, 16, 17, 18, 19, 20, 21, 22, 23, 24, 25, 26, 27, 28, 29, 30, 31, 32, 33, 34, 35, 36, 37, 38, 39, 40, 41, 42, 43, 44, 45, 46, 47, 48, 49, 50, 51, 52, 53, 54, 55, 56, 57, 58, 59, 60, 61, 62, 63, 64, 65, 66, 67, 68, 69, 70, 71, 72, 73, 74, 75, 76, 77, 78, 79, 80, 81, 82, 83, 84, 85, 86, 87, 88, 89, 90, 91, 92, 93, 94, 95, 96, 97, 98, 99, 100, 101, 102, 103, 104, 105, 106, 107, 108, 109, 110, 111, 112, 113, 114, 115, 116, 117, 118, 119, 120, 121, 122, 123, 124, 125, 126, 127, 128, 129, 130, 131, 132, 133, 134, 135, 136, 137, 138, 139, 140, 141, 142, 143, 144, 145, 146, 147, 148, 149, 150, 151, 152, 153, 154, 155, 156, 157, 158, 159, 160, 161, 162, 163, 164, 165, 166, 167, 168, 169, 170, 171, 172, 173, 174, 175, 176, 177, 178, 179, 180, 181, 182, 183] (by decide +kernel) (by decide +kernel)) (goodIn_sub (fun _ h => List.mem_cons_of_mem _ (List.mem_append_left _ (List.mem_append_right _ h))) (by decide +kernel))) (goodIn_sub (fun _ h => List.mem_cons_of_mem _ (List.mem_append_right _ h)) (by decide +kernel))
set_option maxRecDepth 20000 in
theorem gL_isSet_L_asks : GoodIn wsL_isSet (va_wsS RL 71 yL_asks wsL_asks) := goodIn_app (goodIn_of _ (by decide +kernel)) ggL_isSet_L_asks
theorem dL_isSet_0 : decode cL_isSet 0 = .ok (.aload_n 2, 1) := by decide +kernel
theorem dL_isSet_1 : decode cL_isSet 1 = .ok (.iconst 2, 1) := by decide +kernel
theorem dL_isSet_2 : decode cL_isSet 2 = .ok (.iload_n 3, 1) := by decide +kernel
theorem dL_isSet_3 : decode cL_isSet 3 = .ok (.imul, 1) := by decide +kernel
theorem dL_isSet_4 : decode cL_isSet 4 = .ok (.iload 4, 2) := by decide +kernel
theorem dL_isSet_6 : decode cL_isSet 6 = .ok (.iastore, 1) := by decide +kernel
theorem dL_isSet_7 : decode cL_isSet 7 = .ok (.aload_n 2, 1) := by decide +kernel
theorem dL_isSet_8 : decode cL_isSet 8 = .ok (.iconst 2, 1) := by decide +kernel
theorem dL_isSet_9 : decode cL_isSet 9 = .ok (.iload_n 3, 1) := by decide +kernel
theorem dL_isSet_10 : decode cL_isSet 10 = .ok (.imul, 1) := by decide +kernel
theorem dL_isSet_11 : decode cL_isSet 11 = .ok (.iconst 1, 1) := by decide +kernel
theorem dL_isSet_12 : decode cL_isSet 12 = .ok (.iadd, 1) := by decide +kernel
theorem dL_isSet_13 : decode cL_isSet 13 = .ok (.iload 5, 2) := by decide +kernel
theorem dL_isSet_15 : decode cL_isSet 15 = .ok (.iastore, 1) := by decide +kernel
theorem dL_isSet_16 : decode cL_isSet 16 = .ok (.aload_n 1, 1) := by decide +kernel
theorem dL_isSet_17 : decode cL_isSet 17 = .ok (.iconst 1, 1) := by decide +kernel
theorem dL_isSet_18 : decode cL_isSet 18 = .ok (.dup2, 1) := by decide +kernel
theorem dL_isSet_19 : decode cL_isSet 19 = .ok (.iaload, 1) := by decide +kernel
theorem dL_isSet_20 : decode cL_isSet 20 = .ok (.iconst 1, 1) := by decide +kernel
theorem dL_isSet_21 : decode cL_isSet 21 = .ok (.iadd, 1) := by decide +kernel
theorem dL_isSet_22 : decode cL_isSet 22 = .ok (.iastore, 1) := by decide +kernel
theorem dL_isSet_23 : decode cL_isSet 23 = .ok (.iload_n 3, 1) := by decide +kernel
theorem dL_isSet_24 : decode cL_isSet 24 = .ok (.aload_n 1, 1) := by decide +kernel
theorem dL_isSet_25 : decode cL_isSet 25 = .ok (.iconst 1, 1) := by decide +kernel
theorem dL_isSet_26 : decode cL_isSet 26 = .ok (.iaload, 1) := by decide +kernel
theorem dL_isSet_27 : decode cL_isSet 27 = .ok (.iconst 1, 1) := by decide +kernel
theorem dL_isSet_28 : decode cL_isSet 28 = .ok (.isub, 1) := by decide +kernel
theorem dL_isSet_29 : decode cL_isSet 29 = .ok (.if_icmp .ne 17, 3) := by decide +kernel
theorem dL_isSet_32 : decode cL_isSet 32 = .ok (.aload_n 0, 1) := by decide +kernel
theorem dL_isSet_33 : decode cL_isSet 33 = .ok (.iload_n 3, 1) := by decide +kernel
theorem dL_isSet_34 : decode cL_isSet 34 = .ok (.iconst 0, 1) := by decide +kernel
theorem dL_isSet_35 : decode cL_isSet 35 = .ok (.iconst 1, 1) := by decide +kernel
theorem dL_isSet_36 : decode cL_isSet 36 = .ok (.invokestatic 71, 3) := by decide +kernel
theorem dL_isSet_39 : decode cL_isSet 39 = .ok (.ifCond .ne 7, 3) := by decide +kernel
theorem dL_isSet_42 : decode cL_isSet 42 = .ok (.iconst 1, 1) := by decide +kernel
theorem dL_isSet_43 : decode cL_isSet 43 = .ok (.goto 4, 3) := by decide +kernel
theorem dL_isSet_46 : decode cL_isSet 46 = .ok (.iconst 0, 1) := by decide +kernel
theorem dL_isSet_47 : decode cL_isSet 47 = .ok (.ireturn, 1) := by decide +kernel
set_option maxRecDepth 20000 in
theorem ggL_isGrown_X6_kept : GoodIn wsL_isGrown wsX6_kept := goodIn_r _ [5, 6, 7, 8, 4, 9, 10, 11, 12, 13, 14, 15, 16, 17, 18, 19, 20, 21, 22, 23, 24, 25, 26, 27, 28, 29, 30, 31, 32, 33, 34, 35, 36, 37, 38, 39, 40, 41, 42, 43, 44, 45, 46, 47, 48, 49, 50, 51, 52, 53, 54, 55, 56, 57, 58, 59, 60, 61, 62, 63, 64, 65, 66, 67, 68, 69, 306, 307, 308, 309, 310, 311, 312, 313, 314, 315, 316, 317, 318, 319, 320, 321] (by decide +kernel) (by decide +kernel)
set_option maxRecDepth 20000 in
theorem gL_isGrown_X6_kept : GoodIn wsL_isGrown (wsV RL 60 RX6 yX6_kept wsX6_kept) := goodIn_app (goodIn_of _ (by decide +kernel)) ggL_isGrown_X6_kept
set_option maxRecDepth 20000 in
theorem ggL_isGrown_L_sets : GoodIn wsL_isGrown wsL_sets := goodIn_ca (goodIn_ca (goodIn_ca (goodIn_r _ [73, 74, 75, 76, 77, 78, 79, 4, 80, 81, 82, 83, 84, 12, 85, 86, 87, 88, 89, 90, 91, 92, 93, 94, 95, 96, 97, 98, 99, 100, 101, 102, 103, 25, 104, 27, 105, 23, 24, 26, 28, 106, 107, 108, 109, 110, 111, 112, 113, 114, 115, 13, 116, 117, 118, 119, 120, 121, 122, 123, 124, 125, 126, 127, 128, 129, 130, 131, 132, 133, 134, 135, 136, 137, 138, 139, 140, 141, 142, 143, 144, 145, 146, 147, 148, 149, 150, 151, 152, 153, 154, 155, 14, 15, 156, 157, 158, 159, 22, 160, 306, 307, 308, 309, 310, 311, 312, 322, 323, 324, 325, 326, 313, 314, 315, 316, 317, 318, 327, 328, 329, 330] (by decide +kernel) (by decide +kernel)) (goodIn_sub (fun _ h => List.mem_cons_of_mem _ (List.mem_append_left _ (List.mem_append_left _ (List.mem_append_right _ h)))) (by decide +kernel))) (goodIn_sub (fun _ h => List.mem_cons_of_mem _ (List.mem_append_left _ (List.mem_append_right _ h))) (by decide +kernel))) (goodIn_sub (fun _ h => List.mem_cons_of_mem _ (List.mem_append_right _ h)) (by decide +kernel))
set_option maxRecDepth 20000 in
theorem gL_isGrown_L_sets : GoodIn wsL_isGrown (va_wsS RL 63 yL_sets wsL_sets) := goodIn_app (goodIn_of _ (by decide +kernel)) ggL_isGrown_L_sets
set_option maxRecDepth 20000 in
theorem ggL_isGrown_X6_ofJoint : GoodIn wsL_isGrown wsX6_ofJoint := goodIn_ca (goodIn_ca (goodIn_r _ [164, 81, 82, 91, 165, 166, 12, 85, 86, 87, 4, 88, 89, 90, 92, 93, 94, 95, 96, 97, 167, 168, 169, 25, 170, 27, 105, 23, 24, 26, 28, 106, 107, 108, 109, 110, 111, 306, 307, 308, 309, 310, 311, 312, 322, 323, 324, 325, 326, 313, 314, 315, 316, 317, 318] (by decide +kernel) (by decide +kernel)) (goodIn_sub (fun _ h => List.mem_cons_of_mem _ (List.mem_append_left _ (List.mem_append_left _ (List.mem_append_right _ h)))) (by decide +kernel))) (goodIn_sub (fun _ h => List.mem_cons_of_mem _ (List.mem_append_right _ h)) (by decide +kernel))
set_option maxRecDepth 20000 in
theorem gL_isGrown_X6_ofJoint : GoodIn wsL_isGrown (wsV RL 57 RX6 yX6_ofJoint wsX6_ofJoint) := goodIn_app (goodIn_of _ (by decide +kernel)) ggL_isGrown_X6_ofJoint
set_option maxRecDepth 20000 in
theorem ggL_isGrown_L_isSet : GoodIn wsL_isGrown wsL_isSet := goodIn_ca (goodIn_ca (goodIn_r _ [173, 174, 175, 72, 176, 76, 177, 178, 179, 4, 180, 12, 155, 156, 157, 158, 159, 89, 90, 22, 23, 24, 25, 26, 27, 28, 181, 182, 183, 184, 185, 186, 187, 188, 105, 189, 190, 191, 192, 81, 82, 193, 194, 195, 196, 197, 198, 91, 199, 200, 201, 202, 203, 204, 205, 206, 207, 208, 209, 210, 211, 212, 213, 214, 215, 216, 217, 218, 219, 220, 13, 14, 15, 221, 222, 223, 224, 225, 226, 227, 228, 229, 230, 231, 232, 233, 234, 235, 236, 237, 238, 239, 240, 241, 242, 243, 244, 245, 246, 247, 248, 249, 250, 251, 252, 253, 254, 255, 256, 257, 258, 259, 260, 261, 262, 263, 264, 265, 266, 267, 268, 269, 270, 271, 272, 273, 274, 275, 276, 277, 278, 279, 280, 281, 282, 283, 284, 285, 286, 287, 288, 289, 290, 291, 292, 293, 294, 295, 296, 297, 298, 299, 300, 301, 302, 303, 304, 305, 306, 307, 308, 309, 310, 311, 312, 313, 314, 315, 316, 317, 318, 331, 332, 333, 334, 322, 323, 324, 325, 326, 335, 336, 337, 338] (by decide +kernel) (by decide +kernel)) (goodIn_sub (fun _ h => List.mem_cons_of_mem _ (List.mem_append_right _ h)) (by decide +kernel))) (goodIn_sub (fun _ h => List.mem_cons_of_mem _ (List.mem_append_left _ (List.mem_append_left _ (List.mem_append_right _ h)))) (by decide +kernel))
set_option maxRecDepth 20000 in
theorem gL_isGrown_L_isSet : GoodIn wsL_isGrown (va_wsS RL 67 yL_isSet wsL_isSet) := goodIn_app (goodIn_of _ (by decide +kernel)) ggL_isGrown_L_isSet
theorem dL_isGrown_0 : decode cL_isGrown 0 = .ok (.aload_n 0, 1) := by decide +kernel
theorem dL_isGrown_1 : decode cL_isGrown 1 = .ok (.invokevirtual 60, 3) := by decide +kernel
theorem dL_isGrown_4 : decode cL_isGrown 4 = .ok (.istore 7, 2) := by decide +kernel
theorem dL_isGrown_6 : decode cL_isGrown 6 = .ok (.aload_n 0, 1) := by decide +kernel
theorem dL_isGrown_7 : decode cL_isGrown 7 = .ok (.iload_n 3, 1) := by decide +kernel
theorem dL_isGrown_8 : decode cL_isGrown 8 = .ok (.iload 4, 2) := by decide +kernel
theorem dL_isGrown_10 : decode cL_isGrown 10 = .ok (.iload 5, 2) := by decide +kernel
theorem dL_isGrown_12 : decode cL_isGrown 12 = .ok (.iload 6, 2) := by decide +kernel
theorem dL_isGrown_14 : decode cL_isGrown 14 = .ok (.iconst 1, 1) := by decide +kernel
theorem dL_isGrown_15 : decode cL_isGrown 15 = .ok (.invokestatic 63, 3) := by decide +kernel
theorem dL_isGrown_18 : decode cL_isGrown 18 = .ok (.istore 8, 2) := by decide +kernel
theorem dL_isGrown_20 : decode cL_isGrown 20 = .ok (.iload 8, 2) := by decide +kernel
theorem dL_isGrown_22 : decode cL_isGrown 22 = .ok (.ifCond .ge 38, 3) := by decide +kernel
theorem dL_isGrown_25 : decode cL_isGrown 25 = .ok (.iload 8, 2) := by decide +kernel
theorem dL_isGrown_27 : decode cL_isGrown 27 = .ok (.bipush (-3), 2) := by decide +kernel
theorem dL_isGrown_29 : decode cL_isGrown 29 = .ok (.if_icmp .ne 17, 3) := by decide +kernel
theorem dL_isGrown_32 : decode cL_isGrown 32 = .ok (.iload_n 3, 1) := by decide +kernel
theorem dL_isGrown_33 : decode cL_isGrown 33 = .ok (.iload 4, 2) := by decide +kernel
theorem dL_isGrown_35 : decode cL_isGrown 35 = .ok (.if_icmp .ne 7, 3) := by decide +kernel
theorem dL_isGrown_38 : decode cL_isGrown 38 = .ok (.iconst 1, 1) := by decide +kernel
theorem dL_isGrown_39 : decode cL_isGrown 39 = .ok (.goto 20, 3) := by decide +kernel
theorem dL_isGrown_42 : decode cL_isGrown 42 = .ok (.iconst 0, 1) := by decide +kernel
theorem dL_isGrown_43 : decode cL_isGrown 43 = .ok (.goto 16, 3) := by decide +kernel
theorem dL_isGrown_46 : decode cL_isGrown 46 = .ok (.aload_n 1, 1) := by decide +kernel
theorem dL_isGrown_47 : decode cL_isGrown 47 = .ok (.iconst 0, 1) := by decide +kernel
theorem dL_isGrown_48 : decode cL_isGrown 48 = .ok (.iaload, 1) := by decide +kernel
theorem dL_isGrown_49 : decode cL_isGrown 49 = .ok (.bipush 10, 2) := by decide +kernel
theorem dL_isGrown_51 : decode cL_isGrown 51 = .ok (.if_icmp .ne 7, 3) := by decide +kernel
theorem dL_isGrown_54 : decode cL_isGrown 54 = .ok (.iconst 1, 1) := by decide +kernel
theorem dL_isGrown_55 : decode cL_isGrown 55 = .ok (.goto 4, 3) := by decide +kernel
theorem dL_isGrown_58 : decode cL_isGrown 58 = .ok (.iconst 0, 1) := by decide +kernel
theorem dL_isGrown_59 : decode cL_isGrown 59 = .ok (.ireturn, 1) := by decide +kernel
theorem dL_isGrown_60 : decode cL_isGrown 60 = .ok (.iload 8, 2) := by decide +kernel
theorem dL_isGrown_62 : decode cL_isGrown 62 = .ok (.aload_n 1, 1) := by decide +kernel
theorem dL_isGrown_63 : decode cL_isGrown 63 = .ok (.iconst 0, 1) := by decide +kernel
theorem dL_isGrown_64 : decode cL_isGrown 64 = .ok (.iaload, 1) := by decide +kernel
theorem dL_isGrown_65 : decode cL_isGrown 65 = .ok (.if_icmp .ne 29, 3) := by decide +kernel
theorem dL_isGrown_68 : decode cL_isGrown 68 = .ok (.aload_n 0, 1) := by decide +kernel
theorem dL_isGrown_69 : decode cL_isGrown 69 = .ok (.invokevirtual 60, 3) := by decide +kernel
theorem dL_isGrown_72 : decode cL_isGrown 72 = .ok (.iload 7, 2) := by decide +kernel
theorem dL_isGrown_74 : decode cL_isGrown 74 = .ok (.iconst 2, 1) := by decide +kernel
theorem dL_isGrown_75 : decode cL_isGrown 75 = .ok (.iadd, 1) := by decide +kernel
theorem dL_isGrown_76 : decode cL_isGrown 76 = .ok (.if_icmp .ne 18, 3) := by decide +kernel
theorem dL_isGrown_79 : decode cL_isGrown 79 = .ok (.aload_n 0, 1) := by decide +kernel
theorem dL_isGrown_80 : decode cL_isGrown 80 = .ok (.iload 8, 2) := by decide +kernel
theorem dL_isGrown_82 : decode cL_isGrown 82 = .ok (.iconst 2, 1) := by decide +kernel
theorem dL_isGrown_83 : decode cL_isGrown 83 = .ok (.invokevirtual 57, 3) := by decide +kernel
theorem dL_isGrown_86 : decode cL_isGrown 86 = .ok (.iconst 2, 1) := by decide +kernel
theorem dL_isGrown_87 : decode cL_isGrown 87 = .ok (.if_icmp .ne 7, 3) := by decide +kernel
theorem dL_isGrown_90 : decode cL_isGrown 90 = .ok (.iconst 1, 1) := by decide +kernel
theorem dL_isGrown_91 : decode cL_isGrown 91 = .ok (.goto 4, 3) := by decide +kernel
theorem dL_isGrown_94 : decode cL_isGrown 94 = .ok (.iconst 0, 1) := by decide +kernel
theorem dL_isGrown_95 : decode cL_isGrown 95 = .ok (.istore 9, 2) := by decide +kernel
theorem dL_isGrown_97 : decode cL_isGrown 97 = .ok (.aload_n 1, 1) := by decide +kernel
theorem dL_isGrown_98 : decode cL_isGrown 98 = .ok (.iconst 0, 1) := by decide +kernel
theorem dL_isGrown_99 : decode cL_isGrown 99 = .ok (.dup2, 1) := by decide +kernel
theorem dL_isGrown_100 : decode cL_isGrown 100 = .ok (.iaload, 1) := by decide +kernel
theorem dL_isGrown_101 : decode cL_isGrown 101 = .ok (.iconst 1, 1) := by decide +kernel
theorem dL_isGrown_102 : decode cL_isGrown 102 = .ok (.iadd, 1) := by decide +kernel
theorem dL_isGrown_103 : decode cL_isGrown 103 = .ok (.iastore, 1) := by decide +kernel
theorem dL_isGrown_104 : decode cL_isGrown 104 = .ok (.aload_n 1, 1) := by decide +kernel
theorem dL_isGrown_105 : decode cL_isGrown 105 = .ok (.iconst 2, 1) := by decide +kernel
theorem dL_isGrown_106 : decode cL_isGrown 106 = .ok (.dup2, 1) := by decide +kernel
theorem dL_isGrown_107 : decode cL_isGrown 107 = .ok (.iaload, 1) := by decide +kernel
theorem dL_isGrown_108 : decode cL_isGrown 108 = .ok (.iconst 1, 1) := by decide +kernel
theorem dL_isGrown_109 : decode cL_isGrown 109 = .ok (.iadd, 1) := by decide +kernel
theorem dL_isGrown_110 : decode cL_isGrown 110 = .ok (.iastore, 1) := by decide +kernel
theorem dL_isGrown_111 : decode cL_isGrown 111 = .ok (.iload 9, 2) := by decide +kernel
theorem dL_isGrown_113 : decode cL_isGrown 113 = .ok (.ifCond .eq 22, 3) := by decide +kernel
theorem dL_isGrown_116 : decode cL_isGrown 116 = .ok (.aload_n 0, 1) := by decide +kernel
