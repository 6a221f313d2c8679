/-! decode rows: the law -/
theorem dL_law_415 : decode cL_law 415 = .ok (.goto 4, 3) := by decide +kernel
theorem dL_law_418 : decode cL_law 418 = .ok (.iconst 0, 1) := by decide +kernel
theorem dL_law_419 : decode cL_law 419 = .ok (.if_icmp .eq 5, 3) := by decide +kernel
theorem dL_law_422 : decode cL_law 422 = .ok (.iconst 0, 1) := by decide +kernel
theorem dL_law_423 : decode cL_law 423 = .ok (.ireturn, 1) := by decide +kernel
theorem dL_law_424 : decode cL_law 424 = .ok (.iconst 1, 1) := by decide +kernel
theorem dL_law_425 : decode cL_law 425 = .ok (.iload 5, 2) := by decide +kernel
theorem dL_law_427 : decode cL_law 427 = .ok (.iconst 3, 1) := by decide +kernel
theorem dL_law_428 : decode cL_law 428 = .ok (.ishr, 1) := by decide +kernel
theorem dL_law_429 : decode cL_law 429 = .ok (.bipush 60, 2) := by decide +kernel
theorem dL_law_431 : decode cL_law 431 = .ok (.invokestatic 18, 3) := by decide +kernel
theorem dL_law_434 : decode cL_law 434 = .ok (.iadd, 1) := by decide +kernel
theorem dL_law_435 : decode cL_law 435 = .ok (.istore 11, 2) := by decide +kernel
theorem dL_law_437 : decode cL_law 437 = .ok (.bipush 99, 2) := by decide +kernel
theorem dL_law_439 : decode cL_law 439 = .ok (.istore 12, 2) := by decide +kernel
theorem dL_law_441 : decode cL_law 441 = .ok (.iconst 0, 1) := by decide +kernel
theorem dL_law_442 : decode cL_law 442 = .ok (.istore 13, 2) := by decide +kernel
theorem dL_law_444 : decode cL_law 444 = .ok (.iconst 0, 1) := by decide +kernel
theorem dL_law_445 : decode cL_law 445 = .ok (.istore 14, 2) := by decide +kernel
theorem dL_law_447 : decode cL_law 447 = .ok (.iconst 0, 1) := by decide +kernel
theorem dL_law_448 : decode cL_law 448 = .ok (.istore 15, 2) := by decide +kernel
theorem dL_law_450 : decode cL_law 450 = .ok (.iload 15, 2) := by decide +kernel
theorem dL_law_452 : decode cL_law 452 = .ok (.iload 7, 2) := by decide +kernel
theorem dL_law_454 : decode cL_law 454 = .ok (.if_icmp .ge 221, 3) := by decide +kernel
theorem dL_law_457 : decode cL_law 457 = .ok (.aload_n 1, 1) := by decide +kernel
theorem dL_law_458 : decode cL_law 458 = .ok (.iload 15, 2) := by decide +kernel
theorem dL_law_460 : decode cL_law 460 = .ok (.iload 11, 2) := by decide +kernel
theorem dL_law_462 : decode cL_law 462 = .ok (.invokevirtual 129, 3) := by decide +kernel
theorem dL_law_465 : decode cL_law 465 = .ok (.istore 16, 2) := by decide +kernel
theorem dL_law_467 : decode cL_law 467 = .ok (.aload_n 1, 1) := by decide +kernel
theorem dL_law_468 : decode cL_law 468 = .ok (.iload 15, 2) := by decide +kernel
theorem dL_law_470 : decode cL_law 470 = .ok (.invokevirtual 132, 3) := by decide +kernel
theorem dL_law_473 : decode cL_law 473 = .ok (.iconst 3, 1) := by decide +kernel
theorem dL_law_474 : decode cL_law 474 = .ok (.if_icmp .ge 7, 3) := by decide +kernel
theorem dL_law_477 : decode cL_law 477 = .ok (.iconst 1, 1) := by decide +kernel
theorem dL_law_478 : decode cL_law 478 = .ok (.goto 4, 3) := by decide +kernel
theorem dL_law_481 : decode cL_law 481 = .ok (.iconst 0, 1) := by decide +kernel
theorem dL_law_482 : decode cL_law 482 = .ok (.istore 17, 2) := by decide +kernel
theorem dL_law_484 : decode cL_law 484 = .ok (.iload 14, 2) := by decide +kernel
theorem dL_law_486 : decode cL_law 486 = .ok (.iload 17, 2) := by decide +kernel
theorem dL_law_488 : decode cL_law 488 = .ok (.ifCond .eq 7, 3) := by decide +kernel
theorem dL_law_491 : decode cL_law 491 = .ok (.iconst 1, 1) := by decide +kernel
theorem dL_law_492 : decode cL_law 492 = .ok (.goto 4, 3) := by decide +kernel
theorem dL_law_495 : decode cL_law 495 = .ok (.iconst 0, 1) := by decide +kernel
theorem dL_law_496 : decode cL_law 496 = .ok (.iadd, 1) := by decide +kernel
theorem dL_law_497 : decode cL_law 497 = .ok (.istore 14, 2) := by decide +kernel
theorem dL_law_499 : decode cL_law 499 = .ok (.aload_n 1, 1) := by decide +kernel
theorem dL_law_500 : decode cL_law 500 = .ok (.iload 15, 2) := by decide +kernel
theorem dL_law_502 : decode cL_law 502 = .ok (.invokevirtual 132, 3) := by decide +kernel
theorem dL_law_505 : decode cL_law 505 = .ok (.ifCond .lt 76, 3) := by decide +kernel
theorem dL_law_508 : decode cL_law 508 = .ok (.aload_n 1, 1) := by decide +kernel
theorem dL_law_509 : decode cL_law 509 = .ok (.iload 15, 2) := by decide +kernel
theorem dL_law_511 : decode cL_law 511 = .ok (.invokevirtual 132, 3) := by decide +kernel
theorem dL_law_514 : decode cL_law 514 = .ok (.bipush 9, 2) := by decide +kernel
theorem dL_law_516 : decode cL_law 516 = .ok (.if_icmp .gt 65, 3) := by decide +kernel
theorem dL_law_519 : decode cL_law 519 = .ok (.iload 16, 2) := by decide +kernel
theorem dL_law_521 : decode cL_law 521 = .ok (.ifCond .ne 7, 3) := by decide +kernel
theorem dL_law_524 : decode cL_law 524 = .ok (.iconst 1, 1) := by decide +kernel
theorem dL_law_525 : decode cL_law 525 = .ok (.goto 4, 3) := by decide +kernel
theorem dL_law_528 : decode cL_law 528 = .ok (.iconst 0, 1) := by decide +kernel
theorem dL_law_529 : decode cL_law 529 = .ok (.iload 17, 2) := by decide +kernel
theorem dL_law_531 : decode cL_law 531 = .ok (.if_icmp .ne 50, 3) := by decide +kernel
theorem dL_law_534 : decode cL_law 534 = .ok (.iload 16, 2) := by decide +kernel
theorem dL_law_536 : decode cL_law 536 = .ok (.iload 11, 2) := by decide +kernel
theorem dL_law_538 : decode cL_law 538 = .ok (.if_icmp .gt 43, 3) := by decide +kernel
theorem dL_law_541 : decode cL_law 541 = .ok (.iload 17, 2) := by decide +kernel
theorem dL_law_543 : decode cL_law 543 = .ok (.ifCond .ne 12, 3) := by decide +kernel
theorem dL_law_546 : decode cL_law 546 = .ok (.iload 16, 2) := by decide +kernel
theorem dL_law_548 : decode cL_law 548 = .ok (.iload 11, 2) := by decide +kernel
theorem dL_law_550 : decode cL_law 550 = .ok (.iconst 3, 1) := by decide +kernel
theorem dL_law_551 : decode cL_law 551 = .ok (.isub, 1) := by decide +kernel
theorem dL_law_552 : decode cL_law 552 = .ok (.if_icmp .lt 29, 3) := by decide +kernel
theorem dL_law_555 : decode cL_law 555 = .ok (.aload_n 1, 1) := by decide +kernel
theorem dL_law_556 : decode cL_law 556 = .ok (.iload 15, 2) := by decide +kernel
theorem dL_law_558 : decode cL_law 558 = .ok (.invokevirtual 135, 3) := by decide +kernel
theorem dL_law_561 : decode cL_law 561 = .ok (.ifCond .eq 22, 3) := by decide +kernel
theorem dL_law_564 : decode cL_law 564 = .ok (.aload_n 1, 1) := by decide +kernel
theorem dL_law_565 : decode cL_law 565 = .ok (.iload 15, 2) := by decide +kernel
theorem dL_law_567 : decode cL_law 567 = .ok (.invokevirtual 132, 3) := by decide +kernel
theorem dL_law_570 : decode cL_law 570 = .ok (.aload_n 1, 1) := by decide +kernel
theorem dL_law_571 : decode cL_law 571 = .ok (.aload_n 1, 1) := by decide +kernel
theorem dL_law_572 : decode cL_law 572 = .ok (.invokevirtual 138, 3) := by decide +kernel
theorem dL_law_575 : decode cL_law 575 = .ok (.invokevirtual 132, 3) := by decide +kernel
theorem dL_law_578 : decode cL_law 578 = .ok (.if_icmp .le 5, 3) := by decide +kernel
theorem dL_law_581 : decode cL_law 581 = .ok (.iconst 0, 1) := by decide +kernel
theorem dL_law_582 : decode cL_law 582 = .ok (.ireturn, 1) := by decide +kernel
theorem dL_law_583 : decode cL_law 583 = .ok (.iconst 0, 1) := by decide +kernel
theorem dL_law_584 : decode cL_law 584 = .ok (.istore 18, 2) := by decide +kernel
theorem dL_law_586 : decode cL_law 586 = .ok (.iload 18, 2) := by decide +kernel
theorem dL_law_588 : decode cL_law 588 = .ok (.iload 7, 2) := by decide +kernel
theorem dL_law_590 : decode cL_law 590 = .ok (.if_icmp .ge 44, 3) := by decide +kernel
theorem dL_law_593 : decode cL_law 593 = .ok (.iload 17, 2) := by decide +kernel
theorem dL_law_595 : decode cL_law 595 = .ok (.ifCond .ne 33, 3) := by decide +kernel
theorem dL_law_598 : decode cL_law 598 = .ok (.aload_n 1, 1) := by decide +kernel
theorem dL_law_599 : decode cL_law 599 = .ok (.iload 18, 2) := by decide +kernel
theorem dL_law_601 : decode cL_law 601 = .ok (.invokevirtual 132, 3) := by decide +kernel
theorem dL_law_604 : decode cL_law 604 = .ok (.aload_n 1, 1) := by decide +kernel
theorem dL_law_605 : decode cL_law 605 = .ok (.iload 15, 2) := by decide +kernel
theorem dL_law_607 : decode cL_law 607 = .ok (.invokevirtual 132, 3) := by decide +kernel
theorem dL_law_610 : decode cL_law 610 = .ok (.if_icmp .lt 18, 3) := by decide +kernel
theorem dL_law_613 : decode cL_law 613 = .ok (.aload_n 1, 1) := by decide +kernel
theorem dL_law_614 : decode cL_law 614 = .ok (.iload 18, 2) := by decide +kernel
theorem dL_law_616 : decode cL_law 616 = .ok (.iload 11, 2) := by decide +kernel
theorem dL_law_618 : decode cL_law 618 = .ok (.invokevirtual 129, 3) := by decide +kernel
theorem dL_law_621 : decode cL_law 621 = .ok (.iload 16, 2) := by decide +kernel
theorem dL_law_623 : decode cL_law 623 = .ok (.if_icmp .ge 5, 3) := by decide +kernel
theorem dL_law_626 : decode cL_law 626 = .ok (.iconst 0, 1) := by decide +kernel
theorem dL_law_627 : decode cL_law 627 = .ok (.ireturn, 1) := by decide +kernel
theorem dL_law_628 : decode cL_law 628 = .ok (.iinc 18 1, 3) := by decide +kernel
theorem dL_law_631 : decode cL_law 631 = .ok (.goto (-45), 3) := by decide +kernel
theorem dL_law_634 : decode cL_law 634 = .ok (.aload_n 1, 1) := by decide +kernel
theorem dL_law_635 : decode cL_law 635 = .ok (.iload 15, 2) := by decide +kernel
theorem dL_law_637 : decode cL_law 637 = .ok (.invokevirtual 135, 3) := by decide +kernel
theorem dL_law_640 : decode cL_law 640 = .ok (.ifCond .eq 29, 3) := by decide +kernel
theorem dL_law_643 : decode cL_law 643 = .ok (.iload 17, 2) := by decide +kernel
theorem dL_law_645 : decode cL_law 645 = .ok (.ifCond .eq 6, 3) := by decide +kernel
theorem dL_law_648 : decode cL_law 648 = .ok (.goto 21, 3) := by decide +kernel
theorem dL_law_651 : decode cL_law 651 = .ok (.iload 12, 2) := by decide +kernel
theorem dL_law_653 : decode cL_law 653 = .ok (.iload 16, 2) := by decide +kernel
theorem dL_law_655 : decode cL_law 655 = .ok (.invokestatic 141, 3) := by decide +kernel
theorem dL_law_658 : decode cL_law 658 = .ok (.istore 12, 2) := by decide +kernel
theorem dL_law_660 : decode cL_law 660 = .ok (.iload 13, 2) := by decide +kernel
theorem dL_law_662 : decode cL_law 662 = .ok (.iload 16, 2) := by decide +kernel
theorem dL_law_664 : decode cL_law 664 = .ok (.invokestatic 146, 3) := by decide +kernel
theorem dL_law_667 : decode cL_law 667 = .ok (.istore 13, 2) := by decide +kernel
theorem dL_law_669 : decode cL_law 669 = .ok (.iinc 15 1, 3) := by decide +kernel
theorem dL_law_672 : decode cL_law 672 = .ok (.goto (-222), 3) := by decide +kernel
theorem dL_law_675 : decode cL_law 675 = .ok (.aload_n 1, 1) := by decide +kernel
theorem dL_law_676 : decode cL_law 676 = .ok (.iload 11, 2) := by decide +kernel
theorem dL_law_678 : decode cL_law 678 = .ok (.invokevirtual 149, 3) := by decide +kernel
theorem dL_law_681 : decode cL_law 681 = .ok (.istore 15, 2) := by decide +kernel
theorem dL_law_683 : decode cL_law 683 = .ok (.iload 14, 2) := by decide +kernel
theorem dL_law_685 : decode cL_law 685 = .ok (.aload_n 1, 1) := by decide +kernel
theorem dL_law_686 : decode cL_law 686 = .ok (.invokevirtual 152, 3) := by decide +kernel
theorem dL_law_689 : decode cL_law 689 = .ok (.if_icmp .ne 84, 3) := by decide +kernel
theorem dL_law_692 : decode cL_law 692 = .ok (.iload 13, 2) := by decide +kernel
theorem dL_law_694 : decode cL_law 694 = .ok (.ifCond .ne 8, 3) := by decide +kernel
theorem dL_law_697 : decode cL_law 697 = .ok (.iload 15, 2) := by decide +kernel
theorem dL_law_699 : decode cL_law 699 = .ok (.ifCond .ne 74, 3) := by decide +kernel
theorem dL_law_702 : decode cL_law 702 = .ok (.iload 13, 2) := by decide +kernel
theorem dL_law_704 : decode cL_law 704 = .ok (.ifCond .le 17, 3) := by decide +kernel
theorem dL_law_707 : decode cL_law 707 = .ok (.iload 15, 2) := by decide +kernel
theorem dL_law_709 : decode cL_law 709 = .ok (.iload 12, 2) := by decide +kernel
theorem dL_law_711 : decode cL_law 711 = .ok (.if_icmp .lt 62, 3) := by decide +kernel
theorem dL_law_714 : decode cL_law 714 = .ok (.iload 15, 2) := by decide +kernel
theorem dL_law_716 : decode cL_law 716 = .ok (.iload 13, 2) := by decide +kernel
theorem dL_law_718 : decode cL_law 718 = .ok (.if_icmp .gt 55, 3) := by decide +kernel
theorem dL_law_721 : decode cL_law 721 = .ok (.aload_n 1, 1) := by decide +kernel
theorem dL_law_722 : decode cL_law 722 = .ok (.iload 11, 2) := by decide +kernel
theorem dL_law_724 : decode cL_law 724 = .ok (.invokevirtual 155, 3) := by decide +kernel
theorem dL_law_727 : decode cL_law 727 = .ok (.ifCond .ne 7, 3) := by decide +kernel
theorem dL_law_730 : decode cL_law 730 = .ok (.iconst 1, 1) := by decide +kernel
theorem dL_law_731 : decode cL_law 731 = .ok (.goto 4, 3) := by decide +kernel
theorem dL_law_734 : decode cL_law 734 = .ok (.iconst 0, 1) := by decide +kernel
theorem dL_law_735 : decode cL_law 735 = .ok (.iload 13, 2) := by decide +kernel
theorem dL_law_737 : decode cL_law 737 = .ok (.ifCond .ne 7, 3) := by decide +kernel
theorem dL_law_740 : decode cL_law 740 = .ok (.iconst 1, 1) := by decide +kernel
theorem dL_law_741 : decode cL_law 741 = .ok (.goto 4, 3) := by decide +kernel
theorem dL_law_744 : decode cL_law 744 = .ok (.iconst 0, 1) := by decide +kernel
theorem dL_law_745 : decode cL_law 745 = .ok (.if_icmp .ne 28, 3) := by decide +kernel
theorem dL_law_748 : decode cL_law 748 = .ok (.aload_n 1, 1) := by decide +kernel
theorem dL_law_749 : decode cL_law 749 = .ok (.invokevirtual 158, 3) := by decide +kernel
theorem dL_law_752 : decode cL_law 752 = .ok (.ifCond .ne 7, 3) := by decide +kernel
theorem dL_law_755 : decode cL_law 755 = .ok (.iconst 1, 1) := by decide +kernel
theorem dL_law_756 : decode cL_law 756 = .ok (.goto 4, 3) := by decide +kernel
theorem dL_law_759 : decode cL_law 759 = .ok (.iconst 0, 1) := by decide +kernel
theorem dL_law_760 : decode cL_law 760 = .ok (.iload 14, 2) := by decide +kernel
theorem dL_law_762 : decode cL_law 762 = .ok (.ifCond .ne 7, 3) := by decide +kernel
theorem dL_law_765 : decode cL_law 765 = .ok (.iconst 1, 1) := by decide +kernel
theorem dL_law_766 : decode cL_law 766 = .ok (.goto 4, 3) := by decide +kernel
theorem dL_law_769 : decode cL_law 769 = .ok (.iconst 0, 1) := by decide +kernel
theorem dL_law_770 : decode cL_law 770 = .ok (.if_icmp .eq 5, 3) := by decide +kernel
theorem dL_law_773 : decode cL_law 773 = .ok (.iconst 0, 1) := by decide +kernel
theorem dL_law_774 : decode cL_law 774 = .ok (.ireturn, 1) := by decide +kernel
theorem dL_law_775 : decode cL_law 775 = .ok (.iconst 0, 1) := by decide +kernel
theorem dL_law_776 : decode cL_law 776 = .ok (.istore 16, 2) := by decide +kernel
theorem dL_law_778 : decode cL_law 778 = .ok (.iconst 0, 1) := by decide +kernel
theorem dL_law_779 : decode cL_law 779 = .ok (.istore 17, 2) := by decide +kernel
theorem dL_law_781 : decode cL_law 781 = .ok (.iload 17, 2) := by decide +kernel
theorem dL_law_783 : decode cL_law 783 = .ok (.aload_n 1, 1) := by decide +kernel
theorem dL_law_784 : decode cL_law 784 = .ok (.invokevirtual 121, 3) := by decide +kernel
theorem dL_law_787 : decode cL_law 787 = .ok (.if_icmp .ge 128, 3) := by decide +kernel
theorem dL_law_790 : decode cL_law 790 = .ok (.iload 16, 2) := by decide +kernel
theorem dL_law_792 : decode cL_law 792 = .ok (.aload_n 1, 1) := by decide +kernel
theorem dL_law_793 : decode cL_law 793 = .ok (.iload 17, 2) := by decide +kernel
theorem dL_law_795 : decode cL_law 795 = .ok (.invokevirtual 161, 3) := by decide +kernel
theorem dL_law_798 : decode cL_law 798 = .ok (.ifCond .le 7, 3) := by decide +kernel
theorem dL_law_801 : decode cL_law 801 = .ok (.iconst 1, 1) := by decide +kernel
theorem dL_law_802 : decode cL_law 802 = .ok (.goto 4, 3) := by decide +kernel
theorem dL_law_805 : decode cL_law 805 = .ok (.iconst 0, 1) := by decide +kernel
theorem dL_law_806 : decode cL_law 806 = .ok (.iadd, 1) := by decide +kernel
theorem dL_law_807 : decode cL_law 807 = .ok (.istore 16, 2) := by decide +kernel
theorem dL_law_809 : decode cL_law 809 = .ok (.aload_n 1, 1) := by decide +kernel
theorem dL_law_810 : decode cL_law 810 = .ok (.iload 17, 2) := by decide +kernel
theorem dL_law_812 : decode cL_law 812 = .ok (.invokevirtual 161, 3) := by decide +kernel
theorem dL_law_815 : decode cL_law 815 = .ok (.ifCond .lt 34, 3) := by decide +kernel
theorem dL_law_818 : decode cL_law 818 = .ok (.aload_n 1, 1) := by decide +kernel
theorem dL_law_819 : decode cL_law 819 = .ok (.iload 17, 2) := by decide +kernel
theorem dL_law_821 : decode cL_law 821 = .ok (.invokevirtual 161, 3) := by decide +kernel
theorem dL_law_824 : decode cL_law 824 = .ok (.bipush 60, 2) := by decide +kernel
theorem dL_law_826 : decode cL_law 826 = .ok (.if_icmp .gt 23, 3) := by decide +kernel
theorem dL_law_829 : decode cL_law 829 = .ok (.aload_n 1, 1) := by decide +kernel
theorem dL_law_830 : decode cL_law 830 = .ok (.iload 17, 2) := by decide +kernel
theorem dL_law_832 : decode cL_law 832 = .ok (.invokevirtual 164, 3) := by decide +kernel
theorem dL_law_835 : decode cL_law 835 = .ok (.ifCond .lt 14, 3) := by decide +kernel
theorem dL_law_838 : decode cL_law 838 = .ok (.aload_n 1, 1) := by decide +kernel
theorem dL_law_839 : decode cL_law 839 = .ok (.iload 17, 2) := by decide +kernel
theorem dL_law_841 : decode cL_law 841 = .ok (.invokevirtual 164, 3) := by decide +kernel
theorem dL_law_844 : decode cL_law 844 = .ok (.iload 6, 2) := by decide +kernel
theorem dL_law_846 : decode cL_law 846 = .ok (.if_icmp .lt 5, 3) := by decide +kernel
theorem dL_law_849 : decode cL_law 849 = .ok (.iconst 0, 1) := by decide +kernel
theorem dL_law_850 : decode cL_law 850 = .ok (.ireturn, 1) := by decide +kernel
theorem dL_law_851 : decode cL_law 851 = .ok (.iload 17, 2) := by decide +kernel
theorem dL_law_853 : decode cL_law 853 = .ok (.ifCond .le 56, 3) := by decide +kernel
theorem dL_law_856 : decode cL_law 856 = .ok (.aload_n 1, 1) := by decide +kernel
theorem dL_law_857 : decode cL_law 857 = .ok (.iload 17, 2) := by decide +kernel
theorem dL_law_859 : decode cL_law 859 = .ok (.invokevirtual 161, 3) := by decide +kernel
theorem dL_law_862 : decode cL_law 862 = .ok (.aload_n 1, 1) := by decide +kernel
theorem dL_law_863 : decode cL_law 863 = .ok (.iload 17, 2) := by decide +kernel
theorem dL_law_865 : decode cL_law 865 = .ok (.iconst 1, 1) := by decide +kernel
theorem dL_law_866 : decode cL_law 866 = .ok (.isub, 1) := by decide +kernel
theorem dL_law_867 : decode cL_law 867 = .ok (.invokevirtual 161, 3) := by decide +kernel
theorem dL_law_870 : decode cL_law 870 = .ok (.if_icmp .ne 39, 3) := by decide +kernel
theorem dL_law_873 : decode cL_law 873 = .ok (.aload_n 1, 1) := by decide +kernel
theorem dL_law_874 : decode cL_law 874 = .ok (.iload 17, 2) := by decide +kernel
theorem dL_law_876 : decode cL_law 876 = .ok (.invokevirtual 164, 3) := by decide +kernel
theorem dL_law_879 : decode cL_law 879 = .ok (.aload_n 1, 1) := by decide +kernel
theorem dL_law_880 : decode cL_law 880 = .ok (.iload 17, 2) := by decide +kernel
theorem dL_law_882 : decode cL_law 882 = .ok (.iconst 1, 1) := by decide +kernel
theorem dL_law_883 : decode cL_law 883 = .ok (.isub, 1) := by decide +kernel
theorem dL_law_884 : decode cL_law 884 = .ok (.invokevirtual 164, 3) := by decide +kernel
theorem dL_law_887 : decode cL_law 887 = .ok (.if_icmp .ne 22, 3) := by decide +kernel
theorem dL_law_890 : decode cL_law 890 = .ok (.aload_n 1, 1) := by decide +kernel
theorem dL_law_891 : decode cL_law 891 = .ok (.iload 17, 2) := by decide +kernel
theorem dL_law_893 : decode cL_law 893 = .ok (.invokevirtual 167, 3) := by decide +kernel
theorem dL_law_896 : decode cL_law 896 = .ok (.aload_n 1, 1) := by decide +kernel
theorem dL_law_897 : decode cL_law 897 = .ok (.iload 17, 2) := by decide +kernel
theorem dL_law_899 : decode cL_law 899 = .ok (.iconst 1, 1) := by decide +kernel
theorem dL_law_900 : decode cL_law 900 = .ok (.isub, 1) := by decide +kernel
theorem dL_law_901 : decode cL_law 901 = .ok (.invokevirtual 167, 3) := by decide +kernel
theorem dL_law_904 : decode cL_law 904 = .ok (.if_icmp .eq 5, 3) := by decide +kernel
theorem dL_law_907 : decode cL_law 907 = .ok (.iconst 0, 1) := by decide +kernel
theorem dL_law_908 : decode cL_law 908 = .ok (.ireturn, 1) := by decide +kernel
theorem dL_law_909 : decode cL_law 909 = .ok (.iinc 17 1, 3) := by decide +kernel
theorem dL_law_912 : decode cL_law 912 = .ok (.goto (-131), 3) := by decide +kernel
theorem dL_law_915 : decode cL_law 915 = .ok (.iload 16, 2) := by decide +kernel
theorem dL_law_917 : decode cL_law 917 = .ok (.aload_n 1, 1) := by decide +kernel
theorem dL_law_918 : decode cL_law 918 = .ok (.invokevirtual 126, 3) := by decide +kernel
theorem dL_law_921 : decode cL_law 921 = .ok (.if_icmp .eq 5, 3) := by decide +kernel
theorem dL_law_924 : decode cL_law 924 = .ok (.iconst 0, 1) := by decide +kernel
theorem dL_law_925 : decode cL_law 925 = .ok (.ireturn, 1) := by decide +kernel
theorem dL_law_926 : decode cL_law 926 = .ok (.iinc 4 1, 3) := by decide +kernel
theorem dL_law_929 : decode cL_law 929 = .ok (.goto (-901), 3) := by decide +kernel
theorem dL_law_932 : decode cL_law 932 = .ok (.aload_n 2, 1) := by decide +kernel
theorem dL_law_933 : decode cL_law 933 = .ok (.aload_n 1, 1) := by decide +kernel
theorem dL_law_934 : decode cL_law 934 = .ok (.invokevirtual 170, 3) := by decide +kernel
theorem dL_law_937 : decode cL_law 937 = .ok (.ireturn, 1) := by decide +kernel
