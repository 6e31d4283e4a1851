theorem dX8_sort__491 : decode cX8_sort_ 491 = .ok (.iaload, 1) := by decide +kernel
theorem dX8_sort__492 : decode cX8_sort_ 492 = .ok (.istore 16, 2) := by decide +kernel
theorem dX8_sort__494 : decode cX8_sort_ 494 = .ok (.aload_n 1, 1) := by decide +kernel
theorem dX8_sort__495 : decode cX8_sort_ 495 = .ok (.iload 9, 2) := by decide +kernel
theorem dX8_sort__497 : decode cX8_sort_ 497 = .ok (.iaload, 1) := by decide +kernel
theorem dX8_sort__498 : decode cX8_sort_ 498 = .ok (.istore 17, 2) := by decide +kernel
theorem dX8_sort__500 : decode cX8_sort_ 500 = .ok (.aload_n 1, 1) := by decide +kernel
theorem dX8_sort__501 : decode cX8_sort_ 501 = .ok (.iload 8, 2) := by decide +kernel
theorem dX8_sort__503 : decode cX8_sort_ 503 = .ok (.aload_n 1, 1) := by decide +kernel
theorem dX8_sort__504 : decode cX8_sort_ 504 = .ok (.iload 14, 2) := by decide +kernel
theorem dX8_sort__506 : decode cX8_sort_ 506 = .ok (.iaload, 1) := by decide +kernel
theorem dX8_sort__507 : decode cX8_sort_ 507 = .ok (.iastore, 1) := by decide +kernel
theorem dX8_sort__508 : decode cX8_sort_ 508 = .ok (.aload_n 1, 1) := by decide +kernel
theorem dX8_sort__509 : decode cX8_sort_ 509 = .ok (.iload 9, 2) := by decide +kernel
theorem dX8_sort__511 : decode cX8_sort_ 511 = .ok (.aload_n 1, 1) := by decide +kernel
theorem dX8_sort__512 : decode cX8_sort_ 512 = .ok (.iload 15, 2) := by decide +kernel
theorem dX8_sort__514 : decode cX8_sort_ 514 = .ok (.iaload, 1) := by decide +kernel
theorem dX8_sort__515 : decode cX8_sort_ 515 = .ok (.iastore, 1) := by decide +kernel
theorem dX8_sort__516 : decode cX8_sort_ 516 = .ok (.aload_n 1, 1) := by decide +kernel
theorem dX8_sort__517 : decode cX8_sort_ 517 = .ok (.iinc 14 1, 3) := by decide +kernel
theorem dX8_sort__520 : decode cX8_sort_ 520 = .ok (.iload 14, 2) := by decide +kernel
theorem dX8_sort__522 : decode cX8_sort_ 522 = .ok (.iaload, 1) := by decide +kernel
theorem dX8_sort__523 : decode cX8_sort_ 523 = .ok (.iload 16, 2) := by decide +kernel
theorem dX8_sort__525 : decode cX8_sort_ 525 = .ok (.if_icmp .ge 6, 3) := by decide +kernel
theorem dX8_sort__528 : decode cX8_sort_ 528 = .ok (.goto (-12), 3) := by decide +kernel
theorem dX8_sort__531 : decode cX8_sort_ 531 = .ok (.aload_n 1, 1) := by decide +kernel
theorem dX8_sort__532 : decode cX8_sort_ 532 = .ok (.iinc 15 (-1), 3) := by decide +kernel
theorem dX8_sort__535 : decode cX8_sort_ 535 = .ok (.iload 15, 2) := by decide +kernel
theorem dX8_sort__537 : decode cX8_sort_ 537 = .ok (.iaload, 1) := by decide +kernel
theorem dX8_sort__538 : decode cX8_sort_ 538 = .ok (.iload 17, 2) := by decide +kernel
theorem dX8_sort__540 : decode cX8_sort_ 540 = .ok (.if_icmp .le 6, 3) := by decide +kernel
theorem dX8_sort__543 : decode cX8_sort_ 543 = .ok (.goto (-12), 3) := by decide +kernel
theorem dX8_sort__546 : decode cX8_sort_ 546 = .ok (.iinc 14 (-1), 3) := by decide +kernel
theorem dX8_sort__549 : decode cX8_sort_ 549 = .ok (.iload 14, 2) := by decide +kernel
theorem dX8_sort__551 : decode cX8_sort_ 551 = .ok (.istore 18, 2) := by decide +kernel
theorem dX8_sort__553 : decode cX8_sort_ 553 = .ok (.iinc 15 1, 3) := by decide +kernel
theorem dX8_sort__556 : decode cX8_sort_ 556 = .ok (.iload 15, 2) := by decide +kernel
theorem dX8_sort__558 : decode cX8_sort_ 558 = .ok (.istore 19, 2) := by decide +kernel
theorem dX8_sort__560 : decode cX8_sort_ 560 = .ok (.iinc 19 (-1), 3) := by decide +kernel
theorem dX8_sort__563 : decode cX8_sort_ 563 = .ok (.iload 19, 2) := by decide +kernel
theorem dX8_sort__565 : decode cX8_sort_ 565 = .ok (.iload 14, 2) := by decide +kernel
theorem dX8_sort__567 : decode cX8_sort_ 567 = .ok (.if_icmp .le 110, 3) := by decide +kernel
theorem dX8_sort__570 : decode cX8_sort_ 570 = .ok (.aload_n 1, 1) := by decide +kernel
theorem dX8_sort__571 : decode cX8_sort_ 571 = .ok (.iload 19, 2) := by decide +kernel
theorem dX8_sort__573 : decode cX8_sort_ 573 = .ok (.iaload, 1) := by decide +kernel
theorem dX8_sort__574 : decode cX8_sort_ 574 = .ok (.istore 20, 2) := by decide +kernel
theorem dX8_sort__576 : decode cX8_sort_ 576 = .ok (.iload 20, 2) := by decide +kernel
theorem dX8_sort__578 : decode cX8_sort_ 578 = .ok (.iload 16, 2) := by decide +kernel
theorem dX8_sort__580 : decode cX8_sort_ 580 = .ok (.if_icmp .ge 70, 3) := by decide +kernel
theorem dX8_sort__583 : decode cX8_sort_ 583 = .ok (.iload 14, 2) := by decide +kernel
theorem dX8_sort__585 : decode cX8_sort_ 585 = .ok (.iload 19, 2) := by decide +kernel
theorem dX8_sort__587 : decode cX8_sort_ 587 = .ok (.if_icmp .ge 87, 3) := by decide +kernel
theorem dX8_sort__590 : decode cX8_sort_ 590 = .ok (.aload_n 1, 1) := by decide +kernel
theorem dX8_sort__591 : decode cX8_sort_ 591 = .ok (.iinc 14 1, 3) := by decide +kernel
theorem dX8_sort__594 : decode cX8_sort_ 594 = .ok (.iload 14, 2) := by decide +kernel
theorem dX8_sort__596 : decode cX8_sort_ 596 = .ok (.iaload, 1) := by decide +kernel
theorem dX8_sort__597 : decode cX8_sort_ 597 = .ok (.iload 16, 2) := by decide +kernel
theorem dX8_sort__599 : decode cX8_sort_ 599 = .ok (.if_icmp .lt (-16), 3) := by decide +kernel
theorem dX8_sort__602 : decode cX8_sort_ 602 = .ok (.aload_n 1, 1) := by decide +kernel
theorem dX8_sort__603 : decode cX8_sort_ 603 = .ok (.iload 14, 2) := by decide +kernel
theorem dX8_sort__605 : decode cX8_sort_ 605 = .ok (.iaload, 1) := by decide +kernel
theorem dX8_sort__606 : decode cX8_sort_ 606 = .ok (.iload 17, 2) := by decide +kernel
theorem dX8_sort__608 : decode cX8_sort_ 608 = .ok (.if_icmp .le 25, 3) := by decide +kernel
theorem dX8_sort__611 : decode cX8_sort_ 611 = .ok (.aload_n 1, 1) := by decide +kernel
theorem dX8_sort__612 : decode cX8_sort_ 612 = .ok (.iload 19, 2) := by decide +kernel
theorem dX8_sort__614 : decode cX8_sort_ 614 = .ok (.aload_n 1, 1) := by decide +kernel
theorem dX8_sort__615 : decode cX8_sort_ 615 = .ok (.iinc 15 (-1), 3) := by decide +kernel
theorem dX8_sort__618 : decode cX8_sort_ 618 = .ok (.iload 15, 2) := by decide +kernel
theorem dX8_sort__620 : decode cX8_sort_ 620 = .ok (.iaload, 1) := by decide +kernel
theorem dX8_sort__621 : decode cX8_sort_ 621 = .ok (.iastore, 1) := by decide +kernel
theorem dX8_sort__622 : decode cX8_sort_ 622 = .ok (.aload_n 1, 1) := by decide +kernel
theorem dX8_sort__623 : decode cX8_sort_ 623 = .ok (.iload 15, 2) := by decide +kernel
theorem dX8_sort__625 : decode cX8_sort_ 625 = .ok (.aload_n 1, 1) := by decide +kernel
theorem dX8_sort__626 : decode cX8_sort_ 626 = .ok (.iload 14, 2) := by decide +kernel
theorem dX8_sort__628 : decode cX8_sort_ 628 = .ok (.iaload, 1) := by decide +kernel
theorem dX8_sort__629 : decode cX8_sort_ 629 = .ok (.iastore, 1) := by decide +kernel
theorem dX8_sort__630 : decode cX8_sort_ 630 = .ok (.goto 11, 3) := by decide +kernel
theorem dX8_sort__633 : decode cX8_sort_ 633 = .ok (.aload_n 1, 1) := by decide +kernel
theorem dX8_sort__634 : decode cX8_sort_ 634 = .ok (.iload 19, 2) := by decide +kernel
theorem dX8_sort__636 : decode cX8_sort_ 636 = .ok (.aload_n 1, 1) := by decide +kernel
theorem dX8_sort__637 : decode cX8_sort_ 637 = .ok (.iload 14, 2) := by decide +kernel
theorem dX8_sort__639 : decode cX8_sort_ 639 = .ok (.iaload, 1) := by decide +kernel
theorem dX8_sort__640 : decode cX8_sort_ 640 = .ok (.iastore, 1) := by decide +kernel
theorem dX8_sort__641 : decode cX8_sort_ 641 = .ok (.aload_n 1, 1) := by decide +kernel
theorem dX8_sort__642 : decode cX8_sort_ 642 = .ok (.iload 14, 2) := by decide +kernel
theorem dX8_sort__644 : decode cX8_sort_ 644 = .ok (.iload 20, 2) := by decide +kernel
theorem dX8_sort__646 : decode cX8_sort_ 646 = .ok (.iastore, 1) := by decide +kernel
theorem dX8_sort__647 : decode cX8_sort_ 647 = .ok (.goto 27, 3) := by decide +kernel
theorem dX8_sort__650 : decode cX8_sort_ 650 = .ok (.iload 20, 2) := by decide +kernel
theorem dX8_sort__652 : decode cX8_sort_ 652 = .ok (.iload 17, 2) := by decide +kernel
theorem dX8_sort__654 : decode cX8_sort_ 654 = .ok (.if_icmp .le 20, 3) := by decide +kernel
theorem dX8_sort__657 : decode cX8_sort_ 657 = .ok (.aload_n 1, 1) := by decide +kernel
theorem dX8_sort__658 : decode cX8_sort_ 658 = .ok (.iload 19, 2) := by decide +kernel
theorem dX8_sort__660 : decode cX8_sort_ 660 = .ok (.aload_n 1, 1) := by decide +kernel
theorem dX8_sort__661 : decode cX8_sort_ 661 = .ok (.iinc 15 (-1), 3) := by decide +kernel
theorem dX8_sort__664 : decode cX8_sort_ 664 = .ok (.iload 15, 2) := by decide +kernel
theorem dX8_sort__666 : decode cX8_sort_ 666 = .ok (.iaload, 1) := by decide +kernel
theorem dX8_sort__667 : decode cX8_sort_ 667 = .ok (.iastore, 1) := by decide +kernel
theorem dX8_sort__668 : decode cX8_sort_ 668 = .ok (.aload_n 1, 1) := by decide +kernel
theorem dX8_sort__669 : decode cX8_sort_ 669 = .ok (.iload 15, 2) := by decide +kernel
theorem dX8_sort__671 : decode cX8_sort_ 671 = .ok (.iload 20, 2) := by decide +kernel
theorem dX8_sort__673 : decode cX8_sort_ 673 = .ok (.iastore, 1) := by decide +kernel
theorem dX8_sort__674 : decode cX8_sort_ 674 = .ok (.goto (-114), 3) := by decide +kernel
theorem dX8_sort__677 : decode cX8_sort_ 677 = .ok (.aload_n 1, 1) := by decide +kernel
theorem dX8_sort__678 : decode cX8_sort_ 678 = .ok (.iload_n 3, 1) := by decide +kernel
theorem dX8_sort__679 : decode cX8_sort_ 679 = .ok (.aload_n 1, 1) := by decide +kernel
theorem dX8_sort__680 : decode cX8_sort_ 680 = .ok (.iload 14, 2) := by decide +kernel
theorem dX8_sort__682 : decode cX8_sort_ 682 = .ok (.iaload, 1) := by decide +kernel
theorem dX8_sort__683 : decode cX8_sort_ 683 = .ok (.iastore, 1) := by decide +kernel
theorem dX8_sort__684 : decode cX8_sort_ 684 = .ok (.aload_n 1, 1) := by decide +kernel
theorem dX8_sort__685 : decode cX8_sort_ 685 = .ok (.iload 14, 2) := by decide +kernel
theorem dX8_sort__687 : decode cX8_sort_ 687 = .ok (.iload 16, 2) := by decide +kernel
theorem dX8_sort__689 : decode cX8_sort_ 689 = .ok (.iastore, 1) := by decide +kernel
theorem dX8_sort__690 : decode cX8_sort_ 690 = .ok (.aload_n 1, 1) := by decide +kernel
theorem dX8_sort__691 : decode cX8_sort_ 691 = .ok (.iload 5, 2) := by decide +kernel
theorem dX8_sort__693 : decode cX8_sort_ 693 = .ok (.aload_n 1, 1) := by decide +kernel
theorem dX8_sort__694 : decode cX8_sort_ 694 = .ok (.iload 15, 2) := by decide +kernel
theorem dX8_sort__696 : decode cX8_sort_ 696 = .ok (.iaload, 1) := by decide +kernel
theorem dX8_sort__697 : decode cX8_sort_ 697 = .ok (.iastore, 1) := by decide +kernel
theorem dX8_sort__698 : decode cX8_sort_ 698 = .ok (.aload_n 1, 1) := by decide +kernel
theorem dX8_sort__699 : decode cX8_sort_ 699 = .ok (.iload 15, 2) := by decide +kernel
theorem dX8_sort__701 : decode cX8_sort_ 701 = .ok (.iload 17, 2) := by decide +kernel
theorem dX8_sort__703 : decode cX8_sort_ 703 = .ok (.iastore, 1) := by decide +kernel
theorem dX8_sort__704 : decode cX8_sort_ 704 = .ok (.iload 6, 2) := by decide +kernel
theorem dX8_sort__706 : decode cX8_sort_ 706 = .ok (.sipush 4096, 3) := by decide +kernel
theorem dX8_sort__709 : decode cX8_sort_ 709 = .ok (.if_icmp .le 36, 3) := by decide +kernel
theorem dX8_sort__712 : decode cX8_sort_ 712 = .ok (.aload_n 0, 1) := by decide +kernel
theorem dX8_sort__713 : decode cX8_sort_ 713 = .ok (.ifnull 32, 3) := by decide +kernel
theorem dX8_sort__716 : decode cX8_sort_ 716 = .ok (.aload_n 0, 1) := by decide +kernel
theorem dX8_sort__717 : decode cX8_sort_ 717 = .ok (.iload_n 2, 1) := by decide +kernel
theorem dX8_sort__718 : decode cX8_sort_ 718 = .ok (.iconst 1, 1) := by decide +kernel
theorem dX8_sort__719 : decode cX8_sort_ 719 = .ok (.ior, 1) := by decide +kernel
theorem dX8_sort__720 : decode cX8_sort_ 720 = .ok (.iload 14, 2) := by decide +kernel
theorem dX8_sort__722 : decode cX8_sort_ 722 = .ok (.iconst 1, 1) := by decide +kernel
theorem dX8_sort__723 : decode cX8_sort_ 723 = .ok (.iadd, 1) := by decide +kernel
theorem dX8_sort__724 : decode cX8_sort_ 724 = .ok (.iload 15, 2) := by decide +kernel
theorem dX8_sort__726 : decode cX8_sort_ 726 = .ok (.invokevirtual 45, 3) := by decide +kernel
theorem dX8_sort__729 : decode cX8_sort_ 729 = .ok (.aload_n 0, 1) := by decide +kernel
theorem dX8_sort__730 : decode cX8_sort_ 730 = .ok (.iload_n 2, 1) := by decide +kernel
theorem dX8_sort__731 : decode cX8_sort_ 731 = .ok (.iconst 1, 1) := by decide +kernel
theorem dX8_sort__732 : decode cX8_sort_ 732 = .ok (.ior, 1) := by decide +kernel
theorem dX8_sort__733 : decode cX8_sort_ 733 = .ok (.iload 15, 2) := by decide +kernel
theorem dX8_sort__735 : decode cX8_sort_ 735 = .ok (.iconst 1, 1) := by decide +kernel
theorem dX8_sort__736 : decode cX8_sort_ 736 = .ok (.iadd, 1) := by decide +kernel
theorem dX8_sort__737 : decode cX8_sort_ 737 = .ok (.iload 4, 2) := by decide +kernel
theorem dX8_sort__739 : decode cX8_sort_ 739 = .ok (.invokevirtual 45, 3) := by decide +kernel
theorem dX8_sort__742 : decode cX8_sort_ 742 = .ok (.goto 31, 3) := by decide +kernel
theorem dX8_sort__745 : decode cX8_sort_ 745 = .ok (.aload_n 0, 1) := by decide +kernel
theorem dX8_sort__746 : decode cX8_sort_ 746 = .ok (.aload_n 1, 1) := by decide +kernel
theorem dX8_sort__747 : decode cX8_sort_ 747 = .ok (.iload_n 2, 1) := by decide +kernel
theorem dX8_sort__748 : decode cX8_sort_ 748 = .ok (.iconst 1, 1) := by decide +kernel
theorem dX8_sort__749 : decode cX8_sort_ 749 = .ok (.ior, 1) := by decide +kernel
theorem dX8_sort__750 : decode cX8_sort_ 750 = .ok (.iload 14, 2) := by decide +kernel
theorem dX8_sort__752 : decode cX8_sort_ 752 = .ok (.iconst 1, 1) := by decide +kernel
theorem dX8_sort__753 : decode cX8_sort_ 753 = .ok (.iadd, 1) := by decide +kernel
theorem dX8_sort__754 : decode cX8_sort_ 754 = .ok (.iload 15, 2) := by decide +kernel
theorem dX8_sort__756 : decode cX8_sort_ 756 = .ok (.invokestatic 26, 3) := by decide +kernel
theorem dX8_sort__759 : decode cX8_sort_ 759 = .ok (.aload_n 0, 1) := by decide +kernel
theorem dX8_sort__760 : decode cX8_sort_ 760 = .ok (.aload_n 1, 1) := by decide +kernel
theorem dX8_sort__761 : decode cX8_sort_ 761 = .ok (.iload_n 2, 1) := by decide +kernel
theorem dX8_sort__762 : decode cX8_sort_ 762 = .ok (.iconst 1, 1) := by decide +kernel
theorem dX8_sort__763 : decode cX8_sort_ 763 = .ok (.ior, 1) := by decide +kernel
theorem dX8_sort__764 : decode cX8_sort_ 764 = .ok (.iload 15, 2) := by decide +kernel
theorem dX8_sort__766 : decode cX8_sort_ 766 = .ok (.iconst 1, 1) := by decide +kernel
theorem dX8_sort__767 : decode cX8_sort_ 767 = .ok (.iadd, 1) := by decide +kernel
theorem dX8_sort__768 : decode cX8_sort_ 768 = .ok (.iload 4, 2) := by decide +kernel
theorem dX8_sort__770 : decode cX8_sort_ 770 = .ok (.invokestatic 26, 3) := by decide +kernel
theorem dX8_sort__773 : decode cX8_sort_ 773 = .ok (.goto 167, 3) := by decide +kernel
theorem dX8_sort__776 : decode cX8_sort_ 776 = .ok (.aload_n 1, 1) := by decide +kernel
theorem dX8_sort__777 : decode cX8_sort_ 777 = .ok (.iload 10, 2) := by decide +kernel
theorem dX8_sort__779 : decode cX8_sort_ 779 = .ok (.iaload, 1) := by decide +kernel
theorem dX8_sort__780 : decode cX8_sort_ 780 = .ok (.istore 16, 2) := by decide +kernel
theorem dX8_sort__782 : decode cX8_sort_ 782 = .ok (.aload_n 1, 1) := by decide +kernel
theorem dX8_sort__783 : decode cX8_sort_ 783 = .ok (.iload 10, 2) := by decide +kernel
theorem dX8_sort__785 : decode cX8_sort_ 785 = .ok (.aload_n 1, 1) := by decide +kernel
theorem dX8_sort__786 : decode cX8_sort_ 786 = .ok (.iload 14, 2) := by decide +kernel
theorem dX8_sort__788 : decode cX8_sort_ 788 = .ok (.iaload, 1) := by decide +kernel
theorem dX8_sort__789 : decode cX8_sort_ 789 = .ok (.iastore, 1) := by decide +kernel
theorem dX8_sort__790 : decode cX8_sort_ 790 = .ok (.iinc 15 1, 3) := by decide +kernel
theorem dX8_sort__793 : decode cX8_sort_ 793 = .ok (.iload 15, 2) := by decide +kernel
theorem dX8_sort__795 : decode cX8_sort_ 795 = .ok (.istore 17, 2) := by decide +kernel
theorem dX8_sort__797 : decode cX8_sort_ 797 = .ok (.iinc 17 (-1), 3) := by decide +kernel
theorem dX8_sort__800 : decode cX8_sort_ 800 = .ok (.iload 17, 2) := by decide +kernel
theorem dX8_sort__802 : decode cX8_sort_ 802 = .ok (.iload 14, 2) := by decide +kernel
theorem dX8_sort__804 : decode cX8_sort_ 804 = .ok (.if_icmp .le 85, 3) := by decide +kernel
theorem dX8_sort__807 : decode cX8_sort_ 807 = .ok (.aload_n 1, 1) := by decide +kernel
theorem dX8_sort__808 : decode cX8_sort_ 808 = .ok (.iload 17, 2) := by decide +kernel
theorem dX8_sort__810 : decode cX8_sort_ 810 = .ok (.iaload, 1) := by decide +kernel
theorem dX8_sort__811 : decode cX8_sort_ 811 = .ok (.istore 18, 2) := by decide +kernel
theorem dX8_sort__813 : decode cX8_sort_ 813 = .ok (.iload 18, 2) := by decide +kernel
theorem dX8_sort__815 : decode cX8_sort_ 815 = .ok (.iload 16, 2) := by decide +kernel
theorem dX8_sort__817 : decode cX8_sort_ 817 = .ok (.if_icmp .eq 69, 3) := by decide +kernel
theorem dX8_sort__820 : decode cX8_sort_ 820 = .ok (.aload_n 1, 1) := by decide +kernel
theorem dX8_sort__821 : decode cX8_sort_ 821 = .ok (.iload 17, 2) := by decide +kernel
theorem dX8_sort__823 : decode cX8_sort_ 823 = .ok (.iload 16, 2) := by decide +kernel
theorem dX8_sort__825 : decode cX8_sort_ 825 = .ok (.iastore, 1) := by decide +kernel
theorem dX8_sort__826 : decode cX8_sort_ 826 = .ok (.iload 18, 2) := by decide +kernel
theorem dX8_sort__828 : decode cX8_sort_ 828 = .ok (.iload 16, 2) := by decide +kernel
theorem dX8_sort__830 : decode cX8_sort_ 830 = .ok (.if_icmp .ge 47, 3) := by decide +kernel
theorem dX8_sort__833 : decode cX8_sort_ 833 = .ok (.aload_n 1, 1) := by decide +kernel
theorem dX8_sort__834 : decode cX8_sort_ 834 = .ok (.iinc 14 1, 3) := by decide +kernel
theorem dX8_sort__837 : decode cX8_sort_ 837 = .ok (.iload 14, 2) := by decide +kernel
theorem dX8_sort__839 : decode cX8_sort_ 839 = .ok (.iaload, 1) := by decide +kernel
theorem dX8_sort__840 : decode cX8_sort_ 840 = .ok (.iload 16, 2) := by decide +kernel
theorem dX8_sort__842 : decode cX8_sort_ 842 = .ok (.if_icmp .ge 6, 3) := by decide +kernel
theorem dX8_sort__845 : decode cX8_sort_ 845 = .ok (.goto (-12), 3) := by decide +kernel
theorem dX8_sort__848 : decode cX8_sort_ 848 = .ok (.aload_n 1, 1) := by decide +kernel
theorem dX8_sort__849 : decode cX8_sort_ 849 = .ok (.iload 14, 2) := by decide +kernel
theorem dX8_sort__851 : decode cX8_sort_ 851 = .ok (.iaload, 1) := by decide +kernel
theorem dX8_sort__852 : decode cX8_sort_ 852 = .ok (.iload 16, 2) := by decide +kernel
theorem dX8_sort__854 : decode cX8_sort_ 854 = .ok (.if_icmp .le 14, 3) := by decide +kernel
theorem dX8_sort__857 : decode cX8_sort_ 857 = .ok (.aload_n 1, 1) := by decide +kernel
theorem dX8_sort__858 : decode cX8_sort_ 858 = .ok (.iinc 15 (-1), 3) := by decide +kernel
theorem dX8_sort__861 : decode cX8_sort_ 861 = .ok (.iload 15, 2) := by decide +kernel
theorem dX8_sort__863 : decode cX8_sort_ 863 = .ok (.aload_n 1, 1) := by decide +kernel
theorem dX8_sort__864 : decode cX8_sort_ 864 = .ok (.iload 14, 2) := by decide +kernel
theorem dX8_sort__866 : decode cX8_sort_ 866 = .ok (.iaload, 1) := by decide +kernel
theorem dX8_sort__867 : decode cX8_sort_ 867 = .ok (.iastore, 1) := by decide +kernel
theorem dX8_sort__868 : decode cX8_sort_ 868 = .ok (.aload_n 1, 1) := by decide +kernel
theorem dX8_sort__869 : decode cX8_sort_ 869 = .ok (.iload 14, 2) := by decide +kernel
theorem dX8_sort__871 : decode cX8_sort_ 871 = .ok (.iload 18, 2) := by decide +kernel
theorem dX8_sort__873 : decode cX8_sort_ 873 = .ok (.iastore, 1) := by decide +kernel
theorem dX8_sort__874 : decode cX8_sort_ 874 = .ok (.goto 12, 3) := by decide +kernel
theorem dX8_sort__877 : decode cX8_sort_ 877 = .ok (.aload_n 1, 1) := by decide +kernel
theorem dX8_sort__878 : decode cX8_sort_ 878 = .ok (.iinc 15 (-1), 3) := by decide +kernel
theorem dX8_sort__881 : decode cX8_sort_ 881 = .ok (.iload 15, 2) := by decide +kernel
theorem dX8_sort__883 : decode cX8_sort_ 883 = .ok (.iload 18, 2) := by decide +kernel
theorem dX8_sort__885 : decode cX8_sort_ 885 = .ok (.iastore, 1) := by decide +kernel
theorem dX8_sort__886 : decode cX8_sort_ 886 = .ok (.goto (-89), 3) := by decide +kernel
theorem dX8_sort__889 : decode cX8_sort_ 889 = .ok (.aload_n 1, 1) := by decide +kernel
theorem dX8_sort__890 : decode cX8_sort_ 890 = .ok (.iload_n 3, 1) := by decide +kernel
theorem dX8_sort__891 : decode cX8_sort_ 891 = .ok (.aload_n 1, 1) := by decide +kernel
theorem dX8_sort__892 : decode cX8_sort_ 892 = .ok (.iload 14, 2) := by decide +kernel
theorem dX8_sort__894 : decode cX8_sort_ 894 = .ok (.iaload, 1) := by decide +kernel
theorem dX8_sort__895 : decode cX8_sort_ 895 = .ok (.iastore, 1) := by decide +kernel
theorem dX8_sort__896 : decode cX8_sort_ 896 = .ok (.aload_n 1, 1) := by decide +kernel
theorem dX8_sort__897 : decode cX8_sort_ 897 = .ok (.iload 14, 2) := by decide +kernel
theorem dX8_sort__899 : decode cX8_sort_ 899 = .ok (.iload 16, 2) := by decide +kernel
theorem dX8_sort__901 : decode cX8_sort_ 901 = .ok (.iastore, 1) := by decide +kernel
theorem dX8_sort__902 : decode cX8_sort_ 902 = .ok (.iload 6, 2) := by decide +kernel
theorem dX8_sort__904 : decode cX8_sort_ 904 = .ok (.sipush 4096, 3) := by decide +kernel
theorem dX8_sort__907 : decode cX8_sort_ 907 = .ok (.if_icmp .le 21, 3) := by decide +kernel
theorem dX8_sort__910 : decode cX8_sort_ 910 = .ok (.aload_n 0, 1) := by decide +kernel
theorem dX8_sort__911 : decode cX8_sort_ 911 = .ok (.ifnull 17, 3) := by decide +kernel
theorem dX8_sort__914 : decode cX8_sort_ 914 = .ok (.aload_n 0, 1) := by decide +kernel
theorem dX8_sort__915 : decode cX8_sort_ 915 = .ok (.iload_n 2, 1) := by decide +kernel
theorem dX8_sort__916 : decode cX8_sort_ 916 = .ok (.iconst 1, 1) := by decide +kernel
theorem dX8_sort__917 : decode cX8_sort_ 917 = .ok (.ior, 1) := by decide +kernel
theorem dX8_sort__918 : decode cX8_sort_ 918 = .ok (.iload 15, 2) := by decide +kernel
theorem dX8_sort__920 : decode cX8_sort_ 920 = .ok (.iload 4, 2) := by decide +kernel
theorem dX8_sort__922 : decode cX8_sort_ 922 = .ok (.invokevirtual 45, 3) := by decide +kernel
theorem dX8_sort__925 : decode cX8_sort_ 925 = .ok (.goto 15, 3) := by decide +kernel
theorem dX8_sort__928 : decode cX8_sort_ 928 = .ok (.aload_n 0, 1) := by decide +kernel
theorem dX8_sort__929 : decode cX8_sort_ 929 = .ok (.aload_n 1, 1) := by decide +kernel
theorem dX8_sort__930 : decode cX8_sort_ 930 = .ok (.iload_n 2, 1) := by decide +kernel
theorem dX8_sort__931 : decode cX8_sort_ 931 = .ok (.iconst 1, 1) := by decide +kernel
theorem dX8_sort__932 : decode cX8_sort_ 932 = .ok (.ior, 1) := by decide +kernel
theorem dX8_sort__933 : decode cX8_sort_ 933 = .ok (.iload 15, 2) := by decide +kernel
theorem dX8_sort__935 : decode cX8_sort_ 935 = .ok (.iload 4, 2) := by decide +kernel
theorem dX8_sort__937 : decode cX8_sort_ 937 = .ok (.invokestatic 26, 3) := by decide +kernel
theorem dX8_sort__940 : decode cX8_sort_ 940 = .ok (.iload 14, 2) := by decide +kernel
theorem dX8_sort__942 : decode cX8_sort_ 942 = .ok (.istore 4, 2) := by decide +kernel
theorem dX8_sort__944 : decode cX8_sort_ 944 = .ok (.goto (-944), 3) := by decide +kernel
theorem dX8_insertionSort_0 : decode cX8_insertionSort 0 = .ok (.iload_n 1, 1) := by decide +kernel
theorem dX8_insertionSort_1 : decode cX8_insertionSort 1 = .ok (.istore 4, 2) := by decide +kernel
theorem dX8_insertionSort_3 : decode cX8_insertionSort 3 = .ok (.iinc 4 1, 3) := by decide +kernel
theorem dX8_insertionSort_6 : decode cX8_insertionSort 6 = .ok (.iload 4, 2) := by decide +kernel
theorem dX8_insertionSort_8 : decode cX8_insertionSort 8 = .ok (.iload_n 2, 1) := by decide +kernel
theorem dX8_insertionSort_9 : decode cX8_insertionSort 9 = .ok (.if_icmp .ge 58, 3) := by decide +kernel
theorem dX8_insertionSort_12 : decode cX8_insertionSort 12 = .ok (.aload_n 0, 1) := by decide +kernel
theorem dX8_insertionSort_13 : decode cX8_insertionSort 13 = .ok (.iload 4, 2) := by decide +kernel
theorem dX8_insertionSort_15 : decode cX8_insertionSort 15 = .ok (.dup, 1) := by decide +kernel
theorem dX8_insertionSort_16 : decode cX8_insertionSort 16 = .ok (.istore_n 3, 1) := by decide +kernel
theorem dX8_insertionSort_17 : decode cX8_insertionSort 17 = .ok (.iaload, 1) := by decide +kernel
theorem dX8_insertionSort_18 : decode cX8_insertionSort 18 = .ok (.istore 5, 2) := by decide +kernel
theorem dX8_insertionSort_20 : decode cX8_insertionSort 20 = .ok (.iload 5, 2) := by decide +kernel
theorem dX8_insertionSort_22 : decode cX8_insertionSort 22 = .ok (.aload_n 0, 1) := by decide +kernel
theorem dX8_insertionSort_23 : decode cX8_insertionSort 23 = .ok (.iload_n 3, 1) := by decide +kernel
theorem dX8_insertionSort_24 : decode cX8_insertionSort 24 = .ok (.iconst 1, 1) := by decide +kernel
theorem dX8_insertionSort_25 : decode cX8_insertionSort 25 = .ok (.isub, 1) := by decide +kernel
theorem dX8_insertionSort_26 : decode cX8_insertionSort 26 = .ok (.iaload, 1) := by decide +kernel
theorem dX8_insertionSort_27 : decode cX8_insertionSort 27 = .ok (.if_icmp .ge 37, 3) := by decide +kernel
theorem dX8_insertionSort_30 : decode cX8_insertionSort 30 = .ok (.iinc 3 (-1), 3) := by decide +kernel
theorem dX8_insertionSort_33 : decode cX8_insertionSort 33 = .ok (.iload_n 3, 1) := by decide +kernel
theorem dX8_insertionSort_34 : decode cX8_insertionSort 34 = .ok (.iload_n 1, 1) := by decide +kernel
theorem dX8_insertionSort_35 : decode cX8_insertionSort 35 = .ok (.if_icmp .lt 22, 3) := by decide +kernel
theorem dX8_insertionSort_38 : decode cX8_insertionSort 38 = .ok (.iload 5, 2) := by decide +kernel
theorem dX8_insertionSort_40 : decode cX8_insertionSort 40 = .ok (.aload_n 0, 1) := by decide +kernel
theorem dX8_insertionSort_41 : decode cX8_insertionSort 41 = .ok (.iload_n 3, 1) := by decide +kernel
theorem dX8_insertionSort_42 : decode cX8_insertionSort 42 = .ok (.iaload, 1) := by decide +kernel
theorem dX8_insertionSort_43 : decode cX8_insertionSort 43 = .ok (.if_icmp .ge 14, 3) := by decide +kernel
theorem dX8_insertionSort_46 : decode cX8_insertionSort 46 = .ok (.aload_n 0, 1) := by decide +kernel
theorem dX8_insertionSort_47 : decode cX8_insertionSort 47 = .ok (.iload_n 3, 1) := by decide +kernel
theorem dX8_insertionSort_48 : decode cX8_insertionSort 48 = .ok (.iconst 1, 1) := by decide +kernel
theorem dX8_insertionSort_49 : decode cX8_insertionSort 49 = .ok (.iadd, 1) := by decide +kernel
theorem dX8_insertionSort_50 : decode cX8_insertionSort 50 = .ok (.aload_n 0, 1) := by decide +kernel
theorem dX8_insertionSort_51 : decode cX8_insertionSort 51 = .ok (.iload_n 3, 1) := by decide +kernel
theorem dX8_insertionSort_52 : decode cX8_insertionSort 52 = .ok (.iaload, 1) := by decide +kernel
theorem dX8_insertionSort_53 : decode cX8_insertionSort 53 = .ok (.iastore, 1) := by decide +kernel
theorem dX8_insertionSort_54 : decode cX8_insertionSort 54 = .ok (.goto (-24), 3) := by decide +kernel
theorem dX8_insertionSort_57 : decode cX8_insertionSort 57 = .ok (.aload_n 0, 1) := by decide +kernel
theorem dX8_insertionSort_58 : decode cX8_insertionSort 58 = .ok (.iload_n 3, 1) := by decide +kernel
theorem dX8_insertionSort_59 : decode cX8_insertionSort 59 = .ok (.iconst 1, 1) := by decide +kernel
theorem dX8_insertionSort_60 : decode cX8_insertionSort 60 = .ok (.iadd, 1) := by decide +kernel
theorem dX8_insertionSort_61 : decode cX8_insertionSort 61 = .ok (.iload 5, 2) := by decide +kernel
theorem dX8_insertionSort_63 : decode cX8_insertionSort 63 = .ok (.iastore, 1) := by decide +kernel
theorem dX8_insertionSort_64 : decode cX8_insertionSort 64 = .ok (.goto (-61), 3) := by decide +kernel
theorem dX8_insertionSort_67 : decode cX8_insertionSort 67 = .ok (.return_, 1) := by decide +kernel
theorem dJ15_checkIndex_7cf53_0 : decode cJ15_checkIndex_7cf53 0 = .ok (.iload_n 0, 1) := by decide +kernel
theorem dJ15_checkIndex_7cf53_1 : decode cJ15_checkIndex_7cf53 1 = .ok (.iload_n 1, 1) := by decide +kernel
theorem dJ15_checkIndex_7cf53_2 : decode cJ15_checkIndex_7cf53 2 = .ok (.aconst_null, 1) := by decide +kernel
theorem dJ15_checkIndex_7cf53_3 : decode cJ15_checkIndex_7cf53 3 = .ok (.invokestatic 105, 3) := by decide +kernel
theorem dJ15_checkIndex_7cf53_6 : decode cJ15_checkIndex_7cf53 6 = .ok (.ireturn, 1) := by decide +kernel
theorem dJ8_newLength_cabcc_0 : decode cJ8_newLength_cabcc 0 = .ok (.iload_n 0, 1) := by decide +kernel
theorem dJ8_newLength_cabcc_1 : decode cJ8_newLength_cabcc 1 = .ok (.iload_n 1, 1) := by decide +kernel
theorem dJ8_newLength_cabcc_2 : decode cJ8_newLength_cabcc 2 = .ok (.iload_n 2, 1) := by decide +kernel
theorem dJ8_newLength_cabcc_3 : decode cJ8_newLength_cabcc 3 = .ok (.invokestatic 194, 3) := by decide +kernel
theorem dJ8_newLength_cabcc_6 : decode cJ8_newLength_cabcc 6 = .ok (.iadd, 1) := by decide +kernel
theorem dJ8_newLength_cabcc_7 : decode cJ8_newLength_cabcc 7 = .ok (.istore_n 3, 1) := by decide +kernel
theorem dJ8_newLength_cabcc_8 : decode cJ8_newLength_cabcc 8 = .ok (.iconst 0, 1) := by decide +kernel
theorem dJ8_newLength_cabcc_9 : decode cJ8_newLength_cabcc 9 = .ok (.iload_n 3, 1) := by decide +kernel
theorem dJ8_newLength_cabcc_10 : decode cJ8_newLength_cabcc 10 = .ok (.if_icmp .ge 11, 3) := by decide +kernel
theorem dJ8_newLength_cabcc_13 : decode cJ8_newLength_cabcc 13 = .ok (.iload_n 3, 1) := by decide +kernel
theorem dJ8_newLength_cabcc_14 : decode cJ8_newLength_cabcc 14 = .ok (.ldc 200, 2) := by decide +kernel
theorem dJ8_newLength_cabcc_16 : decode cJ8_newLength_cabcc 16 = .ok (.if_icmp .gt 5, 3) := by decide +kernel
theorem dJ8_newLength_cabcc_19 : decode cJ8_newLength_cabcc 19 = .ok (.iload_n 3, 1) := by decide +kernel
theorem dJ8_newLength_cabcc_20 : decode cJ8_newLength_cabcc 20 = .ok (.ireturn, 1) := by decide +kernel
theorem dJ8_newLength_cabcc_21 : decode cJ8_newLength_cabcc 21 = .ok (.iload_n 0, 1) := by decide +kernel
theorem dJ8_newLength_cabcc_22 : decode cJ8_newLength_cabcc 22 = .ok (.iload_n 1, 1) := by decide +kernel
theorem dJ8_newLength_cabcc_23 : decode cJ8_newLength_cabcc 23 = .ok (.invokestatic 201, 3) := by decide +kernel
theorem dJ8_newLength_cabcc_26 : decode cJ8_newLength_cabcc 26 = .ok (.ireturn, 1) := by decide +kernel
theorem dJ8_hugeLength_7cf53_0 : decode cJ8_hugeLength_7cf53 0 = .ok (.iload_n 0, 1) := by decide +kernel
theorem dJ8_hugeLength_7cf53_1 : decode cJ8_hugeLength_7cf53 1 = .ok (.iload_n 1, 1) := by decide +kernel
theorem dJ8_hugeLength_7cf53_2 : decode cJ8_hugeLength_7cf53 2 = .ok (.iadd, 1) := by decide +kernel
theorem dJ8_hugeLength_7cf53_3 : decode cJ8_hugeLength_7cf53 3 = .ok (.istore_n 2, 1) := by decide +kernel
theorem dJ8_hugeLength_7cf53_4 : decode cJ8_hugeLength_7cf53 4 = .ok (.iload_n 2, 1) := by decide +kernel
theorem dJ8_hugeLength_7cf53_5 : decode cJ8_hugeLength_7cf53 5 = .ok (.ifCond .ge 44, 3) := by decide +kernel
theorem dJ8_hugeLength_7cf53_8 : decode cJ8_hugeLength_7cf53 8 = .ok (.new 204, 3) := by decide +kernel
theorem dJ8_hugeLength_7cf53_11 : decode cJ8_hugeLength_7cf53 11 = .ok (.dup, 1) := by decide +kernel
theorem dJ8_hugeLength_7cf53_12 : decode cJ8_hugeLength_7cf53 12 = .ok (.new 89, 3) := by decide +kernel
theorem dJ8_hugeLength_7cf53_15 : decode cJ8_hugeLength_7cf53 15 = .ok (.dup, 1) := by decide +kernel
theorem dJ8_hugeLength_7cf53_16 : decode cJ8_hugeLength_7cf53 16 = .ok (.invokespecial 91, 3) := by decide +kernel
theorem dJ8_hugeLength_7cf53_19 : decode cJ8_hugeLength_7cf53 19 = .ok (.ldc 206, 2) := by decide +kernel
theorem dJ8_hugeLength_7cf53_21 : decode cJ8_hugeLength_7cf53 21 = .ok (.invokevirtual 94, 3) := by decide +kernel
theorem dJ8_hugeLength_7cf53_24 : decode cJ8_hugeLength_7cf53 24 = .ok (.iload_n 0, 1) := by decide +kernel
theorem dJ8_hugeLength_7cf53_25 : decode cJ8_hugeLength_7cf53 25 = .ok (.invokevirtual 98, 3) := by decide +kernel
theorem dJ8_hugeLength_7cf53_28 : decode cJ8_hugeLength_7cf53 28 = .ok (.ldc 208, 2) := by decide +kernel
theorem dJ8_hugeLength_7cf53_30 : decode cJ8_hugeLength_7cf53 30 = .ok (.invokevirtual 94, 3) := by decide +kernel
theorem dJ8_hugeLength_7cf53_33 : decode cJ8_hugeLength_7cf53 33 = .ok (.iload_n 1, 1) := by decide +kernel
theorem dJ8_hugeLength_7cf53_34 : decode cJ8_hugeLength_7cf53 34 = .ok (.invokevirtual 98, 3) := by decide +kernel
theorem dJ8_hugeLength_7cf53_37 : decode cJ8_hugeLength_7cf53 37 = .ok (.ldc 210, 2) := by decide +kernel
theorem dJ8_hugeLength_7cf53_39 : decode cJ8_hugeLength_7cf53 39 = .ok (.invokevirtual 94, 3) := by decide +kernel
theorem dJ8_hugeLength_7cf53_42 : decode cJ8_hugeLength_7cf53 42 = .ok (.invokevirtual 101, 3) := by decide +kernel
theorem dJ8_hugeLength_7cf53_45 : decode cJ8_hugeLength_7cf53 45 = .ok (.invokespecial 212, 3) := by decide +kernel
theorem dJ8_hugeLength_7cf53_48 : decode cJ8_hugeLength_7cf53 48 = .ok (.athrow, 1) := by decide +kernel
theorem dJ8_hugeLength_7cf53_49 : decode cJ8_hugeLength_7cf53 49 = .ok (.iload_n 2, 1) := by decide +kernel
theorem dJ8_hugeLength_7cf53_50 : decode cJ8_hugeLength_7cf53 50 = .ok (.ldc 200, 2) := by decide +kernel
theorem dJ8_hugeLength_7cf53_52 : decode cJ8_hugeLength_7cf53 52 = .ok (.if_icmp .gt 6, 3) := by decide +kernel
theorem dJ8_hugeLength_7cf53_55 : decode cJ8_hugeLength_7cf53 55 = .ok (.ldc 200, 2) := by decide +kernel
theorem dJ8_hugeLength_7cf53_57 : decode cJ8_hugeLength_7cf53 57 = .ok (.ireturn, 1) := by decide +kernel
theorem dJ8_hugeLength_7cf53_58 : decode cJ8_hugeLength_7cf53 58 = .ok (.iload_n 2, 1) := by decide +kernel
theorem dJ8_hugeLength_7cf53_59 : decode cJ8_hugeLength_7cf53 59 = .ok (.ireturn, 1) := by decide +kernel
theorem dJ3_checkIndex_8e157_0 : decode cJ3_checkIndex_8e157 0 = .ok (.iload_n 0, 1) := by decide +kernel
theorem dJ3_checkIndex_8e157_1 : decode cJ3_checkIndex_8e157 1 = .ok (.ifCond .lt 8, 3) := by decide +kernel
theorem dJ3_checkIndex_8e157_4 : decode cJ3_checkIndex_8e157 4 = .ok (.iload_n 0, 1) := by decide +kernel
theorem dJ3_checkIndex_8e157_5 : decode cJ3_checkIndex_8e157 5 = .ok (.iload_n 1, 1) := by decide +kernel
theorem dJ3_checkIndex_8e157_6 : decode cJ3_checkIndex_8e157 6 = .ok (.if_icmp .lt 10, 3) := by decide +kernel
theorem dJ3_checkIndex_8e157_9 : decode cJ3_checkIndex_8e157 9 = .ok (.aload_n 2, 1) := by decide +kernel
theorem dJ3_checkIndex_8e157_10 : decode cJ3_checkIndex_8e157 10 = .ok (.iload_n 0, 1) := by decide +kernel
theorem dJ3_checkIndex_8e157_11 : decode cJ3_checkIndex_8e157 11 = .ok (.iload_n 1, 1) := by decide +kernel
theorem dJ3_checkIndex_8e157_12 : decode cJ3_checkIndex_8e157 12 = .ok (.invokestatic 95, 3) := by decide +kernel
theorem dJ3_checkIndex_8e157_15 : decode cJ3_checkIndex_8e157 15 = .ok (.athrow, 1) := by decide +kernel
theorem dJ3_checkIndex_8e157_16 : decode cJ3_checkIndex_8e157 16 = .ok (.iload_n 0, 1) := by decide +kernel
theorem dJ3_checkIndex_8e157_17 : decode cJ3_checkIndex_8e157 17 = .ok (.ireturn, 1) := by decide +kernel
theorem dJ3_checkFromToIndex_8c36e_0 : decode cJ3_checkFromToIndex_8c36e 0 = .ok (.iload_n 0, 1) := by decide +kernel
theorem dJ3_checkFromToIndex_8c36e_1 : decode cJ3_checkFromToIndex_8c36e 1 = .ok (.ifCond .lt 13, 3) := by decide +kernel
theorem dJ3_checkFromToIndex_8c36e_4 : decode cJ3_checkFromToIndex_8c36e 4 = .ok (.iload_n 0, 1) := by decide +kernel
theorem dJ3_checkFromToIndex_8c36e_5 : decode cJ3_checkFromToIndex_8c36e 5 = .ok (.iload_n 1, 1) := by decide +kernel
theorem dJ3_checkFromToIndex_8c36e_6 : decode cJ3_checkFromToIndex_8c36e 6 = .ok (.if_icmp .gt 8, 3) := by decide +kernel
theorem dJ3_checkFromToIndex_8c36e_9 : decode cJ3_checkFromToIndex_8c36e 9 = .ok (.iload_n 1, 1) := by decide +kernel
theorem dJ3_checkFromToIndex_8c36e_10 : decode cJ3_checkFromToIndex_8c36e 10 = .ok (.iload_n 2, 1) := by decide +kernel
theorem dJ3_checkFromToIndex_8c36e_11 : decode cJ3_checkFromToIndex_8c36e 11 = .ok (.if_icmp .le 11, 3) := by decide +kernel
theorem dJ3_checkFromToIndex_8c36e_14 : decode cJ3_checkFromToIndex_8c36e 14 = .ok (.aload_n 3, 1) := by decide +kernel
theorem dJ3_checkFromToIndex_8c36e_15 : decode cJ3_checkFromToIndex_8c36e 15 = .ok (.iload_n 0, 1) := by decide +kernel
theorem dJ3_checkFromToIndex_8c36e_16 : decode cJ3_checkFromToIndex_8c36e 16 = .ok (.iload_n 1, 1) := by decide +kernel
theorem dJ3_checkFromToIndex_8c36e_17 : decode cJ3_checkFromToIndex_8c36e 17 = .ok (.iload_n 2, 1) := by decide +kernel
theorem dJ3_checkFromToIndex_8c36e_18 : decode cJ3_checkFromToIndex_8c36e 18 = .ok (.invokestatic 99, 3) := by decide +kernel
theorem dJ3_checkFromToIndex_8c36e_21 : decode cJ3_checkFromToIndex_8c36e 21 = .ok (.athrow, 1) := by decide +kernel
theorem dJ3_checkFromToIndex_8c36e_22 : decode cJ3_checkFromToIndex_8c36e 22 = .ok (.iload_n 0, 1) := by decide +kernel
theorem dJ3_checkFromToIndex_8c36e_23 : decode cJ3_checkFromToIndex_8c36e 23 = .ok (.ireturn, 1) := by decide +kernel
theorem dJ3_checkFromIndexSize_8c36e_0 : decode cJ3_checkFromIndexSize_8c36e 0 = .ok (.iload_n 2, 1) := by decide +kernel
theorem dJ3_checkFromIndexSize_8c36e_1 : decode cJ3_checkFromIndexSize_8c36e 1 = .ok (.iload_n 0, 1) := by decide +kernel
theorem dJ3_checkFromIndexSize_8c36e_2 : decode cJ3_checkFromIndexSize_8c36e 2 = .ok (.ior, 1) := by decide +kernel
theorem dJ3_checkFromIndexSize_8c36e_3 : decode cJ3_checkFromIndexSize_8c36e 3 = .ok (.iload_n 1, 1) := by decide +kernel
theorem dJ3_checkFromIndexSize_8c36e_4 : decode cJ3_checkFromIndexSize_8c36e 4 = .ok (.ior, 1) := by decide +kernel
theorem dJ3_checkFromIndexSize_8c36e_5 : decode cJ3_checkFromIndexSize_8c36e 5 = .ok (.ifCond .lt 10, 3) := by decide +kernel
theorem dJ3_checkFromIndexSize_8c36e_8 : decode cJ3_checkFromIndexSize_8c36e 8 = .ok (.iload_n 1, 1) := by decide +kernel
theorem dJ3_checkFromIndexSize_8c36e_9 : decode cJ3_checkFromIndexSize_8c36e 9 = .ok (.iload_n 2, 1) := by decide +kernel
theorem dJ3_checkFromIndexSize_8c36e_10 : decode cJ3_checkFromIndexSize_8c36e 10 = .ok (.iload_n 0, 1) := by decide +kernel
theorem dJ3_checkFromIndexSize_8c36e_11 : decode cJ3_checkFromIndexSize_8c36e 11 = .ok (.isub, 1) := by decide +kernel
theorem dJ3_checkFromIndexSize_8c36e_12 : decode cJ3_checkFromIndexSize_8c36e 12 = .ok (.if_icmp .le 11, 3) := by decide +kernel
theorem dJ3_checkFromIndexSize_8c36e_15 : decode cJ3_checkFromIndexSize_8c36e 15 = .ok (.aload_n 3, 1) := by decide +kernel
theorem dJ3_checkFromIndexSize_8c36e_16 : decode cJ3_checkFromIndexSize_8c36e 16 = .ok (.iload_n 0, 1) := by decide +kernel
theorem dJ3_checkFromIndexSize_8c36e_17 : decode cJ3_checkFromIndexSize_8c36e 17 = .ok (.iload_n 1, 1) := by decide +kernel
theorem dJ3_checkFromIndexSize_8c36e_18 : decode cJ3_checkFromIndexSize_8c36e 18 = .ok (.iload_n 2, 1) := by decide +kernel
theorem dJ3_checkFromIndexSize_8c36e_19 : decode cJ3_checkFromIndexSize_8c36e 19 = .ok (.invokestatic 103, 3) := by decide +kernel
theorem dJ3_checkFromIndexSize_8c36e_22 : decode cJ3_checkFromIndexSize_8c36e 22 = .ok (.athrow, 1) := by decide +kernel
theorem dJ3_checkFromIndexSize_8c36e_23 : decode cJ3_checkFromIndexSize_8c36e 23 = .ok (.iload_n 0, 1) := by decide +kernel
theorem dJ3_checkFromIndexSize_8c36e_24 : decode cJ3_checkFromIndexSize_8c36e 24 = .ok (.ireturn, 1) := by decide +kernel
theorem dL_machine_0 : decode cL_machine 0 = .ok (.aload_n 3, 1) := by decide +kernel
theorem dL_machine_1 : decode cL_machine 1 = .ok (.iconst 0, 1) := by decide +kernel
theorem dL_machine_2 : decode cL_machine 2 = .ok (.aload_n 0, 1) := by decide +kernel
theorem dL_machine_3 : decode cL_machine 3 = .ok (.iload_n 1, 1) := by decide +kernel
theorem dL_machine_4 : decode cL_machine 4 = .ok (.iload_n 2, 1) := by decide +kernel
theorem dL_machine_5 : decode cL_machine 5 = .ok (.invokevirtual 7, 3) := by decide +kernel
theorem dL_machine_8 : decode cL_machine 8 = .ok (.i2l, 1) := by decide +kernel
theorem dL_machine_9 : decode cL_machine 9 = .ok (.lastore, 1) := by decide +kernel
theorem dL_machine_10 : decode cL_machine 10 = .ok (.goto 11, 3) := by decide +kernel
theorem dL_machine_13 : decode cL_machine 13 = .ok (.astore 4, 2) := by decide +kernel
theorem dL_machine_15 : decode cL_machine 15 = .ok (.iconst 1, 1) := by decide +kernel
theorem dL_machine_16 : decode cL_machine 16 = .ok (.ireturn, 1) := by decide +kernel
theorem dL_machine_17 : decode cL_machine 17 = .ok (.astore 4, 2) := by decide +kernel
theorem dL_machine_19 : decode cL_machine 19 = .ok (.iconst 2, 1) := by decide +kernel
theorem dL_machine_20 : decode cL_machine 20 = .ok (.ireturn, 1) := by decide +kernel
theorem dL_machine_21 : decode cL_machine 21 = .ok (.iconst 0, 1) := by decide +kernel
theorem dL_machine_22 : decode cL_machine 22 = .ok (.ireturn, 1) := by decide +kernel
theorem dL_measure_0 : decode cL_measure 0 = .ok (.aload_n 3, 1) := by decide +kernel
theorem dL_measure_1 : decode cL_measure 1 = .ok (.iconst 0, 1) := by decide +kernel
theorem dL_measure_2 : decode cL_measure 2 = .ok (.aload_n 0, 1) := by decide +kernel
theorem dL_measure_3 : decode cL_measure 3 = .ok (.iload_n 1, 1) := by decide +kernel
theorem dL_measure_4 : decode cL_measure 4 = .ok (.iload_n 2, 1) := by decide +kernel
theorem dL_measure_5 : decode cL_measure 5 = .ok (.invokevirtual 17, 3) := by decide +kernel
theorem dL_measure_8 : decode cL_measure 8 = .ok (.ifCond .eq 7, 3) := by decide +kernel
theorem dL_measure_11 : decode cL_measure 11 = .ok (.lconst 1, 1) := by decide +kernel
theorem dL_measure_12 : decode cL_measure 12 = .ok (.goto 4, 3) := by decide +kernel
theorem dL_measure_15 : decode cL_measure 15 = .ok (.lconst 0, 1) := by decide +kernel
theorem dL_measure_16 : decode cL_measure 16 = .ok (.lastore, 1) := by decide +kernel
theorem dL_measure_17 : decode cL_measure 17 = .ok (.goto 11, 3) := by decide +kernel
theorem dL_measure_20 : decode cL_measure 20 = .ok (.astore 4, 2) := by decide +kernel
theorem dL_measure_22 : decode cL_measure 22 = .ok (.iconst 1, 1) := by decide +kernel
theorem dL_measure_23 : decode cL_measure 23 = .ok (.ireturn, 1) := by decide +kernel
theorem dL_measure_24 : decode cL_measure 24 = .ok (.astore 4, 2) := by decide +kernel
theorem dL_measure_26 : decode cL_measure 26 = .ok (.iconst 2, 1) := by decide +kernel
theorem dL_measure_27 : decode cL_measure 27 = .ok (.ireturn, 1) := by decide +kernel
theorem dL_measure_28 : decode cL_measure 28 = .ok (.iconst 0, 1) := by decide +kernel
theorem dL_measure_29 : decode cL_measure 29 = .ok (.ireturn, 1) := by decide +kernel
theorem dL_ofMachine_0 : decode cL_ofMachine 0 = .ok (.aload_n 3, 1) := by decide +kernel
theorem dL_ofMachine_1 : decode cL_ofMachine 1 = .ok (.iconst 0, 1) := by decide +kernel
theorem dL_ofMachine_2 : decode cL_ofMachine 2 = .ok (.aload_n 0, 1) := by decide +kernel
theorem dL_ofMachine_3 : decode cL_ofMachine 3 = .ok (.iload_n 1, 1) := by decide +kernel
theorem dL_ofMachine_4 : decode cL_ofMachine 4 = .ok (.iload_n 2, 1) := by decide +kernel
theorem dL_ofMachine_5 : decode cL_ofMachine 5 = .ok (.invokevirtual 23, 3) := by decide +kernel
theorem dL_ofMachine_8 : decode cL_ofMachine 8 = .ok (.i2l, 1) := by decide +kernel
theorem dL_ofMachine_9 : decode cL_ofMachine 9 = .ok (.lastore, 1) := by decide +kernel
theorem dL_ofMachine_10 : decode cL_ofMachine 10 = .ok (.goto 11, 3) := by decide +kernel
theorem dL_ofMachine_13 : decode cL_ofMachine 13 = .ok (.astore 4, 2) := by decide +kernel
theorem dL_ofMachine_15 : decode cL_ofMachine 15 = .ok (.iconst 1, 1) := by decide +kernel
theorem dL_ofMachine_16 : decode cL_ofMachine 16 = .ok (.ireturn, 1) := by decide +kernel
theorem dL_ofMachine_17 : decode cL_ofMachine 17 = .ok (.astore 4, 2) := by decide +kernel
theorem dL_ofMachine_19 : decode cL_ofMachine 19 = .ok (.iconst 2, 1) := by decide +kernel
theorem dL_ofMachine_20 : decode cL_ofMachine 20 = .ok (.ireturn, 1) := by decide +kernel
theorem dL_ofMachine_21 : decode cL_ofMachine 21 = .ok (.iconst 0, 1) := by decide +kernel
theorem dL_ofMachine_22 : decode cL_ofMachine 22 = .ok (.ireturn, 1) := by decide +kernel
theorem dL_changes_0 : decode cL_changes 0 = .ok (.aload_n 2, 1) := by decide +kernel
theorem dL_changes_1 : decode cL_changes 1 = .ok (.iconst 0, 1) := by decide +kernel
theorem dL_changes_2 : decode cL_changes 2 = .ok (.aload_n 0, 1) := by decide +kernel
theorem dL_changes_3 : decode cL_changes 3 = .ok (.iload_n 1, 1) := by decide +kernel
theorem dL_changes_4 : decode cL_changes 4 = .ok (.invokevirtual 26, 3) := by decide +kernel
theorem dL_changes_7 : decode cL_changes 7 = .ok (.i2l, 1) := by decide +kernel
theorem dL_changes_8 : decode cL_changes 8 = .ok (.lastore, 1) := by decide +kernel
theorem dL_changes_9 : decode cL_changes 9 = .ok (.goto 9, 3) := by decide +kernel
theorem dL_changes_12 : decode cL_changes 12 = .ok (.astore_n 3, 1) := by decide +kernel
theorem dL_changes_13 : decode cL_changes 13 = .ok (.iconst 1, 1) := by decide +kernel
theorem dL_changes_14 : decode cL_changes 14 = .ok (.ireturn, 1) := by decide +kernel
theorem dL_changes_15 : decode cL_changes 15 = .ok (.astore_n 3, 1) := by decide +kernel
theorem dL_changes_16 : decode cL_changes 16 = .ok (.iconst 2, 1) := by decide +kernel
theorem dL_changes_17 : decode cL_changes 17 = .ok (.ireturn, 1) := by decide +kernel
theorem dL_changes_18 : decode cL_changes 18 = .ok (.iconst 0, 1) := by decide +kernel
theorem dL_changes_19 : decode cL_changes 19 = .ok (.ireturn, 1) := by decide +kernel
theorem dL_run_0 : decode cL_run 0 = .ok (.aload 4, 2) := by decide +kernel
theorem dL_run_2 : decode cL_run 2 = .ok (.iconst 0, 1) := by decide +kernel
theorem dL_run_3 : decode cL_run 3 = .ok (.aload_n 0, 1) := by decide +kernel
theorem dL_run_4 : decode cL_run 4 = .ok (.iload_n 1, 1) := by decide +kernel
theorem dL_run_5 : decode cL_run 5 = .ok (.iload_n 2, 1) := by decide +kernel
theorem dL_run_6 : decode cL_run 6 = .ok (.iload_n 3, 1) := by decide +kernel
theorem dL_run_7 : decode cL_run 7 = .ok (.invokevirtual 30, 3) := by decide +kernel
theorem dL_run_10 : decode cL_run 10 = .ok (.i2l, 1) := by decide +kernel
theorem dL_run_11 : decode cL_run 11 = .ok (.lastore, 1) := by decide +kernel
theorem dL_run_12 : decode cL_run 12 = .ok (.goto 15, 3) := by decide +kernel
theorem dL_run_15 : decode cL_run 15 = .ok (.astore 5, 2) := by decide +kernel
theorem dL_run_17 : decode cL_run 17 = .ok (.iconst 1, 1) := by decide +kernel
theorem dL_run_18 : decode cL_run 18 = .ok (.ireturn, 1) := by decide +kernel
theorem dL_run_19 : decode cL_run 19 = .ok (.astore 5, 2) := by decide +kernel
theorem dL_run_21 : decode cL_run 21 = .ok (.iconst 2, 1) := by decide +kernel
theorem dL_run_22 : decode cL_run 22 = .ok (.ireturn, 1) := by decide +kernel
theorem dL_run_23 : decode cL_run 23 = .ok (.astore 5, 2) := by decide +kernel
theorem dL_run_25 : decode cL_run 25 = .ok (.iconst 3, 1) := by decide +kernel
theorem dL_run_26 : decode cL_run 26 = .ok (.ireturn, 1) := by decide +kernel
theorem dL_run_27 : decode cL_run 27 = .ok (.iconst 0, 1) := by decide +kernel
theorem dL_run_28 : decode cL_run 28 = .ok (.ireturn, 1) := by decide +kernel
theorem dL_strike_0 : decode cL_strike 0 = .ok (.aload_n 2, 1) := by decide +kernel
theorem dL_strike_1 : decode cL_strike 1 = .ok (.iconst 0, 1) := by decide +kernel
theorem dL_strike_2 : decode cL_strike 2 = .ok (.aload_n 0, 1) := by decide +kernel
theorem dL_strike_3 : decode cL_strike 3 = .ok (.iload_n 1, 1) := by decide +kernel
theorem dL_strike_4 : decode cL_strike 4 = .ok (.invokevirtual 34, 3) := by decide +kernel
theorem dL_strike_7 : decode cL_strike 7 = .ok (.i2l, 1) := by decide +kernel
theorem dL_strike_8 : decode cL_strike 8 = .ok (.lastore, 1) := by decide +kernel
theorem dL_strike_9 : decode cL_strike 9 = .ok (.goto 9, 3) := by decide +kernel
theorem dL_strike_12 : decode cL_strike 12 = .ok (.astore_n 3, 1) := by decide +kernel
theorem dL_strike_13 : decode cL_strike 13 = .ok (.iconst 1, 1) := by decide +kernel
theorem dL_strike_14 : decode cL_strike 14 = .ok (.ireturn, 1) := by decide +kernel
theorem dL_strike_15 : decode cL_strike 15 = .ok (.astore_n 3, 1) := by decide +kernel
theorem dL_strike_16 : decode cL_strike 16 = .ok (.iconst 2, 1) := by decide +kernel
theorem dL_strike_17 : decode cL_strike 17 = .ok (.ireturn, 1) := by decide +kernel
theorem dL_strike_18 : decode cL_strike 18 = .ok (.iconst 0, 1) := by decide +kernel
theorem dL_strike_19 : decode cL_strike 19 = .ok (.ireturn, 1) := by decide +kernel
theorem dL_ofRun_0 : decode cL_ofRun 0 = .ok (.aload_n 3, 1) := by decide +kernel
theorem dL_ofRun_1 : decode cL_ofRun 1 = .ok (.iconst 0, 1) := by decide +kernel
theorem dL_ofRun_2 : decode cL_ofRun 2 = .ok (.aload_n 0, 1) := by decide +kernel
theorem dL_ofRun_3 : decode cL_ofRun 3 = .ok (.iload_n 1, 1) := by decide +kernel
theorem dL_ofRun_4 : decode cL_ofRun 4 = .ok (.iload_n 2, 1) := by decide +kernel
theorem dL_ofRun_5 : decode cL_ofRun 5 = .ok (.invokevirtual 37, 3) := by decide +kernel
theorem dL_ofRun_8 : decode cL_ofRun 8 = .ok (.i2l, 1) := by decide +kernel
theorem dL_ofRun_9 : decode cL_ofRun 9 = .ok (.lastore, 1) := by decide +kernel
theorem dL_ofRun_10 : decode cL_ofRun 10 = .ok (.goto 11, 3) := by decide +kernel
theorem dL_ofRun_13 : decode cL_ofRun 13 = .ok (.astore 4, 2) := by decide +kernel
theorem dL_ofRun_15 : decode cL_ofRun 15 = .ok (.iconst 1, 1) := by decide +kernel
theorem dL_ofRun_16 : decode cL_ofRun 16 = .ok (.ireturn, 1) := by decide +kernel
theorem dL_ofRun_17 : decode cL_ofRun 17 = .ok (.astore 4, 2) := by decide +kernel
theorem dL_ofRun_19 : decode cL_ofRun 19 = .ok (.iconst 2, 1) := by decide +kernel
theorem dL_ofRun_20 : decode cL_ofRun 20 = .ok (.ireturn, 1) := by decide +kernel
theorem dL_ofRun_21 : decode cL_ofRun 21 = .ok (.iconst 0, 1) := by decide +kernel
theorem dL_ofRun_22 : decode cL_ofRun 22 = .ok (.ireturn, 1) := by decide +kernel
theorem dL_ofChange_0 : decode cL_ofChange 0 = .ok (.aload_n 3, 1) := by decide +kernel
theorem dL_ofChange_1 : decode cL_ofChange 1 = .ok (.iconst 0, 1) := by decide +kernel
theorem dL_ofChange_2 : decode cL_ofChange 2 = .ok (.aload_n 0, 1) := by decide +kernel
theorem dL_ofChange_3 : decode cL_ofChange 3 = .ok (.iload_n 1, 1) := by decide +kernel
theorem dL_ofChange_4 : decode cL_ofChange 4 = .ok (.iload_n 2, 1) := by decide +kernel
theorem dL_ofChange_5 : decode cL_ofChange 5 = .ok (.invokevirtual 40, 3) := by decide +kernel
theorem dL_ofChange_8 : decode cL_ofChange 8 = .ok (.i2l, 1) := by decide +kernel
theorem dL_ofChange_9 : decode cL_ofChange 9 = .ok (.lastore, 1) := by decide +kernel
theorem dL_ofChange_10 : decode cL_ofChange 10 = .ok (.goto 11, 3) := by decide +kernel
theorem dL_ofChange_13 : decode cL_ofChange 13 = .ok (.astore 4, 2) := by decide +kernel
theorem dL_ofChange_15 : decode cL_ofChange 15 = .ok (.iconst 1, 1) := by decide +kernel
theorem dL_ofChange_16 : decode cL_ofChange 16 = .ok (.ireturn, 1) := by decide +kernel
theorem dL_ofChange_17 : decode cL_ofChange 17 = .ok (.astore 4, 2) := by decide +kernel
theorem dL_ofChange_19 : decode cL_ofChange 19 = .ok (.iconst 2, 1) := by decide +kernel
theorem dL_ofChange_20 : decode cL_ofChange 20 = .ok (.ireturn, 1) := by decide +kernel
theorem dL_ofChange_21 : decode cL_ofChange 21 = .ok (.iconst 0, 1) := by decide +kernel
theorem dL_ofChange_22 : decode cL_ofChange 22 = .ok (.ireturn, 1) := by decide +kernel
theorem dL_verdict_0 : decode cL_verdict 0 = .ok (.aload 4, 2) := by decide +kernel
theorem dL_verdict_2 : decode cL_verdict 2 = .ok (.iconst 0, 1) := by decide +kernel
theorem dL_verdict_3 : decode cL_verdict 3 = .ok (.aload_n 0, 1) := by decide +kernel
theorem dL_verdict_4 : decode cL_verdict 4 = .ok (.iload_n 1, 1) := by decide +kernel
theorem dL_verdict_5 : decode cL_verdict 5 = .ok (.iload_n 2, 1) := by decide +kernel
theorem dL_verdict_6 : decode cL_verdict 6 = .ok (.iload_n 3, 1) := by decide +kernel
theorem dL_verdict_7 : decode cL_verdict 7 = .ok (.invokevirtual 43, 3) := by decide +kernel
theorem dL_verdict_10 : decode cL_verdict 10 = .ok (.i2l, 1) := by decide +kernel
theorem dL_verdict_11 : decode cL_verdict 11 = .ok (.lastore, 1) := by decide +kernel
theorem dL_verdict_12 : decode cL_verdict 12 = .ok (.goto 11, 3) := by decide +kernel
theorem dL_verdict_15 : decode cL_verdict 15 = .ok (.astore 5, 2) := by decide +kernel
theorem dL_verdict_17 : decode cL_verdict 17 = .ok (.iconst 1, 1) := by decide +kernel
theorem dL_verdict_18 : decode cL_verdict 18 = .ok (.ireturn, 1) := by decide +kernel
theorem dL_verdict_19 : decode cL_verdict 19 = .ok (.astore 5, 2) := by decide +kernel
theorem dL_verdict_21 : decode cL_verdict 21 = .ok (.iconst 2, 1) := by decide +kernel
theorem dL_verdict_22 : decode cL_verdict 22 = .ok (.ireturn, 1) := by decide +kernel
theorem dL_verdict_23 : decode cL_verdict 23 = .ok (.iconst 0, 1) := by decide +kernel
theorem dL_verdict_24 : decode cL_verdict 24 = .ok (.ireturn, 1) := by decide +kernel
theorem dL_doubt_0 : decode cL_doubt 0 = .ok (.aload_n 3, 1) := by decide +kernel
theorem dL_doubt_1 : decode cL_doubt 1 = .ok (.iconst 0, 1) := by decide +kernel
theorem dL_doubt_2 : decode cL_doubt 2 = .ok (.aload_n 0, 1) := by decide +kernel
theorem dL_doubt_3 : decode cL_doubt 3 = .ok (.iload_n 1, 1) := by decide +kernel
theorem dL_doubt_4 : decode cL_doubt 4 = .ok (.iload_n 2, 1) := by decide +kernel
theorem dL_doubt_5 : decode cL_doubt 5 = .ok (.invokevirtual 46, 3) := by decide +kernel
theorem dL_doubt_8 : decode cL_doubt 8 = .ok (.dastore, 1) := by decide +kernel
theorem dL_doubt_9 : decode cL_doubt 9 = .ok (.goto 7, 3) := by decide +kernel
theorem dL_doubt_12 : decode cL_doubt 12 = .ok (.astore 4, 2) := by decide +kernel
theorem dL_doubt_14 : decode cL_doubt 14 = .ok (.iconst 1, 1) := by decide +kernel
theorem dL_doubt_15 : decode cL_doubt 15 = .ok (.ireturn, 1) := by decide +kernel
theorem dL_doubt_16 : decode cL_doubt 16 = .ok (.iconst 0, 1) := by decide +kernel
theorem dL_doubt_17 : decode cL_doubt 17 = .ok (.ireturn, 1) := by decide +kernel
theorem dL_rule_0 : decode cL_rule 0 = .ok (.aload_n 3, 1) := by decide +kernel
theorem dL_rule_1 : decode cL_rule 1 = .ok (.iconst 0, 1) := by decide +kernel
theorem dL_rule_2 : decode cL_rule 2 = .ok (.aload_n 0, 1) := by decide +kernel
theorem dL_rule_3 : decode cL_rule 3 = .ok (.iload_n 1, 1) := by decide +kernel
theorem dL_rule_4 : decode cL_rule 4 = .ok (.iload_n 2, 1) := by decide +kernel
theorem dL_rule_5 : decode cL_rule 5 = .ok (.invokevirtual 50, 3) := by decide +kernel
theorem dL_rule_8 : decode cL_rule 8 = .ok (.i2l, 1) := by decide +kernel
theorem dL_rule_9 : decode cL_rule 9 = .ok (.lastore, 1) := by decide +kernel
theorem dL_rule_10 : decode cL_rule 10 = .ok (.goto 7, 3) := by decide +kernel
theorem dL_rule_13 : decode cL_rule 13 = .ok (.astore 4, 2) := by decide +kernel
theorem dL_rule_15 : decode cL_rule 15 = .ok (.iconst 1, 1) := by decide +kernel
theorem dL_rule_16 : decode cL_rule 16 = .ok (.ireturn, 1) := by decide +kernel
theorem dL_rule_17 : decode cL_rule 17 = .ok (.iconst 0, 1) := by decide +kernel
theorem dL_rule_18 : decode cL_rule 18 = .ok (.ireturn, 1) := by decide +kernel
theorem dL_begin_0 : decode cL_begin 0 = .ok (.aload_n 3, 1) := by decide +kernel
theorem dL_begin_1 : decode cL_begin 1 = .ok (.iconst 0, 1) := by decide +kernel
theorem dL_begin_2 : decode cL_begin 2 = .ok (.aload_n 0, 1) := by decide +kernel
theorem dL_begin_3 : decode cL_begin 3 = .ok (.iload_n 1, 1) := by decide +kernel
theorem dL_begin_4 : decode cL_begin 4 = .ok (.iload_n 2, 1) := by decide +kernel
theorem dL_begin_5 : decode cL_begin 5 = .ok (.invokevirtual 53, 3) := by decide +kernel
theorem dL_begin_8 : decode cL_begin 8 = .ok (.i2l, 1) := by decide +kernel
theorem dL_begin_9 : decode cL_begin 9 = .ok (.lastore, 1) := by decide +kernel
theorem dL_begin_10 : decode cL_begin 10 = .ok (.goto 15, 3) := by decide +kernel
theorem dL_begin_13 : decode cL_begin 13 = .ok (.astore 4, 2) := by decide +kernel
theorem dL_begin_15 : decode cL_begin 15 = .ok (.iconst 1, 1) := by decide +kernel
theorem dL_begin_16 : decode cL_begin 16 = .ok (.ireturn, 1) := by decide +kernel
theorem dL_begin_17 : decode cL_begin 17 = .ok (.astore 4, 2) := by decide +kernel
theorem dL_begin_19 : decode cL_begin 19 = .ok (.iconst 2, 1) := by decide +kernel
theorem dL_begin_20 : decode cL_begin 20 = .ok (.ireturn, 1) := by decide +kernel
theorem dL_begin_21 : decode cL_begin 21 = .ok (.astore 4, 2) := by decide +kernel
theorem dL_begin_23 : decode cL_begin 23 = .ok (.iconst 3, 1) := by decide +kernel
theorem dL_begin_24 : decode cL_begin 24 = .ok (.ireturn, 1) := by decide +kernel
theorem dL_begin_25 : decode cL_begin 25 = .ok (.iconst 0, 1) := by decide +kernel
theorem dL_begin_26 : decode cL_begin 26 = .ok (.ireturn, 1) := by decide +kernel
theorem dL_drop_0 : decode cL_drop 0 = .ok (.aload_n 1, 1) := by decide +kernel
theorem dL_drop_1 : decode cL_drop 1 = .ok (.iconst 0, 1) := by decide +kernel
theorem dL_drop_2 : decode cL_drop 2 = .ok (.aload_n 0, 1) := by decide +kernel
theorem dL_drop_3 : decode cL_drop 3 = .ok (.invokevirtual 56, 3) := by decide +kernel
theorem dL_drop_6 : decode cL_drop 6 = .ok (.i2l, 1) := by decide +kernel
theorem dL_drop_7 : decode cL_drop 7 = .ok (.lastore, 1) := by decide +kernel
theorem dL_drop_8 : decode cL_drop 8 = .ok (.goto 6, 3) := by decide +kernel
theorem dL_drop_11 : decode cL_drop 11 = .ok (.astore_n 2, 1) := by decide +kernel
theorem dL_drop_12 : decode cL_drop 12 = .ok (.iconst 1, 1) := by decide +kernel
theorem dL_drop_13 : decode cL_drop 13 = .ok (.ireturn, 1) := by decide +kernel
theorem dL_drop_14 : decode cL_drop 14 = .ok (.iconst 0, 1) := by decide +kernel
theorem dL_drop_15 : decode cL_drop 15 = .ok (.ireturn, 1) := by decide +kernel
theorem dL_ofCase_0 : decode cL_ofCase 0 = .ok (.aload_n 2, 1) := by decide +kernel
theorem dL_ofCase_1 : decode cL_ofCase 1 = .ok (.iconst 0, 1) := by decide +kernel
theorem dL_ofCase_2 : decode cL_ofCase 2 = .ok (.aload_n 0, 1) := by decide +kernel
theorem dL_ofCase_3 : decode cL_ofCase 3 = .ok (.iload_n 1, 1) := by decide +kernel
theorem dL_ofCase_4 : decode cL_ofCase 4 = .ok (.invokevirtual 60, 3) := by decide +kernel
theorem dL_ofCase_7 : decode cL_ofCase 7 = .ok (.i2l, 1) := by decide +kernel
theorem dL_ofCase_8 : decode cL_ofCase 8 = .ok (.lastore, 1) := by decide +kernel
theorem dL_ofCase_9 : decode cL_ofCase 9 = .ok (.goto 6, 3) := by decide +kernel
theorem dL_ofCase_12 : decode cL_ofCase 12 = .ok (.astore_n 3, 1) := by decide +kernel
theorem dL_ofCase_13 : decode cL_ofCase 13 = .ok (.iconst 1, 1) := by decide +kernel
theorem dL_ofCase_14 : decode cL_ofCase 14 = .ok (.ireturn, 1) := by decide +kernel
theorem dL_ofCase_15 : decode cL_ofCase 15 = .ok (.iconst 0, 1) := by decide +kernel
theorem dL_ofCase_16 : decode cL_ofCase 16 = .ok (.ireturn, 1) := by decide +kernel
theorem dL_excuse_0 : decode cL_excuse 0 = .ok (.aload_n 3, 1) := by decide +kernel
theorem dL_excuse_1 : decode cL_excuse 1 = .ok (.iconst 0, 1) := by decide +kernel
theorem dL_excuse_2 : decode cL_excuse 2 = .ok (.aload_n 0, 1) := by decide +kernel
theorem dL_excuse_3 : decode cL_excuse 3 = .ok (.iload_n 1, 1) := by decide +kernel
theorem dL_excuse_4 : decode cL_excuse 4 = .ok (.iload_n 2, 1) := by decide +kernel
theorem dL_excuse_5 : decode cL_excuse 5 = .ok (.invokevirtual 63, 3) := by decide +kernel
theorem dL_excuse_8 : decode cL_excuse 8 = .ok (.i2l, 1) := by decide +kernel
theorem dL_excuse_9 : decode cL_excuse 9 = .ok (.lastore, 1) := by decide +kernel
theorem dL_excuse_10 : decode cL_excuse 10 = .ok (.goto 15, 3) := by decide +kernel
theorem dL_excuse_13 : decode cL_excuse 13 = .ok (.astore 4, 2) := by decide +kernel
theorem dL_excuse_15 : decode cL_excuse 15 = .ok (.iconst 1, 1) := by decide +kernel
theorem dL_excuse_16 : decode cL_excuse 16 = .ok (.ireturn, 1) := by decide +kernel
theorem dL_excuse_17 : decode cL_excuse 17 = .ok (.astore 4, 2) := by decide +kernel
theorem dL_excuse_19 : decode cL_excuse 19 = .ok (.iconst 2, 1) := by decide +kernel
theorem dL_excuse_20 : decode cL_excuse 20 = .ok (.ireturn, 1) := by decide +kernel
theorem dL_excuse_21 : decode cL_excuse 21 = .ok (.astore 4, 2) := by decide +kernel
theorem dL_excuse_23 : decode cL_excuse 23 = .ok (.iconst 3, 1) := by decide +kernel
theorem dL_excuse_24 : decode cL_excuse 24 = .ok (.ireturn, 1) := by decide +kernel
theorem dL_excuse_25 : decode cL_excuse 25 = .ok (.iconst 0, 1) := by decide +kernel
theorem dL_excuse_26 : decode cL_excuse 26 = .ok (.ireturn, 1) := by decide +kernel
theorem dL_budget_0 : decode cL_budget 0 = .ok (.aload_n 2, 1) := by decide +kernel
theorem dL_budget_1 : decode cL_budget 1 = .ok (.iconst 0, 1) := by decide +kernel
theorem dL_budget_2 : decode cL_budget 2 = .ok (.aload_n 0, 1) := by decide +kernel
theorem dL_budget_3 : decode cL_budget 3 = .ok (.iload_n 1, 1) := by decide +kernel
theorem dL_budget_4 : decode cL_budget 4 = .ok (.invokevirtual 66, 3) := by decide +kernel
theorem dL_budget_7 : decode cL_budget 7 = .ok (.i2l, 1) := by decide +kernel
theorem dL_budget_8 : decode cL_budget 8 = .ok (.lastore, 1) := by decide +kernel
theorem dL_budget_9 : decode cL_budget 9 = .ok (.goto 6, 3) := by decide +kernel
theorem dL_budget_12 : decode cL_budget 12 = .ok (.astore_n 3, 1) := by decide +kernel
theorem dL_budget_13 : decode cL_budget 13 = .ok (.iconst 1, 1) := by decide +kernel
theorem dL_budget_14 : decode cL_budget 14 = .ok (.ireturn, 1) := by decide +kernel
theorem dL_budget_15 : decode cL_budget 15 = .ok (.iconst 0, 1) := by decide +kernel
theorem dL_budget_16 : decode cL_budget 16 = .ok (.ireturn, 1) := by decide +kernel
theorem dL_many_0 : decode cL_many 0 = .ok (.aload_n 2, 1) := by decide +kernel
theorem dL_many_1 : decode cL_many 1 = .ok (.iconst 0, 1) := by decide +kernel
theorem dL_many_2 : decode cL_many 2 = .ok (.aload_n 0, 1) := by decide +kernel
theorem dL_many_3 : decode cL_many 3 = .ok (.iload_n 1, 1) := by decide +kernel
theorem dL_many_4 : decode cL_many 4 = .ok (.invokevirtual 69, 3) := by decide +kernel
theorem dL_many_7 : decode cL_many 7 = .ok (.i2l, 1) := by decide +kernel
theorem dL_many_8 : decode cL_many 8 = .ok (.lastore, 1) := by decide +kernel
theorem dL_many_9 : decode cL_many 9 = .ok (.goto 6, 3) := by decide +kernel
theorem dL_many_12 : decode cL_many 12 = .ok (.astore_n 3, 1) := by decide +kernel
theorem dL_many_13 : decode cL_many 13 = .ok (.iconst 1, 1) := by decide +kernel
theorem dL_many_14 : decode cL_many 14 = .ok (.ireturn, 1) := by decide +kernel
theorem dL_many_15 : decode cL_many 15 = .ok (.iconst 0, 1) := by decide +kernel
theorem dL_many_16 : decode cL_many 16 = .ok (.ireturn, 1) := by decide +kernel
theorem dL_minutesFor_0 : decode cL_minutesFor 0 = .ok (.aload_n 2, 1) := by decide +kernel
theorem dL_minutesFor_1 : decode cL_minutesFor 1 = .ok (.iconst 0, 1) := by decide +kernel
theorem dL_minutesFor_2 : decode cL_minutesFor 2 = .ok (.aload_n 0, 1) := by decide +kernel
theorem dL_minutesFor_3 : decode cL_minutesFor 3 = .ok (.iload_n 1, 1) := by decide +kernel
theorem dL_minutesFor_4 : decode cL_minutesFor 4 = .ok (.invokevirtual 72, 3) := by decide +kernel
theorem dL_minutesFor_7 : decode cL_minutesFor 7 = .ok (.i2l, 1) := by decide +kernel
theorem dL_minutesFor_8 : decode cL_minutesFor 8 = .ok (.lastore, 1) := by decide +kernel
theorem dL_minutesFor_9 : decode cL_minutesFor 9 = .ok (.goto 6, 3) := by decide +kernel
theorem dL_minutesFor_12 : decode cL_minutesFor 12 = .ok (.astore_n 3, 1) := by decide +kernel
theorem dL_minutesFor_13 : decode cL_minutesFor 13 = .ok (.iconst 1, 1) := by decide +kernel
theorem dL_minutesFor_14 : decode cL_minutesFor 14 = .ok (.ireturn, 1) := by decide +kernel
theorem dL_minutesFor_15 : decode cL_minutesFor 15 = .ok (.iconst 0, 1) := by decide +kernel
theorem dL_minutesFor_16 : decode cL_minutesFor 16 = .ok (.ireturn, 1) := by decide +kernel
theorem dL_verdictWith_0 : decode cL_verdictWith 0 = .ok (.aload 4, 2) := by decide +kernel
theorem dL_verdictWith_2 : decode cL_verdictWith 2 = .ok (.iconst 0, 1) := by decide +kernel
theorem dL_verdictWith_3 : decode cL_verdictWith 3 = .ok (.aload_n 0, 1) := by decide +kernel
theorem dL_verdictWith_4 : decode cL_verdictWith 4 = .ok (.iload_n 1, 1) := by decide +kernel
theorem dL_verdictWith_5 : decode cL_verdictWith 5 = .ok (.iload_n 2, 1) := by decide +kernel
theorem dL_verdictWith_6 : decode cL_verdictWith 6 = .ok (.iload_n 3, 1) := by decide +kernel
theorem dL_verdictWith_7 : decode cL_verdictWith 7 = .ok (.invokevirtual 75, 3) := by decide +kernel
theorem dL_verdictWith_10 : decode cL_verdictWith 10 = .ok (.i2l, 1) := by decide +kernel
theorem dL_verdictWith_11 : decode cL_verdictWith 11 = .ok (.lastore, 1) := by decide +kernel
theorem dL_verdictWith_12 : decode cL_verdictWith 12 = .ok (.goto 11, 3) := by decide +kernel
theorem dL_verdictWith_15 : decode cL_verdictWith 15 = .ok (.astore 5, 2) := by decide +kernel
theorem dL_verdictWith_17 : decode cL_verdictWith 17 = .ok (.iconst 1, 1) := by decide +kernel
theorem dL_verdictWith_18 : decode cL_verdictWith 18 = .ok (.ireturn, 1) := by decide +kernel
theorem dL_verdictWith_19 : decode cL_verdictWith 19 = .ok (.astore 5, 2) := by decide +kernel
theorem dL_verdictWith_21 : decode cL_verdictWith 21 = .ok (.iconst 2, 1) := by decide +kernel
theorem dL_verdictWith_22 : decode cL_verdictWith 22 = .ok (.ireturn, 1) := by decide +kernel
theorem dL_verdictWith_23 : decode cL_verdictWith 23 = .ok (.iconst 0, 1) := by decide +kernel
theorem dL_verdictWith_24 : decode cL_verdictWith 24 = .ok (.ireturn, 1) := by decide +kernel
theorem dL_without_0 : decode cL_without 0 = .ok (.aload_n 2, 1) := by decide +kernel
theorem dL_without_1 : decode cL_without 1 = .ok (.iconst 0, 1) := by decide +kernel
theorem dL_without_2 : decode cL_without 2 = .ok (.aload_n 0, 1) := by decide +kernel
theorem dL_without_3 : decode cL_without 3 = .ok (.iload_n 1, 1) := by decide +kernel
theorem dL_without_4 : decode cL_without 4 = .ok (.invokevirtual 78, 3) := by decide +kernel
theorem dL_without_7 : decode cL_without 7 = .ok (.i2l, 1) := by decide +kernel
theorem dL_without_8 : decode cL_without 8 = .ok (.lastore, 1) := by decide +kernel
theorem dL_without_9 : decode cL_without 9 = .ok (.goto 6, 3) := by decide +kernel
theorem dL_without_12 : decode cL_without 12 = .ok (.astore_n 3, 1) := by decide +kernel
theorem dL_without_13 : decode cL_without 13 = .ok (.iconst 1, 1) := by decide +kernel
theorem dL_without_14 : decode cL_without 14 = .ok (.ireturn, 1) := by decide +kernel
theorem dL_without_15 : decode cL_without 15 = .ok (.iconst 0, 1) := by decide +kernel
theorem dL_without_16 : decode cL_without 16 = .ok (.ireturn, 1) := by decide +kernel
theorem dL_law_0 : decode cL_law 0 = .ok (.new 8, 3) := by decide +kernel
theorem dL_law_3 : decode cL_law 3 = .ok (.dup, 1) := by decide +kernel
theorem dL_law_4 : decode cL_law 4 = .ok (.invokespecial 81, 3) := by decide +kernel
theorem dL_law_7 : decode cL_law 7 = .ok (.astore_n 1, 1) := by decide +kernel
theorem dL_law_8 : decode cL_law 8 = .ok (.new 82, 3) := by decide +kernel
theorem dL_law_11 : decode cL_law 11 = .ok (.dup, 1) := by decide +kernel
theorem dL_law_12 : decode cL_law 12 = .ok (.invokespecial 84, 3) := by decide +kernel
theorem dL_law_15 : decode cL_law 15 = .ok (.astore_n 2, 1) := by decide +kernel
theorem dL_law_16 : decode cL_law 16 = .ok (.iconst 1, 1) := by decide +kernel
theorem dL_law_17 : decode cL_law 17 = .ok (.newarray .long, 2) := by decide +kernel
theorem dL_law_19 : decode cL_law 19 = .ok (.astore_n 3, 1) := by decide +kernel
theorem dL_law_20 : decode cL_law 20 = .ok (.iconst 1, 1) := by decide +kernel
theorem dL_law_21 : decode cL_law 21 = .ok (.newarray .double, 2) := by decide +kernel
theorem dL_law_23 : decode cL_law 23 = .ok (.astore 4, 2) := by decide +kernel
theorem dL_law_25 : decode cL_law 25 = .ok (.iconst 0, 1) := by decide +kernel
theorem dL_law_26 : decode cL_law 26 = .ok (.istore 5, 2) := by decide +kernel
theorem dL_law_28 : decode cL_law 28 = .ok (.iload 5, 2) := by decide +kernel
theorem dL_law_30 : decode cL_law 30 = .ok (.aload_n 0, 1) := by decide +kernel
theorem dL_law_31 : decode cL_law 31 = .ok (.arraylength, 1) := by decide +kernel
theorem dL_law_32 : decode cL_law 32 = .ok (.iconst 4, 1) := by decide +kernel
theorem dL_law_33 : decode cL_law 33 = .ok (.isub, 1) := by decide +kernel
theorem dL_law_34 : decode cL_law 34 = .ok (.if_icmp .gt 1480, 3) := by decide +kernel
theorem dL_law_37 : decode cL_law 37 = .ok (.aload_n 0, 1) := by decide +kernel
theorem dL_law_38 : decode cL_law 38 = .ok (.iload 5, 2) := by decide +kernel
theorem dL_law_40 : decode cL_law 40 = .ok (.iaload, 1) := by decide +kernel
theorem dL_law_41 : decode cL_law 41 = .ok (.bipush 31, 2) := by decide +kernel
theorem dL_law_43 : decode cL_law 43 = .ok (.iand, 1) := by decide +kernel
theorem dL_law_44 : decode cL_law 44 = .ok (.tableswitch 1464 0 22 #[108, 176, 251, 319, 375, 455, 511, 579, 647, 727, 816, 884, 952, 996, 1052, 1065, 1133, 1189, 1245, 1301, 1381, 1437, 1450], 108) := by decide +kernel
theorem dL_law_152 : decode cL_law 152 = .ok (.aload_n 1, 1) := by decide +kernel
theorem dL_law_153 : decode cL_law 153 = .ok (.aload_n 0, 1) := by decide +kernel
theorem dL_law_154 : decode cL_law 154 = .ok (.iload 5, 2) := by decide +kernel
theorem dL_law_156 : decode cL_law 156 = .ok (.iconst 1, 1) := by decide +kernel
theorem dL_law_157 : decode cL_law 157 = .ok (.iadd, 1) := by decide +kernel
theorem dL_law_158 : decode cL_law 158 = .ok (.iaload, 1) := by decide +kernel
theorem dL_law_159 : decode cL_law 159 = .ok (.aload_n 0, 1) := by decide +kernel
theorem dL_law_160 : decode cL_law 160 = .ok (.iload 5, 2) := by decide +kernel
theorem dL_law_162 : decode cL_law 162 = .ok (.iconst 2, 1) := by decide +kernel
theorem dL_law_163 : decode cL_law 163 = .ok (.iadd, 1) := by decide +kernel
theorem dL_law_164 : decode cL_law 164 = .ok (.iaload, 1) := by decide +kernel
theorem dL_law_165 : decode cL_law 165 = .ok (.aload_n 3, 1) := by decide +kernel
theorem dL_law_166 : decode cL_law 166 = .ok (.invokestatic 85, 3) := by decide +kernel
theorem dL_law_169 : decode cL_law 169 = .ok (.istore 6, 2) := by decide +kernel
theorem dL_law_171 : decode cL_law 171 = .ok (.aload_n 2, 1) := by decide +kernel
theorem dL_law_172 : decode cL_law 172 = .ok (.aload_n 0, 1) := by decide +kernel
theorem dL_law_173 : decode cL_law 173 = .ok (.iload 5, 2) := by decide +kernel
theorem dL_law_175 : decode cL_law 175 = .ok (.iconst 1, 1) := by decide +kernel
theorem dL_law_176 : decode cL_law 176 = .ok (.iadd, 1) := by decide +kernel
theorem dL_law_177 : decode cL_law 177 = .ok (.iaload, 1) := by decide +kernel
theorem dL_law_178 : decode cL_law 178 = .ok (.aload_n 0, 1) := by decide +kernel
theorem dL_law_179 : decode cL_law 179 = .ok (.iload 5, 2) := by decide +kernel
theorem dL_law_181 : decode cL_law 181 = .ok (.iconst 2, 1) := by decide +kernel
theorem dL_law_182 : decode cL_law 182 = .ok (.iadd, 1) := by decide +kernel
theorem dL_law_183 : decode cL_law 183 = .ok (.iaload, 1) := by decide +kernel
theorem dL_law_184 : decode cL_law 184 = .ok (.invokevirtual 90, 3) := by decide +kernel
theorem dL_law_187 : decode cL_law 187 = .ok (.istore 7, 2) := by decide +kernel
theorem dL_law_189 : decode cL_law 189 = .ok (.aload_n 2, 1) := by decide +kernel
theorem dL_law_190 : decode cL_law 190 = .ok (.invokevirtual 91, 3) := by decide +kernel
theorem dL_law_193 : decode cL_law 193 = .ok (.iload 6, 2) := by decide +kernel
theorem dL_law_195 : decode cL_law 195 = .ok (.if_icmp .eq 5, 3) := by decide +kernel
theorem dL_law_198 : decode cL_law 198 = .ok (.iconst 0, 1) := by decide +kernel
theorem dL_law_199 : decode cL_law 199 = .ok (.ireturn, 1) := by decide +kernel
theorem dL_law_200 : decode cL_law 200 = .ok (.iload 6, 2) := by decide +kernel
theorem dL_law_202 : decode cL_law 202 = .ok (.ifCond .ne 15, 3) := by decide +kernel
theorem dL_law_205 : decode cL_law 205 = .ok (.aload_n 3, 1) := by decide +kernel
theorem dL_law_206 : decode cL_law 206 = .ok (.iconst 0, 1) := by decide +kernel
theorem dL_law_207 : decode cL_law 207 = .ok (.laload, 1) := by decide +kernel
theorem dL_law_208 : decode cL_law 208 = .ok (.iload 7, 2) := by decide +kernel
theorem dL_law_210 : decode cL_law 210 = .ok (.i2l, 1) := by decide +kernel
theorem dL_law_211 : decode cL_law 211 = .ok (.lcmp, 1) := by decide +kernel
theorem dL_law_212 : decode cL_law 212 = .ok (.ifCond .eq 5, 3) := by decide +kernel
theorem dL_law_215 : decode cL_law 215 = .ok (.iconst 0, 1) := by decide +kernel
theorem dL_law_216 : decode cL_law 216 = .ok (.ireturn, 1) := by decide +kernel
theorem dL_law_217 : decode cL_law 217 = .ok (.goto 1291, 3) := by decide +kernel
theorem dL_law_220 : decode cL_law 220 = .ok (.aload_n 1, 1) := by decide +kernel
theorem dL_law_221 : decode cL_law 221 = .ok (.aload_n 0, 1) := by decide +kernel
theorem dL_law_222 : decode cL_law 222 = .ok (.iload 5, 2) := by decide +kernel
theorem dL_law_224 : decode cL_law 224 = .ok (.iconst 1, 1) := by decide +kernel
theorem dL_law_225 : decode cL_law 225 = .ok (.iadd, 1) := by decide +kernel
theorem dL_law_226 : decode cL_law 226 = .ok (.iaload, 1) := by decide +kernel
theorem dL_law_227 : decode cL_law 227 = .ok (.aload_n 0, 1) := by decide +kernel
theorem dL_law_228 : decode cL_law 228 = .ok (.iload 5, 2) := by decide +kernel
theorem dL_law_230 : decode cL_law 230 = .ok (.iconst 2, 1) := by decide +kernel
theorem dL_law_231 : decode cL_law 231 = .ok (.iadd, 1) := by decide +kernel
theorem dL_law_232 : decode cL_law 232 = .ok (.iaload, 1) := by decide +kernel
theorem dL_law_233 : decode cL_law 233 = .ok (.aload_n 3, 1) := by decide +kernel
theorem dL_law_234 : decode cL_law 234 = .ok (.invokestatic 94, 3) := by decide +kernel
theorem dL_law_237 : decode cL_law 237 = .ok (.istore 6, 2) := by decide +kernel
theorem dL_law_239 : decode cL_law 239 = .ok (.aload_n 2, 1) := by decide +kernel
theorem dL_law_240 : decode cL_law 240 = .ok (.aload_n 0, 1) := by decide +kernel
theorem dL_law_241 : decode cL_law 241 = .ok (.iload 5, 2) := by decide +kernel
theorem dL_law_243 : decode cL_law 243 = .ok (.iconst 1, 1) := by decide +kernel
theorem dL_law_244 : decode cL_law 244 = .ok (.iadd, 1) := by decide +kernel
theorem dL_law_245 : decode cL_law 245 = .ok (.iaload, 1) := by decide +kernel
theorem dL_law_246 : decode cL_law 246 = .ok (.aload_n 0, 1) := by decide +kernel
theorem dL_law_247 : decode cL_law 247 = .ok (.iload 5, 2) := by decide +kernel
theorem dL_law_249 : decode cL_law 249 = .ok (.iconst 2, 1) := by decide +kernel
theorem dL_law_250 : decode cL_law 250 = .ok (.iadd, 1) := by decide +kernel
theorem dL_law_251 : decode cL_law 251 = .ok (.iaload, 1) := by decide +kernel
theorem dL_law_252 : decode cL_law 252 = .ok (.invokevirtual 96, 3) := by decide +kernel
theorem dL_law_255 : decode cL_law 255 = .ok (.istore 7, 2) := by decide +kernel
theorem dL_law_257 : decode cL_law 257 = .ok (.aload_n 2, 1) := by decide +kernel
theorem dL_law_258 : decode cL_law 258 = .ok (.invokevirtual 91, 3) := by decide +kernel
theorem dL_law_261 : decode cL_law 261 = .ok (.iload 6, 2) := by decide +kernel
theorem dL_law_263 : decode cL_law 263 = .ok (.if_icmp .eq 5, 3) := by decide +kernel
theorem dL_law_266 : decode cL_law 266 = .ok (.iconst 0, 1) := by decide +kernel
theorem dL_law_267 : decode cL_law 267 = .ok (.ireturn, 1) := by decide +kernel
theorem dL_law_268 : decode cL_law 268 = .ok (.iload 6, 2) := by decide +kernel
theorem dL_law_270 : decode cL_law 270 = .ok (.ifCond .ne 22, 3) := by decide +kernel
theorem dL_law_273 : decode cL_law 273 = .ok (.aload_n 3, 1) := by decide +kernel
theorem dL_law_274 : decode cL_law 274 = .ok (.iconst 0, 1) := by decide +kernel
theorem dL_law_275 : decode cL_law 275 = .ok (.laload, 1) := by decide +kernel
theorem dL_law_276 : decode cL_law 276 = .ok (.iload 7, 2) := by decide +kernel
theorem dL_law_278 : decode cL_law 278 = .ok (.ifCond .eq 7, 3) := by decide +kernel
theorem dL_law_281 : decode cL_law 281 = .ok (.lconst 1, 1) := by decide +kernel
theorem dL_law_282 : decode cL_law 282 = .ok (.goto 4, 3) := by decide +kernel
theorem dL_law_285 : decode cL_law 285 = .ok (.lconst 0, 1) := by decide +kernel
theorem dL_law_286 : decode cL_law 286 = .ok (.lcmp, 1) := by decide +kernel
theorem dL_law_287 : decode cL_law 287 = .ok (.ifCond .eq 5, 3) := by decide +kernel
theorem dL_law_290 : decode cL_law 290 = .ok (.iconst 0, 1) := by decide +kernel
theorem dL_law_291 : decode cL_law 291 = .ok (.ireturn, 1) := by decide +kernel
theorem dL_law_292 : decode cL_law 292 = .ok (.goto 1216, 3) := by decide +kernel
theorem dL_law_295 : decode cL_law 295 = .ok (.aload_n 1, 1) := by decide +kernel
theorem dL_law_296 : decode cL_law 296 = .ok (.aload_n 0, 1) := by decide +kernel
theorem dL_law_297 : decode cL_law 297 = .ok (.iload 5, 2) := by decide +kernel
theorem dL_law_299 : decode cL_law 299 = .ok (.iconst 1, 1) := by decide +kernel
theorem dL_law_300 : decode cL_law 300 = .ok (.iadd, 1) := by decide +kernel
theorem dL_law_301 : decode cL_law 301 = .ok (.iaload, 1) := by decide +kernel
theorem dL_law_302 : decode cL_law 302 = .ok (.aload_n 0, 1) := by decide +kernel
theorem dL_law_303 : decode cL_law 303 = .ok (.iload 5, 2) := by decide +kernel
theorem dL_law_305 : decode cL_law 305 = .ok (.iconst 2, 1) := by decide +kernel
theorem dL_law_306 : decode cL_law 306 = .ok (.iadd, 1) := by decide +kernel
theorem dL_law_307 : decode cL_law 307 = .ok (.iaload, 1) := by decide +kernel
theorem dL_law_308 : decode cL_law 308 = .ok (.aload_n 3, 1) := by decide +kernel
theorem dL_law_309 : decode cL_law 309 = .ok (.invokestatic 97, 3) := by decide +kernel
theorem dL_law_312 : decode cL_law 312 = .ok (.istore 6, 2) := by decide +kernel
theorem dL_law_314 : decode cL_law 314 = .ok (.aload_n 2, 1) := by decide +kernel
theorem dL_law_315 : decode cL_law 315 = .ok (.aload_n 0, 1) := by decide +kernel
theorem dL_law_316 : decode cL_law 316 = .ok (.iload 5, 2) := by decide +kernel
theorem dL_law_318 : decode cL_law 318 = .ok (.iconst 1, 1) := by decide +kernel
theorem dL_law_319 : decode cL_law 319 = .ok (.iadd, 1) := by decide +kernel
theorem dL_law_320 : decode cL_law 320 = .ok (.iaload, 1) := by decide +kernel
theorem dL_law_321 : decode cL_law 321 = .ok (.aload_n 0, 1) := by decide +kernel
theorem dL_law_322 : decode cL_law 322 = .ok (.iload 5, 2) := by decide +kernel
theorem dL_law_324 : decode cL_law 324 = .ok (.iconst 2, 1) := by decide +kernel
theorem dL_law_325 : decode cL_law 325 = .ok (.iadd, 1) := by decide +kernel
theorem dL_law_326 : decode cL_law 326 = .ok (.iaload, 1) := by decide +kernel
theorem dL_law_327 : decode cL_law 327 = .ok (.invokevirtual 99, 3) := by decide +kernel
theorem dL_law_330 : decode cL_law 330 = .ok (.istore 7, 2) := by decide +kernel
theorem dL_law_332 : decode cL_law 332 = .ok (.aload_n 2, 1) := by decide +kernel
theorem dL_law_333 : decode cL_law 333 = .ok (.invokevirtual 91, 3) := by decide +kernel
theorem dL_law_336 : decode cL_law 336 = .ok (.iload 6, 2) := by decide +kernel
theorem dL_law_338 : decode cL_law 338 = .ok (.if_icmp .eq 5, 3) := by decide +kernel
theorem dL_law_341 : decode cL_law 341 = .ok (.iconst 0, 1) := by decide +kernel
theorem dL_law_342 : decode cL_law 342 = .ok (.ireturn, 1) := by decide +kernel
theorem dL_law_343 : decode cL_law 343 = .ok (.iload 6, 2) := by decide +kernel
theorem dL_law_345 : decode cL_law 345 = .ok (.ifCond .ne 15, 3) := by decide +kernel
theorem dL_law_348 : decode cL_law 348 = .ok (.aload_n 3, 1) := by decide +kernel
theorem dL_law_349 : decode cL_law 349 = .ok (.iconst 0, 1) := by decide +kernel
theorem dL_law_350 : decode cL_law 350 = .ok (.laload, 1) := by decide +kernel
theorem dL_law_351 : decode cL_law 351 = .ok (.iload 7, 2) := by decide +kernel
theorem dL_law_353 : decode cL_law 353 = .ok (.i2l, 1) := by decide +kernel
theorem dL_law_354 : decode cL_law 354 = .ok (.lcmp, 1) := by decide +kernel
theorem dL_law_355 : decode cL_law 355 = .ok (.ifCond .eq 5, 3) := by decide +kernel
theorem dL_law_358 : decode cL_law 358 = .ok (.iconst 0, 1) := by decide +kernel
theorem dL_law_359 : decode cL_law 359 = .ok (.ireturn, 1) := by decide +kernel
theorem dL_law_360 : decode cL_law 360 = .ok (.goto 1148, 3) := by decide +kernel
theorem dL_law_363 : decode cL_law 363 = .ok (.aload_n 1, 1) := by decide +kernel
theorem dL_law_364 : decode cL_law 364 = .ok (.aload_n 0, 1) := by decide +kernel
theorem dL_law_365 : decode cL_law 365 = .ok (.iload 5, 2) := by decide +kernel
theorem dL_law_367 : decode cL_law 367 = .ok (.iconst 1, 1) := by decide +kernel
theorem dL_law_368 : decode cL_law 368 = .ok (.iadd, 1) := by decide +kernel
theorem dL_law_369 : decode cL_law 369 = .ok (.iaload, 1) := by decide +kernel
theorem dL_law_370 : decode cL_law 370 = .ok (.aload_n 3, 1) := by decide +kernel
theorem dL_law_371 : decode cL_law 371 = .ok (.invokestatic 100, 3) := by decide +kernel
theorem dL_law_374 : decode cL_law 374 = .ok (.istore 6, 2) := by decide +kernel
theorem dL_law_376 : decode cL_law 376 = .ok (.aload_n 2, 1) := by decide +kernel
theorem dL_law_377 : decode cL_law 377 = .ok (.aload_n 0, 1) := by decide +kernel
theorem dL_law_378 : decode cL_law 378 = .ok (.iload 5, 2) := by decide +kernel
theorem dL_law_380 : decode cL_law 380 = .ok (.iconst 1, 1) := by decide +kernel
theorem dL_law_381 : decode cL_law 381 = .ok (.iadd, 1) := by decide +kernel
theorem dL_law_382 : decode cL_law 382 = .ok (.iaload, 1) := by decide +kernel
theorem dL_law_383 : decode cL_law 383 = .ok (.invokevirtual 103, 3) := by decide +kernel
theorem dL_law_386 : decode cL_law 386 = .ok (.istore 7, 2) := by decide +kernel
theorem dL_law_388 : decode cL_law 388 = .ok (.aload_n 2, 1) := by decide +kernel
theorem dL_law_389 : decode cL_law 389 = .ok (.invokevirtual 91, 3) := by decide +kernel
theorem dL_law_392 : decode cL_law 392 = .ok (.iload 6, 2) := by decide +kernel
theorem dL_law_394 : decode cL_law 394 = .ok (.if_icmp .eq 5, 3) := by decide +kernel
theorem dL_law_397 : decode cL_law 397 = .ok (.iconst 0, 1) := by decide +kernel
theorem dL_law_398 : decode cL_law 398 = .ok (.ireturn, 1) := by decide +kernel
theorem dL_law_399 : decode cL_law 399 = .ok (.iload 6, 2) := by decide +kernel
theorem dL_law_401 : decode cL_law 401 = .ok (.ifCond .ne 15, 3) := by decide +kernel
theorem dL_law_404 : decode cL_law 404 = .ok (.aload_n 3, 1) := by decide +kernel
theorem dL_law_405 : decode cL_law 405 = .ok (.iconst 0, 1) := by decide +kernel
theorem dL_law_406 : decode cL_law 406 = .ok (.laload, 1) := by decide +kernel
theorem dL_law_407 : decode cL_law 407 = .ok (.iload 7, 2) := by decide +kernel
theorem dL_law_409 : decode cL_law 409 = .ok (.i2l, 1) := by decide +kernel
theorem dL_law_410 : decode cL_law 410 = .ok (.lcmp, 1) := by decide +kernel
theorem dL_law_411 : decode cL_law 411 = .ok (.ifCond .eq 5, 3) := by decide +kernel
theorem dL_law_414 : decode cL_law 414 = .ok (.iconst 0, 1) := by decide +kernel
theorem dL_law_415 : decode cL_law 415 = .ok (.ireturn, 1) := by decide +kernel
theorem dL_law_416 : decode cL_law 416 = .ok (.goto 1092, 3) := by decide +kernel
theorem dL_law_419 : decode cL_law 419 = .ok (.aload_n 1, 1) := by decide +kernel
theorem dL_law_420 : decode cL_law 420 = .ok (.aload_n 0, 1) := by decide +kernel
theorem dL_law_421 : decode cL_law 421 = .ok (.iload 5, 2) := by decide +kernel
theorem dL_law_423 : decode cL_law 423 = .ok (.iconst 1, 1) := by decide +kernel
theorem dL_law_424 : decode cL_law 424 = .ok (.iadd, 1) := by decide +kernel
theorem dL_law_425 : decode cL_law 425 = .ok (.iaload, 1) := by decide +kernel
theorem dL_law_426 : decode cL_law 426 = .ok (.aload_n 0, 1) := by decide +kernel
theorem dL_law_427 : decode cL_law 427 = .ok (.iload 5, 2) := by decide +kernel
theorem dL_law_429 : decode cL_law 429 = .ok (.iconst 2, 1) := by decide +kernel
theorem dL_law_430 : decode cL_law 430 = .ok (.iadd, 1) := by decide +kernel
theorem dL_law_431 : decode cL_law 431 = .ok (.iaload, 1) := by decide +kernel
theorem dL_law_432 : decode cL_law 432 = .ok (.aload_n 0, 1) := by decide +kernel
theorem dL_law_433 : decode cL_law 433 = .ok (.iload 5, 2) := by decide +kernel
theorem dL_law_435 : decode cL_law 435 = .ok (.iconst 3, 1) := by decide +kernel
theorem dL_law_436 : decode cL_law 436 = .ok (.iadd, 1) := by decide +kernel
theorem dL_law_437 : decode cL_law 437 = .ok (.iaload, 1) := by decide +kernel
theorem dL_law_438 : decode cL_law 438 = .ok (.aload_n 3, 1) := by decide +kernel
theorem dL_law_439 : decode cL_law 439 = .ok (.invokestatic 104, 3) := by decide +kernel
theorem dL_law_442 : decode cL_law 442 = .ok (.istore 6, 2) := by decide +kernel
theorem dL_law_444 : decode cL_law 444 = .ok (.aload_n 2, 1) := by decide +kernel
theorem dL_law_445 : decode cL_law 445 = .ok (.aload_n 0, 1) := by decide +kernel
theorem dL_law_446 : decode cL_law 446 = .ok (.iload 5, 2) := by decide +kernel
theorem dL_law_448 : decode cL_law 448 = .ok (.iconst 1, 1) := by decide +kernel
theorem dL_law_449 : decode cL_law 449 = .ok (.iadd, 1) := by decide +kernel
theorem dL_law_450 : decode cL_law 450 = .ok (.iaload, 1) := by decide +kernel
theorem dL_law_451 : decode cL_law 451 = .ok (.aload_n 0, 1) := by decide +kernel
theorem dL_law_452 : decode cL_law 452 = .ok (.iload 5, 2) := by decide +kernel
theorem dL_law_454 : decode cL_law 454 = .ok (.iconst 2, 1) := by decide +kernel
theorem dL_law_455 : decode cL_law 455 = .ok (.iadd, 1) := by decide +kernel
theorem dL_law_456 : decode cL_law 456 = .ok (.iaload, 1) := by decide +kernel
theorem dL_law_457 : decode cL_law 457 = .ok (.aload_n 0, 1) := by decide +kernel
theorem dL_law_458 : decode cL_law 458 = .ok (.iload 5, 2) := by decide +kernel
theorem dL_law_460 : decode cL_law 460 = .ok (.iconst 3, 1) := by decide +kernel
theorem dL_law_461 : decode cL_law 461 = .ok (.iadd, 1) := by decide +kernel
theorem dL_law_462 : decode cL_law 462 = .ok (.iaload, 1) := by decide +kernel
theorem dL_law_463 : decode cL_law 463 = .ok (.invokevirtual 107, 3) := by decide +kernel
theorem dL_law_466 : decode cL_law 466 = .ok (.istore 7, 2) := by decide +kernel
theorem dL_law_468 : decode cL_law 468 = .ok (.aload_n 2, 1) := by decide +kernel
theorem dL_law_469 : decode cL_law 469 = .ok (.invokevirtual 91, 3) := by decide +kernel
theorem dL_law_472 : decode cL_law 472 = .ok (.iload 6, 2) := by decide +kernel
theorem dL_law_474 : decode cL_law 474 = .ok (.if_icmp .eq 5, 3) := by decide +kernel
theorem dL_law_477 : decode cL_law 477 = .ok (.iconst 0, 1) := by decide +kernel
theorem dL_law_478 : decode cL_law 478 = .ok (.ireturn, 1) := by decide +kernel
theorem dL_law_479 : decode cL_law 479 = .ok (.iload 6, 2) := by decide +kernel
theorem dL_law_481 : decode cL_law 481 = .ok (.ifCond .ne 15, 3) := by decide +kernel
theorem dL_law_484 : decode cL_law 484 = .ok (.aload_n 3, 1) := by decide +kernel
theorem dL_law_485 : decode cL_law 485 = .ok (.iconst 0, 1) := by decide +kernel
theorem dL_law_486 : decode cL_law 486 = .ok (.laload, 1) := by decide +kernel
theorem dL_law_487 : decode cL_law 487 = .ok (.iload 7, 2) := by decide +kernel
theorem dL_law_489 : decode cL_law 489 = .ok (.i2l, 1) := by decide +kernel
theorem dL_law_490 : decode cL_law 490 = .ok (.lcmp, 1) := by decide +kernel
theorem dL_law_491 : decode cL_law 491 = .ok (.ifCond .eq 5, 3) := by decide +kernel
theorem dL_law_494 : decode cL_law 494 = .ok (.iconst 0, 1) := by decide +kernel
theorem dL_law_495 : decode cL_law 495 = .ok (.ireturn, 1) := by decide +kernel
theorem dL_law_496 : decode cL_law 496 = .ok (.goto 1012, 3) := by decide +kernel
theorem dL_law_499 : decode cL_law 499 = .ok (.aload_n 1, 1) := by decide +kernel
theorem dL_law_500 : decode cL_law 500 = .ok (.aload_n 0, 1) := by decide +kernel
theorem dL_law_501 : decode cL_law 501 = .ok (.iload 5, 2) := by decide +kernel
theorem dL_law_503 : decode cL_law 503 = .ok (.iconst 1, 1) := by decide +kernel
theorem dL_law_504 : decode cL_law 504 = .ok (.iadd, 1) := by decide +kernel
theorem dL_law_505 : decode cL_law 505 = .ok (.iaload, 1) := by decide +kernel
theorem dL_law_506 : decode cL_law 506 = .ok (.aload_n 3, 1) := by decide +kernel
theorem dL_law_507 : decode cL_law 507 = .ok (.invokestatic 108, 3) := by decide +kernel
theorem dL_law_510 : decode cL_law 510 = .ok (.istore 6, 2) := by decide +kernel
theorem dL_law_512 : decode cL_law 512 = .ok (.aload_n 2, 1) := by decide +kernel
theorem dL_law_513 : decode cL_law 513 = .ok (.aload_n 0, 1) := by decide +kernel
theorem dL_law_514 : decode cL_law 514 = .ok (.iload 5, 2) := by decide +kernel
theorem dL_law_516 : decode cL_law 516 = .ok (.iconst 1, 1) := by decide +kernel
theorem dL_law_517 : decode cL_law 517 = .ok (.iadd, 1) := by decide +kernel
theorem dL_law_518 : decode cL_law 518 = .ok (.iaload, 1) := by decide +kernel
theorem dL_law_519 : decode cL_law 519 = .ok (.invokevirtual 110, 3) := by decide +kernel
theorem dL_law_522 : decode cL_law 522 = .ok (.istore 7, 2) := by decide +kernel
theorem dL_law_524 : decode cL_law 524 = .ok (.aload_n 2, 1) := by decide +kernel
theorem dL_law_525 : decode cL_law 525 = .ok (.invokevirtual 91, 3) := by decide +kernel
theorem dL_law_528 : decode cL_law 528 = .ok (.iload 6, 2) := by decide +kernel
theorem dL_law_530 : decode cL_law 530 = .ok (.if_icmp .eq 5, 3) := by decide +kernel
theorem dL_law_533 : decode cL_law 533 = .ok (.iconst 0, 1) := by decide +kernel
theorem dL_law_534 : decode cL_law 534 = .ok (.ireturn, 1) := by decide +kernel
theorem dL_law_535 : decode cL_law 535 = .ok (.iload 6, 2) := by decide +kernel
theorem dL_law_537 : decode cL_law 537 = .ok (.ifCond .ne 15, 3) := by decide +kernel
theorem dL_law_540 : decode cL_law 540 = .ok (.aload_n 3, 1) := by decide +kernel
theorem dL_law_541 : decode cL_law 541 = .ok (.iconst 0, 1) := by decide +kernel
theorem dL_law_542 : decode cL_law 542 = .ok (.laload, 1) := by decide +kernel
theorem dL_law_543 : decode cL_law 543 = .ok (.iload 7, 2) := by decide +kernel
theorem dL_law_545 : decode cL_law 545 = .ok (.i2l, 1) := by decide +kernel
theorem dL_law_546 : decode cL_law 546 = .ok (.lcmp, 1) := by decide +kernel
theorem dL_law_547 : decode cL_law 547 = .ok (.ifCond .eq 5, 3) := by decide +kernel
theorem dL_law_550 : decode cL_law 550 = .ok (.iconst 0, 1) := by decide +kernel
theorem dL_law_551 : decode cL_law 551 = .ok (.ireturn, 1) := by decide +kernel
theorem dL_law_552 : decode cL_law 552 = .ok (.goto 956, 3) := by decide +kernel
theorem dL_law_555 : decode cL_law 555 = .ok (.aload_n 1, 1) := by decide +kernel
theorem dL_law_556 : decode cL_law 556 = .ok (.aload_n 0, 1) := by decide +kernel
theorem dL_law_557 : decode cL_law 557 = .ok (.iload 5, 2) := by decide +kernel
theorem dL_law_559 : decode cL_law 559 = .ok (.iconst 1, 1) := by decide +kernel
theorem dL_law_560 : decode cL_law 560 = .ok (.iadd, 1) := by decide +kernel
theorem dL_law_561 : decode cL_law 561 = .ok (.iaload, 1) := by decide +kernel
theorem dL_law_562 : decode cL_law 562 = .ok (.aload_n 0, 1) := by decide +kernel
theorem dL_law_563 : decode cL_law 563 = .ok (.iload 5, 2) := by decide +kernel
theorem dL_law_565 : decode cL_law 565 = .ok (.iconst 2, 1) := by decide +kernel
theorem dL_law_566 : decode cL_law 566 = .ok (.iadd, 1) := by decide +kernel
theorem dL_law_567 : decode cL_law 567 = .ok (.iaload, 1) := by decide +kernel
theorem dL_law_568 : decode cL_law 568 = .ok (.aload_n 3, 1) := by decide +kernel
theorem dL_law_569 : decode cL_law 569 = .ok (.invokestatic 111, 3) := by decide +kernel
theorem dL_law_572 : decode cL_law 572 = .ok (.istore 6, 2) := by decide +kernel
theorem dL_law_574 : decode cL_law 574 = .ok (.aload_n 2, 1) := by decide +kernel
theorem dL_law_575 : decode cL_law 575 = .ok (.aload_n 0, 1) := by decide +kernel
theorem dL_law_576 : decode cL_law 576 = .ok (.iload 5, 2) := by decide +kernel
theorem dL_law_578 : decode cL_law 578 = .ok (.iconst 1, 1) := by decide +kernel
theorem dL_law_579 : decode cL_law 579 = .ok (.iadd, 1) := by decide +kernel
theorem dL_law_580 : decode cL_law 580 = .ok (.iaload, 1) := by decide +kernel
theorem dL_law_581 : decode cL_law 581 = .ok (.aload_n 0, 1) := by decide +kernel
theorem dL_law_582 : decode cL_law 582 = .ok (.iload 5, 2) := by decide +kernel
theorem dL_law_584 : decode cL_law 584 = .ok (.iconst 2, 1) := by decide +kernel
theorem dL_law_585 : decode cL_law 585 = .ok (.iadd, 1) := by decide +kernel
theorem dL_law_586 : decode cL_law 586 = .ok (.iaload, 1) := by decide +kernel
theorem dL_law_587 : decode cL_law 587 = .ok (.invokevirtual 113, 3) := by decide +kernel
theorem dL_law_590 : decode cL_law 590 = .ok (.istore 7, 2) := by decide +kernel
theorem dL_law_592 : decode cL_law 592 = .ok (.aload_n 2, 1) := by decide +kernel
theorem dL_law_593 : decode cL_law 593 = .ok (.invokevirtual 91, 3) := by decide +kernel
theorem dL_law_596 : decode cL_law 596 = .ok (.iload 6, 2) := by decide +kernel
theorem dL_law_598 : decode cL_law 598 = .ok (.if_icmp .eq 5, 3) := by decide +kernel
theorem dL_law_601 : decode cL_law 601 = .ok (.iconst 0, 1) := by decide +kernel
theorem dL_law_602 : decode cL_law 602 = .ok (.ireturn, 1) := by decide +kernel
theorem dL_law_603 : decode cL_law 603 = .ok (.iload 6, 2) := by decide +kernel
theorem dL_law_605 : decode cL_law 605 = .ok (.ifCond .ne 15, 3) := by decide +kernel
theorem dL_law_608 : decode cL_law 608 = .ok (.aload_n 3, 1) := by decide +kernel
theorem dL_law_609 : decode cL_law 609 = .ok (.iconst 0, 1) := by decide +kernel
theorem dL_law_610 : decode cL_law 610 = .ok (.laload, 1) := by decide +kernel
theorem dL_law_611 : decode cL_law 611 = .ok (.iload 7, 2) := by decide +kernel
theorem dL_law_613 : decode cL_law 613 = .ok (.i2l, 1) := by decide +kernel
theorem dL_law_614 : decode cL_law 614 = .ok (.lcmp, 1) := by decide +kernel
theorem dL_law_615 : decode cL_law 615 = .ok (.ifCond .eq 5, 3) := by decide +kernel
theorem dL_law_618 : decode cL_law 618 = .ok (.iconst 0, 1) := by decide +kernel
theorem dL_law_619 : decode cL_law 619 = .ok (.ireturn, 1) := by decide +kernel
theorem dL_law_620 : decode cL_law 620 = .ok (.goto 888, 3) := by decide +kernel
theorem dL_law_623 : decode cL_law 623 = .ok (.aload_n 1, 1) := by decide +kernel
theorem dL_law_624 : decode cL_law 624 = .ok (.aload_n 0, 1) := by decide +kernel
theorem dL_law_625 : decode cL_law 625 = .ok (.iload 5, 2) := by decide +kernel
theorem dL_law_627 : decode cL_law 627 = .ok (.iconst 1, 1) := by decide +kernel
theorem dL_law_628 : decode cL_law 628 = .ok (.iadd, 1) := by decide +kernel
theorem dL_law_629 : decode cL_law 629 = .ok (.iaload, 1) := by decide +kernel
theorem dL_law_630 : decode cL_law 630 = .ok (.aload_n 0, 1) := by decide +kernel
theorem dL_law_631 : decode cL_law 631 = .ok (.iload 5, 2) := by decide +kernel
theorem dL_law_633 : decode cL_law 633 = .ok (.iconst 2, 1) := by decide +kernel
theorem dL_law_634 : decode cL_law 634 = .ok (.iadd, 1) := by decide +kernel
theorem dL_law_635 : decode cL_law 635 = .ok (.iaload, 1) := by decide +kernel
theorem dL_law_636 : decode cL_law 636 = .ok (.aload_n 3, 1) := by decide +kernel
theorem dL_law_637 : decode cL_law 637 = .ok (.invokestatic 114, 3) := by decide +kernel
theorem dL_law_640 : decode cL_law 640 = .ok (.istore 6, 2) := by decide +kernel
theorem dL_law_642 : decode cL_law 642 = .ok (.aload_n 2, 1) := by decide +kernel
theorem dL_law_643 : decode cL_law 643 = .ok (.aload_n 0, 1) := by decide +kernel
theorem dL_law_644 : decode cL_law 644 = .ok (.iload 5, 2) := by decide +kernel
theorem dL_law_646 : decode cL_law 646 = .ok (.iconst 1, 1) := by decide +kernel
theorem dL_law_647 : decode cL_law 647 = .ok (.iadd, 1) := by decide +kernel
theorem dL_law_648 : decode cL_law 648 = .ok (.iaload, 1) := by decide +kernel
theorem dL_law_649 : decode cL_law 649 = .ok (.aload_n 0, 1) := by decide +kernel
theorem dL_law_650 : decode cL_law 650 = .ok (.iload 5, 2) := by decide +kernel
theorem dL_law_652 : decode cL_law 652 = .ok (.iconst 2, 1) := by decide +kernel
theorem dL_law_653 : decode cL_law 653 = .ok (.iadd, 1) := by decide +kernel
theorem dL_law_654 : decode cL_law 654 = .ok (.iaload, 1) := by decide +kernel
theorem dL_law_655 : decode cL_law 655 = .ok (.invokevirtual 116, 3) := by decide +kernel
theorem dL_law_658 : decode cL_law 658 = .ok (.istore 7, 2) := by decide +kernel
theorem dL_law_660 : decode cL_law 660 = .ok (.aload_n 2, 1) := by decide +kernel
theorem dL_law_661 : decode cL_law 661 = .ok (.invokevirtual 91, 3) := by decide +kernel
theorem dL_law_664 : decode cL_law 664 = .ok (.iload 6, 2) := by decide +kernel
theorem dL_law_666 : decode cL_law 666 = .ok (.if_icmp .eq 5, 3) := by decide +kernel
theorem dL_law_669 : decode cL_law 669 = .ok (.iconst 0, 1) := by decide +kernel
theorem dL_law_670 : decode cL_law 670 = .ok (.ireturn, 1) := by decide +kernel
theorem dL_law_671 : decode cL_law 671 = .ok (.iload 6, 2) := by decide +kernel
theorem dL_law_673 : decode cL_law 673 = .ok (.ifCond .ne 15, 3) := by decide +kernel
theorem dL_law_676 : decode cL_law 676 = .ok (.aload_n 3, 1) := by decide +kernel
theorem dL_law_677 : decode cL_law 677 = .ok (.iconst 0, 1) := by decide +kernel
theorem dL_law_678 : decode cL_law 678 = .ok (.laload, 1) := by decide +kernel
theorem dL_law_679 : decode cL_law 679 = .ok (.iload 7, 2) := by decide +kernel
theorem dL_law_681 : decode cL_law 681 = .ok (.i2l, 1) := by decide +kernel
theorem dL_law_682 : decode cL_law 682 = .ok (.lcmp, 1) := by decide +kernel
theorem dL_law_683 : decode cL_law 683 = .ok (.ifCond .eq 5, 3) := by decide +kernel
theorem dL_law_686 : decode cL_law 686 = .ok (.iconst 0, 1) := by decide +kernel
theorem dL_law_687 : decode cL_law 687 = .ok (.ireturn, 1) := by decide +kernel
theorem dL_law_688 : decode cL_law 688 = .ok (.goto 820, 3) := by decide +kernel
theorem dL_law_691 : decode cL_law 691 = .ok (.aload_n 1, 1) := by decide +kernel
theorem dL_law_692 : decode cL_law 692 = .ok (.aload_n 0, 1) := by decide +kernel
theorem dL_law_693 : decode cL_law 693 = .ok (.iload 5, 2) := by decide +kernel
theorem dL_law_695 : decode cL_law 695 = .ok (.iconst 1, 1) := by decide +kernel
theorem dL_law_696 : decode cL_law 696 = .ok (.iadd, 1) := by decide +kernel
theorem dL_law_697 : decode cL_law 697 = .ok (.iaload, 1) := by decide +kernel
theorem dL_law_698 : decode cL_law 698 = .ok (.aload_n 0, 1) := by decide +kernel
theorem dL_law_699 : decode cL_law 699 = .ok (.iload 5, 2) := by decide +kernel
theorem dL_law_701 : decode cL_law 701 = .ok (.iconst 2, 1) := by decide +kernel
theorem dL_law_702 : decode cL_law 702 = .ok (.iadd, 1) := by decide +kernel
theorem dL_law_703 : decode cL_law 703 = .ok (.iaload, 1) := by decide +kernel
theorem dL_law_704 : decode cL_law 704 = .ok (.aload_n 0, 1) := by decide +kernel
theorem dL_law_705 : decode cL_law 705 = .ok (.iload 5, 2) := by decide +kernel
theorem dL_law_707 : decode cL_law 707 = .ok (.iconst 3, 1) := by decide +kernel
theorem dL_law_708 : decode cL_law 708 = .ok (.iadd, 1) := by decide +kernel
theorem dL_law_709 : decode cL_law 709 = .ok (.iaload, 1) := by decide +kernel
theorem dL_law_710 : decode cL_law 710 = .ok (.aload_n 3, 1) := by decide +kernel
theorem dL_law_711 : decode cL_law 711 = .ok (.invokestatic 117, 3) := by decide +kernel
theorem dL_law_714 : decode cL_law 714 = .ok (.istore 6, 2) := by decide +kernel
theorem dL_law_716 : decode cL_law 716 = .ok (.aload_n 2, 1) := by decide +kernel
theorem dL_law_717 : decode cL_law 717 = .ok (.aload_n 0, 1) := by decide +kernel
theorem dL_law_718 : decode cL_law 718 = .ok (.iload 5, 2) := by decide +kernel
theorem dL_law_720 : decode cL_law 720 = .ok (.iconst 1, 1) := by decide +kernel
theorem dL_law_721 : decode cL_law 721 = .ok (.iadd, 1) := by decide +kernel
theorem dL_law_722 : decode cL_law 722 = .ok (.iaload, 1) := by decide +kernel
theorem dL_law_723 : decode cL_law 723 = .ok (.aload_n 0, 1) := by decide +kernel
theorem dL_law_724 : decode cL_law 724 = .ok (.iload 5, 2) := by decide +kernel
theorem dL_law_726 : decode cL_law 726 = .ok (.iconst 2, 1) := by decide +kernel
theorem dL_law_727 : decode cL_law 727 = .ok (.iadd, 1) := by decide +kernel
theorem dL_law_728 : decode cL_law 728 = .ok (.iaload, 1) := by decide +kernel
theorem dL_law_729 : decode cL_law 729 = .ok (.aload_n 0, 1) := by decide +kernel
theorem dL_law_730 : decode cL_law 730 = .ok (.iload 5, 2) := by decide +kernel
theorem dL_law_732 : decode cL_law 732 = .ok (.iconst 3, 1) := by decide +kernel
theorem dL_law_733 : decode cL_law 733 = .ok (.iadd, 1) := by decide +kernel
theorem dL_law_734 : decode cL_law 734 = .ok (.iaload, 1) := by decide +kernel
theorem dL_law_735 : decode cL_law 735 = .ok (.invokevirtual 119, 3) := by decide +kernel
theorem dL_law_738 : decode cL_law 738 = .ok (.istore 7, 2) := by decide +kernel
theorem dL_law_740 : decode cL_law 740 = .ok (.aload_n 2, 1) := by decide +kernel
theorem dL_law_741 : decode cL_law 741 = .ok (.invokevirtual 91, 3) := by decide +kernel
theorem dL_law_744 : decode cL_law 744 = .ok (.iload 6, 2) := by decide +kernel
theorem dL_law_746 : decode cL_law 746 = .ok (.if_icmp .eq 5, 3) := by decide +kernel
theorem dL_law_749 : decode cL_law 749 = .ok (.iconst 0, 1) := by decide +kernel
theorem dL_law_750 : decode cL_law 750 = .ok (.ireturn, 1) := by decide +kernel
theorem dL_law_751 : decode cL_law 751 = .ok (.iload 6, 2) := by decide +kernel
theorem dL_law_753 : decode cL_law 753 = .ok (.ifCond .ne 15, 3) := by decide +kernel
theorem dL_law_756 : decode cL_law 756 = .ok (.aload_n 3, 1) := by decide +kernel
theorem dL_law_757 : decode cL_law 757 = .ok (.iconst 0, 1) := by decide +kernel
theorem dL_law_758 : decode cL_law 758 = .ok (.laload, 1) := by decide +kernel
theorem dL_law_759 : decode cL_law 759 = .ok (.iload 7, 2) := by decide +kernel
theorem dL_law_761 : decode cL_law 761 = .ok (.i2l, 1) := by decide +kernel
theorem dL_law_762 : decode cL_law 762 = .ok (.lcmp, 1) := by decide +kernel
theorem dL_law_763 : decode cL_law 763 = .ok (.ifCond .eq 5, 3) := by decide +kernel
theorem dL_law_766 : decode cL_law 766 = .ok (.iconst 0, 1) := by decide +kernel
theorem dL_law_767 : decode cL_law 767 = .ok (.ireturn, 1) := by decide +kernel
theorem dL_law_768 : decode cL_law 768 = .ok (.goto 740, 3) := by decide +kernel
theorem dL_law_771 : decode cL_law 771 = .ok (.aload_n 1, 1) := by decide +kernel
theorem dL_law_772 : decode cL_law 772 = .ok (.aload_n 0, 1) := by decide +kernel
theorem dL_law_773 : decode cL_law 773 = .ok (.iload 5, 2) := by decide +kernel
theorem dL_law_775 : decode cL_law 775 = .ok (.iconst 1, 1) := by decide +kernel
theorem dL_law_776 : decode cL_law 776 = .ok (.iadd, 1) := by decide +kernel
theorem dL_law_777 : decode cL_law 777 = .ok (.iaload, 1) := by decide +kernel
theorem dL_law_778 : decode cL_law 778 = .ok (.aload_n 0, 1) := by decide +kernel
theorem dL_law_779 : decode cL_law 779 = .ok (.iload 5, 2) := by decide +kernel
theorem dL_law_781 : decode cL_law 781 = .ok (.iconst 2, 1) := by decide +kernel
theorem dL_law_782 : decode cL_law 782 = .ok (.iadd, 1) := by decide +kernel
theorem dL_law_783 : decode cL_law 783 = .ok (.iaload, 1) := by decide +kernel
theorem dL_law_784 : decode cL_law 784 = .ok (.aload 4, 2) := by decide +kernel
theorem dL_law_786 : decode cL_law 786 = .ok (.invokestatic 120, 3) := by decide +kernel
theorem dL_law_789 : decode cL_law 789 = .ok (.istore 6, 2) := by decide +kernel
theorem dL_law_791 : decode cL_law 791 = .ok (.aload_n 2, 1) := by decide +kernel
theorem dL_law_792 : decode cL_law 792 = .ok (.aload_n 0, 1) := by decide +kernel
theorem dL_law_793 : decode cL_law 793 = .ok (.iload 5, 2) := by decide +kernel
theorem dL_law_795 : decode cL_law 795 = .ok (.iconst 1, 1) := by decide +kernel
theorem dL_law_796 : decode cL_law 796 = .ok (.iadd, 1) := by decide +kernel
theorem dL_law_797 : decode cL_law 797 = .ok (.iaload, 1) := by decide +kernel
theorem dL_law_798 : decode cL_law 798 = .ok (.aload_n 0, 1) := by decide +kernel
theorem dL_law_799 : decode cL_law 799 = .ok (.iload 5, 2) := by decide +kernel
theorem dL_law_801 : decode cL_law 801 = .ok (.iconst 2, 1) := by decide +kernel
theorem dL_law_802 : decode cL_law 802 = .ok (.iadd, 1) := by decide +kernel
theorem dL_law_803 : decode cL_law 803 = .ok (.iaload, 1) := by decide +kernel
theorem dL_law_804 : decode cL_law 804 = .ok (.invokevirtual 123, 3) := by decide +kernel
theorem dL_law_807 : decode cL_law 807 = .ok (.dstore 7, 2) := by decide +kernel
theorem dL_law_809 : decode cL_law 809 = .ok (.aload_n 2, 1) := by decide +kernel
theorem dL_law_810 : decode cL_law 810 = .ok (.invokevirtual 91, 3) := by decide +kernel
theorem dL_law_813 : decode cL_law 813 = .ok (.iload 6, 2) := by decide +kernel
theorem dL_law_815 : decode cL_law 815 = .ok (.if_icmp .eq 5, 3) := by decide +kernel
theorem dL_law_818 : decode cL_law 818 = .ok (.iconst 0, 1) := by decide +kernel
theorem dL_law_819 : decode cL_law 819 = .ok (.ireturn, 1) := by decide +kernel
theorem dL_law_820 : decode cL_law 820 = .ok (.iload 6, 2) := by decide +kernel
theorem dL_law_822 : decode cL_law 822 = .ok (.ifCond .ne 35, 3) := by decide +kernel
theorem dL_law_825 : decode cL_law 825 = .ok (.aload 4, 2) := by decide +kernel
theorem dL_law_827 : decode cL_law 827 = .ok (.iconst 0, 1) := by decide +kernel
theorem dL_law_828 : decode cL_law 828 = .ok (.daload, 1) := by decide +kernel
theorem dL_law_829 : decode cL_law 829 = .ok (.dload 7, 2) := by decide +kernel
theorem dL_law_831 : decode cL_law 831 = .ok (.dcmp .l, 1) := by decide +kernel
theorem dL_law_832 : decode cL_law 832 = .ok (.ifCond .eq 25, 3) := by decide +kernel
theorem dL_law_835 : decode cL_law 835 = .ok (.aload 4, 2) := by decide +kernel
theorem dL_law_837 : decode cL_law 837 = .ok (.iconst 0, 1) := by decide +kernel
theorem dL_law_838 : decode cL_law 838 = .ok (.daload, 1) := by decide +kernel
theorem dL_law_839 : decode cL_law 839 = .ok (.aload 4, 2) := by decide +kernel
theorem dL_law_841 : decode cL_law 841 = .ok (.iconst 0, 1) := by decide +kernel
theorem dL_law_842 : decode cL_law 842 = .ok (.daload, 1) := by decide +kernel
theorem dL_law_843 : decode cL_law 843 = .ok (.dcmp .l, 1) := by decide +kernel
theorem dL_law_844 : decode cL_law 844 = .ok (.ifCond .eq 11, 3) := by decide +kernel
theorem dL_law_847 : decode cL_law 847 = .ok (.dload 7, 2) := by decide +kernel
theorem dL_law_849 : decode cL_law 849 = .ok (.dload 7, 2) := by decide +kernel
theorem dL_law_851 : decode cL_law 851 = .ok (.dcmp .l, 1) := by decide +kernel
theorem dL_law_852 : decode cL_law 852 = .ok (.ifCond .ne 5, 3) := by decide +kernel
theorem dL_law_855 : decode cL_law 855 = .ok (.iconst 0, 1) := by decide +kernel
theorem dL_law_856 : decode cL_law 856 = .ok (.ireturn, 1) := by decide +kernel
theorem dL_law_857 : decode cL_law 857 = .ok (.goto 651, 3) := by decide +kernel
theorem dL_law_860 : decode cL_law 860 = .ok (.aload_n 1, 1) := by decide +kernel
theorem dL_law_861 : decode cL_law 861 = .ok (.aload_n 0, 1) := by decide +kernel
theorem dL_law_862 : decode cL_law 862 = .ok (.iload 5, 2) := by decide +kernel
theorem dL_law_864 : decode cL_law 864 = .ok (.iconst 1, 1) := by decide +kernel
theorem dL_law_865 : decode cL_law 865 = .ok (.iadd, 1) := by decide +kernel
theorem dL_law_866 : decode cL_law 866 = .ok (.iaload, 1) := by decide +kernel
theorem dL_law_867 : decode cL_law 867 = .ok (.aload_n 0, 1) := by decide +kernel
theorem dL_law_868 : decode cL_law 868 = .ok (.iload 5, 2) := by decide +kernel
theorem dL_law_870 : decode cL_law 870 = .ok (.iconst 2, 1) := by decide +kernel
theorem dL_law_871 : decode cL_law 871 = .ok (.iadd, 1) := by decide +kernel
theorem dL_law_872 : decode cL_law 872 = .ok (.iaload, 1) := by decide +kernel
theorem dL_law_873 : decode cL_law 873 = .ok (.aload_n 3, 1) := by decide +kernel
theorem dL_law_874 : decode cL_law 874 = .ok (.invokestatic 124, 3) := by decide +kernel
theorem dL_law_877 : decode cL_law 877 = .ok (.istore 6, 2) := by decide +kernel
theorem dL_law_879 : decode cL_law 879 = .ok (.aload_n 2, 1) := by decide +kernel
theorem dL_law_880 : decode cL_law 880 = .ok (.aload_n 0, 1) := by decide +kernel
theorem dL_law_881 : decode cL_law 881 = .ok (.iload 5, 2) := by decide +kernel
theorem dL_law_883 : decode cL_law 883 = .ok (.iconst 1, 1) := by decide +kernel
theorem dL_law_884 : decode cL_law 884 = .ok (.iadd, 1) := by decide +kernel
theorem dL_law_885 : decode cL_law 885 = .ok (.iaload, 1) := by decide +kernel
theorem dL_law_886 : decode cL_law 886 = .ok (.aload_n 0, 1) := by decide +kernel
theorem dL_law_887 : decode cL_law 887 = .ok (.iload 5, 2) := by decide +kernel
theorem dL_law_889 : decode cL_law 889 = .ok (.iconst 2, 1) := by decide +kernel
theorem dL_law_890 : decode cL_law 890 = .ok (.iadd, 1) := by decide +kernel
theorem dL_law_891 : decode cL_law 891 = .ok (.iaload, 1) := by decide +kernel
theorem dL_law_892 : decode cL_law 892 = .ok (.invokevirtual 126, 3) := by decide +kernel
theorem dL_law_895 : decode cL_law 895 = .ok (.istore 7, 2) := by decide +kernel
theorem dL_law_897 : decode cL_law 897 = .ok (.aload_n 2, 1) := by decide +kernel
theorem dL_law_898 : decode cL_law 898 = .ok (.invokevirtual 91, 3) := by decide +kernel
theorem dL_law_901 : decode cL_law 901 = .ok (.iload 6, 2) := by decide +kernel
theorem dL_law_903 : decode cL_law 903 = .ok (.if_icmp .eq 5, 3) := by decide +kernel
theorem dL_law_906 : decode cL_law 906 = .ok (.iconst 0, 1) := by decide +kernel
theorem dL_law_907 : decode cL_law 907 = .ok (.ireturn, 1) := by decide +kernel
theorem dL_law_908 : decode cL_law 908 = .ok (.iload 6, 2) := by decide +kernel
theorem dL_law_910 : decode cL_law 910 = .ok (.ifCond .ne 15, 3) := by decide +kernel
theorem dL_law_913 : decode cL_law 913 = .ok (.aload_n 3, 1) := by decide +kernel
theorem dL_law_914 : decode cL_law 914 = .ok (.iconst 0, 1) := by decide +kernel
theorem dL_law_915 : decode cL_law 915 = .ok (.laload, 1) := by decide +kernel
theorem dL_law_916 : decode cL_law 916 = .ok (.iload 7, 2) := by decide +kernel
theorem dL_law_918 : decode cL_law 918 = .ok (.i2l, 1) := by decide +kernel
theorem dL_law_919 : decode cL_law 919 = .ok (.lcmp, 1) := by decide +kernel
theorem dL_law_920 : decode cL_law 920 = .ok (.ifCond .eq 5, 3) := by decide +kernel
theorem dL_law_923 : decode cL_law 923 = .ok (.iconst 0, 1) := by decide +kernel
theorem dL_law_924 : decode cL_law 924 = .ok (.ireturn, 1) := by decide +kernel
theorem dL_law_925 : decode cL_law 925 = .ok (.goto 583, 3) := by decide +kernel
theorem dL_law_928 : decode cL_law 928 = .ok (.aload_n 1, 1) := by decide +kernel
theorem dL_law_929 : decode cL_law 929 = .ok (.aload_n 0, 1) := by decide +kernel
theorem dL_law_930 : decode cL_law 930 = .ok (.iload 5, 2) := by decide +kernel
theorem dL_law_932 : decode cL_law 932 = .ok (.iconst 1, 1) := by decide +kernel
theorem dL_law_933 : decode cL_law 933 = .ok (.iadd, 1) := by decide +kernel
theorem dL_law_934 : decode cL_law 934 = .ok (.iaload, 1) := by decide +kernel
theorem dL_law_935 : decode cL_law 935 = .ok (.aload_n 0, 1) := by decide +kernel
theorem dL_law_936 : decode cL_law 936 = .ok (.iload 5, 2) := by decide +kernel
theorem dL_law_938 : decode cL_law 938 = .ok (.iconst 2, 1) := by decide +kernel
theorem dL_law_939 : decode cL_law 939 = .ok (.iadd, 1) := by decide +kernel
theorem dL_law_940 : decode cL_law 940 = .ok (.iaload, 1) := by decide +kernel
theorem dL_law_941 : decode cL_law 941 = .ok (.aload_n 3, 1) := by decide +kernel
theorem dL_law_942 : decode cL_law 942 = .ok (.invokestatic 127, 3) := by decide +kernel
theorem dL_law_945 : decode cL_law 945 = .ok (.istore 6, 2) := by decide +kernel
theorem dL_law_947 : decode cL_law 947 = .ok (.aload_n 2, 1) := by decide +kernel
theorem dL_law_948 : decode cL_law 948 = .ok (.aload_n 0, 1) := by decide +kernel
theorem dL_law_949 : decode cL_law 949 = .ok (.iload 5, 2) := by decide +kernel
theorem dL_law_951 : decode cL_law 951 = .ok (.iconst 1, 1) := by decide +kernel
theorem dL_law_952 : decode cL_law 952 = .ok (.iadd, 1) := by decide +kernel
theorem dL_law_953 : decode cL_law 953 = .ok (.iaload, 1) := by decide +kernel
theorem dL_law_954 : decode cL_law 954 = .ok (.aload_n 0, 1) := by decide +kernel
theorem dL_law_955 : decode cL_law 955 = .ok (.iload 5, 2) := by decide +kernel
theorem dL_law_957 : decode cL_law 957 = .ok (.iconst 2, 1) := by decide +kernel
theorem dL_law_958 : decode cL_law 958 = .ok (.iadd, 1) := by decide +kernel
theorem dL_law_959 : decode cL_law 959 = .ok (.iaload, 1) := by decide +kernel
theorem dL_law_960 : decode cL_law 960 = .ok (.invokevirtual 129, 3) := by decide +kernel
theorem dL_law_963 : decode cL_law 963 = .ok (.istore 7, 2) := by decide +kernel
theorem dL_law_965 : decode cL_law 965 = .ok (.aload_n 2, 1) := by decide +kernel
theorem dL_law_966 : decode cL_law 966 = .ok (.invokevirtual 91, 3) := by decide +kernel
theorem dL_law_969 : decode cL_law 969 = .ok (.iload 6, 2) := by decide +kernel
theorem dL_law_971 : decode cL_law 971 = .ok (.if_icmp .eq 5, 3) := by decide +kernel
theorem dL_law_974 : decode cL_law 974 = .ok (.iconst 0, 1) := by decide +kernel
theorem dL_law_975 : decode cL_law 975 = .ok (.ireturn, 1) := by decide +kernel
theorem dL_law_976 : decode cL_law 976 = .ok (.iload 6, 2) := by decide +kernel
theorem dL_law_978 : decode cL_law 978 = .ok (.ifCond .ne 15, 3) := by decide +kernel
theorem dL_law_981 : decode cL_law 981 = .ok (.aload_n 3, 1) := by decide +kernel
theorem dL_law_982 : decode cL_law 982 = .ok (.iconst 0, 1) := by decide +kernel
theorem dL_law_983 : decode cL_law 983 = .ok (.laload, 1) := by decide +kernel
theorem dL_law_984 : decode cL_law 984 = .ok (.iload 7, 2) := by decide +kernel
theorem dL_law_986 : decode cL_law 986 = .ok (.i2l, 1) := by decide +kernel
theorem dL_law_987 : decode cL_law 987 = .ok (.lcmp, 1) := by decide +kernel
theorem dL_law_988 : decode cL_law 988 = .ok (.ifCond .eq 5, 3) := by decide +kernel
theorem dL_law_991 : decode cL_law 991 = .ok (.iconst 0, 1) := by decide +kernel
theorem dL_law_992 : decode cL_law 992 = .ok (.ireturn, 1) := by decide +kernel
theorem dL_law_993 : decode cL_law 993 = .ok (.goto 515, 3) := by decide +kernel
theorem dL_law_996 : decode cL_law 996 = .ok (.aload_n 1, 1) := by decide +kernel
theorem dL_law_997 : decode cL_law 997 = .ok (.aload_n 3, 1) := by decide +kernel
theorem dL_law_998 : decode cL_law 998 = .ok (.invokestatic 130, 3) := by decide +kernel
theorem dL_law_1001 : decode cL_law 1001 = .ok (.istore 6, 2) := by decide +kernel
theorem dL_law_1003 : decode cL_law 1003 = .ok (.aload_n 2, 1) := by decide +kernel
theorem dL_law_1004 : decode cL_law 1004 = .ok (.invokevirtual 133, 3) := by decide +kernel
theorem dL_law_1007 : decode cL_law 1007 = .ok (.istore 7, 2) := by decide +kernel
theorem dL_law_1009 : decode cL_law 1009 = .ok (.aload_n 2, 1) := by decide +kernel
theorem dL_law_1010 : decode cL_law 1010 = .ok (.invokevirtual 91, 3) := by decide +kernel
theorem dL_law_1013 : decode cL_law 1013 = .ok (.iload 6, 2) := by decide +kernel
theorem dL_law_1015 : decode cL_law 1015 = .ok (.if_icmp .eq 5, 3) := by decide +kernel
theorem dL_law_1018 : decode cL_law 1018 = .ok (.iconst 0, 1) := by decide +kernel
theorem dL_law_1019 : decode cL_law 1019 = .ok (.ireturn, 1) := by decide +kernel
theorem dL_law_1020 : decode cL_law 1020 = .ok (.iload 6, 2) := by decide +kernel
theorem dL_law_1022 : decode cL_law 1022 = .ok (.ifCond .ne 15, 3) := by decide +kernel
theorem dL_law_1025 : decode cL_law 1025 = .ok (.aload_n 3, 1) := by decide +kernel
theorem dL_law_1026 : decode cL_law 1026 = .ok (.iconst 0, 1) := by decide +kernel
theorem dL_law_1027 : decode cL_law 1027 = .ok (.laload, 1) := by decide +kernel
theorem dL_law_1028 : decode cL_law 1028 = .ok (.iload 7, 2) := by decide +kernel
theorem dL_law_1030 : decode cL_law 1030 = .ok (.i2l, 1) := by decide +kernel
theorem dL_law_1031 : decode cL_law 1031 = .ok (.lcmp, 1) := by decide +kernel
theorem dL_law_1032 : decode cL_law 1032 = .ok (.ifCond .eq 5, 3) := by decide +kernel
theorem dL_law_1035 : decode cL_law 1035 = .ok (.iconst 0, 1) := by decide +kernel
theorem dL_law_1036 : decode cL_law 1036 = .ok (.ireturn, 1) := by decide +kernel
theorem dL_law_1037 : decode cL_law 1037 = .ok (.goto 471, 3) := by decide +kernel
theorem dL_law_1040 : decode cL_law 1040 = .ok (.aload_n 1, 1) := by decide +kernel
theorem dL_law_1041 : decode cL_law 1041 = .ok (.aload_n 0, 1) := by decide +kernel
theorem dL_law_1042 : decode cL_law 1042 = .ok (.iload 5, 2) := by decide +kernel
theorem dL_law_1044 : decode cL_law 1044 = .ok (.iconst 1, 1) := by decide +kernel
theorem dL_law_1045 : decode cL_law 1045 = .ok (.iadd, 1) := by decide +kernel
theorem dL_law_1046 : decode cL_law 1046 = .ok (.iaload, 1) := by decide +kernel
theorem dL_law_1047 : decode cL_law 1047 = .ok (.aload_n 3, 1) := by decide +kernel
theorem dL_law_1048 : decode cL_law 1048 = .ok (.invokestatic 134, 3) := by decide +kernel
theorem dL_law_1051 : decode cL_law 1051 = .ok (.istore 6, 2) := by decide +kernel
theorem dL_law_1053 : decode cL_law 1053 = .ok (.aload_n 2, 1) := by decide +kernel
theorem dL_law_1054 : decode cL_law 1054 = .ok (.aload_n 0, 1) := by decide +kernel
theorem dL_law_1055 : decode cL_law 1055 = .ok (.iload 5, 2) := by decide +kernel
theorem dL_law_1057 : decode cL_law 1057 = .ok (.iconst 1, 1) := by decide +kernel
theorem dL_law_1058 : decode cL_law 1058 = .ok (.iadd, 1) := by decide +kernel
theorem dL_law_1059 : decode cL_law 1059 = .ok (.iaload, 1) := by decide +kernel
theorem dL_law_1060 : decode cL_law 1060 = .ok (.invokevirtual 136, 3) := by decide +kernel
theorem dL_law_1063 : decode cL_law 1063 = .ok (.istore 7, 2) := by decide +kernel
theorem dL_law_1065 : decode cL_law 1065 = .ok (.aload_n 2, 1) := by decide +kernel
theorem dL_law_1066 : decode cL_law 1066 = .ok (.invokevirtual 91, 3) := by decide +kernel
theorem dL_law_1069 : decode cL_law 1069 = .ok (.iload 6, 2) := by decide +kernel
theorem dL_law_1071 : decode cL_law 1071 = .ok (.if_icmp .eq 5, 3) := by decide +kernel
theorem dL_law_1074 : decode cL_law 1074 = .ok (.iconst 0, 1) := by decide +kernel
theorem dL_law_1075 : decode cL_law 1075 = .ok (.ireturn, 1) := by decide +kernel
theorem dL_law_1076 : decode cL_law 1076 = .ok (.iload 6, 2) := by decide +kernel
theorem dL_law_1078 : decode cL_law 1078 = .ok (.ifCond .ne 15, 3) := by decide +kernel
theorem dL_law_1081 : decode cL_law 1081 = .ok (.aload_n 3, 1) := by decide +kernel
theorem dL_law_1082 : decode cL_law 1082 = .ok (.iconst 0, 1) := by decide +kernel
theorem dL_law_1083 : decode cL_law 1083 = .ok (.laload, 1) := by decide +kernel
theorem dL_law_1084 : decode cL_law 1084 = .ok (.iload 7, 2) := by decide +kernel
theorem dL_law_1086 : decode cL_law 1086 = .ok (.i2l, 1) := by decide +kernel
theorem dL_law_1087 : decode cL_law 1087 = .ok (.lcmp, 1) := by decide +kernel
theorem dL_law_1088 : decode cL_law 1088 = .ok (.ifCond .eq 5, 3) := by decide +kernel
theorem dL_law_1091 : decode cL_law 1091 = .ok (.iconst 0, 1) := by decide +kernel
theorem dL_law_1092 : decode cL_law 1092 = .ok (.ireturn, 1) := by decide +kernel
theorem dL_law_1093 : decode cL_law 1093 = .ok (.goto 415, 3) := by decide +kernel
theorem dL_law_1096 : decode cL_law 1096 = .ok (.aload_n 1, 1) := by decide +kernel
theorem dL_law_1097 : decode cL_law 1097 = .ok (.invokevirtual 137, 3) := by decide +kernel
theorem dL_law_1100 : decode cL_law 1100 = .ok (.aload_n 2, 1) := by decide +kernel
theorem dL_law_1101 : decode cL_law 1101 = .ok (.invokevirtual 140, 3) := by decide +kernel
theorem dL_law_1104 : decode cL_law 1104 = .ok (.if_icmp .eq 404, 3) := by decide +kernel
theorem dL_law_1107 : decode cL_law 1107 = .ok (.iconst 0, 1) := by decide +kernel
theorem dL_law_1108 : decode cL_law 1108 = .ok (.ireturn, 1) := by decide +kernel
theorem dL_law_1109 : decode cL_law 1109 = .ok (.aload_n 1, 1) := by decide +kernel
theorem dL_law_1110 : decode cL_law 1110 = .ok (.aload_n 0, 1) := by decide +kernel
theorem dL_law_1111 : decode cL_law 1111 = .ok (.iload 5, 2) := by decide +kernel
theorem dL_law_1113 : decode cL_law 1113 = .ok (.iconst 1, 1) := by decide +kernel
theorem dL_law_1114 : decode cL_law 1114 = .ok (.iadd, 1) := by decide +kernel
theorem dL_law_1115 : decode cL_law 1115 = .ok (.iaload, 1) := by decide +kernel
theorem dL_law_1116 : decode cL_law 1116 = .ok (.aload_n 0, 1) := by decide +kernel
theorem dL_law_1117 : decode cL_law 1117 = .ok (.iload 5, 2) := by decide +kernel
theorem dL_law_1119 : decode cL_law 1119 = .ok (.iconst 2, 1) := by decide +kernel
theorem dL_law_1120 : decode cL_law 1120 = .ok (.iadd, 1) := by decide +kernel
theorem dL_law_1121 : decode cL_law 1121 = .ok (.iaload, 1) := by decide +kernel
theorem dL_law_1122 : decode cL_law 1122 = .ok (.aload_n 3, 1) := by decide +kernel
theorem dL_law_1123 : decode cL_law 1123 = .ok (.invokestatic 141, 3) := by decide +kernel
theorem dL_law_1126 : decode cL_law 1126 = .ok (.istore 6, 2) := by decide +kernel
theorem dL_law_1128 : decode cL_law 1128 = .ok (.aload_n 2, 1) := by decide +kernel
theorem dL_law_1129 : decode cL_law 1129 = .ok (.aload_n 0, 1) := by decide +kernel
theorem dL_law_1130 : decode cL_law 1130 = .ok (.iload 5, 2) := by decide +kernel
theorem dL_law_1132 : decode cL_law 1132 = .ok (.iconst 1, 1) := by decide +kernel
theorem dL_law_1133 : decode cL_law 1133 = .ok (.iadd, 1) := by decide +kernel
theorem dL_law_1134 : decode cL_law 1134 = .ok (.iaload, 1) := by decide +kernel
theorem dL_law_1135 : decode cL_law 1135 = .ok (.aload_n 0, 1) := by decide +kernel
theorem dL_law_1136 : decode cL_law 1136 = .ok (.iload 5, 2) := by decide +kernel
theorem dL_law_1138 : decode cL_law 1138 = .ok (.iconst 2, 1) := by decide +kernel
theorem dL_law_1139 : decode cL_law 1139 = .ok (.iadd, 1) := by decide +kernel
theorem dL_law_1140 : decode cL_law 1140 = .ok (.iaload, 1) := by decide +kernel
theorem dL_law_1141 : decode cL_law 1141 = .ok (.invokevirtual 143, 3) := by decide +kernel
theorem dL_law_1144 : decode cL_law 1144 = .ok (.istore 7, 2) := by decide +kernel
theorem dL_law_1146 : decode cL_law 1146 = .ok (.aload_n 2, 1) := by decide +kernel
theorem dL_law_1147 : decode cL_law 1147 = .ok (.invokevirtual 91, 3) := by decide +kernel
theorem dL_law_1150 : decode cL_law 1150 = .ok (.iload 6, 2) := by decide +kernel
theorem dL_law_1152 : decode cL_law 1152 = .ok (.if_icmp .eq 5, 3) := by decide +kernel
theorem dL_law_1155 : decode cL_law 1155 = .ok (.iconst 0, 1) := by decide +kernel
theorem dL_law_1156 : decode cL_law 1156 = .ok (.ireturn, 1) := by decide +kernel
theorem dL_law_1157 : decode cL_law 1157 = .ok (.iload 6, 2) := by decide +kernel
theorem dL_law_1159 : decode cL_law 1159 = .ok (.ifCond .ne 15, 3) := by decide +kernel
theorem dL_law_1162 : decode cL_law 1162 = .ok (.aload_n 3, 1) := by decide +kernel
theorem dL_law_1163 : decode cL_law 1163 = .ok (.iconst 0, 1) := by decide +kernel
theorem dL_law_1164 : decode cL_law 1164 = .ok (.laload, 1) := by decide +kernel
theorem dL_law_1165 : decode cL_law 1165 = .ok (.iload 7, 2) := by decide +kernel
theorem dL_law_1167 : decode cL_law 1167 = .ok (.i2l, 1) := by decide +kernel
theorem dL_law_1168 : decode cL_law 1168 = .ok (.lcmp, 1) := by decide +kernel
theorem dL_law_1169 : decode cL_law 1169 = .ok (.ifCond .eq 5, 3) := by decide +kernel
theorem dL_law_1172 : decode cL_law 1172 = .ok (.iconst 0, 1) := by decide +kernel
theorem dL_law_1173 : decode cL_law 1173 = .ok (.ireturn, 1) := by decide +kernel
theorem dL_law_1174 : decode cL_law 1174 = .ok (.goto 334, 3) := by decide +kernel
theorem dL_law_1177 : decode cL_law 1177 = .ok (.aload_n 1, 1) := by decide +kernel
theorem dL_law_1178 : decode cL_law 1178 = .ok (.aload_n 0, 1) := by decide +kernel
theorem dL_law_1179 : decode cL_law 1179 = .ok (.iload 5, 2) := by decide +kernel
theorem dL_law_1181 : decode cL_law 1181 = .ok (.iconst 1, 1) := by decide +kernel
theorem dL_law_1182 : decode cL_law 1182 = .ok (.iadd, 1) := by decide +kernel
theorem dL_law_1183 : decode cL_law 1183 = .ok (.iaload, 1) := by decide +kernel
theorem dL_law_1184 : decode cL_law 1184 = .ok (.aload_n 3, 1) := by decide +kernel
theorem dL_law_1185 : decode cL_law 1185 = .ok (.invokestatic 144, 3) := by decide +kernel
theorem dL_law_1188 : decode cL_law 1188 = .ok (.istore 6, 2) := by decide +kernel
theorem dL_law_1190 : decode cL_law 1190 = .ok (.aload_n 2, 1) := by decide +kernel
theorem dL_law_1191 : decode cL_law 1191 = .ok (.aload_n 0, 1) := by decide +kernel
theorem dL_law_1192 : decode cL_law 1192 = .ok (.iload 5, 2) := by decide +kernel
theorem dL_law_1194 : decode cL_law 1194 = .ok (.iconst 1, 1) := by decide +kernel
theorem dL_law_1195 : decode cL_law 1195 = .ok (.iadd, 1) := by decide +kernel
theorem dL_law_1196 : decode cL_law 1196 = .ok (.iaload, 1) := by decide +kernel
theorem dL_law_1197 : decode cL_law 1197 = .ok (.invokevirtual 146, 3) := by decide +kernel
theorem dL_law_1200 : decode cL_law 1200 = .ok (.istore 7, 2) := by decide +kernel
theorem dL_law_1202 : decode cL_law 1202 = .ok (.aload_n 2, 1) := by decide +kernel
theorem dL_law_1203 : decode cL_law 1203 = .ok (.invokevirtual 91, 3) := by decide +kernel
theorem dL_law_1206 : decode cL_law 1206 = .ok (.iload 6, 2) := by decide +kernel
theorem dL_law_1208 : decode cL_law 1208 = .ok (.if_icmp .eq 5, 3) := by decide +kernel
theorem dL_law_1211 : decode cL_law 1211 = .ok (.iconst 0, 1) := by decide +kernel
theorem dL_law_1212 : decode cL_law 1212 = .ok (.ireturn, 1) := by decide +kernel
theorem dL_law_1213 : decode cL_law 1213 = .ok (.iload 6, 2) := by decide +kernel
theorem dL_law_1215 : decode cL_law 1215 = .ok (.ifCond .ne 15, 3) := by decide +kernel
theorem dL_law_1218 : decode cL_law 1218 = .ok (.aload_n 3, 1) := by decide +kernel
theorem dL_law_1219 : decode cL_law 1219 = .ok (.iconst 0, 1) := by decide +kernel
theorem dL_law_1220 : decode cL_law 1220 = .ok (.laload, 1) := by decide +kernel
theorem dL_law_1221 : decode cL_law 1221 = .ok (.iload 7, 2) := by decide +kernel
theorem dL_law_1223 : decode cL_law 1223 = .ok (.i2l, 1) := by decide +kernel
theorem dL_law_1224 : decode cL_law 1224 = .ok (.lcmp, 1) := by decide +kernel
theorem dL_law_1225 : decode cL_law 1225 = .ok (.ifCond .eq 5, 3) := by decide +kernel
theorem dL_law_1228 : decode cL_law 1228 = .ok (.iconst 0, 1) := by decide +kernel
theorem dL_law_1229 : decode cL_law 1229 = .ok (.ireturn, 1) := by decide +kernel
theorem dL_law_1230 : decode cL_law 1230 = .ok (.goto 278, 3) := by decide +kernel
theorem dL_law_1233 : decode cL_law 1233 = .ok (.aload_n 1, 1) := by decide +kernel
theorem dL_law_1234 : decode cL_law 1234 = .ok (.aload_n 0, 1) := by decide +kernel
theorem dL_law_1235 : decode cL_law 1235 = .ok (.iload 5, 2) := by decide +kernel
theorem dL_law_1237 : decode cL_law 1237 = .ok (.iconst 1, 1) := by decide +kernel
theorem dL_law_1238 : decode cL_law 1238 = .ok (.iadd, 1) := by decide +kernel
theorem dL_law_1239 : decode cL_law 1239 = .ok (.iaload, 1) := by decide +kernel
theorem dL_law_1240 : decode cL_law 1240 = .ok (.aload_n 3, 1) := by decide +kernel
theorem dL_law_1241 : decode cL_law 1241 = .ok (.invokestatic 147, 3) := by decide +kernel
theorem dL_law_1244 : decode cL_law 1244 = .ok (.istore 6, 2) := by decide +kernel
theorem dL_law_1246 : decode cL_law 1246 = .ok (.aload_n 2, 1) := by decide +kernel
theorem dL_law_1247 : decode cL_law 1247 = .ok (.aload_n 0, 1) := by decide +kernel
theorem dL_law_1248 : decode cL_law 1248 = .ok (.iload 5, 2) := by decide +kernel
theorem dL_law_1250 : decode cL_law 1250 = .ok (.iconst 1, 1) := by decide +kernel
theorem dL_law_1251 : decode cL_law 1251 = .ok (.iadd, 1) := by decide +kernel
theorem dL_law_1252 : decode cL_law 1252 = .ok (.iaload, 1) := by decide +kernel
theorem dL_law_1253 : decode cL_law 1253 = .ok (.invokevirtual 149, 3) := by decide +kernel
theorem dL_law_1256 : decode cL_law 1256 = .ok (.istore 7, 2) := by decide +kernel
theorem dL_law_1258 : decode cL_law 1258 = .ok (.aload_n 2, 1) := by decide +kernel
theorem dL_law_1259 : decode cL_law 1259 = .ok (.invokevirtual 91, 3) := by decide +kernel
theorem dL_law_1262 : decode cL_law 1262 = .ok (.iload 6, 2) := by decide +kernel
theorem dL_law_1264 : decode cL_law 1264 = .ok (.if_icmp .eq 5, 3) := by decide +kernel
theorem dL_law_1267 : decode cL_law 1267 = .ok (.iconst 0, 1) := by decide +kernel
theorem dL_law_1268 : decode cL_law 1268 = .ok (.ireturn, 1) := by decide +kernel
theorem dL_law_1269 : decode cL_law 1269 = .ok (.iload 6, 2) := by decide +kernel
theorem dL_law_1271 : decode cL_law 1271 = .ok (.ifCond .ne 15, 3) := by decide +kernel
theorem dL_law_1274 : decode cL_law 1274 = .ok (.aload_n 3, 1) := by decide +kernel
theorem dL_law_1275 : decode cL_law 1275 = .ok (.iconst 0, 1) := by decide +kernel
theorem dL_law_1276 : decode cL_law 1276 = .ok (.laload, 1) := by decide +kernel
theorem dL_law_1277 : decode cL_law 1277 = .ok (.iload 7, 2) := by decide +kernel
theorem dL_law_1279 : decode cL_law 1279 = .ok (.i2l, 1) := by decide +kernel
theorem dL_law_1280 : decode cL_law 1280 = .ok (.lcmp, 1) := by decide +kernel
theorem dL_law_1281 : decode cL_law 1281 = .ok (.ifCond .eq 5, 3) := by decide +kernel
theorem dL_law_1284 : decode cL_law 1284 = .ok (.iconst 0, 1) := by decide +kernel
theorem dL_law_1285 : decode cL_law 1285 = .ok (.ireturn, 1) := by decide +kernel
theorem dL_law_1286 : decode cL_law 1286 = .ok (.goto 222, 3) := by decide +kernel
theorem dL_law_1289 : decode cL_law 1289 = .ok (.aload_n 1, 1) := by decide +kernel
theorem dL_law_1290 : decode cL_law 1290 = .ok (.aload_n 0, 1) := by decide +kernel
theorem dL_law_1291 : decode cL_law 1291 = .ok (.iload 5, 2) := by decide +kernel
theorem dL_law_1293 : decode cL_law 1293 = .ok (.iconst 1, 1) := by decide +kernel
theorem dL_law_1294 : decode cL_law 1294 = .ok (.iadd, 1) := by decide +kernel
theorem dL_law_1295 : decode cL_law 1295 = .ok (.iaload, 1) := by decide +kernel
theorem dL_law_1296 : decode cL_law 1296 = .ok (.aload_n 3, 1) := by decide +kernel
theorem dL_law_1297 : decode cL_law 1297 = .ok (.invokestatic 150, 3) := by decide +kernel
theorem dL_law_1300 : decode cL_law 1300 = .ok (.istore 6, 2) := by decide +kernel
theorem dL_law_1302 : decode cL_law 1302 = .ok (.aload_n 2, 1) := by decide +kernel
theorem dL_law_1303 : decode cL_law 1303 = .ok (.aload_n 0, 1) := by decide +kernel
theorem dL_law_1304 : decode cL_law 1304 = .ok (.iload 5, 2) := by decide +kernel
theorem dL_law_1306 : decode cL_law 1306 = .ok (.iconst 1, 1) := by decide +kernel
theorem dL_law_1307 : decode cL_law 1307 = .ok (.iadd, 1) := by decide +kernel
theorem dL_law_1308 : decode cL_law 1308 = .ok (.iaload, 1) := by decide +kernel
theorem dL_law_1309 : decode cL_law 1309 = .ok (.invokevirtual 152, 3) := by decide +kernel
theorem dL_law_1312 : decode cL_law 1312 = .ok (.istore 7, 2) := by decide +kernel
theorem dL_law_1314 : decode cL_law 1314 = .ok (.aload_n 2, 1) := by decide +kernel
theorem dL_law_1315 : decode cL_law 1315 = .ok (.invokevirtual 91, 3) := by decide +kernel
theorem dL_law_1318 : decode cL_law 1318 = .ok (.iload 6, 2) := by decide +kernel
theorem dL_law_1320 : decode cL_law 1320 = .ok (.if_icmp .eq 5, 3) := by decide +kernel
theorem dL_law_1323 : decode cL_law 1323 = .ok (.iconst 0, 1) := by decide +kernel
theorem dL_law_1324 : decode cL_law 1324 = .ok (.ireturn, 1) := by decide +kernel
theorem dL_law_1325 : decode cL_law 1325 = .ok (.iload 6, 2) := by decide +kernel
theorem dL_law_1327 : decode cL_law 1327 = .ok (.ifCond .ne 15, 3) := by decide +kernel
theorem dL_law_1330 : decode cL_law 1330 = .ok (.aload_n 3, 1) := by decide +kernel
theorem dL_law_1331 : decode cL_law 1331 = .ok (.iconst 0, 1) := by decide +kernel
theorem dL_law_1332 : decode cL_law 1332 = .ok (.laload, 1) := by decide +kernel
theorem dL_law_1333 : decode cL_law 1333 = .ok (.iload 7, 2) := by decide +kernel
theorem dL_law_1335 : decode cL_law 1335 = .ok (.i2l, 1) := by decide +kernel
theorem dL_law_1336 : decode cL_law 1336 = .ok (.lcmp, 1) := by decide +kernel
theorem dL_law_1337 : decode cL_law 1337 = .ok (.ifCond .eq 5, 3) := by decide +kernel
theorem dL_law_1340 : decode cL_law 1340 = .ok (.iconst 0, 1) := by decide +kernel
theorem dL_law_1341 : decode cL_law 1341 = .ok (.ireturn, 1) := by decide +kernel
theorem dL_law_1342 : decode cL_law 1342 = .ok (.goto 166, 3) := by decide +kernel
theorem dL_law_1345 : decode cL_law 1345 = .ok (.aload_n 1, 1) := by decide +kernel
theorem dL_law_1346 : decode cL_law 1346 = .ok (.aload_n 0, 1) := by decide +kernel
theorem dL_law_1347 : decode cL_law 1347 = .ok (.iload 5, 2) := by decide +kernel
theorem dL_law_1349 : decode cL_law 1349 = .ok (.iconst 1, 1) := by decide +kernel
theorem dL_law_1350 : decode cL_law 1350 = .ok (.iadd, 1) := by decide +kernel
theorem dL_law_1351 : decode cL_law 1351 = .ok (.iaload, 1) := by decide +kernel
theorem dL_law_1352 : decode cL_law 1352 = .ok (.aload_n 0, 1) := by decide +kernel
theorem dL_law_1353 : decode cL_law 1353 = .ok (.iload 5, 2) := by decide +kernel
theorem dL_law_1355 : decode cL_law 1355 = .ok (.iconst 2, 1) := by decide +kernel
theorem dL_law_1356 : decode cL_law 1356 = .ok (.iadd, 1) := by decide +kernel
theorem dL_law_1357 : decode cL_law 1357 = .ok (.iaload, 1) := by decide +kernel
theorem dL_law_1358 : decode cL_law 1358 = .ok (.aload_n 0, 1) := by decide +kernel
theorem dL_law_1359 : decode cL_law 1359 = .ok (.iload 5, 2) := by decide +kernel
theorem dL_law_1361 : decode cL_law 1361 = .ok (.iconst 3, 1) := by decide +kernel
theorem dL_law_1362 : decode cL_law 1362 = .ok (.iadd, 1) := by decide +kernel
theorem dL_law_1363 : decode cL_law 1363 = .ok (.iaload, 1) := by decide +kernel
theorem dL_law_1364 : decode cL_law 1364 = .ok (.aload_n 3, 1) := by decide +kernel
theorem dL_law_1365 : decode cL_law 1365 = .ok (.invokestatic 153, 3) := by decide +kernel
theorem dL_law_1368 : decode cL_law 1368 = .ok (.istore 6, 2) := by decide +kernel
theorem dL_law_1370 : decode cL_law 1370 = .ok (.aload_n 2, 1) := by decide +kernel
theorem dL_law_1371 : decode cL_law 1371 = .ok (.aload_n 0, 1) := by decide +kernel
theorem dL_law_1372 : decode cL_law 1372 = .ok (.iload 5, 2) := by decide +kernel
theorem dL_law_1374 : decode cL_law 1374 = .ok (.iconst 1, 1) := by decide +kernel
theorem dL_law_1375 : decode cL_law 1375 = .ok (.iadd, 1) := by decide +kernel
theorem dL_law_1376 : decode cL_law 1376 = .ok (.iaload, 1) := by decide +kernel
theorem dL_law_1377 : decode cL_law 1377 = .ok (.aload_n 0, 1) := by decide +kernel
theorem dL_law_1378 : decode cL_law 1378 = .ok (.iload 5, 2) := by decide +kernel
theorem dL_law_1380 : decode cL_law 1380 = .ok (.iconst 2, 1) := by decide +kernel
theorem dL_law_1381 : decode cL_law 1381 = .ok (.iadd, 1) := by decide +kernel
theorem dL_law_1382 : decode cL_law 1382 = .ok (.iaload, 1) := by decide +kernel
theorem dL_law_1383 : decode cL_law 1383 = .ok (.aload_n 0, 1) := by decide +kernel
theorem dL_law_1384 : decode cL_law 1384 = .ok (.iload 5, 2) := by decide +kernel
theorem dL_law_1386 : decode cL_law 1386 = .ok (.iconst 3, 1) := by decide +kernel
theorem dL_law_1387 : decode cL_law 1387 = .ok (.iadd, 1) := by decide +kernel
theorem dL_law_1388 : decode cL_law 1388 = .ok (.iaload, 1) := by decide +kernel
theorem dL_law_1389 : decode cL_law 1389 = .ok (.invokevirtual 155, 3) := by decide +kernel
theorem dL_law_1392 : decode cL_law 1392 = .ok (.istore 7, 2) := by decide +kernel
theorem dL_law_1394 : decode cL_law 1394 = .ok (.aload_n 2, 1) := by decide +kernel
theorem dL_law_1395 : decode cL_law 1395 = .ok (.invokevirtual 91, 3) := by decide +kernel
theorem dL_law_1398 : decode cL_law 1398 = .ok (.iload 6, 2) := by decide +kernel
theorem dL_law_1400 : decode cL_law 1400 = .ok (.if_icmp .eq 5, 3) := by decide +kernel
theorem dL_law_1403 : decode cL_law 1403 = .ok (.iconst 0, 1) := by decide +kernel
theorem dL_law_1404 : decode cL_law 1404 = .ok (.ireturn, 1) := by decide +kernel
theorem dL_law_1405 : decode cL_law 1405 = .ok (.iload 6, 2) := by decide +kernel
theorem dL_law_1407 : decode cL_law 1407 = .ok (.ifCond .ne 15, 3) := by decide +kernel
theorem dL_law_1410 : decode cL_law 1410 = .ok (.aload_n 3, 1) := by decide +kernel
theorem dL_law_1411 : decode cL_law 1411 = .ok (.iconst 0, 1) := by decide +kernel
theorem dL_law_1412 : decode cL_law 1412 = .ok (.laload, 1) := by decide +kernel
theorem dL_law_1413 : decode cL_law 1413 = .ok (.iload 7, 2) := by decide +kernel
theorem dL_law_1415 : decode cL_law 1415 = .ok (.i2l, 1) := by decide +kernel
theorem dL_law_1416 : decode cL_law 1416 = .ok (.lcmp, 1) := by decide +kernel
theorem dL_law_1417 : decode cL_law 1417 = .ok (.ifCond .eq 5, 3) := by decide +kernel
theorem dL_law_1420 : decode cL_law 1420 = .ok (.iconst 0, 1) := by decide +kernel
theorem dL_law_1421 : decode cL_law 1421 = .ok (.ireturn, 1) := by decide +kernel
theorem dL_law_1422 : decode cL_law 1422 = .ok (.goto 86, 3) := by decide +kernel
theorem dL_law_1425 : decode cL_law 1425 = .ok (.aload_n 1, 1) := by decide +kernel
theorem dL_law_1426 : decode cL_law 1426 = .ok (.aload_n 0, 1) := by decide +kernel
theorem dL_law_1427 : decode cL_law 1427 = .ok (.iload 5, 2) := by decide +kernel
theorem dL_law_1429 : decode cL_law 1429 = .ok (.iconst 1, 1) := by decide +kernel
theorem dL_law_1430 : decode cL_law 1430 = .ok (.iadd, 1) := by decide +kernel
theorem dL_law_1431 : decode cL_law 1431 = .ok (.iaload, 1) := by decide +kernel
theorem dL_law_1432 : decode cL_law 1432 = .ok (.aload_n 3, 1) := by decide +kernel
theorem dL_law_1433 : decode cL_law 1433 = .ok (.invokestatic 156, 3) := by decide +kernel
theorem dL_law_1436 : decode cL_law 1436 = .ok (.istore 6, 2) := by decide +kernel
theorem dL_law_1438 : decode cL_law 1438 = .ok (.aload_n 2, 1) := by decide +kernel
theorem dL_law_1439 : decode cL_law 1439 = .ok (.aload_n 0, 1) := by decide +kernel
theorem dL_law_1440 : decode cL_law 1440 = .ok (.iload 5, 2) := by decide +kernel
theorem dL_law_1442 : decode cL_law 1442 = .ok (.iconst 1, 1) := by decide +kernel
theorem dL_law_1443 : decode cL_law 1443 = .ok (.iadd, 1) := by decide +kernel
theorem dL_law_1444 : decode cL_law 1444 = .ok (.iaload, 1) := by decide +kernel
theorem dL_law_1445 : decode cL_law 1445 = .ok (.invokevirtual 158, 3) := by decide +kernel
theorem dL_law_1448 : decode cL_law 1448 = .ok (.istore 7, 2) := by decide +kernel
theorem dL_law_1450 : decode cL_law 1450 = .ok (.aload_n 2, 1) := by decide +kernel
theorem dL_law_1451 : decode cL_law 1451 = .ok (.invokevirtual 91, 3) := by decide +kernel
theorem dL_law_1454 : decode cL_law 1454 = .ok (.iload 6, 2) := by decide +kernel
theorem dL_law_1456 : decode cL_law 1456 = .ok (.if_icmp .eq 5, 3) := by decide +kernel
theorem dL_law_1459 : decode cL_law 1459 = .ok (.iconst 0, 1) := by decide +kernel
theorem dL_law_1460 : decode cL_law 1460 = .ok (.ireturn, 1) := by decide +kernel
theorem dL_law_1461 : decode cL_law 1461 = .ok (.iload 6, 2) := by decide +kernel
theorem dL_law_1463 : decode cL_law 1463 = .ok (.ifCond .ne 15, 3) := by decide +kernel
theorem dL_law_1466 : decode cL_law 1466 = .ok (.aload_n 3, 1) := by decide +kernel
theorem dL_law_1467 : decode cL_law 1467 = .ok (.iconst 0, 1) := by decide +kernel
theorem dL_law_1468 : decode cL_law 1468 = .ok (.laload, 1) := by decide +kernel
theorem dL_law_1469 : decode cL_law 1469 = .ok (.iload 7, 2) := by decide +kernel
theorem dL_law_1471 : decode cL_law 1471 = .ok (.i2l, 1) := by decide +kernel
theorem dL_law_1472 : decode cL_law 1472 = .ok (.lcmp, 1) := by decide +kernel
theorem dL_law_1473 : decode cL_law 1473 = .ok (.ifCond .eq 5, 3) := by decide +kernel
theorem dL_law_1476 : decode cL_law 1476 = .ok (.iconst 0, 1) := by decide +kernel
theorem dL_law_1477 : decode cL_law 1477 = .ok (.ireturn, 1) := by decide +kernel
theorem dL_law_1478 : decode cL_law 1478 = .ok (.goto 30, 3) := by decide +kernel
theorem dL_law_1481 : decode cL_law 1481 = .ok (.aload_n 1, 1) := by decide +kernel
theorem dL_law_1482 : decode cL_law 1482 = .ok (.invokevirtual 159, 3) := by decide +kernel
theorem dL_law_1485 : decode cL_law 1485 = .ok (.aload_n 2, 1) := by decide +kernel
theorem dL_law_1486 : decode cL_law 1486 = .ok (.invokevirtual 162, 3) := by decide +kernel
theorem dL_law_1489 : decode cL_law 1489 = .ok (.if_icmp .eq 19, 3) := by decide +kernel
theorem dL_law_1492 : decode cL_law 1492 = .ok (.iconst 0, 1) := by decide +kernel
theorem dL_law_1493 : decode cL_law 1493 = .ok (.ireturn, 1) := by decide +kernel
theorem dL_law_1494 : decode cL_law 1494 = .ok (.aload_n 1, 1) := by decide +kernel
theorem dL_law_1495 : decode cL_law 1495 = .ok (.invokevirtual 163, 3) := by decide +kernel
theorem dL_law_1498 : decode cL_law 1498 = .ok (.aload_n 2, 1) := by decide +kernel
theorem dL_law_1499 : decode cL_law 1499 = .ok (.invokevirtual 167, 3) := by decide +kernel
theorem dL_law_1502 : decode cL_law 1502 = .ok (.lcmp, 1) := by decide +kernel
theorem dL_law_1503 : decode cL_law 1503 = .ok (.ifCond .eq 5, 3) := by decide +kernel
theorem dL_law_1506 : decode cL_law 1506 = .ok (.iconst 0, 1) := by decide +kernel
theorem dL_law_1507 : decode cL_law 1507 = .ok (.ireturn, 1) := by decide +kernel
theorem dL_law_1508 : decode cL_law 1508 = .ok (.iinc 5 4, 3) := by decide +kernel
theorem dL_law_1511 : decode cL_law 1511 = .ok (.goto (-1483), 3) := by decide +kernel
theorem dL_law_1514 : decode cL_law 1514 = .ok (.iconst 1, 1) := by decide +kernel
theorem dL_law_1515 : decode cL_law 1515 = .ok (.ireturn, 1) := by decide +kernel
