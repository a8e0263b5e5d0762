/-! the law's decode rows -/
theorem dL_law__518 : decode cL_law_ 518 = .ok (.aload_n 2, 1) := by decide +kernel
theorem dL_law__519 : decode cL_law_ 519 = .ok (.aload_n 0, 1) := by decide +kernel
theorem dL_law__520 : decode cL_law_ 520 = .ok (.iload 4, 2) := by decide +kernel
theorem dL_law__522 : decode cL_law_ 522 = .ok (.iconst 1, 1) := by decide +kernel
theorem dL_law__523 : decode cL_law_ 523 = .ok (.iadd, 1) := by decide +kernel
theorem dL_law__524 : decode cL_law_ 524 = .ok (.iaload, 1) := by decide +kernel
theorem dL_law__525 : decode cL_law_ 525 = .ok (.aload_n 0, 1) := by decide +kernel
theorem dL_law__526 : decode cL_law_ 526 = .ok (.iload 4, 2) := by decide +kernel
theorem dL_law__528 : decode cL_law_ 528 = .ok (.iconst 2, 1) := by decide +kernel
theorem dL_law__529 : decode cL_law_ 529 = .ok (.iadd, 1) := by decide +kernel
theorem dL_law__530 : decode cL_law_ 530 = .ok (.iaload, 1) := by decide +kernel
theorem dL_law__531 : decode cL_law_ 531 = .ok (.invokevirtual 158, 3) := by decide +kernel
theorem dL_law__534 : decode cL_law_ 534 = .ok (.istore 6, 2) := by decide +kernel
theorem dL_law__536 : decode cL_law_ 536 = .ok (.aload_n 2, 1) := by decide +kernel
theorem dL_law__537 : decode cL_law_ 537 = .ok (.invokevirtual 142, 3) := by decide +kernel
theorem dL_law__540 : decode cL_law_ 540 = .ok (.iload 5, 2) := by decide +kernel
theorem dL_law__542 : decode cL_law_ 542 = .ok (.if_icmp .eq 5, 3) := by decide +kernel
theorem dL_law__545 : decode cL_law_ 545 = .ok (.iconst 0, 1) := by decide +kernel
theorem dL_law__546 : decode cL_law_ 546 = .ok (.ireturn, 1) := by decide +kernel
theorem dL_law__547 : decode cL_law_ 547 = .ok (.iload 5, 2) := by decide +kernel
theorem dL_law__549 : decode cL_law_ 549 = .ok (.ifCond .ne 15, 3) := by decide +kernel
theorem dL_law__552 : decode cL_law_ 552 = .ok (.aload_n 3, 1) := by decide +kernel
theorem dL_law__553 : decode cL_law_ 553 = .ok (.iconst 0, 1) := by decide +kernel
theorem dL_law__554 : decode cL_law_ 554 = .ok (.laload, 1) := by decide +kernel
theorem dL_law__555 : decode cL_law_ 555 = .ok (.iload 6, 2) := by decide +kernel
theorem dL_law__557 : decode cL_law_ 557 = .ok (.i2l, 1) := by decide +kernel
theorem dL_law__558 : decode cL_law_ 558 = .ok (.lcmp, 1) := by decide +kernel
theorem dL_law__559 : decode cL_law_ 559 = .ok (.ifCond .eq 5, 3) := by decide +kernel
theorem dL_law__562 : decode cL_law_ 562 = .ok (.iconst 0, 1) := by decide +kernel
theorem dL_law__563 : decode cL_law_ 563 = .ok (.ireturn, 1) := by decide +kernel
theorem dL_law__564 : decode cL_law_ 564 = .ok (.goto 2234, 3) := by decide +kernel
theorem dL_law__567 : decode cL_law_ 567 = .ok (.aload_n 1, 1) := by decide +kernel
theorem dL_law__568 : decode cL_law_ 568 = .ok (.aload_n 0, 1) := by decide +kernel
theorem dL_law__569 : decode cL_law_ 569 = .ok (.iload 4, 2) := by decide +kernel
theorem dL_law__571 : decode cL_law_ 571 = .ok (.iconst 1, 1) := by decide +kernel
theorem dL_law__572 : decode cL_law_ 572 = .ok (.iadd, 1) := by decide +kernel
theorem dL_law__573 : decode cL_law_ 573 = .ok (.iaload, 1) := by decide +kernel
theorem dL_law__574 : decode cL_law_ 574 = .ok (.aload_n 0, 1) := by decide +kernel
theorem dL_law__575 : decode cL_law_ 575 = .ok (.iload 4, 2) := by decide +kernel
theorem dL_law__577 : decode cL_law_ 577 = .ok (.iconst 2, 1) := by decide +kernel
theorem dL_law__578 : decode cL_law_ 578 = .ok (.iadd, 1) := by decide +kernel
theorem dL_law__579 : decode cL_law_ 579 = .ok (.iaload, 1) := by decide +kernel
theorem dL_law__580 : decode cL_law_ 580 = .ok (.aload_n 3, 1) := by decide +kernel
theorem dL_law__581 : decode cL_law_ 581 = .ok (.invokestatic 159, 3) := by decide +kernel
theorem dL_law__584 : decode cL_law_ 584 = .ok (.istore 5, 2) := by decide +kernel
theorem dL_law__586 : decode cL_law_ 586 = .ok (.aload_n 2, 1) := by decide +kernel
theorem dL_law__587 : decode cL_law_ 587 = .ok (.aload_n 0, 1) := by decide +kernel
theorem dL_law__588 : decode cL_law_ 588 = .ok (.iload 4, 2) := by decide +kernel
theorem dL_law__590 : decode cL_law_ 590 = .ok (.iconst 1, 1) := by decide +kernel
theorem dL_law__591 : decode cL_law_ 591 = .ok (.iadd, 1) := by decide +kernel
theorem dL_law__592 : decode cL_law_ 592 = .ok (.iaload, 1) := by decide +kernel
theorem dL_law__593 : decode cL_law_ 593 = .ok (.aload_n 0, 1) := by decide +kernel
theorem dL_law__594 : decode cL_law_ 594 = .ok (.iload 4, 2) := by decide +kernel
theorem dL_law__596 : decode cL_law_ 596 = .ok (.iconst 2, 1) := by decide +kernel
theorem dL_law__597 : decode cL_law_ 597 = .ok (.iadd, 1) := by decide +kernel
theorem dL_law__598 : decode cL_law_ 598 = .ok (.iaload, 1) := by decide +kernel
theorem dL_law__599 : decode cL_law_ 599 = .ok (.invokevirtual 161, 3) := by decide +kernel
theorem dL_law__602 : decode cL_law_ 602 = .ok (.istore 6, 2) := by decide +kernel
theorem dL_law__604 : decode cL_law_ 604 = .ok (.aload_n 2, 1) := by decide +kernel
theorem dL_law__605 : decode cL_law_ 605 = .ok (.invokevirtual 142, 3) := by decide +kernel
theorem dL_law__608 : decode cL_law_ 608 = .ok (.iload 5, 2) := by decide +kernel
theorem dL_law__610 : decode cL_law_ 610 = .ok (.if_icmp .eq 5, 3) := by decide +kernel
theorem dL_law__613 : decode cL_law_ 613 = .ok (.iconst 0, 1) := by decide +kernel
theorem dL_law__614 : decode cL_law_ 614 = .ok (.ireturn, 1) := by decide +kernel
theorem dL_law__615 : decode cL_law_ 615 = .ok (.iload 5, 2) := by decide +kernel
theorem dL_law__617 : decode cL_law_ 617 = .ok (.ifCond .ne 15, 3) := by decide +kernel
theorem dL_law__620 : decode cL_law_ 620 = .ok (.aload_n 3, 1) := by decide +kernel
theorem dL_law__621 : decode cL_law_ 621 = .ok (.iconst 0, 1) := by decide +kernel
theorem dL_law__622 : decode cL_law_ 622 = .ok (.laload, 1) := by decide +kernel
theorem dL_law__623 : decode cL_law_ 623 = .ok (.iload 6, 2) := by decide +kernel
theorem dL_law__625 : decode cL_law_ 625 = .ok (.i2l, 1) := by decide +kernel
theorem dL_law__626 : decode cL_law_ 626 = .ok (.lcmp, 1) := by decide +kernel
theorem dL_law__627 : decode cL_law_ 627 = .ok (.ifCond .eq 5, 3) := by decide +kernel
theorem dL_law__630 : decode cL_law_ 630 = .ok (.iconst 0, 1) := by decide +kernel
theorem dL_law__631 : decode cL_law_ 631 = .ok (.ireturn, 1) := by decide +kernel
theorem dL_law__632 : decode cL_law_ 632 = .ok (.goto 2166, 3) := by decide +kernel
theorem dL_law__635 : decode cL_law_ 635 = .ok (.aload_n 1, 1) := by decide +kernel
theorem dL_law__636 : decode cL_law_ 636 = .ok (.aload_n 0, 1) := by decide +kernel
theorem dL_law__637 : decode cL_law_ 637 = .ok (.iload 4, 2) := by decide +kernel
theorem dL_law__639 : decode cL_law_ 639 = .ok (.iconst 1, 1) := by decide +kernel
theorem dL_law__640 : decode cL_law_ 640 = .ok (.iadd, 1) := by decide +kernel
theorem dL_law__641 : decode cL_law_ 641 = .ok (.iaload, 1) := by decide +kernel
theorem dL_law__642 : decode cL_law_ 642 = .ok (.aload_n 0, 1) := by decide +kernel
theorem dL_law__643 : decode cL_law_ 643 = .ok (.iload 4, 2) := by decide +kernel
theorem dL_law__645 : decode cL_law_ 645 = .ok (.iconst 2, 1) := by decide +kernel
theorem dL_law__646 : decode cL_law_ 646 = .ok (.iadd, 1) := by decide +kernel
theorem dL_law__647 : decode cL_law_ 647 = .ok (.iaload, 1) := by decide +kernel
theorem dL_law__648 : decode cL_law_ 648 = .ok (.aload_n 3, 1) := by decide +kernel
theorem dL_law__649 : decode cL_law_ 649 = .ok (.invokestatic 162, 3) := by decide +kernel
theorem dL_law__652 : decode cL_law_ 652 = .ok (.istore 5, 2) := by decide +kernel
theorem dL_law__654 : decode cL_law_ 654 = .ok (.aload_n 2, 1) := by decide +kernel
theorem dL_law__655 : decode cL_law_ 655 = .ok (.aload_n 0, 1) := by decide +kernel
theorem dL_law__656 : decode cL_law_ 656 = .ok (.iload 4, 2) := by decide +kernel
theorem dL_law__658 : decode cL_law_ 658 = .ok (.iconst 1, 1) := by decide +kernel
theorem dL_law__659 : decode cL_law_ 659 = .ok (.iadd, 1) := by decide +kernel
theorem dL_law__660 : decode cL_law_ 660 = .ok (.iaload, 1) := by decide +kernel
theorem dL_law__661 : decode cL_law_ 661 = .ok (.aload_n 0, 1) := by decide +kernel
theorem dL_law__662 : decode cL_law_ 662 = .ok (.iload 4, 2) := by decide +kernel
theorem dL_law__664 : decode cL_law_ 664 = .ok (.iconst 2, 1) := by decide +kernel
theorem dL_law__665 : decode cL_law_ 665 = .ok (.iadd, 1) := by decide +kernel
theorem dL_law__666 : decode cL_law_ 666 = .ok (.iaload, 1) := by decide +kernel
theorem dL_law__667 : decode cL_law_ 667 = .ok (.invokevirtual 164, 3) := by decide +kernel
theorem dL_law__670 : decode cL_law_ 670 = .ok (.istore 6, 2) := by decide +kernel
theorem dL_law__672 : decode cL_law_ 672 = .ok (.aload_n 2, 1) := by decide +kernel
theorem dL_law__673 : decode cL_law_ 673 = .ok (.invokevirtual 142, 3) := by decide +kernel
theorem dL_law__676 : decode cL_law_ 676 = .ok (.iload 5, 2) := by decide +kernel
theorem dL_law__678 : decode cL_law_ 678 = .ok (.if_icmp .eq 5, 3) := by decide +kernel
theorem dL_law__681 : decode cL_law_ 681 = .ok (.iconst 0, 1) := by decide +kernel
theorem dL_law__682 : decode cL_law_ 682 = .ok (.ireturn, 1) := by decide +kernel
theorem dL_law__683 : decode cL_law_ 683 = .ok (.iload 5, 2) := by decide +kernel
theorem dL_law__685 : decode cL_law_ 685 = .ok (.ifCond .ne 15, 3) := by decide +kernel
theorem dL_law__688 : decode cL_law_ 688 = .ok (.aload_n 3, 1) := by decide +kernel
theorem dL_law__689 : decode cL_law_ 689 = .ok (.iconst 0, 1) := by decide +kernel
theorem dL_law__690 : decode cL_law_ 690 = .ok (.laload, 1) := by decide +kernel
theorem dL_law__691 : decode cL_law_ 691 = .ok (.iload 6, 2) := by decide +kernel
theorem dL_law__693 : decode cL_law_ 693 = .ok (.i2l, 1) := by decide +kernel
theorem dL_law__694 : decode cL_law_ 694 = .ok (.lcmp, 1) := by decide +kernel
theorem dL_law__695 : decode cL_law_ 695 = .ok (.ifCond .eq 5, 3) := by decide +kernel
theorem dL_law__698 : decode cL_law_ 698 = .ok (.iconst 0, 1) := by decide +kernel
theorem dL_law__699 : decode cL_law_ 699 = .ok (.ireturn, 1) := by decide +kernel
theorem dL_law__700 : decode cL_law_ 700 = .ok (.goto 2098, 3) := by decide +kernel
theorem dL_law__703 : decode cL_law_ 703 = .ok (.aload_n 1, 1) := by decide +kernel
theorem dL_law__704 : decode cL_law_ 704 = .ok (.aload_n 0, 1) := by decide +kernel
theorem dL_law__705 : decode cL_law_ 705 = .ok (.iload 4, 2) := by decide +kernel
theorem dL_law__707 : decode cL_law_ 707 = .ok (.iconst 1, 1) := by decide +kernel
theorem dL_law__708 : decode cL_law_ 708 = .ok (.iadd, 1) := by decide +kernel
theorem dL_law__709 : decode cL_law_ 709 = .ok (.iaload, 1) := by decide +kernel
theorem dL_law__710 : decode cL_law_ 710 = .ok (.aload_n 0, 1) := by decide +kernel
theorem dL_law__711 : decode cL_law_ 711 = .ok (.iload 4, 2) := by decide +kernel
theorem dL_law__713 : decode cL_law_ 713 = .ok (.iconst 2, 1) := by decide +kernel
theorem dL_law__714 : decode cL_law_ 714 = .ok (.iadd, 1) := by decide +kernel
theorem dL_law__715 : decode cL_law_ 715 = .ok (.iaload, 1) := by decide +kernel
theorem dL_law__716 : decode cL_law_ 716 = .ok (.aload_n 3, 1) := by decide +kernel
theorem dL_law__717 : decode cL_law_ 717 = .ok (.invokestatic 165, 3) := by decide +kernel
theorem dL_law__720 : decode cL_law_ 720 = .ok (.istore 5, 2) := by decide +kernel
theorem dL_law__722 : decode cL_law_ 722 = .ok (.aload_n 2, 1) := by decide +kernel
theorem dL_law__723 : decode cL_law_ 723 = .ok (.aload_n 0, 1) := by decide +kernel
theorem dL_law__724 : decode cL_law_ 724 = .ok (.iload 4, 2) := by decide +kernel
theorem dL_law__726 : decode cL_law_ 726 = .ok (.iconst 1, 1) := by decide +kernel
theorem dL_law__727 : decode cL_law_ 727 = .ok (.iadd, 1) := by decide +kernel
theorem dL_law__728 : decode cL_law_ 728 = .ok (.iaload, 1) := by decide +kernel
theorem dL_law__729 : decode cL_law_ 729 = .ok (.aload_n 0, 1) := by decide +kernel
theorem dL_law__730 : decode cL_law_ 730 = .ok (.iload 4, 2) := by decide +kernel
theorem dL_law__732 : decode cL_law_ 732 = .ok (.iconst 2, 1) := by decide +kernel
theorem dL_law__733 : decode cL_law_ 733 = .ok (.iadd, 1) := by decide +kernel
theorem dL_law__734 : decode cL_law_ 734 = .ok (.iaload, 1) := by decide +kernel
theorem dL_law__735 : decode cL_law_ 735 = .ok (.invokevirtual 167, 3) := by decide +kernel
theorem dL_law__738 : decode cL_law_ 738 = .ok (.istore 6, 2) := by decide +kernel
theorem dL_law__740 : decode cL_law_ 740 = .ok (.aload_n 2, 1) := by decide +kernel
theorem dL_law__741 : decode cL_law_ 741 = .ok (.invokevirtual 142, 3) := by decide +kernel
theorem dL_law__744 : decode cL_law_ 744 = .ok (.iload 5, 2) := by decide +kernel
theorem dL_law__746 : decode cL_law_ 746 = .ok (.if_icmp .eq 5, 3) := by decide +kernel
theorem dL_law__749 : decode cL_law_ 749 = .ok (.iconst 0, 1) := by decide +kernel
theorem dL_law__750 : decode cL_law_ 750 = .ok (.ireturn, 1) := by decide +kernel
theorem dL_law__751 : decode cL_law_ 751 = .ok (.iload 5, 2) := by decide +kernel
theorem dL_law__753 : decode cL_law_ 753 = .ok (.ifCond .ne 15, 3) := by decide +kernel
theorem dL_law__756 : decode cL_law_ 756 = .ok (.aload_n 3, 1) := by decide +kernel
theorem dL_law__757 : decode cL_law_ 757 = .ok (.iconst 0, 1) := by decide +kernel
theorem dL_law__758 : decode cL_law_ 758 = .ok (.laload, 1) := by decide +kernel
theorem dL_law__759 : decode cL_law_ 759 = .ok (.iload 6, 2) := by decide +kernel
theorem dL_law__761 : decode cL_law_ 761 = .ok (.i2l, 1) := by decide +kernel
theorem dL_law__762 : decode cL_law_ 762 = .ok (.lcmp, 1) := by decide +kernel
theorem dL_law__763 : decode cL_law_ 763 = .ok (.ifCond .eq 5, 3) := by decide +kernel
theorem dL_law__766 : decode cL_law_ 766 = .ok (.iconst 0, 1) := by decide +kernel
theorem dL_law__767 : decode cL_law_ 767 = .ok (.ireturn, 1) := by decide +kernel
theorem dL_law__768 : decode cL_law_ 768 = .ok (.goto 2030, 3) := by decide +kernel
theorem dL_law__771 : decode cL_law_ 771 = .ok (.aload_n 1, 1) := by decide +kernel
theorem dL_law__772 : decode cL_law_ 772 = .ok (.aload_n 0, 1) := by decide +kernel
theorem dL_law__773 : decode cL_law_ 773 = .ok (.iload 4, 2) := by decide +kernel
theorem dL_law__775 : decode cL_law_ 775 = .ok (.iconst 1, 1) := by decide +kernel
theorem dL_law__776 : decode cL_law_ 776 = .ok (.iadd, 1) := by decide +kernel
theorem dL_law__777 : decode cL_law_ 777 = .ok (.iaload, 1) := by decide +kernel
theorem dL_law__778 : decode cL_law_ 778 = .ok (.aload_n 0, 1) := by decide +kernel
theorem dL_law__779 : decode cL_law_ 779 = .ok (.iload 4, 2) := by decide +kernel
theorem dL_law__781 : decode cL_law_ 781 = .ok (.iconst 2, 1) := by decide +kernel
theorem dL_law__782 : decode cL_law_ 782 = .ok (.iadd, 1) := by decide +kernel
theorem dL_law__783 : decode cL_law_ 783 = .ok (.iaload, 1) := by decide +kernel
theorem dL_law__784 : decode cL_law_ 784 = .ok (.aload_n 3, 1) := by decide +kernel
theorem dL_law__785 : decode cL_law_ 785 = .ok (.invokestatic 168, 3) := by decide +kernel
theorem dL_law__788 : decode cL_law_ 788 = .ok (.istore 5, 2) := by decide +kernel
theorem dL_law__790 : decode cL_law_ 790 = .ok (.aload_n 2, 1) := by decide +kernel
theorem dL_law__791 : decode cL_law_ 791 = .ok (.aload_n 0, 1) := by decide +kernel
theorem dL_law__792 : decode cL_law_ 792 = .ok (.iload 4, 2) := by decide +kernel
theorem dL_law__794 : decode cL_law_ 794 = .ok (.iconst 1, 1) := by decide +kernel
theorem dL_law__795 : decode cL_law_ 795 = .ok (.iadd, 1) := by decide +kernel
theorem dL_law__796 : decode cL_law_ 796 = .ok (.iaload, 1) := by decide +kernel
theorem dL_law__797 : decode cL_law_ 797 = .ok (.aload_n 0, 1) := by decide +kernel
theorem dL_law__798 : decode cL_law_ 798 = .ok (.iload 4, 2) := by decide +kernel
theorem dL_law__800 : decode cL_law_ 800 = .ok (.iconst 2, 1) := by decide +kernel
theorem dL_law__801 : decode cL_law_ 801 = .ok (.iadd, 1) := by decide +kernel
theorem dL_law__802 : decode cL_law_ 802 = .ok (.iaload, 1) := by decide +kernel
theorem dL_law__803 : decode cL_law_ 803 = .ok (.invokevirtual 170, 3) := by decide +kernel
theorem dL_law__806 : decode cL_law_ 806 = .ok (.istore 6, 2) := by decide +kernel
theorem dL_law__808 : decode cL_law_ 808 = .ok (.aload_n 2, 1) := by decide +kernel
theorem dL_law__809 : decode cL_law_ 809 = .ok (.invokevirtual 142, 3) := by decide +kernel
theorem dL_law__812 : decode cL_law_ 812 = .ok (.iload 5, 2) := by decide +kernel
theorem dL_law__814 : decode cL_law_ 814 = .ok (.if_icmp .eq 5, 3) := by decide +kernel
theorem dL_law__817 : decode cL_law_ 817 = .ok (.iconst 0, 1) := by decide +kernel
theorem dL_law__818 : decode cL_law_ 818 = .ok (.ireturn, 1) := by decide +kernel
theorem dL_law__819 : decode cL_law_ 819 = .ok (.iload 5, 2) := by decide +kernel
theorem dL_law__821 : decode cL_law_ 821 = .ok (.ifCond .ne 15, 3) := by decide +kernel
theorem dL_law__824 : decode cL_law_ 824 = .ok (.aload_n 3, 1) := by decide +kernel
theorem dL_law__825 : decode cL_law_ 825 = .ok (.iconst 0, 1) := by decide +kernel
theorem dL_law__826 : decode cL_law_ 826 = .ok (.laload, 1) := by decide +kernel
theorem dL_law__827 : decode cL_law_ 827 = .ok (.iload 6, 2) := by decide +kernel
theorem dL_law__829 : decode cL_law_ 829 = .ok (.i2l, 1) := by decide +kernel
theorem dL_law__830 : decode cL_law_ 830 = .ok (.lcmp, 1) := by decide +kernel
theorem dL_law__831 : decode cL_law_ 831 = .ok (.ifCond .eq 5, 3) := by decide +kernel
theorem dL_law__834 : decode cL_law_ 834 = .ok (.iconst 0, 1) := by decide +kernel
theorem dL_law__835 : decode cL_law_ 835 = .ok (.ireturn, 1) := by decide +kernel
theorem dL_law__836 : decode cL_law_ 836 = .ok (.goto 1962, 3) := by decide +kernel
theorem dL_law__839 : decode cL_law_ 839 = .ok (.aload_n 1, 1) := by decide +kernel
theorem dL_law__840 : decode cL_law_ 840 = .ok (.aload_n 0, 1) := by decide +kernel
theorem dL_law__841 : decode cL_law_ 841 = .ok (.iload 4, 2) := by decide +kernel
theorem dL_law__843 : decode cL_law_ 843 = .ok (.iconst 1, 1) := by decide +kernel
theorem dL_law__844 : decode cL_law_ 844 = .ok (.iadd, 1) := by decide +kernel
theorem dL_law__845 : decode cL_law_ 845 = .ok (.iaload, 1) := by decide +kernel
