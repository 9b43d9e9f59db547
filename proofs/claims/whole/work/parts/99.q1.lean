/-! ===== what stands at each place: the law, 1 ===== -/
theorem dL_law__533 : decode cL_law_ 533 = .ok (.iload 5, 2) := by decide +kernel
theorem dL_law__535 : decode cL_law_ 535 = .ok (.ifCond .ne 15, 3) := by decide +kernel
theorem dL_law__538 : decode cL_law_ 538 = .ok (.aload_n 3, 1) := by decide +kernel
theorem dL_law__539 : decode cL_law_ 539 = .ok (.iconst 0, 1) := by decide +kernel
theorem dL_law__540 : decode cL_law_ 540 = .ok (.laload, 1) := by decide +kernel
theorem dL_law__541 : decode cL_law_ 541 = .ok (.iload 6, 2) := by decide +kernel
theorem dL_law__543 : decode cL_law_ 543 = .ok (.i2l, 1) := by decide +kernel
theorem dL_law__544 : decode cL_law_ 544 = .ok (.lcmp, 1) := by decide +kernel
theorem dL_law__545 : decode cL_law_ 545 = .ok (.ifCond .eq 5, 3) := by decide +kernel
theorem dL_law__548 : decode cL_law_ 548 = .ok (.iconst 0, 1) := by decide +kernel
theorem dL_law__549 : decode cL_law_ 549 = .ok (.ireturn, 1) := by decide +kernel
theorem dL_law__550 : decode cL_law_ 550 = .ok (.goto 2400, 3) := by decide +kernel
theorem dL_law__553 : decode cL_law_ 553 = .ok (.aload_n 1, 1) := by decide +kernel
theorem dL_law__554 : decode cL_law_ 554 = .ok (.invokevirtual 165, 3) := by decide +kernel
theorem dL_law__557 : decode cL_law_ 557 = .ok (.aload_n 2, 1) := by decide +kernel
theorem dL_law__558 : decode cL_law_ 558 = .ok (.invokevirtual 168, 3) := by decide +kernel
theorem dL_law__561 : decode cL_law_ 561 = .ok (.if_icmp .eq 2389, 3) := by decide +kernel
theorem dL_law__564 : decode cL_law_ 564 = .ok (.iconst 0, 1) := by decide +kernel
theorem dL_law__565 : decode cL_law_ 565 = .ok (.ireturn, 1) := by decide +kernel
theorem dL_law__566 : decode cL_law_ 566 = .ok (.aload_n 1, 1) := by decide +kernel
theorem dL_law__567 : decode cL_law_ 567 = .ok (.aload_n 0, 1) := by decide +kernel
theorem dL_law__568 : decode cL_law_ 568 = .ok (.iload 4, 2) := by decide +kernel
theorem dL_law__570 : decode cL_law_ 570 = .ok (.iconst 1, 1) := by decide +kernel
theorem dL_law__571 : decode cL_law_ 571 = .ok (.iadd, 1) := by decide +kernel
theorem dL_law__572 : decode cL_law_ 572 = .ok (.iaload, 1) := by decide +kernel
theorem dL_law__573 : decode cL_law_ 573 = .ok (.aload_n 3, 1) := by decide +kernel
theorem dL_law__574 : decode cL_law_ 574 = .ok (.invokestatic 169, 3) := by decide +kernel
theorem dL_law__577 : decode cL_law_ 577 = .ok (.istore 5, 2) := by decide +kernel
theorem dL_law__579 : decode cL_law_ 579 = .ok (.aload_n 2, 1) := by decide +kernel
theorem dL_law__580 : decode cL_law_ 580 = .ok (.aload_n 0, 1) := by decide +kernel
theorem dL_law__581 : decode cL_law_ 581 = .ok (.iload 4, 2) := by decide +kernel
theorem dL_law__583 : decode cL_law_ 583 = .ok (.iconst 1, 1) := by decide +kernel
theorem dL_law__584 : decode cL_law_ 584 = .ok (.iadd, 1) := by decide +kernel
theorem dL_law__585 : decode cL_law_ 585 = .ok (.iaload, 1) := by decide +kernel
theorem dL_law__586 : decode cL_law_ 586 = .ok (.invokevirtual 171, 3) := by decide +kernel
theorem dL_law__589 : decode cL_law_ 589 = .ok (.istore 6, 2) := by decide +kernel
theorem dL_law__591 : decode cL_law_ 591 = .ok (.aload_n 2, 1) := by decide +kernel
theorem dL_law__592 : decode cL_law_ 592 = .ok (.invokevirtual 152, 3) := by decide +kernel
theorem dL_law__595 : decode cL_law_ 595 = .ok (.iload 5, 2) := by decide +kernel
theorem dL_law__597 : decode cL_law_ 597 = .ok (.if_icmp .eq 5, 3) := by decide +kernel
theorem dL_law__600 : decode cL_law_ 600 = .ok (.iconst 0, 1) := by decide +kernel
theorem dL_law__601 : decode cL_law_ 601 = .ok (.ireturn, 1) := by decide +kernel
theorem dL_law__602 : decode cL_law_ 602 = .ok (.iload 5, 2) := by decide +kernel
theorem dL_law__604 : decode cL_law_ 604 = .ok (.ifCond .ne 15, 3) := by decide +kernel
theorem dL_law__607 : decode cL_law_ 607 = .ok (.aload_n 3, 1) := by decide +kernel
theorem dL_law__608 : decode cL_law_ 608 = .ok (.iconst 0, 1) := by decide +kernel
theorem dL_law__609 : decode cL_law_ 609 = .ok (.laload, 1) := by decide +kernel
theorem dL_law__610 : decode cL_law_ 610 = .ok (.iload 6, 2) := by decide +kernel
theorem dL_law__612 : decode cL_law_ 612 = .ok (.i2l, 1) := by decide +kernel
theorem dL_law__613 : decode cL_law_ 613 = .ok (.lcmp, 1) := by decide +kernel
theorem dL_law__614 : decode cL_law_ 614 = .ok (.ifCond .eq 5, 3) := by decide +kernel
theorem dL_law__617 : decode cL_law_ 617 = .ok (.iconst 0, 1) := by decide +kernel
theorem dL_law__618 : decode cL_law_ 618 = .ok (.ireturn, 1) := by decide +kernel
theorem dL_law__619 : decode cL_law_ 619 = .ok (.goto 2331, 3) := by decide +kernel
theorem dL_law__622 : decode cL_law_ 622 = .ok (.aload_n 1, 1) := by decide +kernel
theorem dL_law__623 : decode cL_law_ 623 = .ok (.aload_n 0, 1) := by decide +kernel
theorem dL_law__624 : decode cL_law_ 624 = .ok (.iload 4, 2) := by decide +kernel
theorem dL_law__626 : decode cL_law_ 626 = .ok (.iconst 1, 1) := by decide +kernel
theorem dL_law__627 : decode cL_law_ 627 = .ok (.iadd, 1) := by decide +kernel
theorem dL_law__628 : decode cL_law_ 628 = .ok (.iaload, 1) := by decide +kernel
theorem dL_law__629 : decode cL_law_ 629 = .ok (.aload_n 0, 1) := by decide +kernel
theorem dL_law__630 : decode cL_law_ 630 = .ok (.iload 4, 2) := by decide +kernel
theorem dL_law__632 : decode cL_law_ 632 = .ok (.iconst 2, 1) := by decide +kernel
theorem dL_law__633 : decode cL_law_ 633 = .ok (.iadd, 1) := by decide +kernel
theorem dL_law__634 : decode cL_law_ 634 = .ok (.iaload, 1) := by decide +kernel
theorem dL_law__635 : decode cL_law_ 635 = .ok (.aload_n 3, 1) := by decide +kernel
theorem dL_law__636 : decode cL_law_ 636 = .ok (.invokestatic 172, 3) := by decide +kernel
theorem dL_law__639 : decode cL_law_ 639 = .ok (.istore 5, 2) := by decide +kernel
theorem dL_law__641 : decode cL_law_ 641 = .ok (.aload_n 2, 1) := by decide +kernel
theorem dL_law__642 : decode cL_law_ 642 = .ok (.aload_n 0, 1) := by decide +kernel
theorem dL_law__643 : decode cL_law_ 643 = .ok (.iload 4, 2) := by decide +kernel
theorem dL_law__645 : decode cL_law_ 645 = .ok (.iconst 1, 1) := by decide +kernel
theorem dL_law__646 : decode cL_law_ 646 = .ok (.iadd, 1) := by decide +kernel
theorem dL_law__647 : decode cL_law_ 647 = .ok (.iaload, 1) := by decide +kernel
theorem dL_law__648 : decode cL_law_ 648 = .ok (.aload_n 0, 1) := by decide +kernel
theorem dL_law__649 : decode cL_law_ 649 = .ok (.iload 4, 2) := by decide +kernel
theorem dL_law__651 : decode cL_law_ 651 = .ok (.iconst 2, 1) := by decide +kernel
theorem dL_law__652 : decode cL_law_ 652 = .ok (.iadd, 1) := by decide +kernel
theorem dL_law__653 : decode cL_law_ 653 = .ok (.iaload, 1) := by decide +kernel
theorem dL_law__654 : decode cL_law_ 654 = .ok (.invokevirtual 174, 3) := by decide +kernel
theorem dL_law__657 : decode cL_law_ 657 = .ok (.istore 6, 2) := by decide +kernel
theorem dL_law__659 : decode cL_law_ 659 = .ok (.aload_n 2, 1) := by decide +kernel
theorem dL_law__660 : decode cL_law_ 660 = .ok (.invokevirtual 152, 3) := by decide +kernel
theorem dL_law__663 : decode cL_law_ 663 = .ok (.iload 5, 2) := by decide +kernel
theorem dL_law__665 : decode cL_law_ 665 = .ok (.if_icmp .eq 5, 3) := by decide +kernel
theorem dL_law__668 : decode cL_law_ 668 = .ok (.iconst 0, 1) := by decide +kernel
theorem dL_law__669 : decode cL_law_ 669 = .ok (.ireturn, 1) := by decide +kernel
theorem dL_law__670 : decode cL_law_ 670 = .ok (.iload 5, 2) := by decide +kernel
theorem dL_law__672 : decode cL_law_ 672 = .ok (.ifCond .ne 15, 3) := by decide +kernel
theorem dL_law__675 : decode cL_law_ 675 = .ok (.aload_n 3, 1) := by decide +kernel
theorem dL_law__676 : decode cL_law_ 676 = .ok (.iconst 0, 1) := by decide +kernel
theorem dL_law__677 : decode cL_law_ 677 = .ok (.laload, 1) := by decide +kernel
theorem dL_law__678 : decode cL_law_ 678 = .ok (.iload 6, 2) := by decide +kernel
theorem dL_law__680 : decode cL_law_ 680 = .ok (.i2l, 1) := by decide +kernel
theorem dL_law__681 : decode cL_law_ 681 = .ok (.lcmp, 1) := by decide +kernel
theorem dL_law__682 : decode cL_law_ 682 = .ok (.ifCond .eq 5, 3) := by decide +kernel
theorem dL_law__685 : decode cL_law_ 685 = .ok (.iconst 0, 1) := by decide +kernel
theorem dL_law__686 : decode cL_law_ 686 = .ok (.ireturn, 1) := by decide +kernel
theorem dL_law__687 : decode cL_law_ 687 = .ok (.goto 2263, 3) := by decide +kernel
theorem dL_law__690 : decode cL_law_ 690 = .ok (.aload_n 1, 1) := by decide +kernel
theorem dL_law__691 : decode cL_law_ 691 = .ok (.aload_n 0, 1) := by decide +kernel
theorem dL_law__692 : decode cL_law_ 692 = .ok (.iload 4, 2) := by decide +kernel
theorem dL_law__694 : decode cL_law_ 694 = .ok (.iconst 1, 1) := by decide +kernel
theorem dL_law__695 : decode cL_law_ 695 = .ok (.iadd, 1) := by decide +kernel
theorem dL_law__696 : decode cL_law_ 696 = .ok (.iaload, 1) := by decide +kernel
theorem dL_law__697 : decode cL_law_ 697 = .ok (.aload_n 0, 1) := by decide +kernel
theorem dL_law__698 : decode cL_law_ 698 = .ok (.iload 4, 2) := by decide +kernel
theorem dL_law__700 : decode cL_law_ 700 = .ok (.iconst 2, 1) := by decide +kernel
theorem dL_law__701 : decode cL_law_ 701 = .ok (.iadd, 1) := by decide +kernel
theorem dL_law__702 : decode cL_law_ 702 = .ok (.iaload, 1) := by decide +kernel
theorem dL_law__703 : decode cL_law_ 703 = .ok (.aload_n 3, 1) := by decide +kernel
theorem dL_law__704 : decode cL_law_ 704 = .ok (.invokestatic 175, 3) := by decide +kernel
theorem dL_law__707 : decode cL_law_ 707 = .ok (.istore 5, 2) := by decide +kernel
theorem dL_law__709 : decode cL_law_ 709 = .ok (.aload_n 2, 1) := by decide +kernel
theorem dL_law__710 : decode cL_law_ 710 = .ok (.aload_n 0, 1) := by decide +kernel
theorem dL_law__711 : decode cL_law_ 711 = .ok (.iload 4, 2) := by decide +kernel
theorem dL_law__713 : decode cL_law_ 713 = .ok (.iconst 1, 1) := by decide +kernel
theorem dL_law__714 : decode cL_law_ 714 = .ok (.iadd, 1) := by decide +kernel
theorem dL_law__715 : decode cL_law_ 715 = .ok (.iaload, 1) := by decide +kernel
theorem dL_law__716 : decode cL_law_ 716 = .ok (.aload_n 0, 1) := by decide +kernel
theorem dL_law__717 : decode cL_law_ 717 = .ok (.iload 4, 2) := by decide +kernel
theorem dL_law__719 : decode cL_law_ 719 = .ok (.iconst 2, 1) := by decide +kernel
theorem dL_law__720 : decode cL_law_ 720 = .ok (.iadd, 1) := by decide +kernel
theorem dL_law__721 : decode cL_law_ 721 = .ok (.iaload, 1) := by decide +kernel
theorem dL_law__722 : decode cL_law_ 722 = .ok (.invokevirtual 177, 3) := by decide +kernel
theorem dL_law__725 : decode cL_law_ 725 = .ok (.istore 6, 2) := by decide +kernel
theorem dL_law__727 : decode cL_law_ 727 = .ok (.aload_n 2, 1) := by decide +kernel
theorem dL_law__728 : decode cL_law_ 728 = .ok (.invokevirtual 152, 3) := by decide +kernel
theorem dL_law__731 : decode cL_law_ 731 = .ok (.iload 5, 2) := by decide +kernel
theorem dL_law__733 : decode cL_law_ 733 = .ok (.if_icmp .eq 5, 3) := by decide +kernel
theorem dL_law__736 : decode cL_law_ 736 = .ok (.iconst 0, 1) := by decide +kernel
theorem dL_law__737 : decode cL_law_ 737 = .ok (.ireturn, 1) := by decide +kernel
theorem dL_law__738 : decode cL_law_ 738 = .ok (.iload 5, 2) := by decide +kernel
theorem dL_law__740 : decode cL_law_ 740 = .ok (.ifCond .ne 15, 3) := by decide +kernel
theorem dL_law__743 : decode cL_law_ 743 = .ok (.aload_n 3, 1) := by decide +kernel
theorem dL_law__744 : decode cL_law_ 744 = .ok (.iconst 0, 1) := by decide +kernel
theorem dL_law__745 : decode cL_law_ 745 = .ok (.laload, 1) := by decide +kernel
theorem dL_law__746 : decode cL_law_ 746 = .ok (.iload 6, 2) := by decide +kernel
theorem dL_law__748 : decode cL_law_ 748 = .ok (.i2l, 1) := by decide +kernel
theorem dL_law__749 : decode cL_law_ 749 = .ok (.lcmp, 1) := by decide +kernel
theorem dL_law__750 : decode cL_law_ 750 = .ok (.ifCond .eq 5, 3) := by decide +kernel
theorem dL_law__753 : decode cL_law_ 753 = .ok (.iconst 0, 1) := by decide +kernel
theorem dL_law__754 : decode cL_law_ 754 = .ok (.ireturn, 1) := by decide +kernel
theorem dL_law__755 : decode cL_law_ 755 = .ok (.goto 2195, 3) := by decide +kernel
theorem dL_law__758 : decode cL_law_ 758 = .ok (.aload_n 1, 1) := by decide +kernel
theorem dL_law__759 : decode cL_law_ 759 = .ok (.invokevirtual 178, 3) := by decide +kernel
theorem dL_law__762 : decode cL_law_ 762 = .ok (.aload_n 2, 1) := by decide +kernel
theorem dL_law__763 : decode cL_law_ 763 = .ok (.invokevirtual 181, 3) := by decide +kernel
theorem dL_law__766 : decode cL_law_ 766 = .ok (.if_icmp .eq 2184, 3) := by decide +kernel
theorem dL_law__769 : decode cL_law_ 769 = .ok (.iconst 0, 1) := by decide +kernel
theorem dL_law__770 : decode cL_law_ 770 = .ok (.ireturn, 1) := by decide +kernel
theorem dL_law__771 : decode cL_law_ 771 = .ok (.aload_n 1, 1) := by decide +kernel
theorem dL_law__772 : decode cL_law_ 772 = .ok (.aload_n 0, 1) := by decide +kernel
theorem dL_law__773 : decode cL_law_ 773 = .ok (.iload 4, 2) := by decide +kernel
theorem dL_law__775 : decode cL_law_ 775 = .ok (.iconst 1, 1) := by decide +kernel
theorem dL_law__776 : decode cL_law_ 776 = .ok (.iadd, 1) := by decide +kernel
theorem dL_law__777 : decode cL_law_ 777 = .ok (.iaload, 1) := by decide +kernel
theorem dL_law__778 : decode cL_law_ 778 = .ok (.aload_n 0, 1) := by decide +kernel
theorem dL_law__779 : decode cL_law_ 779 = .ok (.iload 4, 2) := by decide +kernel
theorem dL_law__781 : decode cL_law_ 781 = .ok (.iconst 2, 1) := by decide +kernel
theorem dL_law__782 : decode cL_law_ 782 = .ok (.iadd, 1) := by decide +kernel
theorem dL_law__783 : decode cL_law_ 783 = .ok (.iaload, 1) := by decide +kernel
theorem dL_law__784 : decode cL_law_ 784 = .ok (.aload_n 0, 1) := by decide +kernel
theorem dL_law__785 : decode cL_law_ 785 = .ok (.iload 4, 2) := by decide +kernel
theorem dL_law__787 : decode cL_law_ 787 = .ok (.iconst 3, 1) := by decide +kernel
theorem dL_law__788 : decode cL_law_ 788 = .ok (.iadd, 1) := by decide +kernel
theorem dL_law__789 : decode cL_law_ 789 = .ok (.iaload, 1) := by decide +kernel
theorem dL_law__790 : decode cL_law_ 790 = .ok (.aload_n 3, 1) := by decide +kernel
theorem dL_law__791 : decode cL_law_ 791 = .ok (.invokestatic 182, 3) := by decide +kernel
theorem dL_law__794 : decode cL_law_ 794 = .ok (.istore 5, 2) := by decide +kernel
theorem dL_law__796 : decode cL_law_ 796 = .ok (.aload_n 2, 1) := by decide +kernel
theorem dL_law__797 : decode cL_law_ 797 = .ok (.aload_n 0, 1) := by decide +kernel
theorem dL_law__798 : decode cL_law_ 798 = .ok (.iload 4, 2) := by decide +kernel
theorem dL_law__800 : decode cL_law_ 800 = .ok (.iconst 1, 1) := by decide +kernel
theorem dL_law__801 : decode cL_law_ 801 = .ok (.iadd, 1) := by decide +kernel
theorem dL_law__802 : decode cL_law_ 802 = .ok (.iaload, 1) := by decide +kernel
theorem dL_law__803 : decode cL_law_ 803 = .ok (.aload_n 0, 1) := by decide +kernel
theorem dL_law__804 : decode cL_law_ 804 = .ok (.iload 4, 2) := by decide +kernel
theorem dL_law__806 : decode cL_law_ 806 = .ok (.iconst 2, 1) := by decide +kernel
theorem dL_law__807 : decode cL_law_ 807 = .ok (.iadd, 1) := by decide +kernel
theorem dL_law__808 : decode cL_law_ 808 = .ok (.iaload, 1) := by decide +kernel
theorem dL_law__809 : decode cL_law_ 809 = .ok (.aload_n 0, 1) := by decide +kernel
theorem dL_law__810 : decode cL_law_ 810 = .ok (.iload 4, 2) := by decide +kernel
theorem dL_law__812 : decode cL_law_ 812 = .ok (.iconst 3, 1) := by decide +kernel
theorem dL_law__813 : decode cL_law_ 813 = .ok (.iadd, 1) := by decide +kernel
theorem dL_law__814 : decode cL_law_ 814 = .ok (.iaload, 1) := by decide +kernel
theorem dL_law__815 : decode cL_law_ 815 = .ok (.invokevirtual 185, 3) := by decide +kernel
theorem dL_law__818 : decode cL_law_ 818 = .ok (.istore 6, 2) := by decide +kernel
theorem dL_law__820 : decode cL_law_ 820 = .ok (.aload_n 2, 1) := by decide +kernel
theorem dL_law__821 : decode cL_law_ 821 = .ok (.invokevirtual 152, 3) := by decide +kernel
theorem dL_law__824 : decode cL_law_ 824 = .ok (.iload 5, 2) := by decide +kernel
theorem dL_law__826 : decode cL_law_ 826 = .ok (.if_icmp .eq 5, 3) := by decide +kernel
theorem dL_law__829 : decode cL_law_ 829 = .ok (.iconst 0, 1) := by decide +kernel
theorem dL_law__830 : decode cL_law_ 830 = .ok (.ireturn, 1) := by decide +kernel
theorem dL_law__831 : decode cL_law_ 831 = .ok (.iload 5, 2) := by decide +kernel
theorem dL_law__833 : decode cL_law_ 833 = .ok (.ifCond .ne 15, 3) := by decide +kernel
theorem dL_law__836 : decode cL_law_ 836 = .ok (.aload_n 3, 1) := by decide +kernel
theorem dL_law__837 : decode cL_law_ 837 = .ok (.iconst 0, 1) := by decide +kernel
theorem dL_law__838 : decode cL_law_ 838 = .ok (.laload, 1) := by decide +kernel
theorem dL_law__839 : decode cL_law_ 839 = .ok (.iload 6, 2) := by decide +kernel
theorem dL_law__841 : decode cL_law_ 841 = .ok (.i2l, 1) := by decide +kernel
theorem dL_law__842 : decode cL_law_ 842 = .ok (.lcmp, 1) := by decide +kernel
theorem dL_law__843 : decode cL_law_ 843 = .ok (.ifCond .eq 5, 3) := by decide +kernel
theorem dL_law__846 : decode cL_law_ 846 = .ok (.iconst 0, 1) := by decide +kernel
theorem dL_law__847 : decode cL_law_ 847 = .ok (.ireturn, 1) := by decide +kernel
theorem dL_law__848 : decode cL_law_ 848 = .ok (.goto 2102, 3) := by decide +kernel
theorem dL_law__851 : decode cL_law_ 851 = .ok (.aload_n 1, 1) := by decide +kernel
theorem dL_law__852 : decode cL_law_ 852 = .ok (.invokevirtual 186, 3) := by decide +kernel
theorem dL_law__855 : decode cL_law_ 855 = .ok (.aload_n 2, 1) := by decide +kernel
theorem dL_law__856 : decode cL_law_ 856 = .ok (.invokevirtual 189, 3) := by decide +kernel
theorem dL_law__859 : decode cL_law_ 859 = .ok (.if_icmp .eq 2091, 3) := by decide +kernel
theorem dL_law__862 : decode cL_law_ 862 = .ok (.iconst 0, 1) := by decide +kernel
theorem dL_law__863 : decode cL_law_ 863 = .ok (.ireturn, 1) := by decide +kernel
theorem dL_law__864 : decode cL_law_ 864 = .ok (.aload_n 1, 1) := by decide +kernel
theorem dL_law__865 : decode cL_law_ 865 = .ok (.aload_n 0, 1) := by decide +kernel
theorem dL_law__866 : decode cL_law_ 866 = .ok (.iload 4, 2) := by decide +kernel
theorem dL_law__868 : decode cL_law_ 868 = .ok (.iconst 1, 1) := by decide +kernel
theorem dL_law__869 : decode cL_law_ 869 = .ok (.iadd, 1) := by decide +kernel
theorem dL_law__870 : decode cL_law_ 870 = .ok (.iaload, 1) := by decide +kernel
theorem dL_law__871 : decode cL_law_ 871 = .ok (.aload_n 3, 1) := by decide +kernel

