/-! THE LAW 1: its instructions -/
theorem dL_541 : decode code 541 = .ok (.aload_n 0, 1) := by decide +kernel
theorem dL_542 : decode code 542 = .ok (.iload_n 3, 1) := by decide +kernel
theorem dL_543 : decode code 543 = .ok (.iconst 1, 1) := by decide +kernel
theorem dL_544 : decode code 544 = .ok (.iadd, 1) := by decide +kernel
theorem dL_545 : decode code 545 = .ok (.iaload, 1) := by decide +kernel
theorem dL_546 : decode code 546 = .ok (.aload_n 0, 1) := by decide +kernel
theorem dL_547 : decode code 547 = .ok (.iload_n 3, 1) := by decide +kernel
theorem dL_548 : decode code 548 = .ok (.iconst 2, 1) := by decide +kernel
theorem dL_549 : decode code 549 = .ok (.iadd, 1) := by decide +kernel
theorem dL_550 : decode code 550 = .ok (.iaload, 1) := by decide +kernel
theorem dL_551 : decode code 551 = .ok (.aload_n 0, 1) := by decide +kernel
theorem dL_552 : decode code 552 = .ok (.iload_n 3, 1) := by decide +kernel
theorem dL_553 : decode code 553 = .ok (.iconst 3, 1) := by decide +kernel
theorem dL_554 : decode code 554 = .ok (.iadd, 1) := by decide +kernel
theorem dL_555 : decode code 555 = .ok (.iaload, 1) := by decide +kernel
theorem dL_556 : decode code 556 = .ok (.aload_n 0, 1) := by decide +kernel
theorem dL_557 : decode code 557 = .ok (.iload_n 3, 1) := by decide +kernel
theorem dL_558 : decode code 558 = .ok (.iconst 4, 1) := by decide +kernel
theorem dL_559 : decode code 559 = .ok (.iadd, 1) := by decide +kernel
theorem dL_560 : decode code 560 = .ok (.iaload, 1) := by decide +kernel
theorem dL_561 : decode code 561 = .ok (.aload_n 0, 1) := by decide +kernel
theorem dL_562 : decode code 562 = .ok (.iload_n 3, 1) := by decide +kernel
theorem dL_563 : decode code 563 = .ok (.iconst 5, 1) := by decide +kernel
theorem dL_564 : decode code 564 = .ok (.iadd, 1) := by decide +kernel
theorem dL_565 : decode code 565 = .ok (.iaload, 1) := by decide +kernel
theorem dL_566 : decode code 566 = .ok (.aload_n 0, 1) := by decide +kernel
theorem dL_567 : decode code 567 = .ok (.iload_n 3, 1) := by decide +kernel
theorem dL_568 : decode code 568 = .ok (.bipush 6, 2) := by decide +kernel
theorem dL_570 : decode code 570 = .ok (.iadd, 1) := by decide +kernel
theorem dL_571 : decode code 571 = .ok (.iaload, 1) := by decide +kernel
theorem dL_572 : decode code 572 = .ok (.invokevirtual 73, 3) := by decide +kernel
theorem dL_575 : decode code 575 = .ok (.if_icmp .eq 657, 3) := by decide +kernel
theorem dL_580 : decode code 580 = .ok (.aload_n 1, 1) := by decide +kernel
theorem dL_581 : decode code 581 = .ok (.aload_n 0, 1) := by decide +kernel
theorem dL_582 : decode code 582 = .ok (.iload_n 3, 1) := by decide +kernel
theorem dL_583 : decode code 583 = .ok (.iconst 1, 1) := by decide +kernel
theorem dL_584 : decode code 584 = .ok (.iadd, 1) := by decide +kernel
theorem dL_585 : decode code 585 = .ok (.iaload, 1) := by decide +kernel
theorem dL_586 : decode code 586 = .ok (.aload_n 0, 1) := by decide +kernel
theorem dL_587 : decode code 587 = .ok (.iload_n 3, 1) := by decide +kernel
theorem dL_588 : decode code 588 = .ok (.iconst 2, 1) := by decide +kernel
theorem dL_589 : decode code 589 = .ok (.iadd, 1) := by decide +kernel
theorem dL_590 : decode code 590 = .ok (.iaload, 1) := by decide +kernel
theorem dL_591 : decode code 591 = .ok (.invokevirtual 74, 3) := by decide +kernel
theorem dL_594 : decode code 594 = .ok (.aload_n 2, 1) := by decide +kernel
theorem dL_595 : decode code 595 = .ok (.aload_n 0, 1) := by decide +kernel
theorem dL_596 : decode code 596 = .ok (.iload_n 3, 1) := by decide +kernel
theorem dL_597 : decode code 597 = .ok (.iconst 1, 1) := by decide +kernel
theorem dL_598 : decode code 598 = .ok (.iadd, 1) := by decide +kernel
theorem dL_599 : decode code 599 = .ok (.iaload, 1) := by decide +kernel
theorem dL_600 : decode code 600 = .ok (.aload_n 0, 1) := by decide +kernel
theorem dL_601 : decode code 601 = .ok (.iload_n 3, 1) := by decide +kernel
theorem dL_602 : decode code 602 = .ok (.iconst 2, 1) := by decide +kernel
theorem dL_603 : decode code 603 = .ok (.iadd, 1) := by decide +kernel
theorem dL_604 : decode code 604 = .ok (.iaload, 1) := by decide +kernel
theorem dL_605 : decode code 605 = .ok (.invokevirtual 77, 3) := by decide +kernel
theorem dL_608 : decode code 608 = .ok (.if_icmp .eq 624, 3) := by decide +kernel
theorem dL_613 : decode code 613 = .ok (.aload_n 1, 1) := by decide +kernel
theorem dL_614 : decode code 614 = .ok (.aload_n 0, 1) := by decide +kernel
theorem dL_615 : decode code 615 = .ok (.iload_n 3, 1) := by decide +kernel
theorem dL_616 : decode code 616 = .ok (.iconst 1, 1) := by decide +kernel
theorem dL_617 : decode code 617 = .ok (.iadd, 1) := by decide +kernel
theorem dL_618 : decode code 618 = .ok (.iaload, 1) := by decide +kernel
theorem dL_619 : decode code 619 = .ok (.aload_n 0, 1) := by decide +kernel
theorem dL_620 : decode code 620 = .ok (.iload_n 3, 1) := by decide +kernel
theorem dL_621 : decode code 621 = .ok (.iconst 2, 1) := by decide +kernel
theorem dL_622 : decode code 622 = .ok (.iadd, 1) := by decide +kernel
theorem dL_623 : decode code 623 = .ok (.iaload, 1) := by decide +kernel
theorem dL_624 : decode code 624 = .ok (.aload_n 0, 1) := by decide +kernel
theorem dL_625 : decode code 625 = .ok (.iload_n 3, 1) := by decide +kernel
theorem dL_626 : decode code 626 = .ok (.iconst 3, 1) := by decide +kernel
theorem dL_627 : decode code 627 = .ok (.iadd, 1) := by decide +kernel
theorem dL_628 : decode code 628 = .ok (.iaload, 1) := by decide +kernel
theorem dL_629 : decode code 629 = .ok (.aload_n 0, 1) := by decide +kernel
theorem dL_630 : decode code 630 = .ok (.iload_n 3, 1) := by decide +kernel
theorem dL_631 : decode code 631 = .ok (.iconst 4, 1) := by decide +kernel
theorem dL_632 : decode code 632 = .ok (.iadd, 1) := by decide +kernel
theorem dL_633 : decode code 633 = .ok (.iaload, 1) := by decide +kernel
theorem dL_634 : decode code 634 = .ok (.invokevirtual 78, 3) := by decide +kernel
theorem dL_637 : decode code 637 = .ok (.aload_n 2, 1) := by decide +kernel
theorem dL_638 : decode code 638 = .ok (.aload_n 0, 1) := by decide +kernel
theorem dL_639 : decode code 639 = .ok (.iload_n 3, 1) := by decide +kernel
theorem dL_640 : decode code 640 = .ok (.iconst 1, 1) := by decide +kernel
theorem dL_641 : decode code 641 = .ok (.iadd, 1) := by decide +kernel
theorem dL_642 : decode code 642 = .ok (.iaload, 1) := by decide +kernel
theorem dL_643 : decode code 643 = .ok (.aload_n 0, 1) := by decide +kernel
theorem dL_644 : decode code 644 = .ok (.iload_n 3, 1) := by decide +kernel
theorem dL_645 : decode code 645 = .ok (.iconst 2, 1) := by decide +kernel
theorem dL_646 : decode code 646 = .ok (.iadd, 1) := by decide +kernel
theorem dL_647 : decode code 647 = .ok (.iaload, 1) := by decide +kernel
theorem dL_648 : decode code 648 = .ok (.aload_n 0, 1) := by decide +kernel
theorem dL_649 : decode code 649 = .ok (.iload_n 3, 1) := by decide +kernel
theorem dL_650 : decode code 650 = .ok (.iconst 3, 1) := by decide +kernel
theorem dL_651 : decode code 651 = .ok (.iadd, 1) := by decide +kernel
theorem dL_652 : decode code 652 = .ok (.iaload, 1) := by decide +kernel
theorem dL_653 : decode code 653 = .ok (.aload_n 0, 1) := by decide +kernel
theorem dL_654 : decode code 654 = .ok (.iload_n 3, 1) := by decide +kernel
theorem dL_655 : decode code 655 = .ok (.iconst 4, 1) := by decide +kernel
theorem dL_656 : decode code 656 = .ok (.iadd, 1) := by decide +kernel
theorem dL_657 : decode code 657 = .ok (.iaload, 1) := by decide +kernel
theorem dL_658 : decode code 658 = .ok (.invokevirtual 82, 3) := by decide +kernel
theorem dL_661 : decode code 661 = .ok (.if_icmp .eq 571, 3) := by decide +kernel
theorem dL_666 : decode code 666 = .ok (.aload_n 1, 1) := by decide +kernel
theorem dL_667 : decode code 667 = .ok (.aload_n 0, 1) := by decide +kernel
theorem dL_668 : decode code 668 = .ok (.iload_n 3, 1) := by decide +kernel
theorem dL_669 : decode code 669 = .ok (.iconst 1, 1) := by decide +kernel
theorem dL_670 : decode code 670 = .ok (.iadd, 1) := by decide +kernel
theorem dL_671 : decode code 671 = .ok (.iaload, 1) := by decide +kernel
theorem dL_672 : decode code 672 = .ok (.aload_n 0, 1) := by decide +kernel
theorem dL_673 : decode code 673 = .ok (.iload_n 3, 1) := by decide +kernel
theorem dL_674 : decode code 674 = .ok (.iconst 2, 1) := by decide +kernel
theorem dL_675 : decode code 675 = .ok (.iadd, 1) := by decide +kernel
theorem dL_676 : decode code 676 = .ok (.iaload, 1) := by decide +kernel
theorem dL_677 : decode code 677 = .ok (.aload_n 0, 1) := by decide +kernel
theorem dL_678 : decode code 678 = .ok (.iload_n 3, 1) := by decide +kernel
theorem dL_679 : decode code 679 = .ok (.iconst 3, 1) := by decide +kernel
theorem dL_680 : decode code 680 = .ok (.iadd, 1) := by decide +kernel
theorem dL_681 : decode code 681 = .ok (.iaload, 1) := by decide +kernel
theorem dL_682 : decode code 682 = .ok (.invokevirtual 83, 3) := by decide +kernel
theorem dL_685 : decode code 685 = .ok (.aload_n 2, 1) := by decide +kernel
theorem dL_686 : decode code 686 = .ok (.aload_n 0, 1) := by decide +kernel
theorem dL_687 : decode code 687 = .ok (.iload_n 3, 1) := by decide +kernel
theorem dL_688 : decode code 688 = .ok (.iconst 1, 1) := by decide +kernel
theorem dL_689 : decode code 689 = .ok (.iadd, 1) := by decide +kernel
theorem dL_690 : decode code 690 = .ok (.iaload, 1) := by decide +kernel
theorem dL_691 : decode code 691 = .ok (.aload_n 0, 1) := by decide +kernel
theorem dL_692 : decode code 692 = .ok (.iload_n 3, 1) := by decide +kernel
theorem dL_693 : decode code 693 = .ok (.iconst 2, 1) := by decide +kernel
theorem dL_694 : decode code 694 = .ok (.iadd, 1) := by decide +kernel
theorem dL_695 : decode code 695 = .ok (.iaload, 1) := by decide +kernel
theorem dL_696 : decode code 696 = .ok (.aload_n 0, 1) := by decide +kernel
theorem dL_697 : decode code 697 = .ok (.iload_n 3, 1) := by decide +kernel
theorem dL_698 : decode code 698 = .ok (.iconst 3, 1) := by decide +kernel
theorem dL_699 : decode code 699 = .ok (.iadd, 1) := by decide +kernel
theorem dL_700 : decode code 700 = .ok (.iaload, 1) := by decide +kernel
theorem dL_701 : decode code 701 = .ok (.invokevirtual 86, 3) := by decide +kernel
theorem dL_704 : decode code 704 = .ok (.if_icmp .eq 528, 3) := by decide +kernel
theorem dL_709 : decode code 709 = .ok (.aload_n 1, 1) := by decide +kernel
theorem dL_710 : decode code 710 = .ok (.aload_n 0, 1) := by decide +kernel
theorem dL_711 : decode code 711 = .ok (.iload_n 3, 1) := by decide +kernel
theorem dL_712 : decode code 712 = .ok (.iconst 1, 1) := by decide +kernel
theorem dL_713 : decode code 713 = .ok (.iadd, 1) := by decide +kernel
theorem dL_714 : decode code 714 = .ok (.iaload, 1) := by decide +kernel
theorem dL_715 : decode code 715 = .ok (.aload_n 0, 1) := by decide +kernel
theorem dL_716 : decode code 716 = .ok (.iload_n 3, 1) := by decide +kernel
theorem dL_717 : decode code 717 = .ok (.iconst 2, 1) := by decide +kernel
theorem dL_718 : decode code 718 = .ok (.iadd, 1) := by decide +kernel
theorem dL_719 : decode code 719 = .ok (.iaload, 1) := by decide +kernel
theorem dL_720 : decode code 720 = .ok (.aload_n 0, 1) := by decide +kernel
theorem dL_721 : decode code 721 = .ok (.iload_n 3, 1) := by decide +kernel
theorem dL_722 : decode code 722 = .ok (.iconst 3, 1) := by decide +kernel
theorem dL_723 : decode code 723 = .ok (.iadd, 1) := by decide +kernel
theorem dL_724 : decode code 724 = .ok (.iaload, 1) := by decide +kernel
theorem dL_725 : decode code 725 = .ok (.invokevirtual 87, 3) := by decide +kernel
theorem dL_728 : decode code 728 = .ok (.aload_n 2, 1) := by decide +kernel
theorem dL_729 : decode code 729 = .ok (.aload_n 0, 1) := by decide +kernel
theorem dL_730 : decode code 730 = .ok (.iload_n 3, 1) := by decide +kernel
theorem dL_731 : decode code 731 = .ok (.iconst 1, 1) := by decide +kernel
theorem dL_732 : decode code 732 = .ok (.iadd, 1) := by decide +kernel
theorem dL_733 : decode code 733 = .ok (.iaload, 1) := by decide +kernel
theorem dL_734 : decode code 734 = .ok (.aload_n 0, 1) := by decide +kernel
theorem dL_735 : decode code 735 = .ok (.iload_n 3, 1) := by decide +kernel
theorem dL_736 : decode code 736 = .ok (.iconst 2, 1) := by decide +kernel
theorem dL_737 : decode code 737 = .ok (.iadd, 1) := by decide +kernel
theorem dL_738 : decode code 738 = .ok (.iaload, 1) := by decide +kernel
theorem dL_739 : decode code 739 = .ok (.aload_n 0, 1) := by decide +kernel
theorem dL_740 : decode code 740 = .ok (.iload_n 3, 1) := by decide +kernel
theorem dL_741 : decode code 741 = .ok (.iconst 3, 1) := by decide +kernel
theorem dL_742 : decode code 742 = .ok (.iadd, 1) := by decide +kernel
theorem dL_743 : decode code 743 = .ok (.iaload, 1) := by decide +kernel
theorem dL_744 : decode code 744 = .ok (.invokevirtual 90, 3) := by decide +kernel
theorem dL_747 : decode code 747 = .ok (.if_icmp .eq 485, 3) := by decide +kernel
theorem dL_752 : decode code 752 = .ok (.aload_n 1, 1) := by decide +kernel
theorem dL_753 : decode code 753 = .ok (.aload_n 0, 1) := by decide +kernel
theorem dL_754 : decode code 754 = .ok (.iload_n 3, 1) := by decide +kernel
theorem dL_755 : decode code 755 = .ok (.iconst 1, 1) := by decide +kernel
theorem dL_756 : decode code 756 = .ok (.iadd, 1) := by decide +kernel
theorem dL_757 : decode code 757 = .ok (.iaload, 1) := by decide +kernel
theorem dL_758 : decode code 758 = .ok (.invokevirtual 91, 3) := by decide +kernel
theorem dL_761 : decode code 761 = .ok (.aload_n 2, 1) := by decide +kernel
theorem dL_762 : decode code 762 = .ok (.aload_n 0, 1) := by decide +kernel
theorem dL_763 : decode code 763 = .ok (.iload_n 3, 1) := by decide +kernel
theorem dL_764 : decode code 764 = .ok (.iconst 1, 1) := by decide +kernel
theorem dL_765 : decode code 765 = .ok (.iadd, 1) := by decide +kernel
theorem dL_766 : decode code 766 = .ok (.iaload, 1) := by decide +kernel
theorem dL_767 : decode code 767 = .ok (.invokevirtual 94, 3) := by decide +kernel
theorem dL_770 : decode code 770 = .ok (.if_icmp .eq 462, 3) := by decide +kernel
theorem dL_775 : decode code 775 = .ok (.aload_n 1, 1) := by decide +kernel
theorem dL_776 : decode code 776 = .ok (.aload_n 0, 1) := by decide +kernel
theorem dL_777 : decode code 777 = .ok (.iload_n 3, 1) := by decide +kernel
theorem dL_778 : decode code 778 = .ok (.iconst 1, 1) := by decide +kernel
theorem dL_779 : decode code 779 = .ok (.iadd, 1) := by decide +kernel
theorem dL_780 : decode code 780 = .ok (.iaload, 1) := by decide +kernel
theorem dL_781 : decode code 781 = .ok (.aload_n 0, 1) := by decide +kernel
theorem dL_782 : decode code 782 = .ok (.iload_n 3, 1) := by decide +kernel
theorem dL_783 : decode code 783 = .ok (.iconst 2, 1) := by decide +kernel
theorem dL_784 : decode code 784 = .ok (.iadd, 1) := by decide +kernel
theorem dL_785 : decode code 785 = .ok (.iaload, 1) := by decide +kernel
theorem dL_786 : decode code 786 = .ok (.aload_n 0, 1) := by decide +kernel
theorem dL_787 : decode code 787 = .ok (.iload_n 3, 1) := by decide +kernel
theorem dL_788 : decode code 788 = .ok (.iconst 3, 1) := by decide +kernel
theorem dL_789 : decode code 789 = .ok (.iadd, 1) := by decide +kernel
theorem dL_790 : decode code 790 = .ok (.iaload, 1) := by decide +kernel
theorem dL_791 : decode code 791 = .ok (.aload_n 0, 1) := by decide +kernel
theorem dL_792 : decode code 792 = .ok (.iload_n 3, 1) := by decide +kernel
theorem dL_793 : decode code 793 = .ok (.iconst 4, 1) := by decide +kernel
theorem dL_794 : decode code 794 = .ok (.iadd, 1) := by decide +kernel
theorem dL_795 : decode code 795 = .ok (.iaload, 1) := by decide +kernel
theorem dL_796 : decode code 796 = .ok (.i2l, 1) := by decide +kernel
theorem dL_797 : decode code 797 = .ok (.bipush 32, 2) := by decide +kernel
theorem dL_799 : decode code 799 = .ok (.lshl, 1) := by decide +kernel
theorem dL_800 : decode code 800 = .ok (.aload_n 0, 1) := by decide +kernel
theorem dL_801 : decode code 801 = .ok (.iload_n 3, 1) := by decide +kernel
theorem dL_802 : decode code 802 = .ok (.iconst 5, 1) := by decide +kernel
theorem dL_803 : decode code 803 = .ok (.iadd, 1) := by decide +kernel
theorem dL_804 : decode code 804 = .ok (.iaload, 1) := by decide +kernel
theorem dL_805 : decode code 805 = .ok (.i2l, 1) := by decide +kernel
theorem dL_806 : decode code 806 = .ok (.ldc2_w 95, 3) := by decide +kernel
theorem dL_809 : decode code 809 = .ok (.land, 1) := by decide +kernel
theorem dL_810 : decode code 810 = .ok (.lor, 1) := by decide +kernel
theorem dL_811 : decode code 811 = .ok (.invokevirtual 97, 3) := by decide +kernel
theorem dL_814 : decode code 814 = .ok (.aload_n 2, 1) := by decide +kernel
theorem dL_815 : decode code 815 = .ok (.aload_n 0, 1) := by decide +kernel
theorem dL_816 : decode code 816 = .ok (.iload_n 3, 1) := by decide +kernel
theorem dL_817 : decode code 817 = .ok (.iconst 1, 1) := by decide +kernel
theorem dL_818 : decode code 818 = .ok (.iadd, 1) := by decide +kernel
theorem dL_819 : decode code 819 = .ok (.iaload, 1) := by decide +kernel
theorem dL_820 : decode code 820 = .ok (.aload_n 0, 1) := by decide +kernel
theorem dL_821 : decode code 821 = .ok (.iload_n 3, 1) := by decide +kernel
theorem dL_822 : decode code 822 = .ok (.iconst 2, 1) := by decide +kernel
theorem dL_823 : decode code 823 = .ok (.iadd, 1) := by decide +kernel
theorem dL_824 : decode code 824 = .ok (.iaload, 1) := by decide +kernel
theorem dL_825 : decode code 825 = .ok (.aload_n 0, 1) := by decide +kernel
theorem dL_826 : decode code 826 = .ok (.iload_n 3, 1) := by decide +kernel
theorem dL_827 : decode code 827 = .ok (.iconst 3, 1) := by decide +kernel
theorem dL_828 : decode code 828 = .ok (.iadd, 1) := by decide +kernel
theorem dL_829 : decode code 829 = .ok (.iaload, 1) := by decide +kernel
theorem dL_830 : decode code 830 = .ok (.aload_n 0, 1) := by decide +kernel
theorem dL_831 : decode code 831 = .ok (.iload_n 3, 1) := by decide +kernel
theorem dL_832 : decode code 832 = .ok (.iconst 4, 1) := by decide +kernel
theorem dL_833 : decode code 833 = .ok (.iadd, 1) := by decide +kernel
theorem dL_834 : decode code 834 = .ok (.iaload, 1) := by decide +kernel
theorem dL_835 : decode code 835 = .ok (.i2l, 1) := by decide +kernel
theorem dL_836 : decode code 836 = .ok (.bipush 32, 2) := by decide +kernel
theorem dL_838 : decode code 838 = .ok (.lshl, 1) := by decide +kernel
theorem dL_839 : decode code 839 = .ok (.aload_n 0, 1) := by decide +kernel
theorem dL_840 : decode code 840 = .ok (.iload_n 3, 1) := by decide +kernel
theorem dL_841 : decode code 841 = .ok (.iconst 5, 1) := by decide +kernel
theorem dL_842 : decode code 842 = .ok (.iadd, 1) := by decide +kernel
theorem dL_843 : decode code 843 = .ok (.iaload, 1) := by decide +kernel
theorem dL_844 : decode code 844 = .ok (.i2l, 1) := by decide +kernel
theorem dL_845 : decode code 845 = .ok (.ldc2_w 95, 3) := by decide +kernel
theorem dL_848 : decode code 848 = .ok (.land, 1) := by decide +kernel
theorem dL_849 : decode code 849 = .ok (.lor, 1) := by decide +kernel
theorem dL_850 : decode code 850 = .ok (.invokevirtual 101, 3) := by decide +kernel
theorem dL_853 : decode code 853 = .ok (.lcmp, 1) := by decide +kernel
theorem dL_854 : decode code 854 = .ok (.ifCond .eq 378, 3) := by decide +kernel
theorem dL_859 : decode code 859 = .ok (.aload_n 1, 1) := by decide +kernel
theorem dL_860 : decode code 860 = .ok (.aload_n 0, 1) := by decide +kernel
theorem dL_861 : decode code 861 = .ok (.iload_n 3, 1) := by decide +kernel
theorem dL_862 : decode code 862 = .ok (.iconst 1, 1) := by decide +kernel
theorem dL_863 : decode code 863 = .ok (.iadd, 1) := by decide +kernel
theorem dL_864 : decode code 864 = .ok (.iaload, 1) := by decide +kernel
theorem dL_865 : decode code 865 = .ok (.aload_n 0, 1) := by decide +kernel
theorem dL_866 : decode code 866 = .ok (.iload_n 3, 1) := by decide +kernel
theorem dL_867 : decode code 867 = .ok (.iconst 2, 1) := by decide +kernel
theorem dL_868 : decode code 868 = .ok (.iadd, 1) := by decide +kernel
theorem dL_869 : decode code 869 = .ok (.iaload, 1) := by decide +kernel
theorem dL_870 : decode code 870 = .ok (.aload_n 0, 1) := by decide +kernel
theorem dL_871 : decode code 871 = .ok (.iload_n 3, 1) := by decide +kernel
theorem dL_872 : decode code 872 = .ok (.iconst 3, 1) := by decide +kernel
theorem dL_873 : decode code 873 = .ok (.iadd, 1) := by decide +kernel
theorem dL_874 : decode code 874 = .ok (.iaload, 1) := by decide +kernel
theorem dL_875 : decode code 875 = .ok (.aload_n 0, 1) := by decide +kernel
theorem dL_876 : decode code 876 = .ok (.iload_n 3, 1) := by decide +kernel
theorem dL_877 : decode code 877 = .ok (.iconst 4, 1) := by decide +kernel
theorem dL_878 : decode code 878 = .ok (.iadd, 1) := by decide +kernel
theorem dL_879 : decode code 879 = .ok (.iaload, 1) := by decide +kernel
theorem dL_880 : decode code 880 = .ok (.aload_n 0, 1) := by decide +kernel
theorem dL_881 : decode code 881 = .ok (.iload_n 3, 1) := by decide +kernel
theorem dL_882 : decode code 882 = .ok (.iconst 5, 1) := by decide +kernel
theorem dL_883 : decode code 883 = .ok (.iadd, 1) := by decide +kernel
theorem dL_884 : decode code 884 = .ok (.iaload, 1) := by decide +kernel
theorem dL_885 : decode code 885 = .ok (.invokevirtual 102, 3) := by decide +kernel
theorem dL_888 : decode code 888 = .ok (.aload_n 2, 1) := by decide +kernel
theorem dL_889 : decode code 889 = .ok (.aload_n 0, 1) := by decide +kernel
theorem dL_890 : decode code 890 = .ok (.iload_n 3, 1) := by decide +kernel
theorem dL_891 : decode code 891 = .ok (.iconst 1, 1) := by decide +kernel
theorem dL_892 : decode code 892 = .ok (.iadd, 1) := by decide +kernel
theorem dL_893 : decode code 893 = .ok (.iaload, 1) := by decide +kernel
theorem dL_894 : decode code 894 = .ok (.aload_n 0, 1) := by decide +kernel
theorem dL_895 : decode code 895 = .ok (.iload_n 3, 1) := by decide +kernel
theorem dL_896 : decode code 896 = .ok (.iconst 2, 1) := by decide +kernel
theorem dL_897 : decode code 897 = .ok (.iadd, 1) := by decide +kernel
theorem dL_898 : decode code 898 = .ok (.iaload, 1) := by decide +kernel
theorem dL_899 : decode code 899 = .ok (.aload_n 0, 1) := by decide +kernel
theorem dL_900 : decode code 900 = .ok (.iload_n 3, 1) := by decide +kernel
theorem dL_901 : decode code 901 = .ok (.iconst 3, 1) := by decide +kernel
theorem dL_902 : decode code 902 = .ok (.iadd, 1) := by decide +kernel
theorem dL_903 : decode code 903 = .ok (.iaload, 1) := by decide +kernel
