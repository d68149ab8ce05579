theorem ni_dL_law_580 : decode cL_law 580 = .ok (.aload_n 0, 1) := by decide +kernel
theorem ni_dL_law_581 : decode cL_law 581 = .ok (.iload 5, 2) := by decide +kernel
theorem ni_dL_law_583 : decode cL_law 583 = .ok (.iconst 3, 1) := by decide +kernel
theorem ni_dL_law_584 : decode cL_law 584 = .ok (.iadd, 1) := by decide +kernel
theorem ni_dL_law_585 : decode cL_law 585 = .ok (.iaload, 1) := by decide +kernel
theorem ni_dL_law_586 : decode cL_law 586 = .ok (.aload_n 3, 1) := by decide +kernel
theorem ni_dL_law_587 : decode cL_law 587 = .ok (.invokestatic 176, 3) := by decide +kernel
theorem ni_dL_law_590 : decode cL_law 590 = .ok (.istore 6, 2) := by decide +kernel
theorem ni_dL_law_592 : decode cL_law 592 = .ok (.aload_n 2, 1) := by decide +kernel
theorem ni_dL_law_593 : decode cL_law 593 = .ok (.aload_n 0, 1) := by decide +kernel
theorem ni_dL_law_594 : decode cL_law 594 = .ok (.iload 5, 2) := by decide +kernel
theorem ni_dL_law_596 : decode cL_law 596 = .ok (.iconst 1, 1) := by decide +kernel
theorem ni_dL_law_597 : decode cL_law 597 = .ok (.iadd, 1) := by decide +kernel
theorem ni_dL_law_598 : decode cL_law 598 = .ok (.iaload, 1) := by decide +kernel
theorem ni_dL_law_599 : decode cL_law 599 = .ok (.aload_n 0, 1) := by decide +kernel
theorem ni_dL_law_600 : decode cL_law 600 = .ok (.iload 5, 2) := by decide +kernel
theorem ni_dL_law_602 : decode cL_law 602 = .ok (.iconst 2, 1) := by decide +kernel
theorem ni_dL_law_603 : decode cL_law 603 = .ok (.iadd, 1) := by decide +kernel
theorem ni_dL_law_604 : decode cL_law 604 = .ok (.iaload, 1) := by decide +kernel
theorem ni_dL_law_605 : decode cL_law 605 = .ok (.aload_n 0, 1) := by decide +kernel
theorem ni_dL_law_606 : decode cL_law 606 = .ok (.iload 5, 2) := by decide +kernel
theorem ni_dL_law_608 : decode cL_law 608 = .ok (.iconst 3, 1) := by decide +kernel
theorem ni_dL_law_609 : decode cL_law 609 = .ok (.iadd, 1) := by decide +kernel
theorem ni_dL_law_610 : decode cL_law 610 = .ok (.iaload, 1) := by decide +kernel
theorem ni_dL_law_611 : decode cL_law 611 = .ok (.invokevirtual 179, 3) := by decide +kernel
theorem ni_dL_law_614 : decode cL_law 614 = .ok (.istore 7, 2) := by decide +kernel
theorem ni_dL_law_616 : decode cL_law 616 = .ok (.aload_n 2, 1) := by decide +kernel
theorem ni_dL_law_617 : decode cL_law 617 = .ok (.invokevirtual 161, 3) := by decide +kernel
theorem ni_dL_law_620 : decode cL_law 620 = .ok (.iload 6, 2) := by decide +kernel
theorem ni_dL_law_622 : decode cL_law 622 = .ok (.if_icmp .eq 5, 3) := by decide +kernel
theorem ni_dL_law_627 : decode cL_law 627 = .ok (.iload 6, 2) := by decide +kernel
theorem ni_dL_law_629 : decode cL_law 629 = .ok (.ifCond .ne 15, 3) := by decide +kernel
theorem ni_dL_law_644 : decode cL_law 644 = .ok (.goto 2673, 3) := by decide +kernel
theorem ni_dL_law_647 : decode cL_law 647 = .ok (.aload_n 1, 1) := by decide +kernel
theorem ni_dL_law_648 : decode cL_law 648 = .ok (.aload_n 0, 1) := by decide +kernel
theorem ni_dL_law_649 : decode cL_law 649 = .ok (.iload 5, 2) := by decide +kernel
theorem ni_dL_law_651 : decode cL_law 651 = .ok (.iconst 1, 1) := by decide +kernel
theorem ni_dL_law_652 : decode cL_law 652 = .ok (.iadd, 1) := by decide +kernel
theorem ni_dL_law_653 : decode cL_law 653 = .ok (.iaload, 1) := by decide +kernel
theorem ni_dL_law_654 : decode cL_law 654 = .ok (.aload_n 3, 1) := by decide +kernel
theorem ni_dL_law_655 : decode cL_law 655 = .ok (.invokestatic 180, 3) := by decide +kernel
theorem ni_dL_law_658 : decode cL_law 658 = .ok (.istore 6, 2) := by decide +kernel
theorem ni_dL_law_660 : decode cL_law 660 = .ok (.aload_n 2, 1) := by decide +kernel
theorem ni_dL_law_661 : decode cL_law 661 = .ok (.aload_n 0, 1) := by decide +kernel
theorem ni_dL_law_662 : decode cL_law 662 = .ok (.iload 5, 2) := by decide +kernel
theorem ni_dL_law_664 : decode cL_law 664 = .ok (.iconst 1, 1) := by decide +kernel
theorem ni_dL_law_665 : decode cL_law 665 = .ok (.iadd, 1) := by decide +kernel
theorem ni_dL_law_666 : decode cL_law 666 = .ok (.iaload, 1) := by decide +kernel
theorem ni_dL_law_667 : decode cL_law 667 = .ok (.invokevirtual 183, 3) := by decide +kernel
theorem ni_dL_law_670 : decode cL_law 670 = .ok (.istore 7, 2) := by decide +kernel
theorem ni_dL_law_672 : decode cL_law 672 = .ok (.aload_n 2, 1) := by decide +kernel
theorem ni_dL_law_673 : decode cL_law 673 = .ok (.invokevirtual 161, 3) := by decide +kernel
theorem ni_dL_law_676 : decode cL_law 676 = .ok (.iload 6, 2) := by decide +kernel
theorem ni_dL_law_678 : decode cL_law 678 = .ok (.if_icmp .eq 5, 3) := by decide +kernel
theorem ni_dL_law_683 : decode cL_law 683 = .ok (.iload 6, 2) := by decide +kernel
theorem ni_dL_law_685 : decode cL_law 685 = .ok (.ifCond .ne 15, 3) := by decide +kernel
theorem ni_dL_law_700 : decode cL_law 700 = .ok (.goto 2617, 3) := by decide +kernel
theorem ni_dL_law_703 : decode cL_law 703 = .ok (.aload_n 1, 1) := by decide +kernel
theorem ni_dL_law_704 : decode cL_law 704 = .ok (.aload_n 0, 1) := by decide +kernel
theorem ni_dL_law_705 : decode cL_law 705 = .ok (.iload 5, 2) := by decide +kernel
theorem ni_dL_law_707 : decode cL_law 707 = .ok (.iconst 1, 1) := by decide +kernel
theorem ni_dL_law_708 : decode cL_law 708 = .ok (.iadd, 1) := by decide +kernel
theorem ni_dL_law_709 : decode cL_law 709 = .ok (.iaload, 1) := by decide +kernel
theorem ni_dL_law_710 : decode cL_law 710 = .ok (.aload_n 0, 1) := by decide +kernel
theorem ni_dL_law_711 : decode cL_law 711 = .ok (.iload 5, 2) := by decide +kernel
theorem ni_dL_law_713 : decode cL_law 713 = .ok (.iconst 2, 1) := by decide +kernel
theorem ni_dL_law_714 : decode cL_law 714 = .ok (.iadd, 1) := by decide +kernel
theorem ni_dL_law_715 : decode cL_law 715 = .ok (.iaload, 1) := by decide +kernel
theorem ni_dL_law_716 : decode cL_law 716 = .ok (.aload_n 0, 1) := by decide +kernel
theorem ni_dL_law_717 : decode cL_law 717 = .ok (.iload 5, 2) := by decide +kernel
theorem ni_dL_law_719 : decode cL_law 719 = .ok (.iconst 3, 1) := by decide +kernel
theorem ni_dL_law_720 : decode cL_law 720 = .ok (.iadd, 1) := by decide +kernel
theorem ni_dL_law_721 : decode cL_law 721 = .ok (.iaload, 1) := by decide +kernel
theorem ni_dL_law_722 : decode cL_law 722 = .ok (.aload_n 0, 1) := by decide +kernel
theorem ni_dL_law_723 : decode cL_law 723 = .ok (.iload 5, 2) := by decide +kernel
theorem ni_dL_law_725 : decode cL_law 725 = .ok (.iconst 4, 1) := by decide +kernel
theorem ni_dL_law_726 : decode cL_law 726 = .ok (.iadd, 1) := by decide +kernel
theorem ni_dL_law_727 : decode cL_law 727 = .ok (.iaload, 1) := by decide +kernel
theorem ni_dL_law_728 : decode cL_law 728 = .ok (.aload_n 3, 1) := by decide +kernel
theorem ni_dL_law_729 : decode cL_law 729 = .ok (.invokestatic 184, 3) := by decide +kernel
theorem ni_dL_law_732 : decode cL_law 732 = .ok (.istore 6, 2) := by decide +kernel
theorem ni_dL_law_734 : decode cL_law 734 = .ok (.aload_n 2, 1) := by decide +kernel
theorem ni_dL_law_735 : decode cL_law 735 = .ok (.aload_n 0, 1) := by decide +kernel
theorem ni_dL_law_736 : decode cL_law 736 = .ok (.iload 5, 2) := by decide +kernel
theorem ni_dL_law_738 : decode cL_law 738 = .ok (.iconst 1, 1) := by decide +kernel
theorem ni_dL_law_739 : decode cL_law 739 = .ok (.iadd, 1) := by decide +kernel
theorem ni_dL_law_740 : decode cL_law 740 = .ok (.iaload, 1) := by decide +kernel
theorem ni_dL_law_741 : decode cL_law 741 = .ok (.aload_n 0, 1) := by decide +kernel
theorem ni_dL_law_742 : decode cL_law 742 = .ok (.iload 5, 2) := by decide +kernel
theorem ni_dL_law_744 : decode cL_law 744 = .ok (.iconst 2, 1) := by decide +kernel
theorem ni_dL_law_745 : decode cL_law 745 = .ok (.iadd, 1) := by decide +kernel
theorem ni_dL_law_746 : decode cL_law 746 = .ok (.iaload, 1) := by decide +kernel
theorem ni_dL_law_747 : decode cL_law 747 = .ok (.aload_n 0, 1) := by decide +kernel
theorem ni_dL_law_748 : decode cL_law 748 = .ok (.iload 5, 2) := by decide +kernel
theorem ni_dL_law_750 : decode cL_law 750 = .ok (.iconst 3, 1) := by decide +kernel
theorem ni_dL_law_751 : decode cL_law 751 = .ok (.iadd, 1) := by decide +kernel
theorem ni_dL_law_752 : decode cL_law 752 = .ok (.iaload, 1) := by decide +kernel
theorem ni_dL_law_753 : decode cL_law 753 = .ok (.aload_n 0, 1) := by decide +kernel
theorem ni_dL_law_754 : decode cL_law 754 = .ok (.iload 5, 2) := by decide +kernel
theorem ni_dL_law_756 : decode cL_law 756 = .ok (.iconst 4, 1) := by decide +kernel
theorem ni_dL_law_757 : decode cL_law 757 = .ok (.iadd, 1) := by decide +kernel
theorem ni_dL_law_758 : decode cL_law 758 = .ok (.iaload, 1) := by decide +kernel
theorem ni_dL_law_759 : decode cL_law 759 = .ok (.invokevirtual 187, 3) := by decide +kernel
theorem ni_dL_law_762 : decode cL_law 762 = .ok (.istore 7, 2) := by decide +kernel
theorem ni_dL_law_764 : decode cL_law 764 = .ok (.aload_n 2, 1) := by decide +kernel
theorem ni_dL_law_765 : decode cL_law 765 = .ok (.invokevirtual 161, 3) := by decide +kernel
theorem ni_dL_law_768 : decode cL_law 768 = .ok (.iload 6, 2) := by decide +kernel
theorem ni_dL_law_770 : decode cL_law 770 = .ok (.if_icmp .eq 5, 3) := by decide +kernel
theorem ni_dL_law_775 : decode cL_law 775 = .ok (.iload 6, 2) := by decide +kernel
theorem ni_dL_law_777 : decode cL_law 777 = .ok (.ifCond .ne 15, 3) := by decide +kernel
theorem ni_dL_law_792 : decode cL_law 792 = .ok (.goto 2525, 3) := by decide +kernel
theorem ni_dL_law_795 : decode cL_law 795 = .ok (.aload_n 1, 1) := by decide +kernel
theorem ni_dL_law_796 : decode cL_law 796 = .ok (.aload_n 0, 1) := by decide +kernel
theorem ni_dL_law_797 : decode cL_law 797 = .ok (.iload 5, 2) := by decide +kernel
theorem ni_dL_law_799 : decode cL_law 799 = .ok (.iconst 1, 1) := by decide +kernel
theorem ni_dL_law_800 : decode cL_law 800 = .ok (.iadd, 1) := by decide +kernel
theorem ni_dL_law_801 : decode cL_law 801 = .ok (.iaload, 1) := by decide +kernel
theorem ni_dL_law_802 : decode cL_law 802 = .ok (.aload_n 3, 1) := by decide +kernel
theorem ni_dL_law_803 : decode cL_law 803 = .ok (.invokestatic 188, 3) := by decide +kernel
theorem ni_dL_law_806 : decode cL_law 806 = .ok (.istore 6, 2) := by decide +kernel
theorem ni_dL_law_808 : decode cL_law 808 = .ok (.aload_n 2, 1) := by decide +kernel
theorem ni_dL_law_809 : decode cL_law 809 = .ok (.aload_n 0, 1) := by decide +kernel
theorem ni_dL_law_810 : decode cL_law 810 = .ok (.iload 5, 2) := by decide +kernel
theorem ni_dL_law_812 : decode cL_law 812 = .ok (.iconst 1, 1) := by decide +kernel
theorem ni_dL_law_813 : decode cL_law 813 = .ok (.iadd, 1) := by decide +kernel
theorem ni_dL_law_814 : decode cL_law 814 = .ok (.iaload, 1) := by decide +kernel
theorem ni_dL_law_815 : decode cL_law 815 = .ok (.invokevirtual 190, 3) := by decide +kernel
theorem ni_dL_law_818 : decode cL_law 818 = .ok (.istore 7, 2) := by decide +kernel
theorem ni_dL_law_820 : decode cL_law 820 = .ok (.aload_n 2, 1) := by decide +kernel
theorem ni_dL_law_821 : decode cL_law 821 = .ok (.invokevirtual 161, 3) := by decide +kernel
theorem ni_dL_law_824 : decode cL_law 824 = .ok (.iload 6, 2) := by decide +kernel
theorem ni_dL_law_826 : decode cL_law 826 = .ok (.if_icmp .eq 5, 3) := by decide +kernel
theorem ni_dL_law_831 : decode cL_law 831 = .ok (.iload 6, 2) := by decide +kernel
theorem ni_dL_law_833 : decode cL_law 833 = .ok (.ifCond .ne 15, 3) := by decide +kernel
theorem ni_dL_law_848 : decode cL_law 848 = .ok (.goto 2469, 3) := by decide +kernel
theorem ni_dL_law_851 : decode cL_law 851 = .ok (.aload_n 1, 1) := by decide +kernel
theorem ni_dL_law_852 : decode cL_law 852 = .ok (.aload_n 0, 1) := by decide +kernel
theorem ni_dL_law_853 : decode cL_law 853 = .ok (.iload 5, 2) := by decide +kernel
theorem ni_dL_law_855 : decode cL_law 855 = .ok (.iconst 1, 1) := by decide +kernel
theorem ni_dL_law_856 : decode cL_law 856 = .ok (.iadd, 1) := by decide +kernel
theorem ni_dL_law_857 : decode cL_law 857 = .ok (.iaload, 1) := by decide +kernel
theorem ni_dL_law_858 : decode cL_law 858 = .ok (.aload_n 0, 1) := by decide +kernel
theorem ni_dL_law_859 : decode cL_law 859 = .ok (.iload 5, 2) := by decide +kernel
theorem ni_dL_law_861 : decode cL_law 861 = .ok (.iconst 2, 1) := by decide +kernel
theorem ni_dL_law_862 : decode cL_law 862 = .ok (.iadd, 1) := by decide +kernel
theorem ni_dL_law_863 : decode cL_law 863 = .ok (.iaload, 1) := by decide +kernel
theorem ni_dL_law_864 : decode cL_law 864 = .ok (.ifCond .eq 7, 3) := by decide +kernel
theorem ni_dL_law_867 : decode cL_law 867 = .ok (.iconst 1, 1) := by decide +kernel
theorem ni_dL_law_868 : decode cL_law 868 = .ok (.goto 4, 3) := by decide +kernel
theorem ni_dL_law_871 : decode cL_law 871 = .ok (.iconst 0, 1) := by decide +kernel
theorem ni_dL_law_872 : decode cL_law 872 = .ok (.aload_n 0, 1) := by decide +kernel
theorem ni_dL_law_873 : decode cL_law 873 = .ok (.iload 5, 2) := by decide +kernel
theorem ni_dL_law_875 : decode cL_law 875 = .ok (.iconst 3, 1) := by decide +kernel
theorem ni_dL_law_876 : decode cL_law 876 = .ok (.iadd, 1) := by decide +kernel
theorem ni_dL_law_877 : decode cL_law 877 = .ok (.iaload, 1) := by decide +kernel
theorem ni_dL_law_878 : decode cL_law 878 = .ok (.aload_n 0, 1) := by decide +kernel
theorem ni_dL_law_879 : decode cL_law 879 = .ok (.iload 5, 2) := by decide +kernel
theorem ni_dL_law_881 : decode cL_law 881 = .ok (.iconst 4, 1) := by decide +kernel
theorem ni_dL_law_882 : decode cL_law 882 = .ok (.iadd, 1) := by decide +kernel
theorem ni_dL_law_883 : decode cL_law 883 = .ok (.iaload, 1) := by decide +kernel
theorem ni_dL_law_884 : decode cL_law 884 = .ok (.aload_n 0, 1) := by decide +kernel
theorem ni_dL_law_885 : decode cL_law 885 = .ok (.iload 5, 2) := by decide +kernel
theorem ni_dL_law_887 : decode cL_law 887 = .ok (.iconst 5, 1) := by decide +kernel
theorem ni_dL_law_888 : decode cL_law 888 = .ok (.iadd, 1) := by decide +kernel
theorem ni_dL_law_889 : decode cL_law 889 = .ok (.iaload, 1) := by decide +kernel
theorem ni_dL_law_890 : decode cL_law 890 = .ok (.ifCond .eq 7, 3) := by decide +kernel
theorem ni_dL_law_893 : decode cL_law 893 = .ok (.iconst 1, 1) := by decide +kernel
theorem ni_dL_law_894 : decode cL_law 894 = .ok (.goto 4, 3) := by decide +kernel
theorem ni_dL_law_897 : decode cL_law 897 = .ok (.iconst 0, 1) := by decide +kernel
theorem ni_dL_law_898 : decode cL_law 898 = .ok (.aload_n 3, 1) := by decide +kernel
theorem ni_dL_law_899 : decode cL_law 899 = .ok (.invokestatic 191, 3) := by decide +kernel
theorem ni_dL_law_902 : decode cL_law 902 = .ok (.istore 6, 2) := by decide +kernel
theorem ni_dL_law_904 : decode cL_law 904 = .ok (.aload_n 2, 1) := by decide +kernel
theorem ni_dL_law_905 : decode cL_law 905 = .ok (.aload_n 0, 1) := by decide +kernel
theorem ni_dL_law_906 : decode cL_law 906 = .ok (.iload 5, 2) := by decide +kernel
theorem ni_dL_law_908 : decode cL_law 908 = .ok (.iconst 1, 1) := by decide +kernel
theorem ni_dL_law_909 : decode cL_law 909 = .ok (.iadd, 1) := by decide +kernel
theorem ni_dL_law_910 : decode cL_law 910 = .ok (.iaload, 1) := by decide +kernel
theorem ni_dL_law_911 : decode cL_law 911 = .ok (.aload_n 0, 1) := by decide +kernel
theorem ni_dL_law_912 : decode cL_law 912 = .ok (.iload 5, 2) := by decide +kernel
theorem ni_dL_law_914 : decode cL_law 914 = .ok (.iconst 2, 1) := by decide +kernel
theorem ni_dL_law_915 : decode cL_law 915 = .ok (.iadd, 1) := by decide +kernel
theorem ni_dL_law_916 : decode cL_law 916 = .ok (.iaload, 1) := by decide +kernel
theorem ni_dL_law_917 : decode cL_law 917 = .ok (.ifCond .eq 7, 3) := by decide +kernel
theorem ni_dL_law_920 : decode cL_law 920 = .ok (.iconst 1, 1) := by decide +kernel
theorem ni_dL_law_921 : decode cL_law 921 = .ok (.goto 4, 3) := by decide +kernel
theorem ni_dL_law_924 : decode cL_law 924 = .ok (.iconst 0, 1) := by decide +kernel
theorem ni_dL_law_925 : decode cL_law 925 = .ok (.aload_n 0, 1) := by decide +kernel
theorem ni_dL_law_926 : decode cL_law 926 = .ok (.iload 5, 2) := by decide +kernel
theorem ni_dL_law_928 : decode cL_law 928 = .ok (.iconst 3, 1) := by decide +kernel
theorem ni_dL_law_929 : decode cL_law 929 = .ok (.iadd, 1) := by decide +kernel
theorem ni_dL_law_930 : decode cL_law 930 = .ok (.iaload, 1) := by decide +kernel
theorem ni_dL_law_931 : decode cL_law 931 = .ok (.aload_n 0, 1) := by decide +kernel
theorem ni_dL_law_932 : decode cL_law 932 = .ok (.iload 5, 2) := by decide +kernel
theorem ni_dL_law_934 : decode cL_law 934 = .ok (.iconst 4, 1) := by decide +kernel
theorem ni_dL_law_935 : decode cL_law 935 = .ok (.iadd, 1) := by decide +kernel
theorem ni_dL_law_936 : decode cL_law 936 = .ok (.iaload, 1) := by decide +kernel
theorem ni_dL_law_937 : decode cL_law 937 = .ok (.aload_n 0, 1) := by decide +kernel
theorem ni_dL_law_938 : decode cL_law 938 = .ok (.iload 5, 2) := by decide +kernel
theorem ni_dL_law_940 : decode cL_law 940 = .ok (.iconst 5, 1) := by decide +kernel
