theorem dd_L_law_603 : decode cL_law 603 = .ok (.iload 4, 2) := by decide +kernel
theorem dd_L_law_605 : decode cL_law 605 = .ok (.iconst 1, 1) := by decide +kernel
theorem dd_L_law_606 : decode cL_law 606 = .ok (.iadd, 1) := by decide +kernel
theorem dd_L_law_607 : decode cL_law 607 = .ok (.iaload, 1) := by decide +kernel
theorem dd_L_law_608 : decode cL_law 608 = .ok (.invokevirtual 67, 3) := by decide +kernel
theorem dd_L_law_611 : decode cL_law 611 = .ok (.aload_n 2, 1) := by decide +kernel
theorem dd_L_law_612 : decode cL_law 612 = .ok (.aload_n 0, 1) := by decide +kernel
theorem dd_L_law_613 : decode cL_law 613 = .ok (.iload 4, 2) := by decide +kernel
theorem dd_L_law_615 : decode cL_law 615 = .ok (.iconst 1, 1) := by decide +kernel
theorem dd_L_law_616 : decode cL_law 616 = .ok (.iadd, 1) := by decide +kernel
theorem dd_L_law_617 : decode cL_law 617 = .ok (.iaload, 1) := by decide +kernel
theorem dd_L_law_618 : decode cL_law 618 = .ok (.invokevirtual 71, 3) := by decide +kernel
theorem dd_L_law_621 : decode cL_law 621 = .ok (.if_icmp .eq 852, 3) := by decide +kernel
theorem dd_L_law_626 : decode cL_law 626 = .ok (.aload_n 1, 1) := by decide +kernel
theorem dd_L_law_627 : decode cL_law 627 = .ok (.aload_n 0, 1) := by decide +kernel
theorem dd_L_law_628 : decode cL_law 628 = .ok (.iload 4, 2) := by decide +kernel
theorem dd_L_law_630 : decode cL_law 630 = .ok (.iconst 1, 1) := by decide +kernel
theorem dd_L_law_631 : decode cL_law 631 = .ok (.iadd, 1) := by decide +kernel
theorem dd_L_law_632 : decode cL_law 632 = .ok (.iaload, 1) := by decide +kernel
theorem dd_L_law_633 : decode cL_law 633 = .ok (.aload_n 0, 1) := by decide +kernel
theorem dd_L_law_634 : decode cL_law 634 = .ok (.iload 4, 2) := by decide +kernel
theorem dd_L_law_636 : decode cL_law 636 = .ok (.iconst 2, 1) := by decide +kernel
theorem dd_L_law_637 : decode cL_law 637 = .ok (.iadd, 1) := by decide +kernel
theorem dd_L_law_638 : decode cL_law 638 = .ok (.iaload, 1) := by decide +kernel
theorem dd_L_law_639 : decode cL_law 639 = .ok (.invokevirtual 72, 3) := by decide +kernel
theorem dd_L_law_642 : decode cL_law 642 = .ok (.aload_n 2, 1) := by decide +kernel
theorem dd_L_law_643 : decode cL_law 643 = .ok (.aload_n 0, 1) := by decide +kernel
theorem dd_L_law_644 : decode cL_law 644 = .ok (.iload 4, 2) := by decide +kernel
theorem dd_L_law_646 : decode cL_law 646 = .ok (.iconst 1, 1) := by decide +kernel
theorem dd_L_law_647 : decode cL_law 647 = .ok (.iadd, 1) := by decide +kernel
theorem dd_L_law_648 : decode cL_law 648 = .ok (.iaload, 1) := by decide +kernel
theorem dd_L_law_649 : decode cL_law 649 = .ok (.aload_n 0, 1) := by decide +kernel
theorem dd_L_law_650 : decode cL_law 650 = .ok (.iload 4, 2) := by decide +kernel
theorem dd_L_law_652 : decode cL_law 652 = .ok (.iconst 2, 1) := by decide +kernel
theorem dd_L_law_653 : decode cL_law 653 = .ok (.iadd, 1) := by decide +kernel
theorem dd_L_law_654 : decode cL_law 654 = .ok (.iaload, 1) := by decide +kernel
theorem dd_L_law_655 : decode cL_law 655 = .ok (.invokevirtual 75, 3) := by decide +kernel
theorem dd_L_law_658 : decode cL_law 658 = .ok (.if_icmp .eq 815, 3) := by decide +kernel
theorem dd_L_law_663 : decode cL_law 663 = .ok (.aload_n 1, 1) := by decide +kernel
theorem dd_L_law_664 : decode cL_law 664 = .ok (.aload_n 0, 1) := by decide +kernel
theorem dd_L_law_665 : decode cL_law 665 = .ok (.iload 4, 2) := by decide +kernel
theorem dd_L_law_667 : decode cL_law 667 = .ok (.iconst 1, 1) := by decide +kernel
theorem dd_L_law_668 : decode cL_law 668 = .ok (.iadd, 1) := by decide +kernel
theorem dd_L_law_669 : decode cL_law 669 = .ok (.iaload, 1) := by decide +kernel
theorem dd_L_law_670 : decode cL_law 670 = .ok (.aload_n 0, 1) := by decide +kernel
theorem dd_L_law_671 : decode cL_law 671 = .ok (.iload 4, 2) := by decide +kernel
theorem dd_L_law_673 : decode cL_law 673 = .ok (.iconst 2, 1) := by decide +kernel
theorem dd_L_law_674 : decode cL_law 674 = .ok (.iadd, 1) := by decide +kernel
theorem dd_L_law_675 : decode cL_law 675 = .ok (.iaload, 1) := by decide +kernel
theorem dd_L_law_676 : decode cL_law 676 = .ok (.invokevirtual 76, 3) := by decide +kernel
theorem dd_L_law_679 : decode cL_law 679 = .ok (.aload_n 2, 1) := by decide +kernel
theorem dd_L_law_680 : decode cL_law 680 = .ok (.aload_n 0, 1) := by decide +kernel
theorem dd_L_law_681 : decode cL_law 681 = .ok (.iload 4, 2) := by decide +kernel
theorem dd_L_law_683 : decode cL_law 683 = .ok (.iconst 1, 1) := by decide +kernel
theorem dd_L_law_684 : decode cL_law 684 = .ok (.iadd, 1) := by decide +kernel
theorem dd_L_law_685 : decode cL_law 685 = .ok (.iaload, 1) := by decide +kernel
theorem dd_L_law_686 : decode cL_law 686 = .ok (.aload_n 0, 1) := by decide +kernel
theorem dd_L_law_687 : decode cL_law 687 = .ok (.iload 4, 2) := by decide +kernel
theorem dd_L_law_689 : decode cL_law 689 = .ok (.iconst 2, 1) := by decide +kernel
theorem dd_L_law_690 : decode cL_law 690 = .ok (.iadd, 1) := by decide +kernel
theorem dd_L_law_691 : decode cL_law 691 = .ok (.iaload, 1) := by decide +kernel
theorem dd_L_law_692 : decode cL_law 692 = .ok (.invokevirtual 79, 3) := by decide +kernel
theorem dd_L_law_695 : decode cL_law 695 = .ok (.if_icmp .eq 778, 3) := by decide +kernel
theorem dd_L_law_700 : decode cL_law 700 = .ok (.aload_n 1, 1) := by decide +kernel
theorem dd_L_law_701 : decode cL_law 701 = .ok (.aload_n 0, 1) := by decide +kernel
theorem dd_L_law_702 : decode cL_law 702 = .ok (.iload 4, 2) := by decide +kernel
theorem dd_L_law_704 : decode cL_law 704 = .ok (.iconst 1, 1) := by decide +kernel
theorem dd_L_law_705 : decode cL_law 705 = .ok (.iadd, 1) := by decide +kernel
theorem dd_L_law_706 : decode cL_law 706 = .ok (.iaload, 1) := by decide +kernel
theorem dd_L_law_707 : decode cL_law 707 = .ok (.aload_n 0, 1) := by decide +kernel
theorem dd_L_law_708 : decode cL_law 708 = .ok (.iload 4, 2) := by decide +kernel
theorem dd_L_law_710 : decode cL_law 710 = .ok (.iconst 2, 1) := by decide +kernel
theorem dd_L_law_711 : decode cL_law 711 = .ok (.iadd, 1) := by decide +kernel
theorem dd_L_law_712 : decode cL_law 712 = .ok (.iaload, 1) := by decide +kernel
theorem dd_L_law_713 : decode cL_law 713 = .ok (.aload_n 0, 1) := by decide +kernel
theorem dd_L_law_714 : decode cL_law 714 = .ok (.iload 4, 2) := by decide +kernel
theorem dd_L_law_716 : decode cL_law 716 = .ok (.iconst 3, 1) := by decide +kernel
theorem dd_L_law_717 : decode cL_law 717 = .ok (.iadd, 1) := by decide +kernel
theorem dd_L_law_718 : decode cL_law 718 = .ok (.iaload, 1) := by decide +kernel
theorem dd_L_law_719 : decode cL_law 719 = .ok (.invokevirtual 80, 3) := by decide +kernel
theorem dd_L_law_722 : decode cL_law 722 = .ok (.aload_n 2, 1) := by decide +kernel
theorem dd_L_law_723 : decode cL_law 723 = .ok (.aload_n 0, 1) := by decide +kernel
theorem dd_L_law_724 : decode cL_law 724 = .ok (.iload 4, 2) := by decide +kernel
theorem dd_L_law_726 : decode cL_law 726 = .ok (.iconst 1, 1) := by decide +kernel
theorem dd_L_law_727 : decode cL_law 727 = .ok (.iadd, 1) := by decide +kernel
theorem dd_L_law_728 : decode cL_law 728 = .ok (.iaload, 1) := by decide +kernel
theorem dd_L_law_729 : decode cL_law 729 = .ok (.aload_n 0, 1) := by decide +kernel
theorem dd_L_law_730 : decode cL_law 730 = .ok (.iload 4, 2) := by decide +kernel
theorem dd_L_law_732 : decode cL_law 732 = .ok (.iconst 2, 1) := by decide +kernel
theorem dd_L_law_733 : decode cL_law 733 = .ok (.iadd, 1) := by decide +kernel
theorem dd_L_law_734 : decode cL_law 734 = .ok (.iaload, 1) := by decide +kernel
theorem dd_L_law_735 : decode cL_law 735 = .ok (.aload_n 0, 1) := by decide +kernel
theorem dd_L_law_736 : decode cL_law 736 = .ok (.iload 4, 2) := by decide +kernel
theorem dd_L_law_738 : decode cL_law 738 = .ok (.iconst 3, 1) := by decide +kernel
theorem dd_L_law_739 : decode cL_law 739 = .ok (.iadd, 1) := by decide +kernel
theorem dd_L_law_740 : decode cL_law 740 = .ok (.iaload, 1) := by decide +kernel
theorem dd_L_law_741 : decode cL_law 741 = .ok (.invokevirtual 84, 3) := by decide +kernel
theorem dd_L_law_744 : decode cL_law 744 = .ok (.if_icmp .eq 729, 3) := by decide +kernel
theorem dd_L_law_749 : decode cL_law 749 = .ok (.aload_n 1, 1) := by decide +kernel
theorem dd_L_law_750 : decode cL_law 750 = .ok (.aload_n 0, 1) := by decide +kernel
theorem dd_L_law_751 : decode cL_law 751 = .ok (.iload 4, 2) := by decide +kernel
theorem dd_L_law_753 : decode cL_law 753 = .ok (.iconst 1, 1) := by decide +kernel
theorem dd_L_law_754 : decode cL_law 754 = .ok (.iadd, 1) := by decide +kernel
theorem dd_L_law_755 : decode cL_law 755 = .ok (.iaload, 1) := by decide +kernel
theorem dd_L_law_756 : decode cL_law 756 = .ok (.aload_n 0, 1) := by decide +kernel
theorem dd_L_law_757 : decode cL_law 757 = .ok (.iload 4, 2) := by decide +kernel
theorem dd_L_law_759 : decode cL_law 759 = .ok (.iconst 2, 1) := by decide +kernel
theorem dd_L_law_760 : decode cL_law 760 = .ok (.iadd, 1) := by decide +kernel
theorem dd_L_law_761 : decode cL_law 761 = .ok (.iaload, 1) := by decide +kernel
theorem dd_L_law_762 : decode cL_law 762 = .ok (.aload_n 0, 1) := by decide +kernel
theorem dd_L_law_763 : decode cL_law 763 = .ok (.iload 4, 2) := by decide +kernel
theorem dd_L_law_765 : decode cL_law 765 = .ok (.iconst 3, 1) := by decide +kernel
theorem dd_L_law_766 : decode cL_law 766 = .ok (.iadd, 1) := by decide +kernel
theorem dd_L_law_767 : decode cL_law 767 = .ok (.iaload, 1) := by decide +kernel
theorem dd_L_law_768 : decode cL_law 768 = .ok (.invokevirtual 85, 3) := by decide +kernel
theorem dd_L_law_771 : decode cL_law 771 = .ok (.aload_n 2, 1) := by decide +kernel
theorem dd_L_law_772 : decode cL_law 772 = .ok (.aload_n 0, 1) := by decide +kernel
theorem dd_L_law_773 : decode cL_law 773 = .ok (.iload 4, 2) := by decide +kernel
theorem dd_L_law_775 : decode cL_law 775 = .ok (.iconst 1, 1) := by decide +kernel
theorem dd_L_law_776 : decode cL_law 776 = .ok (.iadd, 1) := by decide +kernel
theorem dd_L_law_777 : decode cL_law 777 = .ok (.iaload, 1) := by decide +kernel
theorem dd_L_law_778 : decode cL_law 778 = .ok (.aload_n 0, 1) := by decide +kernel
theorem dd_L_law_779 : decode cL_law 779 = .ok (.iload 4, 2) := by decide +kernel
theorem dd_L_law_781 : decode cL_law 781 = .ok (.iconst 2, 1) := by decide +kernel
theorem dd_L_law_782 : decode cL_law 782 = .ok (.iadd, 1) := by decide +kernel
theorem dd_L_law_783 : decode cL_law 783 = .ok (.iaload, 1) := by decide +kernel
theorem dd_L_law_784 : decode cL_law 784 = .ok (.aload_n 0, 1) := by decide +kernel
theorem dd_L_law_785 : decode cL_law 785 = .ok (.iload 4, 2) := by decide +kernel
theorem dd_L_law_787 : decode cL_law 787 = .ok (.iconst 3, 1) := by decide +kernel
theorem dd_L_law_788 : decode cL_law 788 = .ok (.iadd, 1) := by decide +kernel
theorem dd_L_law_789 : decode cL_law 789 = .ok (.iaload, 1) := by decide +kernel
theorem dd_L_law_790 : decode cL_law 790 = .ok (.invokevirtual 88, 3) := by decide +kernel
theorem dd_L_law_793 : decode cL_law 793 = .ok (.if_icmp .eq 680, 3) := by decide +kernel
theorem dd_L_law_798 : decode cL_law 798 = .ok (.aload_n 1, 1) := by decide +kernel
theorem dd_L_law_799 : decode cL_law 799 = .ok (.invokevirtual 89, 3) := by decide +kernel
theorem dd_L_law_802 : decode cL_law 802 = .ok (.aload_n 2, 1) := by decide +kernel
theorem dd_L_law_803 : decode cL_law 803 = .ok (.invokevirtual 92, 3) := by decide +kernel
theorem dd_L_law_806 : decode cL_law 806 = .ok (.if_icmp .eq 667, 3) := by decide +kernel
theorem dd_L_law_811 : decode cL_law 811 = .ok (.aload_n 1, 1) := by decide +kernel
theorem dd_L_law_812 : decode cL_law 812 = .ok (.aload_n 0, 1) := by decide +kernel
theorem dd_L_law_813 : decode cL_law 813 = .ok (.iload 4, 2) := by decide +kernel
theorem dd_L_law_815 : decode cL_law 815 = .ok (.iconst 1, 1) := by decide +kernel
theorem dd_L_law_816 : decode cL_law 816 = .ok (.iadd, 1) := by decide +kernel
theorem dd_L_law_817 : decode cL_law 817 = .ok (.iaload, 1) := by decide +kernel
theorem dd_L_law_818 : decode cL_law 818 = .ok (.invokevirtual 93, 3) := by decide +kernel
theorem dd_L_law_821 : decode cL_law 821 = .ok (.aload_n 2, 1) := by decide +kernel
theorem dd_L_law_822 : decode cL_law 822 = .ok (.aload_n 0, 1) := by decide +kernel
theorem dd_L_law_823 : decode cL_law 823 = .ok (.iload 4, 2) := by decide +kernel
theorem dd_L_law_825 : decode cL_law 825 = .ok (.iconst 1, 1) := by decide +kernel
theorem dd_L_law_826 : decode cL_law 826 = .ok (.iadd, 1) := by decide +kernel
theorem dd_L_law_827 : decode cL_law 827 = .ok (.iaload, 1) := by decide +kernel
theorem dd_L_law_828 : decode cL_law 828 = .ok (.invokevirtual 96, 3) := by decide +kernel
theorem dd_L_law_831 : decode cL_law 831 = .ok (.if_icmp .eq 642, 3) := by decide +kernel
theorem dd_L_law_836 : decode cL_law 836 = .ok (.aload_n 1, 1) := by decide +kernel
theorem dd_L_law_837 : decode cL_law 837 = .ok (.invokevirtual 97, 3) := by decide +kernel
theorem dd_L_law_840 : decode cL_law 840 = .ok (.aload_n 2, 1) := by decide +kernel
theorem dd_L_law_841 : decode cL_law 841 = .ok (.invokevirtual 100, 3) := by decide +kernel
theorem dd_L_law_844 : decode cL_law 844 = .ok (.if_icmp .eq 629, 3) := by decide +kernel
theorem dd_L_law_849 : decode cL_law 849 = .ok (.aload_n 1, 1) := by decide +kernel
theorem dd_L_law_850 : decode cL_law 850 = .ok (.invokevirtual 101, 3) := by decide +kernel
theorem dd_L_law_853 : decode cL_law 853 = .ok (.aload_n 2, 1) := by decide +kernel
theorem dd_L_law_854 : decode cL_law 854 = .ok (.invokevirtual 104, 3) := by decide +kernel
theorem dd_L_law_857 : decode cL_law 857 = .ok (.if_icmp .eq 616, 3) := by decide +kernel
theorem dd_L_law_862 : decode cL_law 862 = .ok (.aload_n 1, 1) := by decide +kernel
theorem dd_L_law_863 : decode cL_law 863 = .ok (.aload_n 0, 1) := by decide +kernel
theorem dd_L_law_864 : decode cL_law 864 = .ok (.iload 4, 2) := by decide +kernel
theorem dd_L_law_866 : decode cL_law 866 = .ok (.iconst 1, 1) := by decide +kernel
theorem dd_L_law_867 : decode cL_law 867 = .ok (.iadd, 1) := by decide +kernel
theorem dd_L_law_868 : decode cL_law 868 = .ok (.iaload, 1) := by decide +kernel
theorem dd_L_law_869 : decode cL_law 869 = .ok (.invokevirtual 105, 3) := by decide +kernel
theorem dd_L_law_872 : decode cL_law 872 = .ok (.aload_n 2, 1) := by decide +kernel
theorem dd_L_law_873 : decode cL_law 873 = .ok (.aload_n 0, 1) := by decide +kernel
theorem dd_L_law_874 : decode cL_law 874 = .ok (.iload 4, 2) := by decide +kernel
theorem dd_L_law_876 : decode cL_law 876 = .ok (.iconst 1, 1) := by decide +kernel
theorem dd_L_law_877 : decode cL_law 877 = .ok (.iadd, 1) := by decide +kernel
theorem dd_L_law_878 : decode cL_law 878 = .ok (.iaload, 1) := by decide +kernel
theorem dd_L_law_879 : decode cL_law 879 = .ok (.invokevirtual 108, 3) := by decide +kernel
theorem dd_L_law_882 : decode cL_law 882 = .ok (.if_icmp .eq 591, 3) := by decide +kernel
theorem dd_L_law_887 : decode cL_law 887 = .ok (.aload_n 1, 1) := by decide +kernel
theorem dd_L_law_888 : decode cL_law 888 = .ok (.aload_n 0, 1) := by decide +kernel
theorem dd_L_law_889 : decode cL_law 889 = .ok (.iload 4, 2) := by decide +kernel
theorem dd_L_law_891 : decode cL_law 891 = .ok (.iconst 1, 1) := by decide +kernel
theorem dd_L_law_892 : decode cL_law 892 = .ok (.iadd, 1) := by decide +kernel
theorem dd_L_law_893 : decode cL_law 893 = .ok (.iaload, 1) := by decide +kernel
theorem dd_L_law_894 : decode cL_law 894 = .ok (.aload_n 0, 1) := by decide +kernel
theorem dd_L_law_895 : decode cL_law 895 = .ok (.iload 4, 2) := by decide +kernel
theorem dd_L_law_897 : decode cL_law 897 = .ok (.iconst 2, 1) := by decide +kernel
theorem dd_L_law_898 : decode cL_law 898 = .ok (.iadd, 1) := by decide +kernel
theorem dd_L_law_899 : decode cL_law 899 = .ok (.iaload, 1) := by decide +kernel
theorem dd_L_law_900 : decode cL_law 900 = .ok (.invokevirtual 109, 3) := by decide +kernel
theorem dd_L_law_903 : decode cL_law 903 = .ok (.aload_n 2, 1) := by decide +kernel
theorem dd_L_law_904 : decode cL_law 904 = .ok (.aload_n 0, 1) := by decide +kernel
theorem dd_L_law_905 : decode cL_law 905 = .ok (.iload 4, 2) := by decide +kernel
theorem dd_L_law_907 : decode cL_law 907 = .ok (.iconst 1, 1) := by decide +kernel
theorem dd_L_law_908 : decode cL_law 908 = .ok (.iadd, 1) := by decide +kernel
theorem dd_L_law_909 : decode cL_law 909 = .ok (.iaload, 1) := by decide +kernel
theorem dd_L_law_910 : decode cL_law 910 = .ok (.aload_n 0, 1) := by decide +kernel
theorem dd_L_law_911 : decode cL_law 911 = .ok (.iload 4, 2) := by decide +kernel
theorem dd_L_law_913 : decode cL_law 913 = .ok (.iconst 2, 1) := by decide +kernel
theorem dd_L_law_914 : decode cL_law 914 = .ok (.iadd, 1) := by decide +kernel
theorem dd_L_law_915 : decode cL_law 915 = .ok (.iaload, 1) := by decide +kernel
theorem dd_L_law_916 : decode cL_law 916 = .ok (.invokevirtual 112, 3) := by decide +kernel
theorem dd_L_law_919 : decode cL_law 919 = .ok (.if_icmp .eq 554, 3) := by decide +kernel
theorem dd_L_law_924 : decode cL_law 924 = .ok (.aload_n 1, 1) := by decide +kernel
theorem dd_L_law_925 : decode cL_law 925 = .ok (.aload_n 0, 1) := by decide +kernel
theorem dd_L_law_926 : decode cL_law 926 = .ok (.iload 4, 2) := by decide +kernel
theorem dd_L_law_928 : decode cL_law 928 = .ok (.iconst 1, 1) := by decide +kernel
theorem dd_L_law_929 : decode cL_law 929 = .ok (.iadd, 1) := by decide +kernel
theorem dd_L_law_930 : decode cL_law 930 = .ok (.iaload, 1) := by decide +kernel
theorem dd_L_law_931 : decode cL_law 931 = .ok (.invokevirtual 113, 3) := by decide +kernel
theorem dd_L_law_934 : decode cL_law 934 = .ok (.aload_n 2, 1) := by decide +kernel
theorem dd_L_law_935 : decode cL_law 935 = .ok (.aload_n 0, 1) := by decide +kernel
theorem dd_L_law_936 : decode cL_law 936 = .ok (.iload 4, 2) := by decide +kernel
theorem dd_L_law_938 : decode cL_law 938 = .ok (.iconst 1, 1) := by decide +kernel
theorem dd_L_law_939 : decode cL_law 939 = .ok (.iadd, 1) := by decide +kernel
theorem dd_L_law_940 : decode cL_law 940 = .ok (.iaload, 1) := by decide +kernel
theorem dd_L_law_941 : decode cL_law 941 = .ok (.invokevirtual 116, 3) := by decide +kernel
theorem dd_L_law_944 : decode cL_law 944 = .ok (.if_icmp .eq 529, 3) := by decide +kernel
theorem dd_L_law_949 : decode cL_law 949 = .ok (.aload_n 1, 1) := by decide +kernel
theorem dd_L_law_950 : decode cL_law 950 = .ok (.aload_n 0, 1) := by decide +kernel
theorem dd_L_law_951 : decode cL_law 951 = .ok (.iload 4, 2) := by decide +kernel
theorem dd_L_law_953 : decode cL_law 953 = .ok (.iconst 1, 1) := by decide +kernel
theorem dd_L_law_954 : decode cL_law 954 = .ok (.iadd, 1) := by decide +kernel
theorem dd_L_law_955 : decode cL_law 955 = .ok (.iaload, 1) := by decide +kernel
theorem dd_L_law_956 : decode cL_law 956 = .ok (.aload_n 0, 1) := by decide +kernel
theorem dd_L_law_957 : decode cL_law 957 = .ok (.iload 4, 2) := by decide +kernel
theorem dd_L_law_959 : decode cL_law 959 = .ok (.iconst 2, 1) := by decide +kernel
theorem dd_L_law_960 : decode cL_law 960 = .ok (.iadd, 1) := by decide +kernel
theorem dd_L_law_961 : decode cL_law 961 = .ok (.iaload, 1) := by decide +kernel
theorem dd_L_law_962 : decode cL_law 962 = .ok (.invokevirtual 117, 3) := by decide +kernel
theorem dd_L_law_965 : decode cL_law 965 = .ok (.aload_n 2, 1) := by decide +kernel
theorem dd_L_law_966 : decode cL_law 966 = .ok (.aload_n 0, 1) := by decide +kernel
theorem dd_L_law_967 : decode cL_law 967 = .ok (.iload 4, 2) := by decide +kernel
theorem dd_L_law_969 : decode cL_law 969 = .ok (.iconst 1, 1) := by decide +kernel
theorem dd_L_law_970 : decode cL_law 970 = .ok (.iadd, 1) := by decide +kernel
theorem dd_L_law_971 : decode cL_law 971 = .ok (.iaload, 1) := by decide +kernel
theorem dd_L_law_972 : decode cL_law 972 = .ok (.aload_n 0, 1) := by decide +kernel
theorem dd_L_law_973 : decode cL_law 973 = .ok (.iload 4, 2) := by decide +kernel
theorem dd_L_law_975 : decode cL_law 975 = .ok (.iconst 2, 1) := by decide +kernel
theorem dd_L_law_976 : decode cL_law 976 = .ok (.iadd, 1) := by decide +kernel
theorem dd_L_law_977 : decode cL_law 977 = .ok (.iaload, 1) := by decide +kernel
theorem dd_L_law_978 : decode cL_law 978 = .ok (.invokevirtual 120, 3) := by decide +kernel
theorem dd_L_law_981 : decode cL_law 981 = .ok (.if_icmp .eq 492, 3) := by decide +kernel
theorem dd_L_law_986 : decode cL_law 986 = .ok (.aload_n 1, 1) := by decide +kernel
theorem dd_L_law_987 : decode cL_law 987 = .ok (.aload_n 0, 1) := by decide +kernel
theorem dd_L_law_988 : decode cL_law 988 = .ok (.iload 4, 2) := by decide +kernel
theorem dd_L_law_990 : decode cL_law 990 = .ok (.iconst 1, 1) := by decide +kernel
theorem dd_L_law_991 : decode cL_law 991 = .ok (.iadd, 1) := by decide +kernel
theorem dd_L_law_992 : decode cL_law 992 = .ok (.iaload, 1) := by decide +kernel
theorem dd_L_law_993 : decode cL_law 993 = .ok (.aload_n 0, 1) := by decide +kernel
theorem dd_L_law_994 : decode cL_law 994 = .ok (.iload 4, 2) := by decide +kernel
theorem dd_L_law_996 : decode cL_law 996 = .ok (.iconst 2, 1) := by decide +kernel
theorem dd_L_law_997 : decode cL_law 997 = .ok (.iadd, 1) := by decide +kernel
theorem dd_L_law_998 : decode cL_law 998 = .ok (.iaload, 1) := by decide +kernel
theorem dd_L_law_999 : decode cL_law 999 = .ok (.invokevirtual 121, 3) := by decide +kernel
theorem dd_L_law_1002 : decode cL_law 1002 = .ok (.aload_n 2, 1) := by decide +kernel
theorem dd_L_law_1003 : decode cL_law 1003 = .ok (.aload_n 0, 1) := by decide +kernel
theorem dd_L_law_1004 : decode cL_law 1004 = .ok (.iload 4, 2) := by decide +kernel
theorem dd_L_law_1006 : decode cL_law 1006 = .ok (.iconst 1, 1) := by decide +kernel
theorem dd_L_law_1007 : decode cL_law 1007 = .ok (.iadd, 1) := by decide +kernel
theorem dd_L_law_1008 : decode cL_law 1008 = .ok (.iaload, 1) := by decide +kernel
theorem dd_L_law_1009 : decode cL_law 1009 = .ok (.aload_n 0, 1) := by decide +kernel
theorem dd_L_law_1010 : decode cL_law 1010 = .ok (.iload 4, 2) := by decide +kernel
theorem dd_L_law_1012 : decode cL_law 1012 = .ok (.iconst 2, 1) := by decide +kernel
theorem dd_L_law_1013 : decode cL_law 1013 = .ok (.iadd, 1) := by decide +kernel
theorem dd_L_law_1014 : decode cL_law 1014 = .ok (.iaload, 1) := by decide +kernel
theorem dd_L_law_1015 : decode cL_law 1015 = .ok (.invokevirtual 124, 3) := by decide +kernel
theorem dd_L_law_1018 : decode cL_law 1018 = .ok (.if_icmp .eq 455, 3) := by decide +kernel
theorem dd_L_law_1023 : decode cL_law 1023 = .ok (.aload_n 1, 1) := by decide +kernel
theorem dd_L_law_1024 : decode cL_law 1024 = .ok (.invokevirtual 125, 3) := by decide +kernel
theorem dd_L_law_1027 : decode cL_law 1027 = .ok (.aload_n 2, 1) := by decide +kernel
theorem dd_L_law_1028 : decode cL_law 1028 = .ok (.invokevirtual 128, 3) := by decide +kernel
theorem dd_L_law_1031 : decode cL_law 1031 = .ok (.if_icmp .eq 442, 3) := by decide +kernel
theorem dd_L_law_1036 : decode cL_law 1036 = .ok (.aload_n 1, 1) := by decide +kernel
theorem dd_L_law_1037 : decode cL_law 1037 = .ok (.invokevirtual 129, 3) := by decide +kernel
theorem dd_L_law_1040 : decode cL_law 1040 = .ok (.aload_n 2, 1) := by decide +kernel
theorem dd_L_law_1041 : decode cL_law 1041 = .ok (.invokevirtual 132, 3) := by decide +kernel
theorem dd_L_law_1044 : decode cL_law 1044 = .ok (.if_icmp .eq 429, 3) := by decide +kernel
theorem dd_L_law_1049 : decode cL_law 1049 = .ok (.aload_n 1, 1) := by decide +kernel
theorem dd_L_law_1050 : decode cL_law 1050 = .ok (.invokevirtual 133, 3) := by decide +kernel
theorem dd_L_law_1053 : decode cL_law 1053 = .ok (.aload_n 2, 1) := by decide +kernel
theorem dd_L_law_1054 : decode cL_law 1054 = .ok (.invokevirtual 136, 3) := by decide +kernel
theorem dd_L_law_1057 : decode cL_law 1057 = .ok (.if_icmp .eq 416, 3) := by decide +kernel
theorem dd_L_law_1062 : decode cL_law 1062 = .ok (.aload_n 1, 1) := by decide +kernel
theorem dd_L_law_1063 : decode cL_law 1063 = .ok (.aload_n 0, 1) := by decide +kernel
theorem dd_L_law_1064 : decode cL_law 1064 = .ok (.iload 4, 2) := by decide +kernel
theorem dd_L_law_1066 : decode cL_law 1066 = .ok (.iconst 1, 1) := by decide +kernel
theorem dd_L_law_1067 : decode cL_law 1067 = .ok (.iadd, 1) := by decide +kernel
theorem dd_L_law_1068 : decode cL_law 1068 = .ok (.iaload, 1) := by decide +kernel
theorem dd_L_law_1069 : decode cL_law 1069 = .ok (.aload_n 0, 1) := by decide +kernel
theorem dd_L_law_1070 : decode cL_law 1070 = .ok (.iload 4, 2) := by decide +kernel
theorem dd_L_law_1072 : decode cL_law 1072 = .ok (.iconst 2, 1) := by decide +kernel
theorem dd_L_law_1073 : decode cL_law 1073 = .ok (.iadd, 1) := by decide +kernel
theorem dd_L_law_1074 : decode cL_law 1074 = .ok (.iaload, 1) := by decide +kernel
theorem dd_L_law_1075 : decode cL_law 1075 = .ok (.aload_n 0, 1) := by decide +kernel
theorem dd_L_law_1076 : decode cL_law 1076 = .ok (.iload 4, 2) := by decide +kernel
theorem dd_L_law_1078 : decode cL_law 1078 = .ok (.iconst 3, 1) := by decide +kernel
theorem dd_L_law_1079 : decode cL_law 1079 = .ok (.iadd, 1) := by decide +kernel
theorem dd_L_law_1080 : decode cL_law 1080 = .ok (.iaload, 1) := by decide +kernel
theorem dd_L_law_1081 : decode cL_law 1081 = .ok (.invokevirtual 137, 3) := by decide +kernel
theorem dd_L_law_1084 : decode cL_law 1084 = .ok (.aload_n 2, 1) := by decide +kernel
theorem dd_L_law_1085 : decode cL_law 1085 = .ok (.aload_n 0, 1) := by decide +kernel
theorem dd_L_law_1086 : decode cL_law 1086 = .ok (.iload 4, 2) := by decide +kernel
theorem dd_L_law_1088 : decode cL_law 1088 = .ok (.iconst 1, 1) := by decide +kernel
theorem dd_L_law_1089 : decode cL_law 1089 = .ok (.iadd, 1) := by decide +kernel
theorem dd_L_law_1090 : decode cL_law 1090 = .ok (.iaload, 1) := by decide +kernel
theorem dd_L_law_1091 : decode cL_law 1091 = .ok (.aload_n 0, 1) := by decide +kernel
theorem dd_L_law_1092 : decode cL_law 1092 = .ok (.iload 4, 2) := by decide +kernel
theorem dd_L_law_1094 : decode cL_law 1094 = .ok (.iconst 2, 1) := by decide +kernel
theorem dd_L_law_1095 : decode cL_law 1095 = .ok (.iadd, 1) := by decide +kernel
theorem dd_L_law_1096 : decode cL_law 1096 = .ok (.iaload, 1) := by decide +kernel
theorem dd_L_law_1097 : decode cL_law 1097 = .ok (.aload_n 0, 1) := by decide +kernel
theorem dd_L_law_1098 : decode cL_law 1098 = .ok (.iload 4, 2) := by decide +kernel
theorem dd_L_law_1100 : decode cL_law 1100 = .ok (.iconst 3, 1) := by decide +kernel
theorem dd_L_law_1101 : decode cL_law 1101 = .ok (.iadd, 1) := by decide +kernel
theorem dd_L_law_1102 : decode cL_law 1102 = .ok (.iaload, 1) := by decide +kernel
theorem dd_L_law_1103 : decode cL_law 1103 = .ok (.invokevirtual 140, 3) := by decide +kernel
theorem dd_L_law_1106 : decode cL_law 1106 = .ok (.if_icmp .eq 367, 3) := by decide +kernel
theorem dd_L_law_1111 : decode cL_law 1111 = .ok (.aload_n 1, 1) := by decide +kernel
theorem dd_L_law_1112 : decode cL_law 1112 = .ok (.aload_n 0, 1) := by decide +kernel
theorem dd_L_law_1113 : decode cL_law 1113 = .ok (.iload 4, 2) := by decide +kernel
theorem dd_L_law_1115 : decode cL_law 1115 = .ok (.iconst 1, 1) := by decide +kernel
theorem dd_L_law_1116 : decode cL_law 1116 = .ok (.iadd, 1) := by decide +kernel
theorem dd_L_law_1117 : decode cL_law 1117 = .ok (.iaload, 1) := by decide +kernel
theorem dd_L_law_1118 : decode cL_law 1118 = .ok (.invokevirtual 141, 3) := by decide +kernel
theorem dd_L_law_1121 : decode cL_law 1121 = .ok (.aload_n 2, 1) := by decide +kernel
theorem dd_L_law_1122 : decode cL_law 1122 = .ok (.aload_n 0, 1) := by decide +kernel
theorem dd_L_law_1123 : decode cL_law 1123 = .ok (.iload 4, 2) := by decide +kernel
theorem dd_L_law_1125 : decode cL_law 1125 = .ok (.iconst 1, 1) := by decide +kernel
theorem dd_L_law_1126 : decode cL_law 1126 = .ok (.iadd, 1) := by decide +kernel
theorem dd_L_law_1127 : decode cL_law 1127 = .ok (.iaload, 1) := by decide +kernel
theorem dd_L_law_1128 : decode cL_law 1128 = .ok (.invokevirtual 144, 3) := by decide +kernel
theorem dd_L_law_1131 : decode cL_law 1131 = .ok (.if_icmp .eq 342, 3) := by decide +kernel
theorem dd_L_law_1136 : decode cL_law 1136 = .ok (.aload_n 1, 1) := by decide +kernel
theorem dd_L_law_1137 : decode cL_law 1137 = .ok (.aload_n 0, 1) := by decide +kernel
theorem dd_L_law_1138 : decode cL_law 1138 = .ok (.iload 4, 2) := by decide +kernel
theorem dd_L_law_1140 : decode cL_law 1140 = .ok (.iconst 1, 1) := by decide +kernel
theorem dd_L_law_1141 : decode cL_law 1141 = .ok (.iadd, 1) := by decide +kernel
theorem dd_L_law_1142 : decode cL_law 1142 = .ok (.iaload, 1) := by decide +kernel
theorem dd_L_law_1143 : decode cL_law 1143 = .ok (.invokevirtual 145, 3) := by decide +kernel
theorem dd_L_law_1146 : decode cL_law 1146 = .ok (.aload_n 2, 1) := by decide +kernel
theorem dd_L_law_1147 : decode cL_law 1147 = .ok (.aload_n 0, 1) := by decide +kernel
theorem dd_L_law_1148 : decode cL_law 1148 = .ok (.iload 4, 2) := by decide +kernel
theorem dd_L_law_1150 : decode cL_law 1150 = .ok (.iconst 1, 1) := by decide +kernel
theorem dd_L_law_1151 : decode cL_law 1151 = .ok (.iadd, 1) := by decide +kernel
theorem dd_L_law_1152 : decode cL_law 1152 = .ok (.iaload, 1) := by decide +kernel
theorem dd_L_law_1153 : decode cL_law 1153 = .ok (.invokevirtual 148, 3) := by decide +kernel
theorem dd_L_law_1156 : decode cL_law 1156 = .ok (.if_icmp .eq 317, 3) := by decide +kernel
theorem dd_L_law_1161 : decode cL_law 1161 = .ok (.aload_n 1, 1) := by decide +kernel
theorem dd_L_law_1162 : decode cL_law 1162 = .ok (.invokevirtual 149, 3) := by decide +kernel
theorem dd_L_law_1165 : decode cL_law 1165 = .ok (.aload_n 2, 1) := by decide +kernel
theorem dd_L_law_1166 : decode cL_law 1166 = .ok (.invokevirtual 152, 3) := by decide +kernel
theorem dd_L_law_1169 : decode cL_law 1169 = .ok (.if_icmp .eq 304, 3) := by decide +kernel
theorem dd_L_law_1174 : decode cL_law 1174 = .ok (.aload_n 1, 1) := by decide +kernel
theorem dd_L_law_1175 : decode cL_law 1175 = .ok (.aload_n 0, 1) := by decide +kernel
theorem dd_L_law_1176 : decode cL_law 1176 = .ok (.iload 4, 2) := by decide +kernel
theorem dd_L_law_1178 : decode cL_law 1178 = .ok (.iconst 1, 1) := by decide +kernel
theorem dd_L_law_1179 : decode cL_law 1179 = .ok (.iadd, 1) := by decide +kernel
theorem dd_L_law_1180 : decode cL_law 1180 = .ok (.iaload, 1) := by decide +kernel
theorem dd_L_law_1181 : decode cL_law 1181 = .ok (.invokevirtual 153, 3) := by decide +kernel
theorem dd_L_law_1184 : decode cL_law 1184 = .ok (.aload_n 2, 1) := by decide +kernel
theorem dd_L_law_1185 : decode cL_law 1185 = .ok (.aload_n 0, 1) := by decide +kernel
theorem dd_L_law_1186 : decode cL_law 1186 = .ok (.iload 4, 2) := by decide +kernel
theorem dd_L_law_1188 : decode cL_law 1188 = .ok (.iconst 1, 1) := by decide +kernel
theorem dd_L_law_1189 : decode cL_law 1189 = .ok (.iadd, 1) := by decide +kernel
theorem dd_L_law_1190 : decode cL_law 1190 = .ok (.iaload, 1) := by decide +kernel
theorem dd_L_law_1191 : decode cL_law 1191 = .ok (.invokevirtual 156, 3) := by decide +kernel
theorem dd_L_law_1194 : decode cL_law 1194 = .ok (.if_icmp .eq 279, 3) := by decide +kernel
theorem dd_L_law_1199 : decode cL_law 1199 = .ok (.aload_n 1, 1) := by decide +kernel
theorem dd_L_law_1200 : decode cL_law 1200 = .ok (.aload_n 0, 1) := by decide +kernel
theorem dd_L_law_1201 : decode cL_law 1201 = .ok (.iload 4, 2) := by decide +kernel
theorem dd_L_law_1203 : decode cL_law 1203 = .ok (.iconst 1, 1) := by decide +kernel
theorem dd_L_law_1204 : decode cL_law 1204 = .ok (.iadd, 1) := by decide +kernel
theorem dd_L_law_1205 : decode cL_law 1205 = .ok (.iaload, 1) := by decide +kernel
theorem dd_L_law_1206 : decode cL_law 1206 = .ok (.invokevirtual 157, 3) := by decide +kernel
theorem dd_L_law_1209 : decode cL_law 1209 = .ok (.aload_n 2, 1) := by decide +kernel
theorem dd_L_law_1210 : decode cL_law 1210 = .ok (.aload_n 0, 1) := by decide +kernel
theorem dd_L_law_1211 : decode cL_law 1211 = .ok (.iload 4, 2) := by decide +kernel
theorem dd_L_law_1213 : decode cL_law 1213 = .ok (.iconst 1, 1) := by decide +kernel
theorem dd_L_law_1214 : decode cL_law 1214 = .ok (.iadd, 1) := by decide +kernel
theorem dd_L_law_1215 : decode cL_law 1215 = .ok (.iaload, 1) := by decide +kernel
theorem dd_L_law_1216 : decode cL_law 1216 = .ok (.invokevirtual 160, 3) := by decide +kernel
theorem dd_L_law_1219 : decode cL_law 1219 = .ok (.if_icmp .eq 254, 3) := by decide +kernel
theorem dd_L_law_1224 : decode cL_law 1224 = .ok (.aload_n 1, 1) := by decide +kernel
theorem dd_L_law_1225 : decode cL_law 1225 = .ok (.aload_n 0, 1) := by decide +kernel
theorem dd_L_law_1226 : decode cL_law 1226 = .ok (.iload 4, 2) := by decide +kernel
theorem dd_L_law_1228 : decode cL_law 1228 = .ok (.iconst 1, 1) := by decide +kernel
theorem dd_L_law_1229 : decode cL_law 1229 = .ok (.iadd, 1) := by decide +kernel
theorem dd_L_law_1230 : decode cL_law 1230 = .ok (.iaload, 1) := by decide +kernel
theorem dd_L_law_1231 : decode cL_law 1231 = .ok (.aload_n 0, 1) := by decide +kernel
theorem dd_L_law_1232 : decode cL_law 1232 = .ok (.iload 4, 2) := by decide +kernel
theorem dd_L_law_1234 : decode cL_law 1234 = .ok (.iconst 2, 1) := by decide +kernel
theorem dd_L_law_1235 : decode cL_law 1235 = .ok (.iadd, 1) := by decide +kernel
theorem dd_L_law_1236 : decode cL_law 1236 = .ok (.iaload, 1) := by decide +kernel
theorem dd_L_law_1237 : decode cL_law 1237 = .ok (.invokevirtual 161, 3) := by decide +kernel
theorem dd_L_law_1240 : decode cL_law 1240 = .ok (.aload_n 2, 1) := by decide +kernel
theorem dd_L_law_1241 : decode cL_law 1241 = .ok (.aload_n 0, 1) := by decide +kernel
theorem dd_L_law_1242 : decode cL_law 1242 = .ok (.iload 4, 2) := by decide +kernel
theorem dd_L_law_1244 : decode cL_law 1244 = .ok (.iconst 1, 1) := by decide +kernel
theorem dd_L_law_1245 : decode cL_law 1245 = .ok (.iadd, 1) := by decide +kernel
theorem dd_L_law_1246 : decode cL_law 1246 = .ok (.iaload, 1) := by decide +kernel
theorem dd_L_law_1247 : decode cL_law 1247 = .ok (.aload_n 0, 1) := by decide +kernel
theorem dd_L_law_1248 : decode cL_law 1248 = .ok (.iload 4, 2) := by decide +kernel
theorem dd_L_law_1250 : decode cL_law 1250 = .ok (.iconst 2, 1) := by decide +kernel
theorem dd_L_law_1251 : decode cL_law 1251 = .ok (.iadd, 1) := by decide +kernel
theorem dd_L_law_1252 : decode cL_law 1252 = .ok (.iaload, 1) := by decide +kernel
theorem dd_L_law_1253 : decode cL_law 1253 = .ok (.invokevirtual 164, 3) := by decide +kernel
theorem dd_L_law_1256 : decode cL_law 1256 = .ok (.if_icmp .eq 217, 3) := by decide +kernel
theorem dd_L_law_1261 : decode cL_law 1261 = .ok (.aload_n 1, 1) := by decide +kernel
theorem dd_L_law_1262 : decode cL_law 1262 = .ok (.aload_n 0, 1) := by decide +kernel
theorem dd_L_law_1263 : decode cL_law 1263 = .ok (.iload 4, 2) := by decide +kernel
theorem dd_L_law_1265 : decode cL_law 1265 = .ok (.iconst 1, 1) := by decide +kernel
theorem dd_L_law_1266 : decode cL_law 1266 = .ok (.iadd, 1) := by decide +kernel
theorem dd_L_law_1267 : decode cL_law 1267 = .ok (.iaload, 1) := by decide +kernel
theorem dd_L_law_1268 : decode cL_law 1268 = .ok (.aload_n 0, 1) := by decide +kernel
theorem dd_L_law_1269 : decode cL_law 1269 = .ok (.iload 4, 2) := by decide +kernel
theorem dd_L_law_1271 : decode cL_law 1271 = .ok (.iconst 2, 1) := by decide +kernel
theorem dd_L_law_1272 : decode cL_law 1272 = .ok (.iadd, 1) := by decide +kernel
theorem dd_L_law_1273 : decode cL_law 1273 = .ok (.iaload, 1) := by decide +kernel
theorem dd_L_law_1274 : decode cL_law 1274 = .ok (.aload_n 0, 1) := by decide +kernel
theorem dd_L_law_1275 : decode cL_law 1275 = .ok (.iload 4, 2) := by decide +kernel
theorem dd_L_law_1277 : decode cL_law 1277 = .ok (.iconst 3, 1) := by decide +kernel
theorem dd_L_law_1278 : decode cL_law 1278 = .ok (.iadd, 1) := by decide +kernel
theorem dd_L_law_1279 : decode cL_law 1279 = .ok (.iaload, 1) := by decide +kernel
theorem dd_L_law_1280 : decode cL_law 1280 = .ok (.invokevirtual 165, 3) := by decide +kernel
theorem dd_L_law_1283 : decode cL_law 1283 = .ok (.aload_n 2, 1) := by decide +kernel
theorem dd_L_law_1284 : decode cL_law 1284 = .ok (.aload_n 0, 1) := by decide +kernel
theorem dd_L_law_1285 : decode cL_law 1285 = .ok (.iload 4, 2) := by decide +kernel
theorem dd_L_law_1287 : decode cL_law 1287 = .ok (.iconst 1, 1) := by decide +kernel
theorem dd_L_law_1288 : decode cL_law 1288 = .ok (.iadd, 1) := by decide +kernel
theorem dd_L_law_1289 : decode cL_law 1289 = .ok (.iaload, 1) := by decide +kernel
theorem dd_L_law_1290 : decode cL_law 1290 = .ok (.aload_n 0, 1) := by decide +kernel
theorem dd_L_law_1291 : decode cL_law 1291 = .ok (.iload 4, 2) := by decide +kernel
theorem dd_L_law_1293 : decode cL_law 1293 = .ok (.iconst 2, 1) := by decide +kernel
theorem dd_L_law_1294 : decode cL_law 1294 = .ok (.iadd, 1) := by decide +kernel
theorem dd_L_law_1295 : decode cL_law 1295 = .ok (.iaload, 1) := by decide +kernel
theorem dd_L_law_1296 : decode cL_law 1296 = .ok (.aload_n 0, 1) := by decide +kernel
theorem dd_L_law_1297 : decode cL_law 1297 = .ok (.iload 4, 2) := by decide +kernel
theorem dd_L_law_1299 : decode cL_law 1299 = .ok (.iconst 3, 1) := by decide +kernel
theorem dd_L_law_1300 : decode cL_law 1300 = .ok (.iadd, 1) := by decide +kernel
theorem dd_L_law_1301 : decode cL_law 1301 = .ok (.iaload, 1) := by decide +kernel
theorem dd_L_law_1302 : decode cL_law 1302 = .ok (.invokevirtual 168, 3) := by decide +kernel
theorem dd_L_law_1305 : decode cL_law 1305 = .ok (.if_icmp .eq 168, 3) := by decide +kernel
theorem dd_L_law_1310 : decode cL_law 1310 = .ok (.aload_n 1, 1) := by decide +kernel
theorem dd_L_law_1311 : decode cL_law 1311 = .ok (.aload_n 0, 1) := by decide +kernel
theorem dd_L_law_1312 : decode cL_law 1312 = .ok (.iload 4, 2) := by decide +kernel
theorem dd_L_law_1314 : decode cL_law 1314 = .ok (.iconst 1, 1) := by decide +kernel
theorem dd_L_law_1315 : decode cL_law 1315 = .ok (.iadd, 1) := by decide +kernel
theorem dd_L_law_1316 : decode cL_law 1316 = .ok (.iaload, 1) := by decide +kernel
theorem dd_L_law_1317 : decode cL_law 1317 = .ok (.invokevirtual 169, 3) := by decide +kernel
theorem dd_L_law_1320 : decode cL_law 1320 = .ok (.aload_n 2, 1) := by decide +kernel
theorem dd_L_law_1321 : decode cL_law 1321 = .ok (.aload_n 0, 1) := by decide +kernel
theorem dd_L_law_1322 : decode cL_law 1322 = .ok (.iload 4, 2) := by decide +kernel
theorem dd_L_law_1324 : decode cL_law 1324 = .ok (.iconst 1, 1) := by decide +kernel
theorem dd_L_law_1325 : decode cL_law 1325 = .ok (.iadd, 1) := by decide +kernel
theorem dd_L_law_1326 : decode cL_law 1326 = .ok (.iaload, 1) := by decide +kernel
theorem dd_L_law_1327 : decode cL_law 1327 = .ok (.invokevirtual 172, 3) := by decide +kernel
theorem dd_L_law_1330 : decode cL_law 1330 = .ok (.if_icmp .eq 143, 3) := by decide +kernel
theorem dd_L_law_1335 : decode cL_law 1335 = .ok (.aload_n 1, 1) := by decide +kernel
theorem dd_L_law_1336 : decode cL_law 1336 = .ok (.aload_n 0, 1) := by decide +kernel
theorem dd_L_law_1337 : decode cL_law 1337 = .ok (.iload 4, 2) := by decide +kernel
theorem dd_L_law_1339 : decode cL_law 1339 = .ok (.iconst 1, 1) := by decide +kernel
theorem dd_L_law_1340 : decode cL_law 1340 = .ok (.iadd, 1) := by decide +kernel
theorem dd_L_law_1341 : decode cL_law 1341 = .ok (.iaload, 1) := by decide +kernel
theorem dd_L_law_1342 : decode cL_law 1342 = .ok (.invokevirtual 173, 3) := by decide +kernel
theorem dd_L_law_1345 : decode cL_law 1345 = .ok (.aload_n 2, 1) := by decide +kernel
theorem dd_L_law_1346 : decode cL_law 1346 = .ok (.aload_n 0, 1) := by decide +kernel
theorem dd_L_law_1347 : decode cL_law 1347 = .ok (.iload 4, 2) := by decide +kernel
theorem dd_L_law_1349 : decode cL_law 1349 = .ok (.iconst 1, 1) := by decide +kernel
theorem dd_L_law_1350 : decode cL_law 1350 = .ok (.iadd, 1) := by decide +kernel
theorem dd_L_law_1351 : decode cL_law 1351 = .ok (.iaload, 1) := by decide +kernel
theorem dd_L_law_1352 : decode cL_law 1352 = .ok (.invokevirtual 176, 3) := by decide +kernel
theorem dd_L_law_1355 : decode cL_law 1355 = .ok (.if_icmp .eq 118, 3) := by decide +kernel
theorem dd_L_law_1360 : decode cL_law 1360 = .ok (.aload_n 1, 1) := by decide +kernel
theorem dd_L_law_1361 : decode cL_law 1361 = .ok (.invokevirtual 177, 3) := by decide +kernel
theorem dd_L_law_1364 : decode cL_law 1364 = .ok (.aload_n 2, 1) := by decide +kernel
theorem dd_L_law_1365 : decode cL_law 1365 = .ok (.invokevirtual 180, 3) := by decide +kernel
theorem dd_L_law_1368 : decode cL_law 1368 = .ok (.if_icmp .eq 105, 3) := by decide +kernel
theorem dd_L_law_1373 : decode cL_law 1373 = .ok (.aload_n 1, 1) := by decide +kernel
theorem dd_L_law_1374 : decode cL_law 1374 = .ok (.aload_n 0, 1) := by decide +kernel
theorem dd_L_law_1375 : decode cL_law 1375 = .ok (.iload 4, 2) := by decide +kernel
theorem dd_L_law_1377 : decode cL_law 1377 = .ok (.iconst 1, 1) := by decide +kernel
theorem dd_L_law_1378 : decode cL_law 1378 = .ok (.iadd, 1) := by decide +kernel
theorem dd_L_law_1379 : decode cL_law 1379 = .ok (.iaload, 1) := by decide +kernel
theorem dd_L_law_1380 : decode cL_law 1380 = .ok (.invokevirtual 181, 3) := by decide +kernel
theorem dd_L_law_1383 : decode cL_law 1383 = .ok (.aload_n 2, 1) := by decide +kernel
theorem dd_L_law_1384 : decode cL_law 1384 = .ok (.aload_n 0, 1) := by decide +kernel
theorem dd_L_law_1385 : decode cL_law 1385 = .ok (.iload 4, 2) := by decide +kernel
theorem dd_L_law_1387 : decode cL_law 1387 = .ok (.iconst 1, 1) := by decide +kernel
theorem dd_L_law_1388 : decode cL_law 1388 = .ok (.iadd, 1) := by decide +kernel
theorem dd_L_law_1389 : decode cL_law 1389 = .ok (.iaload, 1) := by decide +kernel
theorem dd_L_law_1390 : decode cL_law 1390 = .ok (.invokevirtual 184, 3) := by decide +kernel
theorem dd_L_law_1393 : decode cL_law 1393 = .ok (.if_icmp .eq 80, 3) := by decide +kernel
theorem dd_L_law_1398 : decode cL_law 1398 = .ok (.aload_n 1, 1) := by decide +kernel
theorem dd_L_law_1399 : decode cL_law 1399 = .ok (.aload_n 0, 1) := by decide +kernel
theorem dd_L_law_1400 : decode cL_law 1400 = .ok (.iload 4, 2) := by decide +kernel
theorem dd_L_law_1402 : decode cL_law 1402 = .ok (.iconst 1, 1) := by decide +kernel
theorem dd_L_law_1403 : decode cL_law 1403 = .ok (.iadd, 1) := by decide +kernel
theorem dd_L_law_1404 : decode cL_law 1404 = .ok (.iaload, 1) := by decide +kernel
theorem dd_L_law_1405 : decode cL_law 1405 = .ok (.invokevirtual 185, 3) := by decide +kernel
theorem dd_L_law_1408 : decode cL_law 1408 = .ok (.aload_n 2, 1) := by decide +kernel
theorem dd_L_law_1409 : decode cL_law 1409 = .ok (.aload_n 0, 1) := by decide +kernel
theorem dd_L_law_1410 : decode cL_law 1410 = .ok (.iload 4, 2) := by decide +kernel
theorem dd_L_law_1412 : decode cL_law 1412 = .ok (.iconst 1, 1) := by decide +kernel
theorem dd_L_law_1413 : decode cL_law 1413 = .ok (.iadd, 1) := by decide +kernel
theorem dd_L_law_1414 : decode cL_law 1414 = .ok (.iaload, 1) := by decide +kernel
theorem dd_L_law_1415 : decode cL_law 1415 = .ok (.invokevirtual 188, 3) := by decide +kernel
theorem dd_L_law_1418 : decode cL_law 1418 = .ok (.if_icmp .eq 55, 3) := by decide +kernel
theorem dd_L_law_1423 : decode cL_law 1423 = .ok (.aload_n 1, 1) := by decide +kernel
theorem dd_L_law_1424 : decode cL_law 1424 = .ok (.aload_n 0, 1) := by decide +kernel
theorem dd_L_law_1425 : decode cL_law 1425 = .ok (.iload 4, 2) := by decide +kernel
theorem dd_L_law_1427 : decode cL_law 1427 = .ok (.iconst 1, 1) := by decide +kernel
theorem dd_L_law_1428 : decode cL_law 1428 = .ok (.iadd, 1) := by decide +kernel
theorem dd_L_law_1429 : decode cL_law 1429 = .ok (.iaload, 1) := by decide +kernel
theorem dd_L_law_1430 : decode cL_law 1430 = .ok (.invokevirtual 189, 3) := by decide +kernel
theorem dd_L_law_1433 : decode cL_law 1433 = .ok (.aload_n 2, 1) := by decide +kernel
theorem dd_L_law_1434 : decode cL_law 1434 = .ok (.aload_n 0, 1) := by decide +kernel
theorem dd_L_law_1435 : decode cL_law 1435 = .ok (.iload 4, 2) := by decide +kernel
theorem dd_L_law_1437 : decode cL_law 1437 = .ok (.iconst 1, 1) := by decide +kernel
theorem dd_L_law_1438 : decode cL_law 1438 = .ok (.iadd, 1) := by decide +kernel
theorem dd_L_law_1439 : decode cL_law 1439 = .ok (.iaload, 1) := by decide +kernel
theorem dd_L_law_1440 : decode cL_law 1440 = .ok (.invokevirtual 192, 3) := by decide +kernel
theorem dd_L_law_1443 : decode cL_law 1443 = .ok (.if_icmp .eq 30, 3) := by decide +kernel
theorem dd_L_law_1448 : decode cL_law 1448 = .ok (.aload_n 1, 1) := by decide +kernel
theorem dd_L_law_1449 : decode cL_law 1449 = .ok (.aload_n 0, 1) := by decide +kernel
theorem dd_L_law_1450 : decode cL_law 1450 = .ok (.iload 4, 2) := by decide +kernel
theorem dd_L_law_1452 : decode cL_law 1452 = .ok (.iconst 1, 1) := by decide +kernel
theorem dd_L_law_1453 : decode cL_law 1453 = .ok (.iadd, 1) := by decide +kernel
theorem dd_L_law_1454 : decode cL_law 1454 = .ok (.iaload, 1) := by decide +kernel
theorem dd_L_law_1455 : decode cL_law 1455 = .ok (.invokevirtual 193, 3) := by decide +kernel
theorem dd_L_law_1458 : decode cL_law 1458 = .ok (.aload_n 2, 1) := by decide +kernel
theorem dd_L_law_1459 : decode cL_law 1459 = .ok (.aload_n 0, 1) := by decide +kernel
theorem dd_L_law_1460 : decode cL_law 1460 = .ok (.iload 4, 2) := by decide +kernel
theorem dd_L_law_1462 : decode cL_law 1462 = .ok (.iconst 1, 1) := by decide +kernel
theorem dd_L_law_1463 : decode cL_law 1463 = .ok (.iadd, 1) := by decide +kernel
theorem dd_L_law_1464 : decode cL_law 1464 = .ok (.iaload, 1) := by decide +kernel
theorem dd_L_law_1465 : decode cL_law 1465 = .ok (.invokevirtual 196, 3) := by decide +kernel
theorem dd_L_law_1468 : decode cL_law 1468 = .ok (.if_icmp .eq 5, 3) := by decide +kernel
theorem dd_L_law_1473 : decode cL_law 1473 = .ok (.iinc 4 6, 3) := by decide +kernel
theorem dd_L_law_1476 : decode cL_law 1476 = .ok (.goto (-1453), 3) := by decide +kernel
theorem dd_L_law_1479 : decode cL_law 1479 = .ok (.iconst 1, 1) := by decide +kernel
theorem dd_L_law_1480 : decode cL_law 1480 = .ok (.ireturn, 1) := by decide +kernel
