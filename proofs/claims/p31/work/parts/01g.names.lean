theorem dL_does_579 : decode cL_does 579 = .ok (.istore 11, 2) := by decide +kernel
theorem dL_does_581 : decode cL_does 581 = .ok (.iinc 12 1, 3) := by decide +kernel
theorem dL_does_584 : decode cL_does 584 = .ok (.goto (-36), 3) := by decide +kernel
theorem dL_does_587 : decode cL_does 587 = .ok (.aload_n 1, 1) := by decide +kernel
theorem dL_does_588 : decode cL_does 588 = .ok (.iload 6, 2) := by decide +kernel
theorem dL_does_590 : decode cL_does 590 = .ok (.iload 11, 2) := by decide +kernel
theorem dL_does_592 : decode cL_does 592 = .ok (.iload 10, 2) := by decide +kernel
theorem dL_does_594 : decode cL_does 594 = .ok (.aload_n 1, 1) := by decide +kernel
theorem dL_does_595 : decode cL_does 595 = .ok (.iload 8, 2) := by decide +kernel
theorem dL_does_597 : decode cL_does 597 = .ok (.iaload, 1) := by decide +kernel
theorem dL_does_598 : decode cL_does 598 = .ok (.invokestatic 8, 3) := by decide +kernel
theorem dL_does_601 : decode cL_does 601 = .ok (.imul, 1) := by decide +kernel
theorem dL_does_602 : decode cL_does 602 = .ok (.invokestatic 133, 3) := by decide +kernel
theorem dL_does_605 : decode cL_does 605 = .ok (.istore 12, 2) := by decide +kernel
theorem dL_does_607 : decode cL_does 607 = .ok (.aload_n 2, 1) := by decide +kernel
theorem dL_does_608 : decode cL_does 608 = .ok (.iconst 0, 1) := by decide +kernel
theorem dL_does_609 : decode cL_does 609 = .ok (.dup2, 1) := by decide +kernel
theorem dL_does_610 : decode cL_does 610 = .ok (.iaload, 1) := by decide +kernel
theorem dL_does_611 : decode cL_does 611 = .ok (.iload 12, 2) := by decide +kernel
theorem dL_does_613 : decode cL_does 613 = .ok (.iload 6, 2) := by decide +kernel
theorem dL_does_615 : decode cL_does 615 = .ok (.if_icmp .ne 7, 3) := by decide +kernel
theorem dL_does_618 : decode cL_does 618 = .ok (.iconst 1, 1) := by decide +kernel
theorem dL_does_619 : decode cL_does 619 = .ok (.goto 4, 3) := by decide +kernel
theorem dL_does_622 : decode cL_does 622 = .ok (.iconst 0, 1) := by decide +kernel
theorem dL_does_623 : decode cL_does 623 = .ok (.iadd, 1) := by decide +kernel
theorem dL_does_624 : decode cL_does 624 = .ok (.iastore, 1) := by decide +kernel
theorem dL_does_625 : decode cL_does 625 = .ok (.aload_n 0, 1) := by decide +kernel
theorem dL_does_626 : decode cL_does 626 = .ok (.iload 8, 2) := by decide +kernel
theorem dL_does_628 : decode cL_does 628 = .ok (.iconst 1, 1) := by decide +kernel
theorem dL_does_629 : decode cL_does 629 = .ok (.invokevirtual 138, 3) := by decide +kernel
theorem dL_does_632 : decode cL_does 632 = .ok (.ldc 68, 2) := by decide +kernel
theorem dL_does_634 : decode cL_does 634 = .ok (.if_icmp .ne 45, 3) := by decide +kernel
theorem dL_does_637 : decode cL_does 637 = .ok (.aload_n 0, 1) := by decide +kernel
theorem dL_does_638 : decode cL_does 638 = .ok (.iload 8, 2) := by decide +kernel
theorem dL_does_640 : decode cL_does 640 = .ok (.bipush 6, 2) := by decide +kernel
theorem dL_does_642 : decode cL_does 642 = .ok (.invokevirtual 138, 3) := by decide +kernel
theorem dL_does_645 : decode cL_does 645 = .ok (.ldc 68, 2) := by decide +kernel
theorem dL_does_647 : decode cL_does 647 = .ok (.if_icmp .ne 32, 3) := by decide +kernel
theorem dL_does_650 : decode cL_does 650 = .ok (.aload_n 0, 1) := by decide +kernel
theorem dL_does_651 : decode cL_does 651 = .ok (.iload 6, 2) := by decide +kernel
theorem dL_does_653 : decode cL_does 653 = .ok (.iconst 2, 1) := by decide +kernel
theorem dL_does_654 : decode cL_does 654 = .ok (.invokevirtual 138, 3) := by decide +kernel
theorem dL_does_657 : decode cL_does 657 = .ok (.ldc 84, 2) := by decide +kernel
theorem dL_does_659 : decode cL_does 659 = .ok (.if_icmp .ne 20, 3) := by decide +kernel
theorem dL_does_662 : decode cL_does 662 = .ok (.aload_n 0, 1) := by decide +kernel
theorem dL_does_663 : decode cL_does 663 = .ok (.iload 8, 2) := by decide +kernel
theorem dL_does_665 : decode cL_does 665 = .ok (.iload 10, 2) := by decide +kernel
theorem dL_does_667 : decode cL_does 667 = .ok (.invokevirtual 138, 3) := by decide +kernel
theorem dL_does_670 : decode cL_does 670 = .ok (.iload 12, 2) := by decide +kernel
theorem dL_does_672 : decode cL_does 672 = .ok (.if_icmp .ne 7, 3) := by decide +kernel
theorem dL_does_675 : decode cL_does 675 = .ok (.iconst 1, 1) := by decide +kernel
theorem dL_does_676 : decode cL_does 676 = .ok (.goto 4, 3) := by decide +kernel
theorem dL_does_679 : decode cL_does 679 = .ok (.iconst 0, 1) := by decide +kernel
theorem dL_does_680 : decode cL_does 680 = .ok (.ireturn, 1) := by decide +kernel
theorem dL_does_681 : decode cL_does 681 = .ok (.iload 7, 2) := by decide +kernel
theorem dL_does_683 : decode cL_does 683 = .ok (.bipush 8, 2) := by decide +kernel
theorem dL_does_685 : decode cL_does 685 = .ok (.if_icmp .ge 236, 3) := by decide +kernel
theorem dL_does_688 : decode cL_does 688 = .ok (.iconst 1, 1) := by decide +kernel
theorem dL_does_689 : decode cL_does 689 = .ok (.iload 4, 2) := by decide +kernel
theorem dL_does_691 : decode cL_does 691 = .ok (.iload 4, 2) := by decide +kernel
theorem dL_does_693 : decode cL_does 693 = .ok (.bipush 14, 2) := by decide +kernel
theorem dL_does_695 : decode cL_does 695 = .ok (.ishr, 1) := by decide +kernel
theorem dL_does_696 : decode cL_does 696 = .ok (.iconst 3, 1) := by decide +kernel
theorem dL_does_697 : decode cL_does 697 = .ok (.invokestatic 36, 3) := by decide +kernel
theorem dL_does_700 : decode cL_does 700 = .ok (.ifCond .ne 8, 3) := by decide +kernel
theorem dL_does_703 : decode cL_does 703 = .ok (.bipush 99, 2) := by decide +kernel
theorem dL_does_705 : decode cL_does 705 = .ok (.goto 5, 3) := by decide +kernel
theorem dL_does_708 : decode cL_does 708 = .ok (.bipush 20, 2) := by decide +kernel
theorem dL_does_710 : decode cL_does 710 = .ok (.invokestatic 36, 3) := by decide +kernel
theorem dL_does_713 : decode cL_does 713 = .ok (.iadd, 1) := by decide +kernel
theorem dL_does_714 : decode cL_does 714 = .ok (.istore 10, 2) := by decide +kernel
theorem dL_does_716 : decode cL_does 716 = .ok (.iconst 1, 1) := by decide +kernel
theorem dL_does_717 : decode cL_does 717 = .ok (.iload 4, 2) := by decide +kernel
theorem dL_does_719 : decode cL_does 719 = .ok (.bipush 7, 2) := by decide +kernel
theorem dL_does_721 : decode cL_does 721 = .ok (.ishr, 1) := by decide +kernel
theorem dL_does_722 : decode cL_does 722 = .ok (.iload 4, 2) := by decide +kernel
theorem dL_does_724 : decode cL_does 724 = .ok (.bipush 14, 2) := by decide +kernel
theorem dL_does_726 : decode cL_does 726 = .ok (.ishr, 1) := by decide +kernel
theorem dL_does_727 : decode cL_does 727 = .ok (.iconst 3, 1) := by decide +kernel
theorem dL_does_728 : decode cL_does 728 = .ok (.invokestatic 36, 3) := by decide +kernel
theorem dL_does_731 : decode cL_does 731 = .ok (.ifCond .ne 8, 3) := by decide +kernel
theorem dL_does_734 : decode cL_does 734 = .ok (.bipush 99, 2) := by decide +kernel
theorem dL_does_736 : decode cL_does 736 = .ok (.goto 5, 3) := by decide +kernel
theorem dL_does_739 : decode cL_does 739 = .ok (.bipush 20, 2) := by decide +kernel
theorem dL_does_741 : decode cL_does 741 = .ok (.invokestatic 36, 3) := by decide +kernel
theorem dL_does_744 : decode cL_does 744 = .ok (.iadd, 1) := by decide +kernel
theorem dL_does_745 : decode cL_does 745 = .ok (.istore 11, 2) := by decide +kernel
theorem dL_does_747 : decode cL_does 747 = .ok (.aload_n 0, 1) := by decide +kernel
theorem dL_does_748 : decode cL_does 748 = .ok (.iconst 0, 1) := by decide +kernel
theorem dL_does_749 : decode cL_does 749 = .ok (.iconst 1, 1) := by decide +kernel
theorem dL_does_750 : decode cL_does 750 = .ok (.invokevirtual 141, 3) := by decide +kernel
theorem dL_does_753 : decode cL_does 753 = .ok (.ldc 68, 2) := by decide +kernel
theorem dL_does_755 : decode cL_does 755 = .ok (.if_icmp .ne 37, 3) := by decide +kernel
theorem dL_does_758 : decode cL_does 758 = .ok (.aload_n 0, 1) := by decide +kernel
theorem dL_does_759 : decode cL_does 759 = .ok (.iconst 1, 1) := by decide +kernel
theorem dL_does_760 : decode cL_does 760 = .ok (.iconst 1, 1) := by decide +kernel
theorem dL_does_761 : decode cL_does 761 = .ok (.invokevirtual 141, 3) := by decide +kernel
theorem dL_does_764 : decode cL_does 764 = .ok (.ldc 68, 2) := by decide +kernel
theorem dL_does_766 : decode cL_does 766 = .ok (.if_icmp .ne 26, 3) := by decide +kernel
theorem dL_does_769 : decode cL_does 769 = .ok (.aload_n 0, 1) := by decide +kernel
theorem dL_does_770 : decode cL_does 770 = .ok (.bipush 100, 2) := by decide +kernel
theorem dL_does_772 : decode cL_does 772 = .ok (.iconst 1, 1) := by decide +kernel
theorem dL_does_773 : decode cL_does 773 = .ok (.invokevirtual 141, 3) := by decide +kernel
theorem dL_does_776 : decode cL_does 776 = .ok (.ldc 68, 2) := by decide +kernel
theorem dL_does_778 : decode cL_does 778 = .ok (.if_icmp .ne 14, 3) := by decide +kernel
theorem dL_does_781 : decode cL_does 781 = .ok (.aload_n 0, 1) := by decide +kernel
theorem dL_does_782 : decode cL_does 782 = .ok (.iconst 4, 1) := by decide +kernel
theorem dL_does_783 : decode cL_does 783 = .ok (.iconst 2, 1) := by decide +kernel
theorem dL_does_784 : decode cL_does 784 = .ok (.invokevirtual 141, 3) := by decide +kernel
theorem dL_does_787 : decode cL_does 787 = .ok (.ldc 68, 2) := by decide +kernel
theorem dL_does_789 : decode cL_does 789 = .ok (.if_icmp .eq 5, 3) := by decide +kernel
theorem dL_does_792 : decode cL_does 792 = .ok (.iconst 0, 1) := by decide +kernel
theorem dL_does_793 : decode cL_does 793 = .ok (.ireturn, 1) := by decide +kernel
theorem dL_does_794 : decode cL_does 794 = .ok (.iload 10, 2) := by decide +kernel
theorem dL_does_796 : decode cL_does 796 = .ok (.iload 11, 2) := by decide +kernel
theorem dL_does_798 : decode cL_does 798 = .ok (.invokestatic 77, 3) := by decide +kernel
theorem dL_does_801 : decode cL_does 801 = .ok (.iconst 1, 1) := by decide +kernel
theorem dL_does_802 : decode cL_does 802 = .ok (.if_icmp .gt 10, 3) := by decide +kernel
theorem dL_does_805 : decode cL_does 805 = .ok (.iload 10, 2) := by decide +kernel
theorem dL_does_807 : decode cL_does 807 = .ok (.iload 11, 2) := by decide +kernel
theorem dL_does_809 : decode cL_does 809 = .ok (.if_icmp .ne 22, 3) := by decide +kernel
theorem dL_does_812 : decode cL_does 812 = .ok (.aload_n 0, 1) := by decide +kernel
theorem dL_does_813 : decode cL_does 813 = .ok (.iload 10, 2) := by decide +kernel
theorem dL_does_815 : decode cL_does 815 = .ok (.iload 11, 2) := by decide +kernel
theorem dL_does_817 : decode cL_does 817 = .ok (.invokevirtual 141, 3) := by decide +kernel
theorem dL_does_820 : decode cL_does 820 = .ok (.ldc 68, 2) := by decide +kernel
theorem dL_does_822 : decode cL_does 822 = .ok (.if_icmp .ne 7, 3) := by decide +kernel
theorem dL_does_825 : decode cL_does 825 = .ok (.iconst 1, 1) := by decide +kernel
theorem dL_does_826 : decode cL_does 826 = .ok (.goto 4, 3) := by decide +kernel
theorem dL_does_829 : decode cL_does 829 = .ok (.iconst 0, 1) := by decide +kernel
theorem dL_does_830 : decode cL_does 830 = .ok (.ireturn, 1) := by decide +kernel
theorem dL_does_831 : decode cL_does 831 = .ok (.iload 10, 2) := by decide +kernel
theorem dL_does_833 : decode cL_does 833 = .ok (.iload 11, 2) := by decide +kernel
theorem dL_does_835 : decode cL_does 835 = .ok (.invokestatic 144, 3) := by decide +kernel
theorem dL_does_838 : decode cL_does 838 = .ok (.istore 12, 2) := by decide +kernel
theorem dL_does_840 : decode cL_does 840 = .ok (.aload_n 1, 1) := by decide +kernel
theorem dL_does_841 : decode cL_does 841 = .ok (.iload 6, 2) := by decide +kernel
theorem dL_does_843 : decode cL_does 843 = .ok (.iload 12, 2) := by decide +kernel
theorem dL_does_845 : decode cL_does 845 = .ok (.iload 12, 2) := by decide +kernel
theorem dL_does_847 : decode cL_does 847 = .ok (.invokestatic 8, 3) := by decide +kernel
theorem dL_does_850 : decode cL_does 850 = .ok (.invokestatic 133, 3) := by decide +kernel
theorem dL_does_853 : decode cL_does 853 = .ok (.istore 13, 2) := by decide +kernel
theorem dL_does_855 : decode cL_does 855 = .ok (.aload_n 2, 1) := by decide +kernel
theorem dL_does_856 : decode cL_does 856 = .ok (.iconst 0, 1) := by decide +kernel
theorem dL_does_857 : decode cL_does 857 = .ok (.dup2, 1) := by decide +kernel
theorem dL_does_858 : decode cL_does 858 = .ok (.iaload, 1) := by decide +kernel
theorem dL_does_859 : decode cL_does 859 = .ok (.iload 13, 2) := by decide +kernel
theorem dL_does_861 : decode cL_does 861 = .ok (.iload 6, 2) := by decide +kernel
theorem dL_does_863 : decode cL_does 863 = .ok (.if_icmp .ne 7, 3) := by decide +kernel
theorem dL_does_866 : decode cL_does 866 = .ok (.iconst 1, 1) := by decide +kernel
theorem dL_does_867 : decode cL_does 867 = .ok (.goto 4, 3) := by decide +kernel
theorem dL_does_870 : decode cL_does 870 = .ok (.iconst 0, 1) := by decide +kernel
theorem dL_does_871 : decode cL_does 871 = .ok (.iadd, 1) := by decide +kernel
theorem dL_does_872 : decode cL_does 872 = .ok (.iastore, 1) := by decide +kernel
theorem dL_does_873 : decode cL_does 873 = .ok (.aload_n 0, 1) := by decide +kernel
theorem dL_does_874 : decode cL_does 874 = .ok (.iload 10, 2) := by decide +kernel
theorem dL_does_876 : decode cL_does 876 = .ok (.iload 11, 2) := by decide +kernel
theorem dL_does_878 : decode cL_does 878 = .ok (.invokevirtual 141, 3) := by decide +kernel
theorem dL_does_881 : decode cL_does 881 = .ok (.iload 13, 2) := by decide +kernel
theorem dL_does_883 : decode cL_does 883 = .ok (.if_icmp .ne 36, 3) := by decide +kernel
theorem dL_does_886 : decode cL_does 886 = .ok (.iload 13, 2) := by decide +kernel
theorem dL_does_888 : decode cL_does 888 = .ok (.ifCond .lt 27, 3) := by decide +kernel
theorem dL_does_891 : decode cL_does 891 = .ok (.aload_n 0, 1) := by decide +kernel
theorem dL_does_892 : decode cL_does 892 = .ok (.iload 13, 2) := by decide +kernel
theorem dL_does_894 : decode cL_does 894 = .ok (.iconst 0, 1) := by decide +kernel
theorem dL_does_895 : decode cL_does 895 = .ok (.invokevirtual 74, 3) := by decide +kernel
theorem dL_does_898 : decode cL_does 898 = .ok (.iload 10, 2) := by decide +kernel
theorem dL_does_900 : decode cL_does 900 = .ok (.if_icmp .ne 19, 3) := by decide +kernel
theorem dL_does_903 : decode cL_does 903 = .ok (.aload_n 0, 1) := by decide +kernel
theorem dL_does_904 : decode cL_does 904 = .ok (.iload 13, 2) := by decide +kernel
theorem dL_does_906 : decode cL_does 906 = .ok (.iconst 1, 1) := by decide +kernel
theorem dL_does_907 : decode cL_does 907 = .ok (.invokevirtual 74, 3) := by decide +kernel
theorem dL_does_910 : decode cL_does 910 = .ok (.iload 11, 2) := by decide +kernel
theorem dL_does_912 : decode cL_does 912 = .ok (.if_icmp .ne 7, 3) := by decide +kernel
theorem dL_does_915 : decode cL_does 915 = .ok (.iconst 1, 1) := by decide +kernel
theorem dL_does_916 : decode cL_does 916 = .ok (.goto 4, 3) := by decide +kernel
theorem dL_does_919 : decode cL_does 919 = .ok (.iconst 0, 1) := by decide +kernel
theorem dL_does_920 : decode cL_does 920 = .ok (.ireturn, 1) := by decide +kernel
theorem dL_does_921 : decode cL_does 921 = .ok (.iload 7, 2) := by decide +kernel
theorem dL_does_923 : decode cL_does 923 = .ok (.bipush 8, 2) := by decide +kernel
theorem dL_does_925 : decode cL_does 925 = .ok (.if_icmp .ne 26, 3) := by decide +kernel
theorem dL_does_928 : decode cL_does 928 = .ok (.aload_n 2, 1) := by decide +kernel
theorem dL_does_929 : decode cL_does 929 = .ok (.iconst 0, 1) := by decide +kernel
theorem dL_does_930 : decode cL_does 930 = .ok (.dup2, 1) := by decide +kernel
theorem dL_does_931 : decode cL_does 931 = .ok (.iaload, 1) := by decide +kernel
theorem dL_does_932 : decode cL_does 932 = .ok (.iconst 1, 1) := by decide +kernel
theorem dL_does_933 : decode cL_does 933 = .ok (.isub, 1) := by decide +kernel
theorem dL_does_934 : decode cL_does 934 = .ok (.iastore, 1) := by decide +kernel
theorem dL_does_935 : decode cL_does 935 = .ok (.aload_n 0, 1) := by decide +kernel
theorem dL_does_936 : decode cL_does 936 = .ok (.invokevirtual 147, 3) := by decide +kernel
theorem dL_does_939 : decode cL_does 939 = .ok (.aload_n 2, 1) := by decide +kernel
theorem dL_does_940 : decode cL_does 940 = .ok (.iconst 0, 1) := by decide +kernel
theorem dL_does_941 : decode cL_does 941 = .ok (.iaload, 1) := by decide +kernel
theorem dL_does_942 : decode cL_does 942 = .ok (.if_icmp .ne 7, 3) := by decide +kernel
theorem dL_does_945 : decode cL_does 945 = .ok (.iconst 1, 1) := by decide +kernel
theorem dL_does_946 : decode cL_does 946 = .ok (.goto 4, 3) := by decide +kernel
theorem dL_does_949 : decode cL_does 949 = .ok (.iconst 0, 1) := by decide +kernel
theorem dL_does_950 : decode cL_does 950 = .ok (.ireturn, 1) := by decide +kernel
theorem dL_does_951 : decode cL_does 951 = .ok (.aload_n 0, 1) := by decide +kernel
theorem dL_does_952 : decode cL_does 952 = .ok (.iload 8, 2) := by decide +kernel
theorem dL_does_954 : decode cL_does 954 = .ok (.iload 9, 2) := by decide +kernel
theorem dL_does_956 : decode cL_does 956 = .ok (.invokevirtual 91, 3) := by decide +kernel
theorem dL_does_959 : decode cL_does 959 = .ok (.ifCond .lt 7, 3) := by decide +kernel
theorem dL_does_962 : decode cL_does 962 = .ok (.iconst 1, 1) := by decide +kernel
theorem dL_does_963 : decode cL_does 963 = .ok (.goto 4, 3) := by decide +kernel
theorem dL_does_966 : decode cL_does 966 = .ok (.iconst 0, 1) := by decide +kernel
theorem dL_does_967 : decode cL_does 967 = .ok (.aload_n 1, 1) := by decide +kernel
theorem dL_does_968 : decode cL_does 968 = .ok (.iload 8, 2) := by decide +kernel
theorem dL_does_970 : decode cL_does 970 = .ok (.iaload, 1) := by decide +kernel
theorem dL_does_971 : decode cL_does 971 = .ok (.invokestatic 8, 3) := by decide +kernel
theorem dL_does_974 : decode cL_does 974 = .ok (.aload_n 1, 1) := by decide +kernel
theorem dL_does_975 : decode cL_does 975 = .ok (.iload 9, 2) := by decide +kernel
theorem dL_does_977 : decode cL_does 977 = .ok (.iaload, 1) := by decide +kernel
theorem dL_does_978 : decode cL_does 978 = .ok (.invokestatic 8, 3) := by decide +kernel
theorem dL_does_981 : decode cL_does 981 = .ok (.if_icmp .ne 21, 3) := by decide +kernel
theorem dL_does_984 : decode cL_does 984 = .ok (.aload_n 1, 1) := by decide +kernel
theorem dL_does_985 : decode cL_does 985 = .ok (.iload 8, 2) := by decide +kernel
theorem dL_does_987 : decode cL_does 987 = .ok (.iaload, 1) := by decide +kernel
theorem dL_does_988 : decode cL_does 988 = .ok (.aload_n 1, 1) := by decide +kernel
theorem dL_does_989 : decode cL_does 989 = .ok (.iload 9, 2) := by decide +kernel
theorem dL_does_991 : decode cL_does 991 = .ok (.iaload, 1) := by decide +kernel
theorem dL_does_992 : decode cL_does 992 = .ok (.invokestatic 61, 3) := by decide +kernel
theorem dL_does_995 : decode cL_does 995 = .ok (.ifCond .eq 7, 3) := by decide +kernel
theorem dL_does_998 : decode cL_does 998 = .ok (.iconst 1, 1) := by decide +kernel
theorem dL_does_999 : decode cL_does 999 = .ok (.goto 4, 3) := by decide +kernel
theorem dL_does_1002 : decode cL_does 1002 = .ok (.iconst 0, 1) := by decide +kernel
theorem dL_does_1003 : decode cL_does 1003 = .ok (.if_icmp .ne 7, 3) := by decide +kernel
theorem dL_does_1006 : decode cL_does 1006 = .ok (.iconst 1, 1) := by decide +kernel
theorem dL_does_1007 : decode cL_does 1007 = .ok (.goto 4, 3) := by decide +kernel
theorem dL_does_1010 : decode cL_does 1010 = .ok (.iconst 0, 1) := by decide +kernel
theorem dL_does_1011 : decode cL_does 1011 = .ok (.ireturn, 1) := by decide +kernel
set_option maxRecDepth 20000 in
theorem ggL_drawn_L_with : GoodIn wsL_drawn wsL_with := goodIn_rq _ [10, 11, 12, 9, 13] (by decide +kernel) (by decide +kernel)
set_option maxRecDepth 20000 in
theorem gL_drawn_L_with : GoodIn wsL_drawn (va_wsS RL 21 yL_with wsL_with) := goodIn_app (goodIn_of _ (by decide +kernel)) ggL_drawn_L_with
set_option maxRecDepth 20000 in
theorem ggL_drawn_L_isClosed : GoodIn wsL_drawn wsL_isClosed := goodIn_rq _ [16, 17, 18, 9, 19, 11, 12, 13, 20, 21, 22] (by decide +kernel) (by decide +kernel)
set_option maxRecDepth 20000 in
theorem gL_drawn_L_isClosed : GoodIn wsL_drawn (va_wsS RL 54 yL_isClosed wsL_isClosed) := goodIn_app (goodIn_of _ (by decide +kernel)) ggL_drawn_L_isClosed
set_option maxRecDepth 20000 in
theorem ggL_drawn_L_table : GoodIn wsL_drawn wsL_table := goodIn_rq _ [25, 11, 12, 9, 13, 20, 21, 22] (by decide +kernel) (by decide +kernel)
set_option maxRecDepth 20000 in
theorem gL_drawn_L_table : GoodIn wsL_drawn (va_wsS RL 44 yL_table wsL_table) := goodIn_app (goodIn_of _ (by decide +kernel)) ggL_drawn_L_table
set_option maxRecDepth 20000 in
theorem ggL_drawn_L_crossings : GoodIn wsL_drawn wsL_crossings := goodIn_rq _ [28, 11, 12, 9, 13, 20, 21, 22, 29, 30, 31] (by decide +kernel) (by decide +kernel)
set_option maxRecDepth 20000 in
theorem gL_drawn_L_crossings : GoodIn wsL_drawn (va_wsS RL 99 yL_crossings wsL_crossings) := goodIn_app (goodIn_of _ (by decide +kernel)) ggL_drawn_L_crossings
set_option maxRecDepth 20000 in
theorem ggL_drawn_X4_drawn : GoodIn wsL_drawn wsX4_drawn := goodIn_rq _ [36, 37, 38, 39, 40, 41, 42, 43, 44, 45, 46, 47, 48, 49, 50, 51, 52, 53, 54, 55, 56, 57, 58, 59, 60, 61, 62, 63, 64, 65, 66, 67, 68, 69, 70, 71, 72, 73, 74, 75, 76, 77, 78, 79, 80, 81, 82, 83, 84, 85, 86, 87, 88, 89, 90, 91, 92, 93, 94, 95, 96, 97, 98, 99, 100, 101, 102, 103, 104, 105, 106, 107, 108, 109, 110, 111, 112, 113, 114, 115, 116, 117, 118] (by decide +kernel) (by decide +kernel)
set_option maxRecDepth 20000 in
theorem gL_drawn_X4_drawn : GoodIn wsL_drawn (wsV RL 160 RX4 yX4_drawn wsX4_drawn) := goodIn_app (goodIn_of _ (by decide +kernel)) ggL_drawn_X4_drawn
theorem dL_drawn_0 : decode cL_drawn 0 = .ok (.iload_n 2, 1) := by decide +kernel
theorem dL_drawn_1 : decode cL_drawn 1 = .ok (.i2l, 1) := by decide +kernel
theorem dL_drawn_2 : decode cL_drawn 2 = .ok (.lstore 4, 2) := by decide +kernel
theorem dL_drawn_4 : decode cL_drawn 4 = .ok (.iconst 0, 1) := by decide +kernel
theorem dL_drawn_5 : decode cL_drawn 5 = .ok (.istore 6, 2) := by decide +kernel
theorem dL_drawn_7 : decode cL_drawn 7 = .ok (.iconst 0, 1) := by decide +kernel
theorem dL_drawn_8 : decode cL_drawn 8 = .ok (.istore 7, 2) := by decide +kernel
theorem dL_drawn_10 : decode cL_drawn 10 = .ok (.iconst 0, 1) := by decide +kernel
theorem dL_drawn_11 : decode cL_drawn 11 = .ok (.istore 8, 2) := by decide +kernel
theorem dL_drawn_13 : decode cL_drawn 13 = .ok (.iconst 0, 1) := by decide +kernel
theorem dL_drawn_14 : decode cL_drawn 14 = .ok (.istore 9, 2) := by decide +kernel
theorem dL_drawn_16 : decode cL_drawn 16 = .ok (.iconst 0, 1) := by decide +kernel
theorem dL_drawn_17 : decode cL_drawn 17 = .ok (.istore 10, 2) := by decide +kernel
theorem dL_drawn_19 : decode cL_drawn 19 = .ok (.iload 10, 2) := by decide +kernel
theorem dL_drawn_21 : decode cL_drawn 21 = .ok (.iload_n 1, 1) := by decide +kernel
theorem dL_drawn_22 : decode cL_drawn 22 = .ok (.if_icmp .ge 120, 3) := by decide +kernel
theorem dL_drawn_25 : decode cL_drawn 25 = .ok (.iconst 0, 1) := by decide +kernel
theorem dL_drawn_26 : decode cL_drawn 26 = .ok (.istore 11, 2) := by decide +kernel
theorem dL_drawn_28 : decode cL_drawn 28 = .ok (.iconst 0, 1) := by decide +kernel
theorem dL_drawn_29 : decode cL_drawn 29 = .ok (.istore 12, 2) := by decide +kernel
theorem dL_drawn_31 : decode cL_drawn 31 = .ok (.iload 12, 2) := by decide +kernel
theorem dL_drawn_33 : decode cL_drawn 33 = .ok (.bipush 8, 2) := by decide +kernel
theorem dL_drawn_35 : decode cL_drawn 35 = .ok (.if_icmp .ge 43, 3) := by decide +kernel
theorem dL_drawn_38 : decode cL_drawn 38 = .ok (.lload 4, 2) := by decide +kernel
theorem dL_drawn_40 : decode cL_drawn 40 = .ok (.ldc2_w 150, 3) := by decide +kernel
theorem dL_drawn_43 : decode cL_drawn 43 = .ok (.lmul, 1) := by decide +kernel
theorem dL_drawn_44 : decode cL_drawn 44 = .ok (.ldc2_w 152, 3) := by decide +kernel
theorem dL_drawn_47 : decode cL_drawn 47 = .ok (.ladd, 1) := by decide +kernel
theorem dL_drawn_48 : decode cL_drawn 48 = .ok (.ldc2_w 154, 3) := by decide +kernel
theorem dL_drawn_51 : decode cL_drawn 51 = .ok (.lrem, 1) := by decide +kernel
theorem dL_drawn_52 : decode cL_drawn 52 = .ok (.lstore 4, 2) := by decide +kernel
theorem dL_drawn_54 : decode cL_drawn 54 = .ok (.iload 11, 2) := by decide +kernel
theorem dL_drawn_56 : decode cL_drawn 56 = .ok (.lload 4, 2) := by decide +kernel
theorem dL_drawn_58 : decode cL_drawn 58 = .ok (.ldc2_w 156, 3) := by decide +kernel
theorem dL_drawn_61 : decode cL_drawn 61 = .ok (.ldiv, 1) := by decide +kernel
theorem dL_drawn_62 : decode cL_drawn 62 = .ok (.ldc2_w 158, 3) := by decide +kernel
theorem dL_drawn_65 : decode cL_drawn 65 = .ok (.lrem, 1) := by decide +kernel
theorem dL_drawn_66 : decode cL_drawn 66 = .ok (.l2i, 1) := by decide +kernel
theorem dL_drawn_67 : decode cL_drawn 67 = .ok (.invokestatic 21, 3) := by decide +kernel
theorem dL_drawn_70 : decode cL_drawn 70 = .ok (.istore 11, 2) := by decide +kernel
theorem dL_drawn_72 : decode cL_drawn 72 = .ok (.iinc 12 1, 3) := by decide +kernel
theorem dL_drawn_75 : decode cL_drawn 75 = .ok (.goto (-44), 3) := by decide +kernel
theorem dL_drawn_78 : decode cL_drawn 78 = .ok (.iload 11, 2) := by decide +kernel
theorem dL_drawn_80 : decode cL_drawn 80 = .ok (.invokestatic 54, 3) := by decide +kernel
theorem dL_drawn_83 : decode cL_drawn 83 = .ok (.ifCond .eq 49, 3) := by decide +kernel
theorem dL_drawn_86 : decode cL_drawn 86 = .ok (.iinc 6 1, 3) := by decide +kernel
theorem dL_drawn_89 : decode cL_drawn 89 = .ok (.iload 11, 2) := by decide +kernel
theorem dL_drawn_91 : decode cL_drawn 91 = .ok (.aload_n 3, 1) := by decide +kernel
theorem dL_drawn_92 : decode cL_drawn 92 = .ok (.invokestatic 44, 3) := by decide +kernel
theorem dL_drawn_95 : decode cL_drawn 95 = .ok (.iload 7, 2) := by decide +kernel
theorem dL_drawn_97 : decode cL_drawn 97 = .ok (.aload_n 3, 1) := by decide +kernel
theorem dL_drawn_98 : decode cL_drawn 98 = .ok (.iconst 0, 1) := by decide +kernel
theorem dL_drawn_99 : decode cL_drawn 99 = .ok (.iaload, 1) := by decide +kernel
theorem dL_drawn_100 : decode cL_drawn 100 = .ok (.aload_n 3, 1) := by decide +kernel
theorem dL_drawn_101 : decode cL_drawn 101 = .ok (.iconst 3, 1) := by decide +kernel
theorem dL_drawn_102 : decode cL_drawn 102 = .ok (.iaload, 1) := by decide +kernel
theorem dL_drawn_103 : decode cL_drawn 103 = .ok (.iadd, 1) := by decide +kernel
theorem dL_drawn_104 : decode cL_drawn 104 = .ok (.iadd, 1) := by decide +kernel
theorem dL_drawn_105 : decode cL_drawn 105 = .ok (.istore 7, 2) := by decide +kernel
theorem dL_drawn_107 : decode cL_drawn 107 = .ok (.iload 9, 2) := by decide +kernel
theorem dL_drawn_109 : decode cL_drawn 109 = .ok (.ifCond .eq 23, 3) := by decide +kernel
theorem dL_drawn_112 : decode cL_drawn 112 = .ok (.iload 9, 2) := by decide +kernel
theorem dL_drawn_114 : decode cL_drawn 114 = .ok (.invokestatic 54, 3) := by decide +kernel
theorem dL_drawn_117 : decode cL_drawn 117 = .ok (.ifCond .eq 15, 3) := by decide +kernel
theorem dL_drawn_120 : decode cL_drawn 120 = .ok (.iload 8, 2) := by decide +kernel
theorem dL_drawn_122 : decode cL_drawn 122 = .ok (.iload 9, 2) := by decide +kernel
theorem dL_drawn_124 : decode cL_drawn 124 = .ok (.iload 11, 2) := by decide +kernel
theorem dL_drawn_126 : decode cL_drawn 126 = .ok (.invokestatic 99, 3) := by decide +kernel
theorem dL_drawn_129 : decode cL_drawn 129 = .ok (.iadd, 1) := by decide +kernel
theorem dL_drawn_130 : decode cL_drawn 130 = .ok (.istore 8, 2) := by decide +kernel
theorem dL_drawn_132 : decode cL_drawn 132 = .ok (.iload 11, 2) := by decide +kernel
theorem dL_drawn_134 : decode cL_drawn 134 = .ok (.istore 9, 2) := by decide +kernel
theorem dL_drawn_136 : decode cL_drawn 136 = .ok (.iinc 10 1, 3) := by decide +kernel
theorem dL_drawn_139 : decode cL_drawn 139 = .ok (.goto (-120), 3) := by decide +kernel
theorem dL_drawn_142 : decode cL_drawn 142 = .ok (.aload_n 0, 1) := by decide +kernel
theorem dL_drawn_143 : decode cL_drawn 143 = .ok (.iload_n 1, 1) := by decide +kernel
theorem dL_drawn_144 : decode cL_drawn 144 = .ok (.iload_n 2, 1) := by decide +kernel
theorem dL_drawn_145 : decode cL_drawn 145 = .ok (.iconst 0, 1) := by decide +kernel
theorem dL_drawn_146 : decode cL_drawn 146 = .ok (.invokevirtual 160, 3) := by decide +kernel
theorem dL_drawn_149 : decode cL_drawn 149 = .ok (.iload 6, 2) := by decide +kernel
theorem dL_drawn_151 : decode cL_drawn 151 = .ok (.if_icmp .ne 93, 3) := by decide +kernel
theorem dL_drawn_154 : decode cL_drawn 154 = .ok (.aload_n 0, 1) := by decide +kernel
theorem dL_drawn_155 : decode cL_drawn 155 = .ok (.iload_n 1, 1) := by decide +kernel
theorem dL_drawn_156 : decode cL_drawn 156 = .ok (.iload_n 2, 1) := by decide +kernel
theorem dL_drawn_157 : decode cL_drawn 157 = .ok (.iconst 1, 1) := by decide +kernel
theorem dL_drawn_158 : decode cL_drawn 158 = .ok (.invokevirtual 160, 3) := by decide +kernel
theorem dL_drawn_161 : decode cL_drawn 161 = .ok (.iload 7, 2) := by decide +kernel
theorem dL_drawn_163 : decode cL_drawn 163 = .ok (.if_icmp .ne 81, 3) := by decide +kernel
theorem dL_drawn_166 : decode cL_drawn 166 = .ok (.aload_n 0, 1) := by decide +kernel
theorem dL_drawn_167 : decode cL_drawn 167 = .ok (.iload_n 1, 1) := by decide +kernel
theorem dL_drawn_168 : decode cL_drawn 168 = .ok (.iload_n 2, 1) := by decide +kernel
theorem dL_drawn_169 : decode cL_drawn 169 = .ok (.iconst 2, 1) := by decide +kernel
theorem dL_drawn_170 : decode cL_drawn 170 = .ok (.invokevirtual 160, 3) := by decide +kernel
theorem dL_drawn_173 : decode cL_drawn 173 = .ok (.iload 8, 2) := by decide +kernel
theorem dL_drawn_175 : decode cL_drawn 175 = .ok (.if_icmp .ne 69, 3) := by decide +kernel
theorem dL_drawn_178 : decode cL_drawn 178 = .ok (.aload_n 0, 1) := by decide +kernel
theorem dL_drawn_179 : decode cL_drawn 179 = .ok (.iload_n 1, 1) := by decide +kernel
theorem dL_drawn_180 : decode cL_drawn 180 = .ok (.iload_n 2, 1) := by decide +kernel
theorem dL_drawn_181 : decode cL_drawn 181 = .ok (.iconst 3, 1) := by decide +kernel
theorem dL_drawn_182 : decode cL_drawn 182 = .ok (.invokevirtual 160, 3) := by decide +kernel
theorem dL_drawn_185 : decode cL_drawn 185 = .ok (.lload 4, 2) := by decide +kernel
theorem dL_drawn_187 : decode cL_drawn 187 = .ok (.l2i, 1) := by decide +kernel
theorem dL_drawn_188 : decode cL_drawn 188 = .ok (.if_icmp .ne 56, 3) := by decide +kernel
theorem dL_drawn_191 : decode cL_drawn 191 = .ok (.aload_n 0, 1) := by decide +kernel
theorem dL_drawn_192 : decode cL_drawn 192 = .ok (.iconst 0, 1) := by decide +kernel
theorem dL_drawn_193 : decode cL_drawn 193 = .ok (.iconst 0, 1) := by decide +kernel
theorem dL_drawn_194 : decode cL_drawn 194 = .ok (.iconst 0, 1) := by decide +kernel
theorem dL_drawn_195 : decode cL_drawn 195 = .ok (.invokevirtual 160, 3) := by decide +kernel
theorem dL_drawn_198 : decode cL_drawn 198 = .ok (.ldc 68, 2) := by decide +kernel
theorem dL_drawn_200 : decode cL_drawn 200 = .ok (.if_icmp .ne 44, 3) := by decide +kernel
theorem dL_drawn_203 : decode cL_drawn 203 = .ok (.aload_n 0, 1) := by decide +kernel
theorem dL_drawn_204 : decode cL_drawn 204 = .ok (.bipush 41, 2) := by decide +kernel
theorem dL_drawn_206 : decode cL_drawn 206 = .ok (.iconst 0, 1) := by decide +kernel
theorem dL_drawn_207 : decode cL_drawn 207 = .ok (.iconst 0, 1) := by decide +kernel
theorem dL_drawn_208 : decode cL_drawn 208 = .ok (.invokevirtual 160, 3) := by decide +kernel
theorem dL_drawn_211 : decode cL_drawn 211 = .ok (.ldc 68, 2) := by decide +kernel
theorem dL_drawn_213 : decode cL_drawn 213 = .ok (.if_icmp .ne 31, 3) := by decide +kernel
theorem dL_drawn_216 : decode cL_drawn 216 = .ok (.aload_n 0, 1) := by decide +kernel
theorem dL_drawn_217 : decode cL_drawn 217 = .ok (.iconst 1, 1) := by decide +kernel
theorem dL_drawn_218 : decode cL_drawn 218 = .ok (.iconst (-1), 1) := by decide +kernel
theorem dL_drawn_219 : decode cL_drawn 219 = .ok (.iconst 0, 1) := by decide +kernel
theorem dL_drawn_220 : decode cL_drawn 220 = .ok (.invokevirtual 160, 3) := by decide +kernel
theorem dL_drawn_223 : decode cL_drawn 223 = .ok (.ldc 68, 2) := by decide +kernel
theorem dL_drawn_225 : decode cL_drawn 225 = .ok (.if_icmp .ne 19, 3) := by decide +kernel
theorem dL_drawn_228 : decode cL_drawn 228 = .ok (.aload_n 0, 1) := by decide +kernel
theorem dL_drawn_229 : decode cL_drawn 229 = .ok (.iconst 1, 1) := by decide +kernel
theorem dL_drawn_230 : decode cL_drawn 230 = .ok (.iconst 1, 1) := by decide +kernel
theorem dL_drawn_231 : decode cL_drawn 231 = .ok (.iconst 4, 1) := by decide +kernel
theorem dL_drawn_232 : decode cL_drawn 232 = .ok (.invokevirtual 160, 3) := by decide +kernel
theorem dL_drawn_235 : decode cL_drawn 235 = .ok (.ldc 68, 2) := by decide +kernel
theorem dL_drawn_237 : decode cL_drawn 237 = .ok (.if_icmp .ne 7, 3) := by decide +kernel
theorem dL_drawn_240 : decode cL_drawn 240 = .ok (.iconst 1, 1) := by decide +kernel
theorem dL_drawn_241 : decode cL_drawn 241 = .ok (.goto 4, 3) := by decide +kernel
theorem dL_drawn_244 : decode cL_drawn 244 = .ok (.iconst 0, 1) := by decide +kernel
theorem dL_drawn_245 : decode cL_drawn 245 = .ok (.ireturn, 1) := by decide +kernel
set_option maxRecDepth 20000 in
theorem ggL_law_X4_init : GoodIn wsL_law wsX4_init := goodIn_rq _ [8, 9, 10, 11, 12, 13, 14, 15, 16, 17, 18, 19, 20, 21, 22, 23, 24, 25, 26, 27, 28, 3, 29, 30, 31, 32, 33, 34, 35, 36, 37, 38, 39, 40, 41, 42, 43, 44, 45, 46, 47, 48, 49, 50, 51, 52, 53, 54, 55, 56, 57, 58, 59, 60, 61, 62, 422, 423, 424, 425, 426, 427, 416, 417, 418, 419, 420, 421, 428, 429, 430, 431, 432, 433, 434, 435, 436, 437, 438, 439, 440, 441, 442, 443, 444, 445] (by decide +kernel) (by decide +kernel)
set_option maxRecDepth 20000 in
theorem gL_law_X4_init : GoodIn wsL_law (wsX4_init) := ggL_law_X4_init
set_option maxRecDepth 20000 in
theorem ggL_law_L_cell : GoodIn wsL_law wsL_cell := goodIn_rq _ [66, 67] (by decide +kernel) (by decide +kernel)
set_option maxRecDepth 20000 in
theorem gL_law_L_cell : GoodIn wsL_law (va_wsS RL 165 yL_cell wsL_cell) := goodIn_app (goodIn_of _ (by decide +kernel)) ggL_law_L_cell
set_option maxRecDepth 20000 in
theorem ggL_law_L_does : GoodIn wsL_law wsL_does := goodIn_rq _ [70, 71, 5, 72, 73, 74, 65, 75, 76, 77, 78, 79, 80, 81, 82, 83, 84, 85, 86, 87, 88, 89, 90, 91, 92, 93, 94, 95, 96, 2, 97, 98, 15, 99, 100, 101, 102, 103, 14, 104, 105, 29, 106, 107, 108, 109, 110, 111, 112, 113, 114, 115, 116, 117, 118, 119, 120, 121, 122, 123, 124, 125, 126, 127, 128, 129, 130, 131, 132, 133, 134, 135, 17, 16, 40, 41, 136, 45, 46, 47, 10, 11, 48, 49, 50, 51, 52, 53, 54, 55, 56, 57, 58, 59, 60, 61, 62, 137, 138, 139, 140, 141, 142, 143, 144, 21, 145, 146, 147, 148, 149, 150, 151, 152, 153, 154, 155, 156, 157, 158, 159, 160, 161, 162, 163, 164, 165, 166, 167, 168, 169, 170, 171, 172, 173, 174, 175, 176, 177, 178, 179, 180, 181, 182, 183, 184, 185, 186, 187, 188, 189, 190, 191, 192, 193, 194, 195, 196, 197, 198, 199, 200, 201, 202, 203, 204, 205, 206, 207, 208, 209, 210, 211, 212, 213, 214, 215, 216, 217, 218, 219, 220, 221, 222, 223, 224, 225, 226, 227, 228, 229, 230, 231, 232, 233, 234, 235, 236, 237, 238, 239, 240, 241, 242, 243, 244, 245, 246, 247, 248, 249, 250, 251, 252, 253, 254, 255, 256, 257, 258, 259, 260, 261, 262, 263, 264, 265, 266, 267, 268, 269, 270, 271, 272, 273, 274, 275, 276, 277, 278, 279, 280, 281, 282, 283, 284, 285, 286, 287, 288, 289, 290, 291, 292, 293, 294, 295, 296, 297, 298, 299, 300, 301, 416, 417, 418, 419, 420, 421, 422, 423, 424, 425, 426, 427, 439, 440, 441, 442, 443, 444, 445, 428, 429, 430, 431, 432] (by decide +kernel) (by decide +kernel)
set_option maxRecDepth 20000 in
theorem gL_law_L_does : GoodIn wsL_law (va_wsS RL 169 yL_does wsL_does) := goodIn_app (goodIn_of _ (by decide +kernel)) ggL_law_L_does
set_option maxRecDepth 20000 in
theorem ggL_law_L_stands : GoodIn wsL_law wsL_stands := goodIn_rq _ [304, 305, 72, 5, 306, 307, 65, 308, 257, 309, 85, 86, 87, 203, 204, 205, 206, 207, 208, 79, 80, 81, 82, 83, 84, 218, 219, 220, 221, 222, 223, 224, 225, 226, 310, 311, 312, 2, 313, 175, 176, 177, 98, 155, 156, 157, 158, 135, 17, 314, 315, 316, 317, 318, 319, 320, 198, 199, 200, 41, 201, 52, 183, 53, 202, 180, 181, 182, 184, 185, 186, 187, 54, 321, 244, 245, 246, 247, 248, 249, 250, 55, 58, 159, 160, 161, 162, 322, 236, 237, 238, 59, 60, 61, 62, 323, 324, 325, 326, 327, 240, 241, 242, 328, 329, 330, 209, 210, 211, 331, 332, 333, 212, 213, 214, 299, 300, 301, 215, 216, 217, 334, 335, 336, 337, 338, 339, 340, 341, 342, 343, 344, 345, 290, 291, 292, 293, 286, 287, 288, 289, 280, 281, 282, 346, 347, 348, 349, 123, 350, 351, 352, 353, 57, 56, 271, 272, 273, 274, 275, 276, 277, 278, 279, 354, 355, 298, 172, 173, 174, 178, 179, 141, 142, 143, 144, 15, 99, 126, 21, 145, 146, 147, 148, 149, 150, 151, 152, 153, 154, 163, 164, 165, 166, 167, 168, 169, 170, 171, 356, 357, 358, 359, 360, 361, 362, 363, 364, 365, 366, 367, 439, 440, 441, 442, 443, 444, 445, 416, 417, 418, 419, 420, 421, 422, 423, 424, 425, 426, 427, 428, 429, 430, 431, 432] (by decide +kernel) (by decide +kernel)
set_option maxRecDepth 20000 in
theorem gL_law_L_stands : GoodIn wsL_law (va_wsS RL 173 yL_stands wsL_stands) := goodIn_app (goodIn_of _ (by decide +kernel)) ggL_law_L_stands
set_option maxRecDepth 20000 in
theorem ggL_law_L_crosses : GoodIn wsL_law wsL_crosses := goodIn_rq _ [370, 257, 331, 332, 65, 333, 328, 329, 330, 85, 86, 87, 79, 80, 81, 371, 372, 373, 206, 207, 208, 356, 357, 358, 2, 359, 175, 123, 155, 156, 157, 158, 135, 17, 159, 160, 161, 41, 162, 52, 54, 360, 361, 362, 363, 53, 59, 60, 61, 62, 364, 365, 366, 367, 203, 204, 205, 82, 83, 84, 215, 216, 217, 212, 213, 214, 251, 252, 253, 299, 300, 301, 218, 219, 220, 221, 222, 223, 416, 417, 418, 419, 420, 421, 439, 440, 441, 442, 443, 444, 445] (by decide +kernel) (by decide +kernel)
set_option maxRecDepth 20000 in
theorem gL_law_L_crosses : GoodIn wsL_law (va_wsS RL 177 yL_crosses wsL_crosses) := goodIn_app (goodIn_of _ (by decide +kernel)) ggL_law_L_crosses
set_option maxRecDepth 20000 in
theorem ggL_law_L_at : GoodIn wsL_law wsL_at := goodIn_rq _ [75] (by decide +kernel) (by decide +kernel)
set_option maxRecDepth 20000 in
theorem gL_law_L_at : GoodIn wsL_law (va_wsS RL 36 yL_at wsL_at) := goodIn_app (goodIn_of _ (by decide +kernel)) ggL_law_L_at
set_option maxRecDepth 20000 in
theorem ggL_law_L_drawn : GoodIn wsL_law wsL_drawn := goodIn_rq _ [376, 377, 378, 379, 380, 381, 5, 82, 83, 65, 84, 85, 86, 87, 331, 332, 333, 328, 329, 330, 79, 80, 81, 224, 225, 226, 371, 372, 373, 206, 207, 208, 382, 383, 384, 2, 385, 98, 25, 386, 387, 388, 389, 390, 391, 392, 24, 393, 394, 395, 396, 397, 43, 42, 398, 399, 49, 50, 41, 51, 52, 53, 54, 55, 56, 57, 58, 59, 60, 61, 62, 400, 401, 402, 403, 404, 405, 406, 407, 408, 409, 410, 411, 412, 413, 160, 161, 162, 414, 248, 249, 250, 415, 361, 362, 363, 364, 365, 366, 367, 416, 417, 418, 419, 420, 421, 433, 434, 435, 436, 437, 438, 439, 440, 441, 442, 443, 444, 445] (by decide +kernel) (by decide +kernel)
set_option maxRecDepth 20000 in
theorem gL_law_L_drawn : GoodIn wsL_law (va_wsS RL 181 yL_drawn wsL_drawn) := goodIn_app (goodIn_of _ (by decide +kernel)) ggL_law_L_drawn
set_option maxRecDepth 20000 in
theorem ggL_law_X4_count : GoodIn wsL_law wsX4_count := goodIn_rq _ [144, 135, 15, 99, 126, 21, 145, 146, 98, 147, 148, 149, 2, 150, 151, 152, 153, 154, 155, 156, 157, 158, 17, 159, 160, 161, 41, 162, 52, 54, 163, 164, 165, 166, 167, 168, 169, 170, 171, 172, 173, 174, 175, 176, 177, 178, 179, 180, 181, 182, 53, 183, 184, 185, 186, 187, 416, 417, 418, 419, 420, 421, 422, 423, 424, 425, 426, 427, 428, 429, 430, 431, 432, 439, 440, 441, 442, 443, 444, 445] (by decide +kernel) (by decide +kernel)
set_option maxRecDepth 20000 in
theorem gL_law_X4_count : GoodIn wsL_law (wsV RL 93 RX4 yX4_count wsX4_count) := goodIn_app (goodIn_of _ (by decide +kernel)) ggL_law_X4_count
theorem dL_law_0 : decode cL_law 0 = .ok (.new 40, 3) := by decide +kernel
theorem dL_law_3 : decode cL_law 3 = .ok (.dup, 1) := by decide +kernel
theorem dL_law_4 : decode cL_law 4 = .ok (.invokespecial 164, 3) := by decide +kernel
theorem dL_law_7 : decode cL_law 7 = .ok (.astore_n 1, 1) := by decide +kernel
theorem dL_law_8 : decode cL_law 8 = .ok (.bipush 6, 2) := by decide +kernel
theorem dL_law_10 : decode cL_law 10 = .ok (.newarray .int, 2) := by decide +kernel
theorem dL_law_12 : decode cL_law 12 = .ok (.astore_n 2, 1) := by decide +kernel
theorem dL_law_13 : decode cL_law 13 = .ok (.iconst 2, 1) := by decide +kernel
theorem dL_law_14 : decode cL_law 14 = .ok (.newarray .int, 2) := by decide +kernel
theorem dL_law_16 : decode cL_law 16 = .ok (.astore_n 3, 1) := by decide +kernel
theorem dL_law_17 : decode cL_law 17 = .ok (.bipush 40, 2) := by decide +kernel
theorem dL_law_19 : decode cL_law 19 = .ok (.newarray .int, 2) := by decide +kernel
theorem dL_law_21 : decode cL_law 21 = .ok (.astore 4, 2) := by decide +kernel
theorem dL_law_23 : decode cL_law 23 = .ok (.iconst 0, 1) := by decide +kernel
theorem dL_law_24 : decode cL_law 24 = .ok (.istore 5, 2) := by decide +kernel
theorem dL_law_26 : decode cL_law 26 = .ok (.iload 5, 2) := by decide +kernel
theorem dL_law_28 : decode cL_law 28 = .ok (.bipush 40, 2) := by decide +kernel
theorem dL_law_30 : decode cL_law 30 = .ok (.if_icmp .ge 80, 3) := by decide +kernel
theorem dL_law_33 : decode cL_law 33 = .ok (.aload_n 0, 1) := by decide +kernel
theorem dL_law_34 : decode cL_law 34 = .ok (.iconst 2, 1) := by decide +kernel
theorem dL_law_35 : decode cL_law 35 = .ok (.iload 5, 2) := by decide +kernel
theorem dL_law_37 : decode cL_law 37 = .ok (.imul, 1) := by decide +kernel
theorem dL_law_38 : decode cL_law 38 = .ok (.invokestatic 165, 3) := by decide +kernel
theorem dL_law_41 : decode cL_law 41 = .ok (.istore 6, 2) := by decide +kernel
theorem dL_law_43 : decode cL_law 43 = .ok (.aload_n 1, 1) := by decide +kernel
theorem dL_law_44 : decode cL_law 44 = .ok (.aload_n 2, 1) := by decide +kernel
theorem dL_law_45 : decode cL_law 45 = .ok (.aload_n 3, 1) := by decide +kernel
theorem dL_law_46 : decode cL_law 46 = .ok (.iload 6, 2) := by decide +kernel
theorem dL_law_48 : decode cL_law 48 = .ok (.aload_n 0, 1) := by decide +kernel
theorem dL_law_49 : decode cL_law 49 = .ok (.iconst 2, 1) := by decide +kernel
theorem dL_law_50 : decode cL_law 50 = .ok (.iload 5, 2) := by decide +kernel
theorem dL_law_52 : decode cL_law 52 = .ok (.imul, 1) := by decide +kernel
theorem dL_law_53 : decode cL_law 53 = .ok (.iconst 1, 1) := by decide +kernel
theorem dL_law_54 : decode cL_law 54 = .ok (.iadd, 1) := by decide +kernel
theorem dL_law_55 : decode cL_law 55 = .ok (.invokestatic 165, 3) := by decide +kernel
theorem dL_law_58 : decode cL_law 58 = .ok (.aload 4, 2) := by decide +kernel
theorem dL_law_60 : decode cL_law 60 = .ok (.invokestatic 169, 3) := by decide +kernel
theorem dL_law_63 : decode cL_law 63 = .ok (.ifCond .eq 16, 3) := by decide +kernel
theorem dL_law_66 : decode cL_law 66 = .ok (.aload_n 1, 1) := by decide +kernel
theorem dL_law_67 : decode cL_law 67 = .ok (.aload_n 2, 1) := by decide +kernel
theorem dL_law_68 : decode cL_law 68 = .ok (.aload_n 3, 1) := by decide +kernel
theorem dL_law_69 : decode cL_law 69 = .ok (.iconst 0, 1) := by decide +kernel
theorem dL_law_70 : decode cL_law 70 = .ok (.iaload, 1) := by decide +kernel
theorem dL_law_71 : decode cL_law 71 = .ok (.aload 4, 2) := by decide +kernel
theorem dL_law_73 : decode cL_law 73 = .ok (.invokestatic 173, 3) := by decide +kernel
theorem dL_law_76 : decode cL_law 76 = .ok (.ifCond .ne 5, 3) := by decide +kernel
theorem dL_law_79 : decode cL_law 79 = .ok (.iconst 0, 1) := by decide +kernel
theorem dL_law_80 : decode cL_law 80 = .ok (.ireturn, 1) := by decide +kernel
theorem dL_law_81 : decode cL_law 81 = .ok (.iload 5, 2) := by decide +kernel
theorem dL_law_83 : decode cL_law 83 = .ok (.bipush 8, 2) := by decide +kernel
theorem dL_law_85 : decode cL_law 85 = .ok (.irem, 1) := by decide +kernel
theorem dL_law_86 : decode cL_law 86 = .ok (.bipush 7, 2) := by decide +kernel
theorem dL_law_88 : decode cL_law 88 = .ok (.if_icmp .ne 16, 3) := by decide +kernel
theorem dL_law_91 : decode cL_law 91 = .ok (.aload_n 1, 1) := by decide +kernel
theorem dL_law_92 : decode cL_law 92 = .ok (.aload_n 2, 1) := by decide +kernel
theorem dL_law_93 : decode cL_law 93 = .ok (.aload_n 3, 1) := by decide +kernel
theorem dL_law_94 : decode cL_law 94 = .ok (.iconst 0, 1) := by decide +kernel
theorem dL_law_95 : decode cL_law 95 = .ok (.iaload, 1) := by decide +kernel
theorem dL_law_96 : decode cL_law 96 = .ok (.invokestatic 177, 3) := by decide +kernel
theorem dL_law_99 : decode cL_law 99 = .ok (.ifCond .ne 5, 3) := by decide +kernel
theorem dL_law_102 : decode cL_law 102 = .ok (.iconst 0, 1) := by decide +kernel
theorem dL_law_103 : decode cL_law 103 = .ok (.ireturn, 1) := by decide +kernel
theorem dL_law_104 : decode cL_law 104 = .ok (.iinc 5 1, 3) := by decide +kernel
theorem dL_law_107 : decode cL_law 107 = .ok (.goto (-81), 3) := by decide +kernel
theorem dL_law_110 : decode cL_law 110 = .ok (.aload_n 1, 1) := by decide +kernel
theorem dL_law_111 : decode cL_law 111 = .ok (.iconst 1, 1) := by decide +kernel
theorem dL_law_112 : decode cL_law 112 = .ok (.aload_n 0, 1) := by decide +kernel
theorem dL_law_113 : decode cL_law 113 = .ok (.bipush 80, 2) := by decide +kernel
theorem dL_law_115 : decode cL_law 115 = .ok (.invokestatic 165, 3) := by decide +kernel
theorem dL_law_118 : decode cL_law 118 = .ok (.bipush 40, 2) := by decide +kernel
theorem dL_law_120 : decode cL_law 120 = .ok (.invokestatic 36, 3) := by decide +kernel
theorem dL_law_123 : decode cL_law 123 = .ok (.iadd, 1) := by decide +kernel
theorem dL_law_124 : decode cL_law 124 = .ok (.aload_n 0, 1) := by decide +kernel
theorem dL_law_125 : decode cL_law 125 = .ok (.bipush 81, 2) := by decide +kernel
theorem dL_law_127 : decode cL_law 127 = .ok (.invokestatic 165, 3) := by decide +kernel
theorem dL_law_130 : decode cL_law 130 = .ok (.ldc 180, 2) := by decide +kernel
theorem dL_law_132 : decode cL_law 132 = .ok (.iand, 1) := by decide +kernel
theorem dL_law_133 : decode cL_law 133 = .ok (.aload 4, 2) := by decide +kernel
theorem dL_law_135 : decode cL_law 135 = .ok (.invokestatic 181, 3) := by decide +kernel
theorem dL_law_138 : decode cL_law 138 = .ok (.ifCond .eq 28, 3) := by decide +kernel
theorem dL_law_141 : decode cL_law 141 = .ok (.aload_n 1, 1) := by decide +kernel
theorem dL_law_142 : decode cL_law 142 = .ok (.bipush 7, 2) := by decide +kernel
theorem dL_law_144 : decode cL_law 144 = .ok (.invokevirtual 93, 3) := by decide +kernel
theorem dL_law_147 : decode cL_law 147 = .ok (.ldc 68, 2) := by decide +kernel
theorem dL_law_149 : decode cL_law 149 = .ok (.if_icmp .ne 17, 3) := by decide +kernel
theorem dL_law_152 : decode cL_law 152 = .ok (.aload_n 1, 1) := by decide +kernel
theorem dL_law_153 : decode cL_law 153 = .ok (.iconst (-1), 1) := by decide +kernel
theorem dL_law_154 : decode cL_law 154 = .ok (.invokevirtual 93, 3) := by decide +kernel
theorem dL_law_157 : decode cL_law 157 = .ok (.ldc 68, 2) := by decide +kernel
theorem dL_law_159 : decode cL_law 159 = .ok (.if_icmp .ne 7, 3) := by decide +kernel
theorem dL_law_162 : decode cL_law 162 = .ok (.iconst 1, 1) := by decide +kernel
theorem dL_law_163 : decode cL_law 163 = .ok (.goto 4, 3) := by decide +kernel
theorem dL_law_166 : decode cL_law 166 = .ok (.iconst 0, 1) := by decide +kernel
theorem dL_law_167 : decode cL_law 167 = .ok (.ireturn, 1) := by decide +kernel
abbrev vwCl : List vw_C := [(RX0, TX0, 6), (RX1, TX1, 6), (RX2, TX2, 5), (RX3, TX3, 7), (RX4, TX4, 6)]
