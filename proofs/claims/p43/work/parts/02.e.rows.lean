theorem dL_law_584 : decode cL_law 584 = .ok (.iinc 21 1, 3) := by decide +kernel
theorem dL_law_587 : decode cL_law 587 = .ok (.goto (-124), 3) := by decide +kernel
theorem dL_law_590 : decode cL_law 590 = .ok (.aload_n 1, 1) := by decide +kernel
theorem dL_law_591 : decode cL_law 591 = .ok (.lload 7, 2) := by decide +kernel
theorem dL_law_593 : decode cL_law 593 = .ok (.lload 9, 2) := by decide +kernel
theorem dL_law_595 : decode cL_law 595 = .ok (.invokestatic 173, 3) := by decide +kernel
theorem dL_law_598 : decode cL_law 598 = .ok (.ifCond .ne 677, 3) := by decide +kernel
theorem dL_law_601 : decode cL_law 601 = .ok (.iconst 0, 1) := by decide +kernel
theorem dL_law_602 : decode cL_law 602 = .ok (.ireturn, 1) := by decide +kernel
theorem dL_law_603 : decode cL_law 603 = .ok (.iload 19, 2) := by decide +kernel
theorem dL_law_605 : decode cL_law 605 = .ok (.iconst 5, 1) := by decide +kernel
theorem dL_law_606 : decode cL_law 606 = .ok (.if_icmp .ne 133, 3) := by decide +kernel
theorem dL_law_609 : decode cL_law 609 = .ok (.iconst 1, 1) := by decide +kernel
theorem dL_law_610 : decode cL_law 610 = .ok (.iload 18, 2) := by decide +kernel
theorem dL_law_612 : decode cL_law 612 = .ok (.iconst 5, 1) := by decide +kernel
theorem dL_law_613 : decode cL_law 613 = .ok (.ishr, 1) := by decide +kernel
theorem dL_law_614 : decode cL_law 614 = .ok (.bipush 40, 2) := by decide +kernel
theorem dL_law_616 : decode cL_law 616 = .ok (.invokestatic 77, 3) := by decide +kernel
theorem dL_law_619 : decode cL_law 619 = .ok (.iadd, 1) := by decide +kernel
theorem dL_law_620 : decode cL_law 620 = .ok (.istore 21, 2) := by decide +kernel
theorem dL_law_622 : decode cL_law 622 = .ok (.iconst 0, 1) := by decide +kernel
theorem dL_law_623 : decode cL_law 623 = .ok (.istore 22, 2) := by decide +kernel
theorem dL_law_625 : decode cL_law 625 = .ok (.iload 22, 2) := by decide +kernel
theorem dL_law_627 : decode cL_law 627 = .ok (.iload 21, 2) := by decide +kernel
theorem dL_law_629 : decode cL_law 629 = .ok (.if_icmp .ge 41, 3) := by decide +kernel
theorem dL_law_632 : decode cL_law 632 = .ok (.iload 15, 2) := by decide +kernel
theorem dL_law_634 : decode cL_law 634 = .ok (.invokestatic 74, 3) := by decide +kernel
theorem dL_law_637 : decode cL_law 637 = .ok (.istore 15, 2) := by decide +kernel
theorem dL_law_639 : decode cL_law 639 = .ok (.lload 7, 2) := by decide +kernel
theorem dL_law_641 : decode cL_law 641 = .ok (.iload 15, 2) := by decide +kernel
theorem dL_law_643 : decode cL_law 643 = .ok (.bipush 36, 2) := by decide +kernel
theorem dL_law_645 : decode cL_law 645 = .ok (.irem, 1) := by decide +kernel
theorem dL_law_646 : decode cL_law 646 = .ok (.invokestatic 25, 3) := by decide +kernel
theorem dL_law_649 : decode cL_law 649 = .ok (.ifCond .ne 15, 3) := by decide +kernel
theorem dL_law_652 : decode cL_law 652 = .ok (.lload 11, 2) := by decide +kernel
theorem dL_law_654 : decode cL_law 654 = .ok (.lconst 1, 1) := by decide +kernel
theorem dL_law_655 : decode cL_law 655 = .ok (.iload 15, 2) := by decide +kernel
theorem dL_law_657 : decode cL_law 657 = .ok (.bipush 36, 2) := by decide +kernel
theorem dL_law_659 : decode cL_law 659 = .ok (.irem, 1) := by decide +kernel
theorem dL_law_660 : decode cL_law 660 = .ok (.lshl, 1) := by decide +kernel
theorem dL_law_661 : decode cL_law 661 = .ok (.lor, 1) := by decide +kernel
theorem dL_law_662 : decode cL_law 662 = .ok (.lstore 11, 2) := by decide +kernel
theorem dL_law_664 : decode cL_law 664 = .ok (.iinc 22 1, 3) := by decide +kernel
theorem dL_law_667 : decode cL_law 667 = .ok (.goto (-42), 3) := by decide +kernel
theorem dL_law_670 : decode cL_law 670 = .ok (.aload_n 1, 1) := by decide +kernel
theorem dL_law_671 : decode cL_law 671 = .ok (.iload 21, 2) := by decide +kernel
theorem dL_law_673 : decode cL_law 673 = .ok (.invokevirtual 177, 3) := by decide +kernel
theorem dL_law_676 : decode cL_law 676 = .ok (.lload 11, 2) := by decide +kernel
theorem dL_law_678 : decode cL_law 678 = .ok (.invokestatic 59, 3) := by decide +kernel
theorem dL_law_681 : decode cL_law 681 = .ok (.if_icmp .eq 5, 3) := by decide +kernel
theorem dL_law_684 : decode cL_law 684 = .ok (.iconst 0, 1) := by decide +kernel
theorem dL_law_685 : decode cL_law 685 = .ok (.ireturn, 1) := by decide +kernel
theorem dL_law_686 : decode cL_law 686 = .ok (.lload 11, 2) := by decide +kernel
theorem dL_law_688 : decode cL_law 688 = .ok (.lconst 1, 1) := by decide +kernel
theorem dL_law_689 : decode cL_law 689 = .ok (.iload 20, 2) := by decide +kernel
theorem dL_law_691 : decode cL_law 691 = .ok (.lshl, 1) := by decide +kernel
theorem dL_law_692 : decode cL_law 692 = .ok (.invokestatic 67, 3) := by decide +kernel
theorem dL_law_695 : decode cL_law 695 = .ok (.lstore 22, 2) := by decide +kernel
theorem dL_law_697 : decode cL_law 697 = .ok (.iload 17, 2) := by decide +kernel
theorem dL_law_699 : decode cL_law 699 = .ok (.bipush 6, 2) := by decide +kernel
theorem dL_law_701 : decode cL_law 701 = .ok (.ishr, 1) := by decide +kernel
theorem dL_law_702 : decode cL_law 702 = .ok (.iconst 2, 1) := by decide +kernel
theorem dL_law_703 : decode cL_law 703 = .ok (.invokestatic 77, 3) := by decide +kernel
theorem dL_law_706 : decode cL_law 706 = .ok (.ifCond .ne 30, 3) := by decide +kernel
theorem dL_law_709 : decode cL_law 709 = .ok (.aload_n 1, 1) := by decide +kernel
theorem dL_law_710 : decode cL_law 710 = .ok (.iload 20, 2) := by decide +kernel
theorem dL_law_712 : decode cL_law 712 = .ok (.invokevirtual 180, 3) := by decide +kernel
theorem dL_law_715 : decode cL_law 715 = .ok (.lload 22, 2) := by decide +kernel
theorem dL_law_717 : decode cL_law 717 = .ok (.invokestatic 59, 3) := by decide +kernel
theorem dL_law_720 : decode cL_law 720 = .ok (.if_icmp .eq 5, 3) := by decide +kernel
theorem dL_law_723 : decode cL_law 723 = .ok (.iconst 0, 1) := by decide +kernel
theorem dL_law_724 : decode cL_law 724 = .ok (.ireturn, 1) := by decide +kernel
theorem dL_law_725 : decode cL_law 725 = .ok (.lload 11, 2) := by decide +kernel
theorem dL_law_727 : decode cL_law 727 = .ok (.lload 22, 2) := by decide +kernel
theorem dL_law_729 : decode cL_law 729 = .ok (.ldc2_w 38, 3) := by decide +kernel
theorem dL_law_732 : decode cL_law 732 = .ok (.lxor, 1) := by decide +kernel
theorem dL_law_733 : decode cL_law 733 = .ok (.land, 1) := by decide +kernel
theorem dL_law_734 : decode cL_law 734 = .ok (.lstore 11, 2) := by decide +kernel
theorem dL_law_736 : decode cL_law 736 = .ok (.goto 539, 3) := by decide +kernel
theorem dL_law_739 : decode cL_law 739 = .ok (.iload 19, 2) := by decide +kernel
theorem dL_law_741 : decode cL_law 741 = .ok (.bipush 6, 2) := by decide +kernel
theorem dL_law_743 : decode cL_law 743 = .ok (.if_icmp .ne 241, 3) := by decide +kernel
theorem dL_law_746 : decode cL_law 746 = .ok (.iload 18, 2) := by decide +kernel
theorem dL_law_748 : decode cL_law 748 = .ok (.bipush 12, 2) := by decide +kernel
theorem dL_law_750 : decode cL_law 750 = .ok (.invokestatic 77, 3) := by decide +kernel
theorem dL_law_753 : decode cL_law 753 = .ok (.istore 21, 2) := by decide +kernel
theorem dL_law_755 : decode cL_law 755 = .ok (.iconst 1, 1) := by decide +kernel
theorem dL_law_756 : decode cL_law 756 = .ok (.iload 18, 2) := by decide +kernel
theorem dL_law_758 : decode cL_law 758 = .ok (.iconst 4, 1) := by decide +kernel
theorem dL_law_759 : decode cL_law 759 = .ok (.ishr, 1) := by decide +kernel
theorem dL_law_760 : decode cL_law 760 = .ok (.sipush 1000, 3) := by decide +kernel
theorem dL_law_763 : decode cL_law 763 = .ok (.invokestatic 77, 3) := by decide +kernel
theorem dL_law_766 : decode cL_law 766 = .ok (.iadd, 1) := by decide +kernel
theorem dL_law_767 : decode cL_law 767 = .ok (.istore 22, 2) := by decide +kernel
theorem dL_law_769 : decode cL_law 769 = .ok (.aload_n 1, 1) := by decide +kernel
theorem dL_law_770 : decode cL_law 770 = .ok (.iload 21, 2) := by decide +kernel
theorem dL_law_772 : decode cL_law 772 = .ok (.iload 22, 2) := by decide +kernel
theorem dL_law_774 : decode cL_law 774 = .ok (.invokevirtual 183, 3) := by decide +kernel
theorem dL_law_777 : decode cL_law 777 = .ok (.aload 6, 2) := by decide +kernel
theorem dL_law_779 : decode cL_law 779 = .ok (.iload 21, 2) := by decide +kernel
theorem dL_law_781 : decode cL_law 781 = .ok (.iaload, 1) := by decide +kernel
theorem dL_law_782 : decode cL_law 782 = .ok (.if_icmp .eq 5, 3) := by decide +kernel
theorem dL_law_785 : decode cL_law 785 = .ok (.iconst 0, 1) := by decide +kernel
theorem dL_law_786 : decode cL_law 786 = .ok (.ireturn, 1) := by decide +kernel
theorem dL_law_787 : decode cL_law 787 = .ok (.aload 6, 2) := by decide +kernel
theorem dL_law_789 : decode cL_law 789 = .ok (.iload 21, 2) := by decide +kernel
theorem dL_law_791 : decode cL_law 791 = .ok (.iload 22, 2) := by decide +kernel
theorem dL_law_793 : decode cL_law 793 = .ok (.iastore, 1) := by decide +kernel
theorem dL_law_794 : decode cL_law 794 = .ok (.iconst 0, 1) := by decide +kernel
theorem dL_law_795 : decode cL_law 795 = .ok (.istore 23, 2) := by decide +kernel
theorem dL_law_797 : decode cL_law 797 = .ok (.iload 23, 2) := by decide +kernel
theorem dL_law_799 : decode cL_law 799 = .ok (.iconst 4, 1) := by decide +kernel
theorem dL_law_800 : decode cL_law 800 = .ok (.if_icmp .ge 74, 3) := by decide +kernel
theorem dL_law_803 : decode cL_law 803 = .ok (.iload 17, 2) := by decide +kernel
theorem dL_law_805 : decode cL_law 805 = .ok (.iconst 3, 1) := by decide +kernel
theorem dL_law_806 : decode cL_law 806 = .ok (.iload 23, 2) := by decide +kernel
theorem dL_law_808 : decode cL_law 808 = .ok (.imul, 1) := by decide +kernel
theorem dL_law_809 : decode cL_law 809 = .ok (.ishr, 1) := by decide +kernel
theorem dL_law_810 : decode cL_law 810 = .ok (.iload 23, 2) := by decide +kernel
theorem dL_law_812 : decode cL_law 812 = .ok (.iconst 2, 1) := by decide +kernel
theorem dL_law_813 : decode cL_law 813 = .ok (.if_icmp .ge 9, 3) := by decide +kernel
theorem dL_law_816 : decode cL_law 816 = .ok (.sipush 3000, 3) := by decide +kernel
theorem dL_law_819 : decode cL_law 819 = .ok (.goto 6, 3) := by decide +kernel
theorem dL_law_822 : decode cL_law 822 = .ok (.sipush 20001, 3) := by decide +kernel
theorem dL_law_825 : decode cL_law 825 = .ok (.invokestatic 77, 3) := by decide +kernel
theorem dL_law_828 : decode cL_law 828 = .ok (.istore 24, 2) := by decide +kernel
theorem dL_law_830 : decode cL_law 830 = .ok (.aload_n 1, 1) := by decide +kernel
theorem dL_law_831 : decode cL_law 831 = .ok (.iload 24, 2) := by decide +kernel
theorem dL_law_833 : decode cL_law 833 = .ok (.iconst 0, 1) := by decide +kernel
theorem dL_law_834 : decode cL_law 834 = .ok (.invokevirtual 186, 3) := by decide +kernel
theorem dL_law_837 : decode cL_law 837 = .ok (.aload 6, 2) := by decide +kernel
theorem dL_law_839 : decode cL_law 839 = .ok (.iload 24, 2) := by decide +kernel
theorem dL_law_841 : decode cL_law 841 = .ok (.iconst 0, 1) := by decide +kernel
theorem dL_law_842 : decode cL_law 842 = .ok (.invokestatic 189, 3) := by decide +kernel
theorem dL_law_845 : decode cL_law 845 = .ok (.if_icmp .ne 21, 3) := by decide +kernel
theorem dL_law_848 : decode cL_law 848 = .ok (.aload_n 1, 1) := by decide +kernel
theorem dL_law_849 : decode cL_law 849 = .ok (.iload 24, 2) := by decide +kernel
theorem dL_law_851 : decode cL_law 851 = .ok (.iconst 1, 1) := by decide +kernel
theorem dL_law_852 : decode cL_law 852 = .ok (.invokevirtual 186, 3) := by decide +kernel
theorem dL_law_855 : decode cL_law 855 = .ok (.aload 6, 2) := by decide +kernel
theorem dL_law_857 : decode cL_law 857 = .ok (.iload 24, 2) := by decide +kernel
theorem dL_law_859 : decode cL_law 859 = .ok (.iconst 1, 1) := by decide +kernel
theorem dL_law_860 : decode cL_law 860 = .ok (.invokestatic 189, 3) := by decide +kernel
theorem dL_law_863 : decode cL_law 863 = .ok (.if_icmp .eq 5, 3) := by decide +kernel
theorem dL_law_866 : decode cL_law 866 = .ok (.iconst 0, 1) := by decide +kernel
theorem dL_law_867 : decode cL_law 867 = .ok (.ireturn, 1) := by decide +kernel
theorem dL_law_868 : decode cL_law 868 = .ok (.iinc 23 1, 3) := by decide +kernel
theorem dL_law_871 : decode cL_law 871 = .ok (.goto (-74), 3) := by decide +kernel
theorem dL_law_874 : decode cL_law 874 = .ok (.iload 16, 2) := by decide +kernel
theorem dL_law_876 : decode cL_law 876 = .ok (.bipush 30, 2) := by decide +kernel
theorem dL_law_878 : decode cL_law 878 = .ok (.if_icmp .le 103, 3) := by decide +kernel
theorem dL_law_881 : decode cL_law 881 = .ok (.iload 17, 2) := by decide +kernel
theorem dL_law_883 : decode cL_law 883 = .ok (.iconst 4, 1) := by decide +kernel
theorem dL_law_884 : decode cL_law 884 = .ok (.ishr, 1) := by decide +kernel
theorem dL_law_885 : decode cL_law 885 = .ok (.iconst 2, 1) := by decide +kernel
theorem dL_law_886 : decode cL_law 886 = .ok (.invokestatic 77, 3) := by decide +kernel
theorem dL_law_889 : decode cL_law 889 = .ok (.ifCond .ne 7, 3) := by decide +kernel
theorem dL_law_892 : decode cL_law 892 = .ok (.iconst 1, 1) := by decide +kernel
theorem dL_law_893 : decode cL_law 893 = .ok (.goto 4, 3) := by decide +kernel
theorem dL_law_896 : decode cL_law 896 = .ok (.iconst 0, 1) := by decide +kernel
theorem dL_law_897 : decode cL_law 897 = .ok (.istore 23, 2) := by decide +kernel
theorem dL_law_899 : decode cL_law 899 = .ok (.aload_n 1, 1) := by decide +kernel
theorem dL_law_900 : decode cL_law 900 = .ok (.iload 23, 2) := by decide +kernel
theorem dL_law_902 : decode cL_law 902 = .ok (.invokevirtual 193, 3) := by decide +kernel
theorem dL_law_905 : decode cL_law 905 = .ok (.istore 24, 2) := by decide +kernel
theorem dL_law_907 : decode cL_law 907 = .ok (.aload 6, 2) := by decide +kernel
theorem dL_law_909 : decode cL_law 909 = .ok (.iload 24, 2) := by decide +kernel
theorem dL_law_911 : decode cL_law 911 = .ok (.iload 23, 2) := by decide +kernel
theorem dL_law_913 : decode cL_law 913 = .ok (.invokestatic 189, 3) := by decide +kernel
theorem dL_law_916 : decode cL_law 916 = .ok (.bipush 12, 2) := by decide +kernel
theorem dL_law_918 : decode cL_law 918 = .ok (.if_icmp .eq 19, 3) := by decide +kernel
theorem dL_law_921 : decode cL_law 921 = .ok (.aload 6, 2) := by decide +kernel
theorem dL_law_923 : decode cL_law 923 = .ok (.iload 24, 2) := by decide +kernel
theorem dL_law_925 : decode cL_law 925 = .ok (.iconst 1, 1) := by decide +kernel
theorem dL_law_926 : decode cL_law 926 = .ok (.iadd, 1) := by decide +kernel
theorem dL_law_927 : decode cL_law 927 = .ok (.iload 23, 2) := by decide +kernel
theorem dL_law_929 : decode cL_law 929 = .ok (.invokestatic 189, 3) := by decide +kernel
theorem dL_law_932 : decode cL_law 932 = .ok (.bipush 12, 2) := by decide +kernel
theorem dL_law_934 : decode cL_law 934 = .ok (.if_icmp .eq 5, 3) := by decide +kernel
theorem dL_law_937 : decode cL_law 937 = .ok (.iconst 0, 1) := by decide +kernel
theorem dL_law_938 : decode cL_law 938 = .ok (.ireturn, 1) := by decide +kernel
theorem dL_law_939 : decode cL_law 939 = .ok (.iconst 0, 1) := by decide +kernel
theorem dL_law_940 : decode cL_law 940 = .ok (.istore 25, 2) := by decide +kernel
theorem dL_law_942 : decode cL_law 942 = .ok (.iload 25, 2) := by decide +kernel
theorem dL_law_944 : decode cL_law 944 = .ok (.bipush 12, 2) := by decide +kernel
theorem dL_law_946 : decode cL_law 946 = .ok (.if_icmp .ge 35, 3) := by decide +kernel
theorem dL_law_949 : decode cL_law 949 = .ok (.aload 6, 2) := by decide +kernel
theorem dL_law_951 : decode cL_law 951 = .ok (.iload 18, 2) := by decide +kernel
theorem dL_law_953 : decode cL_law 953 = .ok (.iload 25, 2) := by decide +kernel
theorem dL_law_955 : decode cL_law 955 = .ok (.ishr, 1) := by decide +kernel
theorem dL_law_956 : decode cL_law 956 = .ok (.iload 24, 2) := by decide +kernel
theorem dL_law_958 : decode cL_law 958 = .ok (.iconst 1, 1) := by decide +kernel
theorem dL_law_959 : decode cL_law 959 = .ok (.iadd, 1) := by decide +kernel
theorem dL_law_960 : decode cL_law 960 = .ok (.invokestatic 77, 3) := by decide +kernel
theorem dL_law_963 : decode cL_law 963 = .ok (.iload 23, 2) := by decide +kernel
theorem dL_law_965 : decode cL_law 965 = .ok (.invokestatic 189, 3) := by decide +kernel
theorem dL_law_968 : decode cL_law 968 = .ok (.bipush 12, 2) := by decide +kernel
theorem dL_law_970 : decode cL_law 970 = .ok (.if_icmp .ne 5, 3) := by decide +kernel
theorem dL_law_973 : decode cL_law 973 = .ok (.iconst 0, 1) := by decide +kernel
theorem dL_law_974 : decode cL_law 974 = .ok (.ireturn, 1) := by decide +kernel
theorem dL_law_975 : decode cL_law 975 = .ok (.iinc 25 1, 3) := by decide +kernel
theorem dL_law_978 : decode cL_law 978 = .ok (.goto (-36), 3) := by decide +kernel
theorem dL_law_981 : decode cL_law 981 = .ok (.goto 294, 3) := by decide +kernel
theorem dL_law_984 : decode cL_law 984 = .ok (.iload 19, 2) := by decide +kernel
theorem dL_law_986 : decode cL_law 986 = .ok (.bipush 7, 2) := by decide +kernel
theorem dL_law_988 : decode cL_law 988 = .ok (.if_icmp .ne 45, 3) := by decide +kernel
theorem dL_law_991 : decode cL_law 991 = .ok (.iload 18, 2) := by decide +kernel
theorem dL_law_993 : decode cL_law 993 = .ok (.sipush 1001, 3) := by decide +kernel
theorem dL_law_996 : decode cL_law 996 = .ok (.invokestatic 77, 3) := by decide +kernel
theorem dL_law_999 : decode cL_law 999 = .ok (.istore 21, 2) := by decide +kernel
theorem dL_law_1001 : decode cL_law 1001 = .ok (.aload_n 3, 1) := by decide +kernel
theorem dL_law_1002 : decode cL_law 1002 = .ok (.lload 7, 2) := by decide +kernel
theorem dL_law_1004 : decode cL_law 1004 = .ok (.lload 13, 2) := by decide +kernel
theorem dL_law_1006 : decode cL_law 1006 = .ok (.iload 21, 2) := by decide +kernel
theorem dL_law_1008 : decode cL_law 1008 = .ok (.iconst 1, 1) := by decide +kernel
theorem dL_law_1009 : decode cL_law 1009 = .ok (.invokestatic 197, 3) := by decide +kernel
theorem dL_law_1012 : decode cL_law 1012 = .ok (.lstore 13, 2) := by decide +kernel
theorem dL_law_1014 : decode cL_law 1014 = .ok (.aload_n 1, 1) := by decide +kernel
theorem dL_law_1015 : decode cL_law 1015 = .ok (.iload 21, 2) := by decide +kernel
theorem dL_law_1017 : decode cL_law 1017 = .ok (.invokevirtual 201, 3) := by decide +kernel
theorem dL_law_1020 : decode cL_law 1020 = .ok (.lload 13, 2) := by decide +kernel
theorem dL_law_1022 : decode cL_law 1022 = .ok (.invokestatic 59, 3) := by decide +kernel
theorem dL_law_1025 : decode cL_law 1025 = .ok (.if_icmp .eq 5, 3) := by decide +kernel
theorem dL_law_1028 : decode cL_law 1028 = .ok (.iconst 0, 1) := by decide +kernel
theorem dL_law_1029 : decode cL_law 1029 = .ok (.ireturn, 1) := by decide +kernel
theorem dL_law_1030 : decode cL_law 1030 = .ok (.goto 245, 3) := by decide +kernel
theorem dL_law_1033 : decode cL_law 1033 = .ok (.iload 19, 2) := by decide +kernel
theorem dL_law_1035 : decode cL_law 1035 = .ok (.bipush 8, 2) := by decide +kernel
theorem dL_law_1037 : decode cL_law 1037 = .ok (.if_icmp .ne 45, 3) := by decide +kernel
theorem dL_law_1040 : decode cL_law 1040 = .ok (.iload 18, 2) := by decide +kernel
theorem dL_law_1042 : decode cL_law 1042 = .ok (.sipush 1001, 3) := by decide +kernel
theorem dL_law_1045 : decode cL_law 1045 = .ok (.invokestatic 77, 3) := by decide +kernel
theorem dL_law_1048 : decode cL_law 1048 = .ok (.istore 21, 2) := by decide +kernel
theorem dL_law_1050 : decode cL_law 1050 = .ok (.aload_n 3, 1) := by decide +kernel
theorem dL_law_1051 : decode cL_law 1051 = .ok (.lload 7, 2) := by decide +kernel
theorem dL_law_1053 : decode cL_law 1053 = .ok (.lload 13, 2) := by decide +kernel
theorem dL_law_1055 : decode cL_law 1055 = .ok (.iload 21, 2) := by decide +kernel
theorem dL_law_1057 : decode cL_law 1057 = .ok (.iconst 0, 1) := by decide +kernel
theorem dL_law_1058 : decode cL_law 1058 = .ok (.invokestatic 197, 3) := by decide +kernel
theorem dL_law_1061 : decode cL_law 1061 = .ok (.lstore 13, 2) := by decide +kernel
theorem dL_law_1063 : decode cL_law 1063 = .ok (.aload_n 1, 1) := by decide +kernel
theorem dL_law_1064 : decode cL_law 1064 = .ok (.iload 21, 2) := by decide +kernel
theorem dL_law_1066 : decode cL_law 1066 = .ok (.invokevirtual 204, 3) := by decide +kernel
theorem dL_law_1069 : decode cL_law 1069 = .ok (.lload 13, 2) := by decide +kernel
theorem dL_law_1071 : decode cL_law 1071 = .ok (.invokestatic 59, 3) := by decide +kernel
theorem dL_law_1074 : decode cL_law 1074 = .ok (.if_icmp .eq 5, 3) := by decide +kernel
theorem dL_law_1077 : decode cL_law 1077 = .ok (.iconst 0, 1) := by decide +kernel
theorem dL_law_1078 : decode cL_law 1078 = .ok (.ireturn, 1) := by decide +kernel
theorem dL_law_1079 : decode cL_law 1079 = .ok (.goto 196, 3) := by decide +kernel
theorem dL_law_1082 : decode cL_law 1082 = .ok (.iconst 1, 1) := by decide +kernel
theorem dL_law_1083 : decode cL_law 1083 = .ok (.iload 18, 2) := by decide +kernel
theorem dL_law_1085 : decode cL_law 1085 = .ok (.bipush 6, 2) := by decide +kernel
theorem dL_law_1087 : decode cL_law 1087 = .ok (.invokestatic 77, 3) := by decide +kernel
theorem dL_law_1090 : decode cL_law 1090 = .ok (.iadd, 1) := by decide +kernel
theorem dL_law_1091 : decode cL_law 1091 = .ok (.istore 21, 2) := by decide +kernel
theorem dL_law_1093 : decode cL_law 1093 = .ok (.iload 17, 2) := by decide +kernel
theorem dL_law_1095 : decode cL_law 1095 = .ok (.iconst 4, 1) := by decide +kernel
theorem dL_law_1096 : decode cL_law 1096 = .ok (.ishr, 1) := by decide +kernel
theorem dL_law_1097 : decode cL_law 1097 = .ok (.iconst 3, 1) := by decide +kernel
theorem dL_law_1098 : decode cL_law 1098 = .ok (.invokestatic 77, 3) := by decide +kernel
theorem dL_law_1101 : decode cL_law 1101 = .ok (.istore 22, 2) := by decide +kernel
theorem dL_law_1103 : decode cL_law 1103 = .ok (.sipush 400, 3) := by decide +kernel
theorem dL_law_1106 : decode cL_law 1106 = .ok (.iload 18, 2) := by decide +kernel
theorem dL_law_1108 : decode cL_law 1108 = .ok (.iconst 5, 1) := by decide +kernel
theorem dL_law_1109 : decode cL_law 1109 = .ok (.ishr, 1) := by decide +kernel
theorem dL_law_1110 : decode cL_law 1110 = .ok (.sipush 500, 3) := by decide +kernel
theorem dL_law_1113 : decode cL_law 1113 = .ok (.invokestatic 77, 3) := by decide +kernel
theorem dL_law_1116 : decode cL_law 1116 = .ok (.iadd, 1) := by decide +kernel
theorem dL_law_1117 : decode cL_law 1117 = .ok (.istore 23, 2) := by decide +kernel
theorem dL_law_1119 : decode cL_law 1119 = .ok (.iconst 0, 1) := by decide +kernel
theorem dL_law_1120 : decode cL_law 1120 = .ok (.istore 24, 2) := by decide +kernel
theorem dL_law_1122 : decode cL_law 1122 = .ok (.iconst 1, 1) := by decide +kernel
theorem dL_law_1123 : decode cL_law 1123 = .ok (.istore 25, 2) := by decide +kernel
theorem dL_law_1125 : decode cL_law 1125 = .ok (.iload 25, 2) := by decide +kernel
theorem dL_law_1127 : decode cL_law 1127 = .ok (.iload 21, 2) := by decide +kernel
theorem dL_law_1129 : decode cL_law 1129 = .ok (.if_icmp .gt 46, 3) := by decide +kernel
theorem dL_law_1132 : decode cL_law 1132 = .ok (.iload 25, 2) := by decide +kernel
theorem dL_law_1134 : decode cL_law 1134 = .ok (.aload 4, 2) := by decide +kernel
theorem dL_law_1136 : decode cL_law 1136 = .ok (.aload 5, 2) := by decide +kernel
theorem dL_law_1138 : decode cL_law 1138 = .ok (.invokestatic 153, 3) := by decide +kernel
theorem dL_law_1141 : decode cL_law 1141 = .ok (.iload 24, 2) := by decide +kernel
theorem dL_law_1143 : decode cL_law 1143 = .ok (.aload 4, 2) := by decide +kernel
theorem dL_law_1145 : decode cL_law 1145 = .ok (.aload 5, 2) := by decide +kernel
theorem dL_law_1147 : decode cL_law 1147 = .ok (.lload 7, 2) := by decide +kernel
theorem dL_law_1149 : decode cL_law 1149 = .ok (.iload 22, 2) := by decide +kernel
theorem dL_law_1151 : decode cL_law 1151 = .ok (.iload 23, 2) := by decide +kernel
theorem dL_law_1153 : decode cL_law 1153 = .ok (.iconst 0, 1) := by decide +kernel
theorem dL_law_1154 : decode cL_law 1154 = .ok (.iconst (-1), 1) := by decide +kernel
theorem dL_law_1155 : decode cL_law 1155 = .ok (.invokestatic 84, 3) := by decide +kernel
theorem dL_law_1158 : decode cL_law 1158 = .ok (.ifCond .eq 7, 3) := by decide +kernel
theorem dL_law_1161 : decode cL_law 1161 = .ok (.iconst 1, 1) := by decide +kernel
theorem dL_law_1162 : decode cL_law 1162 = .ok (.goto 4, 3) := by decide +kernel
theorem dL_law_1165 : decode cL_law 1165 = .ok (.iconst 0, 1) := by decide +kernel
theorem dL_law_1166 : decode cL_law 1166 = .ok (.iadd, 1) := by decide +kernel
theorem dL_law_1167 : decode cL_law 1167 = .ok (.istore 24, 2) := by decide +kernel
theorem dL_law_1169 : decode cL_law 1169 = .ok (.iinc 25 1, 3) := by decide +kernel
theorem dL_law_1172 : decode cL_law 1172 = .ok (.goto (-47), 3) := by decide +kernel
theorem dL_law_1175 : decode cL_law 1175 = .ok (.aload_n 1, 1) := by decide +kernel
theorem dL_law_1176 : decode cL_law 1176 = .ok (.iload 22, 2) := by decide +kernel
theorem dL_law_1178 : decode cL_law 1178 = .ok (.iload 23, 2) := by decide +kernel
