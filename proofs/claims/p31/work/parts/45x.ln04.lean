theorem dL_step_638 : decode cL_step 638 = .ok (.aload_n 0, 1) := by decide +kernel
theorem dL_step_639 : decode cL_step 639 = .ok (.iload 6, 2) := by decide +kernel
theorem dL_step_641 : decode cL_step 641 = .ok (.iload 7, 2) := by decide +kernel
theorem dL_step_643 : decode cL_step 643 = .ok (.iconst 0, 1) := by decide +kernel
theorem dL_step_644 : decode cL_step 644 = .ok (.invokestatic 66, 3) := by decide +kernel
theorem dL_step_647 : decode cL_step 647 = .ok (.sipush (-200), 3) := by decide +kernel
theorem dL_step_650 : decode cL_step 650 = .ok (.if_icmp .ne 7, 3) := by decide +kernel
theorem dL_step_653 : decode cL_step 653 = .ok (.iconst 1, 1) := by decide +kernel
theorem dL_step_654 : decode cL_step 654 = .ok (.goto 4, 3) := by decide +kernel
theorem dL_step_657 : decode cL_step 657 = .ok (.iconst 0, 1) := by decide +kernel
theorem dL_step_658 : decode cL_step 658 = .ok (.ireturn, 1) := by decide +kernel
theorem dL_step_659 : decode cL_step 659 = .ok (.aload_n 0, 1) := by decide +kernel
theorem dL_step_660 : decode cL_step 660 = .ok (.iload 7, 2) := by decide +kernel
theorem dL_step_662 : decode cL_step 662 = .ok (.iconst 0, 1) := by decide +kernel
theorem dL_step_663 : decode cL_step 663 = .ok (.invokevirtual 84, 3) := by decide +kernel
theorem dL_step_666 : decode cL_step 666 = .ok (.istore 14, 2) := by decide +kernel
theorem dL_step_668 : decode cL_step 668 = .ok (.iload 14, 2) := by decide +kernel
theorem dL_step_670 : decode cL_step 670 = .ok (.ifCond .ne 7, 3) := by decide +kernel
theorem dL_step_673 : decode cL_step 673 = .ok (.iconst (-1), 1) := by decide +kernel
theorem dL_step_674 : decode cL_step 674 = .ok (.goto 13, 3) := by decide +kernel
theorem dL_step_677 : decode cL_step 677 = .ok (.aload_n 0, 1) := by decide +kernel
theorem dL_step_678 : decode cL_step 678 = .ok (.iload 7, 2) := by decide +kernel
theorem dL_step_680 : decode cL_step 680 = .ok (.iload 14, 2) := by decide +kernel
theorem dL_step_682 : decode cL_step 682 = .ok (.iconst 1, 1) := by decide +kernel
theorem dL_step_683 : decode cL_step 683 = .ok (.isub, 1) := by decide +kernel
theorem dL_step_684 : decode cL_step 684 = .ok (.invokevirtual 87, 3) := by decide +kernel
theorem dL_step_687 : decode cL_step 687 = .ok (.istore 15, 2) := by decide +kernel
theorem dL_step_689 : decode cL_step 689 = .ok (.aload_n 0, 1) := by decide +kernel
theorem dL_step_690 : decode cL_step 690 = .ok (.iload 6, 2) := by decide +kernel
theorem dL_step_692 : decode cL_step 692 = .ok (.iload 7, 2) := by decide +kernel
theorem dL_step_694 : decode cL_step 694 = .ok (.iconst 1, 1) := by decide +kernel
theorem dL_step_695 : decode cL_step 695 = .ok (.invokestatic 66, 3) := by decide +kernel
theorem dL_step_698 : decode cL_step 698 = .ok (.istore 16, 2) := by decide +kernel
theorem dL_step_700 : decode cL_step 700 = .ok (.iload 16, 2) := by decide +kernel
theorem dL_step_702 : decode cL_step 702 = .ok (.sipush (-200), 3) := by decide +kernel
theorem dL_step_705 : decode cL_step 705 = .ok (.if_icmp .ne 23, 3) := by decide +kernel
theorem dL_step_708 : decode cL_step 708 = .ok (.aload_n 0, 1) := by decide +kernel
theorem dL_step_709 : decode cL_step 709 = .ok (.iload 7, 2) := by decide +kernel
theorem dL_step_711 : decode cL_step 711 = .ok (.iconst 0, 1) := by decide +kernel
theorem dL_step_712 : decode cL_step 712 = .ok (.invokevirtual 84, 3) := by decide +kernel
theorem dL_step_715 : decode cL_step 715 = .ok (.iload 14, 2) := by decide +kernel
theorem dL_step_717 : decode cL_step 717 = .ok (.if_icmp .ne 7, 3) := by decide +kernel
theorem dL_step_720 : decode cL_step 720 = .ok (.iconst 1, 1) := by decide +kernel
theorem dL_step_721 : decode cL_step 721 = .ok (.goto 70, 3) := by decide +kernel
theorem dL_step_724 : decode cL_step 724 = .ok (.iconst 0, 1) := by decide +kernel
theorem dL_step_725 : decode cL_step 725 = .ok (.goto 66, 3) := by decide +kernel
theorem dL_step_728 : decode cL_step 728 = .ok (.iload 16, 2) := by decide +kernel
theorem dL_step_730 : decode cL_step 730 = .ok (.iload 14, 2) := by decide +kernel
theorem dL_step_732 : decode cL_step 732 = .ok (.iconst 1, 1) := by decide +kernel
theorem dL_step_733 : decode cL_step 733 = .ok (.isub, 1) := by decide +kernel
theorem dL_step_734 : decode cL_step 734 = .ok (.if_icmp .ne 56, 3) := by decide +kernel
theorem dL_step_737 : decode cL_step 737 = .ok (.aload_n 0, 1) := by decide +kernel
theorem dL_step_738 : decode cL_step 738 = .ok (.iload 7, 2) := by decide +kernel
theorem dL_step_740 : decode cL_step 740 = .ok (.iconst 0, 1) := by decide +kernel
theorem dL_step_741 : decode cL_step 741 = .ok (.invokevirtual 84, 3) := by decide +kernel
theorem dL_step_744 : decode cL_step 744 = .ok (.iload 16, 2) := by decide +kernel
theorem dL_step_746 : decode cL_step 746 = .ok (.if_icmp .ne 44, 3) := by decide +kernel
theorem dL_step_749 : decode cL_step 749 = .ok (.iload 15, 2) := by decide +kernel
theorem dL_step_751 : decode cL_step 751 = .ok (.iload 6, 2) := by decide +kernel
theorem dL_step_753 : decode cL_step 753 = .ok (.if_icmp .eq 18, 3) := by decide +kernel
theorem dL_step_756 : decode cL_step 756 = .ok (.aload_n 0, 1) := by decide +kernel
theorem dL_step_757 : decode cL_step 757 = .ok (.iload 7, 2) := by decide +kernel
theorem dL_step_759 : decode cL_step 759 = .ok (.iload 16, 2) := by decide +kernel
theorem dL_step_761 : decode cL_step 761 = .ok (.iconst 1, 1) := by decide +kernel
theorem dL_step_762 : decode cL_step 762 = .ok (.isub, 1) := by decide +kernel
theorem dL_step_763 : decode cL_step 763 = .ok (.invokevirtual 87, 3) := by decide +kernel
theorem dL_step_766 : decode cL_step 766 = .ok (.iload 15, 2) := by decide +kernel
theorem dL_step_768 : decode cL_step 768 = .ok (.if_icmp .ne 22, 3) := by decide +kernel
theorem dL_step_771 : decode cL_step 771 = .ok (.aload_n 0, 1) := by decide +kernel
theorem dL_step_772 : decode cL_step 772 = .ok (.iload 6, 2) := by decide +kernel
theorem dL_step_774 : decode cL_step 774 = .ok (.iload 7, 2) := by decide +kernel
theorem dL_step_776 : decode cL_step 776 = .ok (.iconst 1, 1) := by decide +kernel
theorem dL_step_777 : decode cL_step 777 = .ok (.invokestatic 66, 3) := by decide +kernel
theorem dL_step_780 : decode cL_step 780 = .ok (.sipush (-200), 3) := by decide +kernel
theorem dL_step_783 : decode cL_step 783 = .ok (.if_icmp .ne 7, 3) := by decide +kernel
theorem dL_step_786 : decode cL_step 786 = .ok (.iconst 1, 1) := by decide +kernel
theorem dL_step_787 : decode cL_step 787 = .ok (.goto 4, 3) := by decide +kernel
theorem dL_step_790 : decode cL_step 790 = .ok (.iconst 0, 1) := by decide +kernel
theorem dL_step_791 : decode cL_step 791 = .ok (.ireturn, 1) := by decide +kernel
theorem dL_step_792 : decode cL_step 792 = .ok (.aload_n 0, 1) := by decide +kernel
theorem dL_step_793 : decode cL_step 793 = .ok (.iload 6, 2) := by decide +kernel
theorem dL_step_795 : decode cL_step 795 = .ok (.iconst 2, 1) := by decide +kernel
theorem dL_step_796 : decode cL_step 796 = .ok (.invokevirtual 70, 3) := by decide +kernel
theorem dL_step_799 : decode cL_step 799 = .ok (.istore 17, 2) := by decide +kernel
theorem dL_step_801 : decode cL_step 801 = .ok (.aload_n 0, 1) := by decide +kernel
theorem dL_step_802 : decode cL_step 802 = .ok (.iload 6, 2) := by decide +kernel
theorem dL_step_804 : decode cL_step 804 = .ok (.iload 5, 2) := by decide +kernel
theorem dL_step_806 : decode cL_step 806 = .ok (.invokestatic 90, 3) := by decide +kernel
theorem dL_step_809 : decode cL_step 809 = .ok (.istore 18, 2) := by decide +kernel
theorem dL_step_811 : decode cL_step 811 = .ok (.iload 18, 2) := by decide +kernel
theorem dL_step_813 : decode cL_step 813 = .ok (.ifCond .eq 40, 3) := by decide +kernel
theorem dL_step_816 : decode cL_step 816 = .ok (.iload 17, 2) := by decide +kernel
theorem dL_step_818 : decode cL_step 818 = .ok (.iconst (-1), 1) := by decide +kernel
theorem dL_step_819 : decode cL_step 819 = .ok (.if_icmp .ne 30, 3) := by decide +kernel
theorem dL_step_822 : decode cL_step 822 = .ok (.aload_n 0, 1) := by decide +kernel
theorem dL_step_823 : decode cL_step 823 = .ok (.iload 6, 2) := by decide +kernel
theorem dL_step_825 : decode cL_step 825 = .ok (.iconst 2, 1) := by decide +kernel
theorem dL_step_826 : decode cL_step 826 = .ok (.invokevirtual 70, 3) := by decide +kernel
theorem dL_step_829 : decode cL_step 829 = .ok (.iload 5, 2) := by decide +kernel
theorem dL_step_831 : decode cL_step 831 = .ok (.if_icmp .ne 18, 3) := by decide +kernel
theorem dL_step_834 : decode cL_step 834 = .ok (.aload_n 0, 1) := by decide +kernel
theorem dL_step_835 : decode cL_step 835 = .ok (.iload 6, 2) := by decide +kernel
theorem dL_step_837 : decode cL_step 837 = .ok (.iload 5, 2) := by decide +kernel
theorem dL_step_839 : decode cL_step 839 = .ok (.invokestatic 90, 3) := by decide +kernel
theorem dL_step_842 : decode cL_step 842 = .ok (.ifCond .ne 7, 3) := by decide +kernel
theorem dL_step_845 : decode cL_step 845 = .ok (.iconst 1, 1) := by decide +kernel
theorem dL_step_846 : decode cL_step 846 = .ok (.goto 24, 3) := by decide +kernel
theorem dL_step_849 : decode cL_step 849 = .ok (.iconst 0, 1) := by decide +kernel
theorem dL_step_850 : decode cL_step 850 = .ok (.goto 20, 3) := by decide +kernel
theorem dL_step_853 : decode cL_step 853 = .ok (.aload_n 0, 1) := by decide +kernel
theorem dL_step_854 : decode cL_step 854 = .ok (.iload 6, 2) := by decide +kernel
theorem dL_step_856 : decode cL_step 856 = .ok (.iconst 2, 1) := by decide +kernel
theorem dL_step_857 : decode cL_step 857 = .ok (.invokevirtual 70, 3) := by decide +kernel
theorem dL_step_860 : decode cL_step 860 = .ok (.iload 17, 2) := by decide +kernel
theorem dL_step_862 : decode cL_step 862 = .ok (.if_icmp .ne 7, 3) := by decide +kernel
theorem dL_step_865 : decode cL_step 865 = .ok (.iconst 1, 1) := by decide +kernel
theorem dL_step_866 : decode cL_step 866 = .ok (.goto 4, 3) := by decide +kernel
theorem dL_step_869 : decode cL_step 869 = .ok (.iconst 0, 1) := by decide +kernel
theorem dL_step_870 : decode cL_step 870 = .ok (.ireturn, 1) := by decide +kernel
theorem dL_step_871 : decode cL_step 871 = .ok (.aload_n 0, 1) := by decide +kernel
theorem dL_step_872 : decode cL_step 872 = .ok (.iload 6, 2) := by decide +kernel
theorem dL_step_874 : decode cL_step 874 = .ok (.iconst 2, 1) := by decide +kernel
theorem dL_step_875 : decode cL_step 875 = .ok (.invokevirtual 70, 3) := by decide +kernel
theorem dL_step_878 : decode cL_step 878 = .ok (.istore 19, 2) := by decide +kernel
theorem dL_step_880 : decode cL_step 880 = .ok (.aload_n 0, 1) := by decide +kernel
theorem dL_step_881 : decode cL_step 881 = .ok (.iload 6, 2) := by decide +kernel
theorem dL_step_883 : decode cL_step 883 = .ok (.iconst 0, 1) := by decide +kernel
theorem dL_step_884 : decode cL_step 884 = .ok (.iconst 2, 1) := by decide +kernel
theorem dL_step_885 : decode cL_step 885 = .ok (.invokestatic 66, 3) := by decide +kernel
theorem dL_step_888 : decode cL_step 888 = .ok (.istore 20, 2) := by decide +kernel
theorem dL_step_890 : decode cL_step 890 = .ok (.iload 20, 2) := by decide +kernel
theorem dL_step_892 : decode cL_step 892 = .ok (.sipush (-200), 3) := by decide +kernel
theorem dL_step_895 : decode cL_step 895 = .ok (.if_icmp .ne 17, 3) := by decide +kernel
theorem dL_step_898 : decode cL_step 898 = .ok (.iload 19, 2) := by decide +kernel
theorem dL_step_900 : decode cL_step 900 = .ok (.iconst (-1), 1) := by decide +kernel
theorem dL_step_901 : decode cL_step 901 = .ok (.if_icmp .ne 7, 3) := by decide +kernel
theorem dL_step_904 : decode cL_step 904 = .ok (.iconst 1, 1) := by decide +kernel
theorem dL_step_905 : decode cL_step 905 = .ok (.goto 30, 3) := by decide +kernel
theorem dL_step_908 : decode cL_step 908 = .ok (.iconst 0, 1) := by decide +kernel
theorem dL_step_909 : decode cL_step 909 = .ok (.goto 26, 3) := by decide +kernel
theorem dL_step_912 : decode cL_step 912 = .ok (.iload 20, 2) := by decide +kernel
theorem dL_step_914 : decode cL_step 914 = .ok (.iload 19, 2) := by decide +kernel
theorem dL_step_916 : decode cL_step 916 = .ok (.if_icmp .ne 18, 3) := by decide +kernel
theorem dL_step_919 : decode cL_step 919 = .ok (.aload_n 0, 1) := by decide +kernel
theorem dL_step_920 : decode cL_step 920 = .ok (.iload 6, 2) := by decide +kernel
theorem dL_step_922 : decode cL_step 922 = .ok (.iconst 2, 1) := by decide +kernel
theorem dL_step_923 : decode cL_step 923 = .ok (.invokevirtual 70, 3) := by decide +kernel
theorem dL_step_926 : decode cL_step 926 = .ok (.iconst (-1), 1) := by decide +kernel
theorem dL_step_927 : decode cL_step 927 = .ok (.if_icmp .ne 7, 3) := by decide +kernel
theorem dL_step_930 : decode cL_step 930 = .ok (.iconst 1, 1) := by decide +kernel
theorem dL_step_931 : decode cL_step 931 = .ok (.goto 4, 3) := by decide +kernel
theorem dL_step_934 : decode cL_step 934 = .ok (.iconst 0, 1) := by decide +kernel
theorem dL_step_935 : decode cL_step 935 = .ok (.ireturn, 1) := by decide +kernel
theorem dL_step_936 : decode cL_step 936 = .ok (.aload_n 0, 1) := by decide +kernel
theorem dL_step_937 : decode cL_step 937 = .ok (.iload 7, 2) := by decide +kernel
theorem dL_step_939 : decode cL_step 939 = .ok (.iload 4, 2) := by decide +kernel
theorem dL_step_941 : decode cL_step 941 = .ok (.bipush 12, 2) := by decide +kernel
theorem dL_step_943 : decode cL_step 943 = .ok (.irem, 1) := by decide +kernel
theorem dL_step_944 : decode cL_step 944 = .ok (.iconst 5, 1) := by decide +kernel
theorem dL_step_945 : decode cL_step 945 = .ok (.invokestatic 66, 3) := by decide +kernel
theorem dL_step_948 : decode cL_step 948 = .ok (.istore 21, 2) := by decide +kernel
