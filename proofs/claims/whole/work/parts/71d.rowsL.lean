theorem dL_law_704 : decode cL_law 704 = .ok (.aload_n 0, 1) := by decide +kernel
theorem dL_law_705 : decode cL_law 705 = .ok (.iload 5, 2) := by decide +kernel
theorem dL_law_707 : decode cL_law 707 = .ok (.iconst 1, 1) := by decide +kernel
theorem dL_law_708 : decode cL_law 708 = .ok (.iadd, 1) := by decide +kernel
theorem dL_law_709 : decode cL_law 709 = .ok (.iaload, 1) := by decide +kernel
theorem dL_law_710 : decode cL_law 710 = .ok (.invokevirtual 223, 3) := by decide +kernel
theorem dL_law_713 : decode cL_law 713 = .ok (.istore 7, 2) := by decide +kernel
theorem dL_law_715 : decode cL_law 715 = .ok (.aload_n 2, 1) := by decide +kernel
theorem dL_law_716 : decode cL_law 716 = .ok (.invokevirtual 204, 3) := by decide +kernel
theorem dL_law_719 : decode cL_law 719 = .ok (.iload 6, 2) := by decide +kernel
theorem dL_law_721 : decode cL_law 721 = .ok (.if_icmp .eq 5, 3) := by decide +kernel
theorem dL_law_724 : decode cL_law 724 = .ok (.iconst 0, 1) := by decide +kernel
theorem dL_law_725 : decode cL_law 725 = .ok (.ireturn, 1) := by decide +kernel
theorem dL_law_726 : decode cL_law 726 = .ok (.iload 6, 2) := by decide +kernel
theorem dL_law_728 : decode cL_law 728 = .ok (.ifCond .ne 22, 3) := by decide +kernel
theorem dL_law_731 : decode cL_law 731 = .ok (.aload_n 3, 1) := by decide +kernel
theorem dL_law_732 : decode cL_law 732 = .ok (.iconst 0, 1) := by decide +kernel
theorem dL_law_733 : decode cL_law 733 = .ok (.laload, 1) := by decide +kernel
theorem dL_law_734 : decode cL_law 734 = .ok (.iload 7, 2) := by decide +kernel
theorem dL_law_736 : decode cL_law 736 = .ok (.ifCond .eq 7, 3) := by decide +kernel
theorem dL_law_739 : decode cL_law 739 = .ok (.lconst 1, 1) := by decide +kernel
theorem dL_law_740 : decode cL_law 740 = .ok (.goto 4, 3) := by decide +kernel
theorem dL_law_743 : decode cL_law 743 = .ok (.lconst 0, 1) := by decide +kernel
theorem dL_law_744 : decode cL_law 744 = .ok (.lcmp, 1) := by decide +kernel
theorem dL_law_745 : decode cL_law 745 = .ok (.ifCond .eq 5, 3) := by decide +kernel
theorem dL_law_748 : decode cL_law 748 = .ok (.iconst 0, 1) := by decide +kernel
theorem dL_law_749 : decode cL_law 749 = .ok (.ireturn, 1) := by decide +kernel
theorem dL_law_750 : decode cL_law 750 = .ok (.goto 2867, 3) := by decide +kernel
theorem dL_law_753 : decode cL_law 753 = .ok (.aload_n 1, 1) := by decide +kernel
theorem dL_law_754 : decode cL_law 754 = .ok (.aload_n 0, 1) := by decide +kernel
theorem dL_law_755 : decode cL_law 755 = .ok (.iload 5, 2) := by decide +kernel
theorem dL_law_757 : decode cL_law 757 = .ok (.iconst 1, 1) := by decide +kernel
theorem dL_law_758 : decode cL_law 758 = .ok (.iadd, 1) := by decide +kernel
theorem dL_law_759 : decode cL_law 759 = .ok (.iaload, 1) := by decide +kernel
theorem dL_law_760 : decode cL_law 760 = .ok (.aload_n 3, 1) := by decide +kernel
theorem dL_law_761 : decode cL_law 761 = .ok (.invokestatic 224, 3) := by decide +kernel
theorem dL_law_764 : decode cL_law 764 = .ok (.istore 6, 2) := by decide +kernel
theorem dL_law_766 : decode cL_law 766 = .ok (.aload_n 2, 1) := by decide +kernel
theorem dL_law_767 : decode cL_law 767 = .ok (.aload_n 0, 1) := by decide +kernel
theorem dL_law_768 : decode cL_law 768 = .ok (.iload 5, 2) := by decide +kernel
theorem dL_law_770 : decode cL_law 770 = .ok (.iconst 1, 1) := by decide +kernel
theorem dL_law_771 : decode cL_law 771 = .ok (.iadd, 1) := by decide +kernel
theorem dL_law_772 : decode cL_law 772 = .ok (.iaload, 1) := by decide +kernel
theorem dL_law_773 : decode cL_law 773 = .ok (.invokevirtual 226, 3) := by decide +kernel
theorem dL_law_776 : decode cL_law 776 = .ok (.istore 7, 2) := by decide +kernel
theorem dL_law_778 : decode cL_law 778 = .ok (.aload_n 2, 1) := by decide +kernel
theorem dL_law_779 : decode cL_law 779 = .ok (.invokevirtual 204, 3) := by decide +kernel
theorem dL_law_782 : decode cL_law 782 = .ok (.iload 6, 2) := by decide +kernel
theorem dL_law_784 : decode cL_law 784 = .ok (.if_icmp .eq 5, 3) := by decide +kernel
theorem dL_law_787 : decode cL_law 787 = .ok (.iconst 0, 1) := by decide +kernel
theorem dL_law_788 : decode cL_law 788 = .ok (.ireturn, 1) := by decide +kernel
theorem dL_law_789 : decode cL_law 789 = .ok (.iload 6, 2) := by decide +kernel
theorem dL_law_791 : decode cL_law 791 = .ok (.ifCond .ne 15, 3) := by decide +kernel
theorem dL_law_794 : decode cL_law 794 = .ok (.aload_n 3, 1) := by decide +kernel
theorem dL_law_795 : decode cL_law 795 = .ok (.iconst 0, 1) := by decide +kernel
theorem dL_law_796 : decode cL_law 796 = .ok (.laload, 1) := by decide +kernel
theorem dL_law_797 : decode cL_law 797 = .ok (.iload 7, 2) := by decide +kernel
theorem dL_law_799 : decode cL_law 799 = .ok (.i2l, 1) := by decide +kernel
theorem dL_law_800 : decode cL_law 800 = .ok (.lcmp, 1) := by decide +kernel
theorem dL_law_801 : decode cL_law 801 = .ok (.ifCond .eq 5, 3) := by decide +kernel
theorem dL_law_804 : decode cL_law 804 = .ok (.iconst 0, 1) := by decide +kernel
theorem dL_law_805 : decode cL_law 805 = .ok (.ireturn, 1) := by decide +kernel
theorem dL_law_806 : decode cL_law 806 = .ok (.goto 2811, 3) := by decide +kernel
theorem dL_law_809 : decode cL_law 809 = .ok (.aload_n 1, 1) := by decide +kernel
theorem dL_law_810 : decode cL_law 810 = .ok (.aload_n 0, 1) := by decide +kernel
theorem dL_law_811 : decode cL_law 811 = .ok (.iload 5, 2) := by decide +kernel
theorem dL_law_813 : decode cL_law 813 = .ok (.iconst 1, 1) := by decide +kernel
theorem dL_law_814 : decode cL_law 814 = .ok (.iadd, 1) := by decide +kernel
theorem dL_law_815 : decode cL_law 815 = .ok (.iaload, 1) := by decide +kernel
theorem dL_law_816 : decode cL_law 816 = .ok (.aload_n 3, 1) := by decide +kernel
theorem dL_law_817 : decode cL_law 817 = .ok (.invokestatic 227, 3) := by decide +kernel
theorem dL_law_820 : decode cL_law 820 = .ok (.istore 6, 2) := by decide +kernel
theorem dL_law_822 : decode cL_law 822 = .ok (.aload_n 2, 1) := by decide +kernel
theorem dL_law_823 : decode cL_law 823 = .ok (.aload_n 0, 1) := by decide +kernel
theorem dL_law_824 : decode cL_law 824 = .ok (.iload 5, 2) := by decide +kernel
theorem dL_law_826 : decode cL_law 826 = .ok (.iconst 1, 1) := by decide +kernel
theorem dL_law_827 : decode cL_law 827 = .ok (.iadd, 1) := by decide +kernel
theorem dL_law_828 : decode cL_law 828 = .ok (.iaload, 1) := by decide +kernel
theorem dL_law_829 : decode cL_law 829 = .ok (.invokevirtual 229, 3) := by decide +kernel
theorem dL_law_832 : decode cL_law 832 = .ok (.istore 7, 2) := by decide +kernel
theorem dL_law_834 : decode cL_law 834 = .ok (.aload_n 2, 1) := by decide +kernel
theorem dL_law_835 : decode cL_law 835 = .ok (.invokevirtual 204, 3) := by decide +kernel
theorem dL_law_838 : decode cL_law 838 = .ok (.iload 6, 2) := by decide +kernel
theorem dL_law_840 : decode cL_law 840 = .ok (.if_icmp .eq 5, 3) := by decide +kernel
theorem dL_law_843 : decode cL_law 843 = .ok (.iconst 0, 1) := by decide +kernel
theorem dL_law_844 : decode cL_law 844 = .ok (.ireturn, 1) := by decide +kernel
theorem dL_law_845 : decode cL_law 845 = .ok (.iload 6, 2) := by decide +kernel
theorem dL_law_847 : decode cL_law 847 = .ok (.ifCond .ne 15, 3) := by decide +kernel
theorem dL_law_850 : decode cL_law 850 = .ok (.aload_n 3, 1) := by decide +kernel
theorem dL_law_851 : decode cL_law 851 = .ok (.iconst 0, 1) := by decide +kernel
theorem dL_law_852 : decode cL_law 852 = .ok (.laload, 1) := by decide +kernel
theorem dL_law_853 : decode cL_law 853 = .ok (.iload 7, 2) := by decide +kernel
theorem dL_law_855 : decode cL_law 855 = .ok (.i2l, 1) := by decide +kernel
theorem dL_law_856 : decode cL_law 856 = .ok (.lcmp, 1) := by decide +kernel
theorem dL_law_857 : decode cL_law 857 = .ok (.ifCond .eq 5, 3) := by decide +kernel
theorem dL_law_860 : decode cL_law 860 = .ok (.iconst 0, 1) := by decide +kernel
theorem dL_law_861 : decode cL_law 861 = .ok (.ireturn, 1) := by decide +kernel
theorem dL_law_862 : decode cL_law 862 = .ok (.goto 2755, 3) := by decide +kernel
theorem dL_law_865 : decode cL_law 865 = .ok (.aload_n 1, 1) := by decide +kernel
theorem dL_law_866 : decode cL_law 866 = .ok (.aload_n 0, 1) := by decide +kernel
theorem dL_law_867 : decode cL_law 867 = .ok (.iload 5, 2) := by decide +kernel
theorem dL_law_869 : decode cL_law 869 = .ok (.iconst 1, 1) := by decide +kernel
theorem dL_law_870 : decode cL_law 870 = .ok (.iadd, 1) := by decide +kernel
theorem dL_law_871 : decode cL_law 871 = .ok (.iaload, 1) := by decide +kernel
theorem dL_law_872 : decode cL_law 872 = .ok (.aload_n 3, 1) := by decide +kernel
theorem dL_law_873 : decode cL_law 873 = .ok (.invokestatic 230, 3) := by decide +kernel
theorem dL_law_876 : decode cL_law 876 = .ok (.istore 6, 2) := by decide +kernel
theorem dL_law_878 : decode cL_law 878 = .ok (.aload_n 2, 1) := by decide +kernel
theorem dL_law_879 : decode cL_law 879 = .ok (.aload_n 0, 1) := by decide +kernel
theorem dL_law_880 : decode cL_law 880 = .ok (.iload 5, 2) := by decide +kernel
theorem dL_law_882 : decode cL_law 882 = .ok (.iconst 1, 1) := by decide +kernel
theorem dL_law_883 : decode cL_law 883 = .ok (.iadd, 1) := by decide +kernel
theorem dL_law_884 : decode cL_law 884 = .ok (.iaload, 1) := by decide +kernel
theorem dL_law_885 : decode cL_law 885 = .ok (.invokevirtual 232, 3) := by decide +kernel
theorem dL_law_888 : decode cL_law 888 = .ok (.istore 7, 2) := by decide +kernel
theorem dL_law_890 : decode cL_law 890 = .ok (.aload_n 2, 1) := by decide +kernel
theorem dL_law_891 : decode cL_law 891 = .ok (.invokevirtual 204, 3) := by decide +kernel
theorem dL_law_894 : decode cL_law 894 = .ok (.iload 6, 2) := by decide +kernel
theorem dL_law_896 : decode cL_law 896 = .ok (.if_icmp .eq 5, 3) := by decide +kernel
theorem dL_law_899 : decode cL_law 899 = .ok (.iconst 0, 1) := by decide +kernel
theorem dL_law_900 : decode cL_law 900 = .ok (.ireturn, 1) := by decide +kernel
theorem dL_law_901 : decode cL_law 901 = .ok (.iload 6, 2) := by decide +kernel
theorem dL_law_903 : decode cL_law 903 = .ok (.ifCond .ne 15, 3) := by decide +kernel
theorem dL_law_906 : decode cL_law 906 = .ok (.aload_n 3, 1) := by decide +kernel
theorem dL_law_907 : decode cL_law 907 = .ok (.iconst 0, 1) := by decide +kernel
theorem dL_law_908 : decode cL_law 908 = .ok (.laload, 1) := by decide +kernel
theorem dL_law_909 : decode cL_law 909 = .ok (.iload 7, 2) := by decide +kernel
theorem dL_law_911 : decode cL_law 911 = .ok (.i2l, 1) := by decide +kernel
theorem dL_law_912 : decode cL_law 912 = .ok (.lcmp, 1) := by decide +kernel
theorem dL_law_913 : decode cL_law 913 = .ok (.ifCond .eq 5, 3) := by decide +kernel
theorem dL_law_916 : decode cL_law 916 = .ok (.iconst 0, 1) := by decide +kernel
theorem dL_law_917 : decode cL_law 917 = .ok (.ireturn, 1) := by decide +kernel
theorem dL_law_918 : decode cL_law 918 = .ok (.goto 2699, 3) := by decide +kernel
theorem dL_law_921 : decode cL_law 921 = .ok (.aload_n 1, 1) := by decide +kernel
theorem dL_law_922 : decode cL_law 922 = .ok (.aload_n 0, 1) := by decide +kernel
theorem dL_law_923 : decode cL_law 923 = .ok (.iload 5, 2) := by decide +kernel
theorem dL_law_925 : decode cL_law 925 = .ok (.iconst 1, 1) := by decide +kernel
theorem dL_law_926 : decode cL_law 926 = .ok (.iadd, 1) := by decide +kernel
theorem dL_law_927 : decode cL_law 927 = .ok (.iaload, 1) := by decide +kernel
theorem dL_law_928 : decode cL_law 928 = .ok (.aload_n 3, 1) := by decide +kernel
theorem dL_law_929 : decode cL_law 929 = .ok (.invokestatic 233, 3) := by decide +kernel
theorem dL_law_932 : decode cL_law 932 = .ok (.istore 6, 2) := by decide +kernel
theorem dL_law_934 : decode cL_law 934 = .ok (.aload_n 2, 1) := by decide +kernel
theorem dL_law_935 : decode cL_law 935 = .ok (.aload_n 0, 1) := by decide +kernel
theorem dL_law_936 : decode cL_law 936 = .ok (.iload 5, 2) := by decide +kernel
theorem dL_law_938 : decode cL_law 938 = .ok (.iconst 1, 1) := by decide +kernel
theorem dL_law_939 : decode cL_law 939 = .ok (.iadd, 1) := by decide +kernel
theorem dL_law_940 : decode cL_law 940 = .ok (.iaload, 1) := by decide +kernel
theorem dL_law_941 : decode cL_law 941 = .ok (.invokevirtual 235, 3) := by decide +kernel
theorem dL_law_944 : decode cL_law 944 = .ok (.istore 7, 2) := by decide +kernel
theorem dL_law_946 : decode cL_law 946 = .ok (.aload_n 2, 1) := by decide +kernel
theorem dL_law_947 : decode cL_law 947 = .ok (.invokevirtual 204, 3) := by decide +kernel
theorem dL_law_950 : decode cL_law 950 = .ok (.iload 6, 2) := by decide +kernel
theorem dL_law_952 : decode cL_law 952 = .ok (.if_icmp .eq 5, 3) := by decide +kernel
theorem dL_law_955 : decode cL_law 955 = .ok (.iconst 0, 1) := by decide +kernel
theorem dL_law_956 : decode cL_law 956 = .ok (.ireturn, 1) := by decide +kernel
theorem dL_law_957 : decode cL_law 957 = .ok (.iload 6, 2) := by decide +kernel
theorem dL_law_959 : decode cL_law 959 = .ok (.ifCond .ne 15, 3) := by decide +kernel
theorem dL_law_962 : decode cL_law 962 = .ok (.aload_n 3, 1) := by decide +kernel
theorem dL_law_963 : decode cL_law 963 = .ok (.iconst 0, 1) := by decide +kernel
theorem dL_law_964 : decode cL_law 964 = .ok (.laload, 1) := by decide +kernel
theorem dL_law_965 : decode cL_law 965 = .ok (.iload 7, 2) := by decide +kernel
theorem dL_law_967 : decode cL_law 967 = .ok (.i2l, 1) := by decide +kernel
theorem dL_law_968 : decode cL_law 968 = .ok (.lcmp, 1) := by decide +kernel
theorem dL_law_969 : decode cL_law 969 = .ok (.ifCond .eq 5, 3) := by decide +kernel
theorem dL_law_972 : decode cL_law 972 = .ok (.iconst 0, 1) := by decide +kernel
theorem dL_law_973 : decode cL_law 973 = .ok (.ireturn, 1) := by decide +kernel
theorem dL_law_974 : decode cL_law 974 = .ok (.goto 2643, 3) := by decide +kernel
theorem dL_law_977 : decode cL_law 977 = .ok (.aload_n 1, 1) := by decide +kernel
theorem dL_law_978 : decode cL_law 978 = .ok (.aload_n 0, 1) := by decide +kernel
theorem dL_law_979 : decode cL_law 979 = .ok (.iload 5, 2) := by decide +kernel
theorem dL_law_981 : decode cL_law 981 = .ok (.iconst 1, 1) := by decide +kernel
theorem dL_law_982 : decode cL_law 982 = .ok (.iadd, 1) := by decide +kernel
theorem dL_law_983 : decode cL_law 983 = .ok (.iaload, 1) := by decide +kernel
theorem dL_law_984 : decode cL_law 984 = .ok (.aload_n 3, 1) := by decide +kernel
theorem dL_law_985 : decode cL_law 985 = .ok (.invokestatic 236, 3) := by decide +kernel
theorem dL_law_988 : decode cL_law 988 = .ok (.istore 6, 2) := by decide +kernel
theorem dL_law_990 : decode cL_law 990 = .ok (.aload_n 2, 1) := by decide +kernel
theorem dL_law_991 : decode cL_law 991 = .ok (.aload_n 0, 1) := by decide +kernel
theorem dL_law_992 : decode cL_law 992 = .ok (.iload 5, 2) := by decide +kernel
theorem dL_law_994 : decode cL_law 994 = .ok (.iconst 1, 1) := by decide +kernel
theorem dL_law_995 : decode cL_law 995 = .ok (.iadd, 1) := by decide +kernel
theorem dL_law_996 : decode cL_law 996 = .ok (.iaload, 1) := by decide +kernel
theorem dL_law_997 : decode cL_law 997 = .ok (.invokevirtual 238, 3) := by decide +kernel
theorem dL_law_1000 : decode cL_law 1000 = .ok (.istore 7, 2) := by decide +kernel
theorem dL_law_1002 : decode cL_law 1002 = .ok (.aload_n 2, 1) := by decide +kernel
theorem dL_law_1003 : decode cL_law 1003 = .ok (.invokevirtual 204, 3) := by decide +kernel
theorem dL_law_1006 : decode cL_law 1006 = .ok (.iload 6, 2) := by decide +kernel
theorem dL_law_1008 : decode cL_law 1008 = .ok (.if_icmp .eq 5, 3) := by decide +kernel
theorem dL_law_1011 : decode cL_law 1011 = .ok (.iconst 0, 1) := by decide +kernel
theorem dL_law_1012 : decode cL_law 1012 = .ok (.ireturn, 1) := by decide +kernel
theorem dL_law_1013 : decode cL_law 1013 = .ok (.iload 6, 2) := by decide +kernel
theorem dL_law_1015 : decode cL_law 1015 = .ok (.ifCond .ne 15, 3) := by decide +kernel
theorem dL_law_1018 : decode cL_law 1018 = .ok (.aload_n 3, 1) := by decide +kernel
theorem dL_law_1019 : decode cL_law 1019 = .ok (.iconst 0, 1) := by decide +kernel
theorem dL_law_1020 : decode cL_law 1020 = .ok (.laload, 1) := by decide +kernel
theorem dL_law_1021 : decode cL_law 1021 = .ok (.iload 7, 2) := by decide +kernel
theorem dL_law_1023 : decode cL_law 1023 = .ok (.i2l, 1) := by decide +kernel
theorem dL_law_1024 : decode cL_law 1024 = .ok (.lcmp, 1) := by decide +kernel
theorem dL_law_1025 : decode cL_law 1025 = .ok (.ifCond .eq 5, 3) := by decide +kernel
theorem dL_law_1028 : decode cL_law 1028 = .ok (.iconst 0, 1) := by decide +kernel
theorem dL_law_1029 : decode cL_law 1029 = .ok (.ireturn, 1) := by decide +kernel
theorem dL_law_1030 : decode cL_law 1030 = .ok (.goto 2587, 3) := by decide +kernel
theorem dL_law_1033 : decode cL_law 1033 = .ok (.aload_n 1, 1) := by decide +kernel
theorem dL_law_1034 : decode cL_law 1034 = .ok (.aload_n 0, 1) := by decide +kernel
theorem dL_law_1035 : decode cL_law 1035 = .ok (.iload 5, 2) := by decide +kernel
theorem dL_law_1037 : decode cL_law 1037 = .ok (.iconst 1, 1) := by decide +kernel
theorem dL_law_1038 : decode cL_law 1038 = .ok (.iadd, 1) := by decide +kernel
theorem dL_law_1039 : decode cL_law 1039 = .ok (.iaload, 1) := by decide +kernel
theorem dL_law_1040 : decode cL_law 1040 = .ok (.aload_n 3, 1) := by decide +kernel
theorem dL_law_1041 : decode cL_law 1041 = .ok (.invokestatic 239, 3) := by decide +kernel
theorem dL_law_1044 : decode cL_law 1044 = .ok (.istore 6, 2) := by decide +kernel
theorem dL_law_1046 : decode cL_law 1046 = .ok (.aload_n 2, 1) := by decide +kernel
theorem dL_law_1047 : decode cL_law 1047 = .ok (.aload_n 0, 1) := by decide +kernel
theorem dL_law_1048 : decode cL_law 1048 = .ok (.iload 5, 2) := by decide +kernel
theorem dL_law_1050 : decode cL_law 1050 = .ok (.iconst 1, 1) := by decide +kernel
theorem dL_law_1051 : decode cL_law 1051 = .ok (.iadd, 1) := by decide +kernel
theorem dL_law_1052 : decode cL_law 1052 = .ok (.iaload, 1) := by decide +kernel
theorem dL_law_1053 : decode cL_law 1053 = .ok (.invokevirtual 241, 3) := by decide +kernel
theorem dL_law_1056 : decode cL_law 1056 = .ok (.istore 7, 2) := by decide +kernel
theorem dL_law_1058 : decode cL_law 1058 = .ok (.aload_n 2, 1) := by decide +kernel
theorem dL_law_1059 : decode cL_law 1059 = .ok (.invokevirtual 204, 3) := by decide +kernel
theorem dL_law_1062 : decode cL_law 1062 = .ok (.iload 6, 2) := by decide +kernel
theorem dL_law_1064 : decode cL_law 1064 = .ok (.if_icmp .eq 5, 3) := by decide +kernel
theorem dL_law_1067 : decode cL_law 1067 = .ok (.iconst 0, 1) := by decide +kernel
theorem dL_law_1068 : decode cL_law 1068 = .ok (.ireturn, 1) := by decide +kernel
theorem dL_law_1069 : decode cL_law 1069 = .ok (.iload 6, 2) := by decide +kernel
theorem dL_law_1071 : decode cL_law 1071 = .ok (.ifCond .ne 15, 3) := by decide +kernel
theorem dL_law_1074 : decode cL_law 1074 = .ok (.aload_n 3, 1) := by decide +kernel
theorem dL_law_1075 : decode cL_law 1075 = .ok (.iconst 0, 1) := by decide +kernel
theorem dL_law_1076 : decode cL_law 1076 = .ok (.laload, 1) := by decide +kernel
theorem dL_law_1077 : decode cL_law 1077 = .ok (.iload 7, 2) := by decide +kernel
theorem dL_law_1079 : decode cL_law 1079 = .ok (.i2l, 1) := by decide +kernel
theorem dL_law_1080 : decode cL_law 1080 = .ok (.lcmp, 1) := by decide +kernel
theorem dL_law_1081 : decode cL_law 1081 = .ok (.ifCond .eq 5, 3) := by decide +kernel
theorem dL_law_1084 : decode cL_law 1084 = .ok (.iconst 0, 1) := by decide +kernel
theorem dL_law_1085 : decode cL_law 1085 = .ok (.ireturn, 1) := by decide +kernel
theorem dL_law_1086 : decode cL_law 1086 = .ok (.goto 2531, 3) := by decide +kernel
theorem dL_law_1089 : decode cL_law 1089 = .ok (.aload_n 1, 1) := by decide +kernel
theorem dL_law_1090 : decode cL_law 1090 = .ok (.aload_n 0, 1) := by decide +kernel
theorem dL_law_1091 : decode cL_law 1091 = .ok (.iload 5, 2) := by decide +kernel
theorem dL_law_1093 : decode cL_law 1093 = .ok (.iconst 1, 1) := by decide +kernel
theorem dL_law_1094 : decode cL_law 1094 = .ok (.iadd, 1) := by decide +kernel
theorem dL_law_1095 : decode cL_law 1095 = .ok (.iaload, 1) := by decide +kernel
theorem dL_law_1096 : decode cL_law 1096 = .ok (.aload_n 3, 1) := by decide +kernel
theorem dL_law_1097 : decode cL_law 1097 = .ok (.invokestatic 242, 3) := by decide +kernel
theorem dL_law_1100 : decode cL_law 1100 = .ok (.istore 6, 2) := by decide +kernel
theorem dL_law_1102 : decode cL_law 1102 = .ok (.aload_n 2, 1) := by decide +kernel
theorem dL_law_1103 : decode cL_law 1103 = .ok (.aload_n 0, 1) := by decide +kernel
theorem dL_law_1104 : decode cL_law 1104 = .ok (.iload 5, 2) := by decide +kernel
theorem dL_law_1106 : decode cL_law 1106 = .ok (.iconst 1, 1) := by decide +kernel
theorem dL_law_1107 : decode cL_law 1107 = .ok (.iadd, 1) := by decide +kernel
theorem dL_law_1108 : decode cL_law 1108 = .ok (.iaload, 1) := by decide +kernel
theorem dL_law_1109 : decode cL_law 1109 = .ok (.invokevirtual 244, 3) := by decide +kernel
theorem dL_law_1112 : decode cL_law 1112 = .ok (.istore 7, 2) := by decide +kernel
theorem dL_law_1114 : decode cL_law 1114 = .ok (.aload_n 2, 1) := by decide +kernel
theorem dL_law_1115 : decode cL_law 1115 = .ok (.invokevirtual 204, 3) := by decide +kernel
theorem dL_law_1118 : decode cL_law 1118 = .ok (.iload 6, 2) := by decide +kernel
theorem dL_law_1120 : decode cL_law 1120 = .ok (.if_icmp .eq 5, 3) := by decide +kernel
theorem dL_law_1123 : decode cL_law 1123 = .ok (.iconst 0, 1) := by decide +kernel
theorem dL_law_1124 : decode cL_law 1124 = .ok (.ireturn, 1) := by decide +kernel
theorem dL_law_1125 : decode cL_law 1125 = .ok (.iload 6, 2) := by decide +kernel
theorem dL_law_1127 : decode cL_law 1127 = .ok (.ifCond .ne 15, 3) := by decide +kernel
theorem dL_law_1130 : decode cL_law 1130 = .ok (.aload_n 3, 1) := by decide +kernel
theorem dL_law_1131 : decode cL_law 1131 = .ok (.iconst 0, 1) := by decide +kernel
theorem dL_law_1132 : decode cL_law 1132 = .ok (.laload, 1) := by decide +kernel
theorem dL_law_1133 : decode cL_law 1133 = .ok (.iload 7, 2) := by decide +kernel
theorem dL_law_1135 : decode cL_law 1135 = .ok (.i2l, 1) := by decide +kernel
theorem dL_law_1136 : decode cL_law 1136 = .ok (.lcmp, 1) := by decide +kernel
theorem dL_law_1137 : decode cL_law 1137 = .ok (.ifCond .eq 5, 3) := by decide +kernel
theorem dL_law_1140 : decode cL_law 1140 = .ok (.iconst 0, 1) := by decide +kernel
theorem dL_law_1141 : decode cL_law 1141 = .ok (.ireturn, 1) := by decide +kernel
theorem dL_law_1142 : decode cL_law 1142 = .ok (.goto 2475, 3) := by decide +kernel
theorem dL_law_1145 : decode cL_law 1145 = .ok (.aload_n 1, 1) := by decide +kernel
theorem dL_law_1146 : decode cL_law 1146 = .ok (.aload_n 0, 1) := by decide +kernel
theorem dL_law_1147 : decode cL_law 1147 = .ok (.iload 5, 2) := by decide +kernel
theorem dL_law_1149 : decode cL_law 1149 = .ok (.iconst 1, 1) := by decide +kernel
theorem dL_law_1150 : decode cL_law 1150 = .ok (.iadd, 1) := by decide +kernel
theorem dL_law_1151 : decode cL_law 1151 = .ok (.iaload, 1) := by decide +kernel
theorem dL_law_1152 : decode cL_law 1152 = .ok (.aload_n 3, 1) := by decide +kernel
theorem dL_law_1153 : decode cL_law 1153 = .ok (.invokestatic 245, 3) := by decide +kernel
theorem dL_law_1156 : decode cL_law 1156 = .ok (.istore 6, 2) := by decide +kernel
theorem dL_law_1158 : decode cL_law 1158 = .ok (.aload_n 2, 1) := by decide +kernel
theorem dL_law_1159 : decode cL_law 1159 = .ok (.aload_n 0, 1) := by decide +kernel
theorem dL_law_1160 : decode cL_law 1160 = .ok (.iload 5, 2) := by decide +kernel
theorem dL_law_1162 : decode cL_law 1162 = .ok (.iconst 1, 1) := by decide +kernel
theorem dL_law_1163 : decode cL_law 1163 = .ok (.iadd, 1) := by decide +kernel
theorem dL_law_1164 : decode cL_law 1164 = .ok (.iaload, 1) := by decide +kernel
theorem dL_law_1165 : decode cL_law 1165 = .ok (.invokevirtual 247, 3) := by decide +kernel
theorem dL_law_1168 : decode cL_law 1168 = .ok (.istore 7, 2) := by decide +kernel
theorem dL_law_1170 : decode cL_law 1170 = .ok (.aload_n 2, 1) := by decide +kernel
theorem dL_law_1171 : decode cL_law 1171 = .ok (.invokevirtual 204, 3) := by decide +kernel
theorem dL_law_1174 : decode cL_law 1174 = .ok (.iload 6, 2) := by decide +kernel
theorem dL_law_1176 : decode cL_law 1176 = .ok (.if_icmp .eq 5, 3) := by decide +kernel
theorem dL_law_1179 : decode cL_law 1179 = .ok (.iconst 0, 1) := by decide +kernel
theorem dL_law_1180 : decode cL_law 1180 = .ok (.ireturn, 1) := by decide +kernel
theorem dL_law_1181 : decode cL_law 1181 = .ok (.iload 6, 2) := by decide +kernel
theorem dL_law_1183 : decode cL_law 1183 = .ok (.ifCond .ne 22, 3) := by decide +kernel
theorem dL_law_1186 : decode cL_law 1186 = .ok (.aload_n 3, 1) := by decide +kernel
theorem dL_law_1187 : decode cL_law 1187 = .ok (.iconst 0, 1) := by decide +kernel
theorem dL_law_1188 : decode cL_law 1188 = .ok (.laload, 1) := by decide +kernel
theorem dL_law_1189 : decode cL_law 1189 = .ok (.iload 7, 2) := by decide +kernel
theorem dL_law_1191 : decode cL_law 1191 = .ok (.ifCond .eq 7, 3) := by decide +kernel
theorem dL_law_1194 : decode cL_law 1194 = .ok (.lconst 1, 1) := by decide +kernel
theorem dL_law_1195 : decode cL_law 1195 = .ok (.goto 4, 3) := by decide +kernel
theorem dL_law_1198 : decode cL_law 1198 = .ok (.lconst 0, 1) := by decide +kernel
theorem dL_law_1199 : decode cL_law 1199 = .ok (.lcmp, 1) := by decide +kernel
theorem dL_law_1200 : decode cL_law 1200 = .ok (.ifCond .eq 5, 3) := by decide +kernel
theorem dL_law_1203 : decode cL_law 1203 = .ok (.iconst 0, 1) := by decide +kernel
theorem dL_law_1204 : decode cL_law 1204 = .ok (.ireturn, 1) := by decide +kernel
theorem dL_law_1205 : decode cL_law 1205 = .ok (.goto 2412, 3) := by decide +kernel
theorem dL_law_1208 : decode cL_law 1208 = .ok (.aload_n 1, 1) := by decide +kernel
theorem dL_law_1209 : decode cL_law 1209 = .ok (.aload_n 0, 1) := by decide +kernel
theorem dL_law_1210 : decode cL_law 1210 = .ok (.iload 5, 2) := by decide +kernel
theorem dL_law_1212 : decode cL_law 1212 = .ok (.iconst 1, 1) := by decide +kernel
theorem dL_law_1213 : decode cL_law 1213 = .ok (.iadd, 1) := by decide +kernel
theorem dL_law_1214 : decode cL_law 1214 = .ok (.iaload, 1) := by decide +kernel
theorem dL_law_1215 : decode cL_law 1215 = .ok (.aload_n 3, 1) := by decide +kernel
theorem dL_law_1216 : decode cL_law 1216 = .ok (.invokestatic 248, 3) := by decide +kernel
theorem dL_law_1219 : decode cL_law 1219 = .ok (.istore 6, 2) := by decide +kernel
theorem dL_law_1221 : decode cL_law 1221 = .ok (.aload_n 2, 1) := by decide +kernel
theorem dL_law_1222 : decode cL_law 1222 = .ok (.aload_n 0, 1) := by decide +kernel
theorem dL_law_1223 : decode cL_law 1223 = .ok (.iload 5, 2) := by decide +kernel
theorem dL_law_1225 : decode cL_law 1225 = .ok (.iconst 1, 1) := by decide +kernel
theorem dL_law_1226 : decode cL_law 1226 = .ok (.iadd, 1) := by decide +kernel
theorem dL_law_1227 : decode cL_law 1227 = .ok (.iaload, 1) := by decide +kernel
theorem dL_law_1228 : decode cL_law 1228 = .ok (.invokevirtual 250, 3) := by decide +kernel
theorem dL_law_1231 : decode cL_law 1231 = .ok (.istore 7, 2) := by decide +kernel
theorem dL_law_1233 : decode cL_law 1233 = .ok (.aload_n 2, 1) := by decide +kernel
theorem dL_law_1234 : decode cL_law 1234 = .ok (.invokevirtual 204, 3) := by decide +kernel
theorem dL_law_1237 : decode cL_law 1237 = .ok (.iload 6, 2) := by decide +kernel
theorem dL_law_1239 : decode cL_law 1239 = .ok (.if_icmp .eq 5, 3) := by decide +kernel
theorem dL_law_1242 : decode cL_law 1242 = .ok (.iconst 0, 1) := by decide +kernel
theorem dL_law_1243 : decode cL_law 1243 = .ok (.ireturn, 1) := by decide +kernel
theorem dL_law_1244 : decode cL_law 1244 = .ok (.iload 6, 2) := by decide +kernel
theorem dL_law_1246 : decode cL_law 1246 = .ok (.ifCond .ne 15, 3) := by decide +kernel
theorem dL_law_1249 : decode cL_law 1249 = .ok (.aload_n 3, 1) := by decide +kernel
theorem dL_law_1250 : decode cL_law 1250 = .ok (.iconst 0, 1) := by decide +kernel
theorem dL_law_1251 : decode cL_law 1251 = .ok (.laload, 1) := by decide +kernel
theorem dL_law_1252 : decode cL_law 1252 = .ok (.iload 7, 2) := by decide +kernel
theorem dL_law_1254 : decode cL_law 1254 = .ok (.i2l, 1) := by decide +kernel
theorem dL_law_1255 : decode cL_law 1255 = .ok (.lcmp, 1) := by decide +kernel
theorem dL_law_1256 : decode cL_law 1256 = .ok (.ifCond .eq 5, 3) := by decide +kernel
theorem dL_law_1259 : decode cL_law 1259 = .ok (.iconst 0, 1) := by decide +kernel
theorem dL_law_1260 : decode cL_law 1260 = .ok (.ireturn, 1) := by decide +kernel
theorem dL_law_1261 : decode cL_law 1261 = .ok (.goto 2356, 3) := by decide +kernel
theorem dL_law_1264 : decode cL_law 1264 = .ok (.aload_n 1, 1) := by decide +kernel
theorem dL_law_1265 : decode cL_law 1265 = .ok (.aload_n 0, 1) := by decide +kernel
theorem dL_law_1266 : decode cL_law 1266 = .ok (.iload 5, 2) := by decide +kernel
theorem dL_law_1268 : decode cL_law 1268 = .ok (.iconst 1, 1) := by decide +kernel
theorem dL_law_1269 : decode cL_law 1269 = .ok (.iadd, 1) := by decide +kernel
theorem dL_law_1270 : decode cL_law 1270 = .ok (.iaload, 1) := by decide +kernel
theorem dL_law_1271 : decode cL_law 1271 = .ok (.aload_n 3, 1) := by decide +kernel
theorem dL_law_1272 : decode cL_law 1272 = .ok (.invokestatic 251, 3) := by decide +kernel
theorem dL_law_1275 : decode cL_law 1275 = .ok (.istore 6, 2) := by decide +kernel
theorem dL_law_1277 : decode cL_law 1277 = .ok (.aload_n 2, 1) := by decide +kernel
theorem dL_law_1278 : decode cL_law 1278 = .ok (.aload_n 0, 1) := by decide +kernel
theorem dL_law_1279 : decode cL_law 1279 = .ok (.iload 5, 2) := by decide +kernel
theorem dL_law_1281 : decode cL_law 1281 = .ok (.iconst 1, 1) := by decide +kernel
theorem dL_law_1282 : decode cL_law 1282 = .ok (.iadd, 1) := by decide +kernel
theorem dL_law_1283 : decode cL_law 1283 = .ok (.iaload, 1) := by decide +kernel
theorem dL_law_1284 : decode cL_law 1284 = .ok (.invokevirtual 253, 3) := by decide +kernel
theorem dL_law_1287 : decode cL_law 1287 = .ok (.istore 7, 2) := by decide +kernel
theorem dL_law_1289 : decode cL_law 1289 = .ok (.aload_n 2, 1) := by decide +kernel
theorem dL_law_1290 : decode cL_law 1290 = .ok (.invokevirtual 204, 3) := by decide +kernel
theorem dL_law_1293 : decode cL_law 1293 = .ok (.iload 6, 2) := by decide +kernel
theorem dL_law_1295 : decode cL_law 1295 = .ok (.if_icmp .eq 5, 3) := by decide +kernel
theorem dL_law_1298 : decode cL_law 1298 = .ok (.iconst 0, 1) := by decide +kernel
theorem dL_law_1299 : decode cL_law 1299 = .ok (.ireturn, 1) := by decide +kernel
theorem dL_law_1300 : decode cL_law 1300 = .ok (.iload 6, 2) := by decide +kernel
theorem dL_law_1302 : decode cL_law 1302 = .ok (.ifCond .ne 15, 3) := by decide +kernel
theorem dL_law_1305 : decode cL_law 1305 = .ok (.aload_n 3, 1) := by decide +kernel
theorem dL_law_1306 : decode cL_law 1306 = .ok (.iconst 0, 1) := by decide +kernel
theorem dL_law_1307 : decode cL_law 1307 = .ok (.laload, 1) := by decide +kernel
theorem dL_law_1308 : decode cL_law 1308 = .ok (.iload 7, 2) := by decide +kernel
theorem dL_law_1310 : decode cL_law 1310 = .ok (.i2l, 1) := by decide +kernel
theorem dL_law_1311 : decode cL_law 1311 = .ok (.lcmp, 1) := by decide +kernel
theorem dL_law_1312 : decode cL_law 1312 = .ok (.ifCond .eq 5, 3) := by decide +kernel
theorem dL_law_1315 : decode cL_law 1315 = .ok (.iconst 0, 1) := by decide +kernel
theorem dL_law_1316 : decode cL_law 1316 = .ok (.ireturn, 1) := by decide +kernel
theorem dL_law_1317 : decode cL_law 1317 = .ok (.goto 2300, 3) := by decide +kernel
theorem dL_law_1320 : decode cL_law 1320 = .ok (.aload_n 1, 1) := by decide +kernel
theorem dL_law_1321 : decode cL_law 1321 = .ok (.aload_n 0, 1) := by decide +kernel
theorem dL_law_1322 : decode cL_law 1322 = .ok (.iload 5, 2) := by decide +kernel
theorem dL_law_1324 : decode cL_law 1324 = .ok (.iconst 1, 1) := by decide +kernel
theorem dL_law_1325 : decode cL_law 1325 = .ok (.iadd, 1) := by decide +kernel
theorem dL_law_1326 : decode cL_law 1326 = .ok (.iaload, 1) := by decide +kernel
theorem dL_law_1327 : decode cL_law 1327 = .ok (.aload 4, 2) := by decide +kernel
theorem dL_law_1329 : decode cL_law 1329 = .ok (.invokestatic 254, 3) := by decide +kernel
theorem dL_law_1332 : decode cL_law 1332 = .ok (.istore 6, 2) := by decide +kernel
theorem dL_law_1334 : decode cL_law 1334 = .ok (.aload_n 2, 1) := by decide +kernel
theorem dL_law_1335 : decode cL_law 1335 = .ok (.aload_n 0, 1) := by decide +kernel
theorem dL_law_1336 : decode cL_law 1336 = .ok (.iload 5, 2) := by decide +kernel
theorem dL_law_1338 : decode cL_law 1338 = .ok (.iconst 1, 1) := by decide +kernel
theorem dL_law_1339 : decode cL_law 1339 = .ok (.iadd, 1) := by decide +kernel
theorem dL_law_1340 : decode cL_law 1340 = .ok (.iaload, 1) := by decide +kernel
theorem dL_law_1341 : decode cL_law 1341 = .ok (.invokevirtual 257, 3) := by decide +kernel
theorem dL_law_1344 : decode cL_law 1344 = .ok (.dstore 7, 2) := by decide +kernel
theorem dL_law_1346 : decode cL_law 1346 = .ok (.aload_n 2, 1) := by decide +kernel
theorem dL_law_1347 : decode cL_law 1347 = .ok (.invokevirtual 204, 3) := by decide +kernel
theorem dL_law_1350 : decode cL_law 1350 = .ok (.iload 6, 2) := by decide +kernel
theorem dL_law_1352 : decode cL_law 1352 = .ok (.if_icmp .eq 5, 3) := by decide +kernel
theorem dL_law_1355 : decode cL_law 1355 = .ok (.iconst 0, 1) := by decide +kernel
theorem dL_law_1356 : decode cL_law 1356 = .ok (.ireturn, 1) := by decide +kernel
theorem dL_law_1357 : decode cL_law 1357 = .ok (.iload 6, 2) := by decide +kernel
theorem dL_law_1359 : decode cL_law 1359 = .ok (.ifCond .ne 35, 3) := by decide +kernel
theorem dL_law_1362 : decode cL_law 1362 = .ok (.aload 4, 2) := by decide +kernel
theorem dL_law_1364 : decode cL_law 1364 = .ok (.iconst 0, 1) := by decide +kernel
theorem dL_law_1365 : decode cL_law 1365 = .ok (.daload, 1) := by decide +kernel
theorem dL_law_1366 : decode cL_law 1366 = .ok (.dload 7, 2) := by decide +kernel
theorem dL_law_1368 : decode cL_law 1368 = .ok (.dcmp .l, 1) := by decide +kernel
theorem dL_law_1369 : decode cL_law 1369 = .ok (.ifCond .eq 25, 3) := by decide +kernel
theorem dL_law_1372 : decode cL_law 1372 = .ok (.aload 4, 2) := by decide +kernel
theorem dL_law_1374 : decode cL_law 1374 = .ok (.iconst 0, 1) := by decide +kernel
theorem dL_law_1375 : decode cL_law 1375 = .ok (.daload, 1) := by decide +kernel
theorem dL_law_1376 : decode cL_law 1376 = .ok (.aload 4, 2) := by decide +kernel
theorem dL_law_1378 : decode cL_law 1378 = .ok (.iconst 0, 1) := by decide +kernel
theorem dL_law_1379 : decode cL_law 1379 = .ok (.daload, 1) := by decide +kernel
theorem dL_law_1380 : decode cL_law 1380 = .ok (.dcmp .l, 1) := by decide +kernel
theorem dL_law_1381 : decode cL_law 1381 = .ok (.ifCond .eq 11, 3) := by decide +kernel
theorem dL_law_1384 : decode cL_law 1384 = .ok (.dload 7, 2) := by decide +kernel
theorem dL_law_1386 : decode cL_law 1386 = .ok (.dload 7, 2) := by decide +kernel
theorem dL_law_1388 : decode cL_law 1388 = .ok (.dcmp .l, 1) := by decide +kernel
theorem dL_law_1389 : decode cL_law 1389 = .ok (.ifCond .ne 5, 3) := by decide +kernel
theorem dL_law_1392 : decode cL_law 1392 = .ok (.iconst 0, 1) := by decide +kernel
theorem dL_law_1393 : decode cL_law 1393 = .ok (.ireturn, 1) := by decide +kernel
theorem dL_law_1394 : decode cL_law 1394 = .ok (.goto 2223, 3) := by decide +kernel
theorem dL_law_1397 : decode cL_law 1397 = .ok (.aload_n 1, 1) := by decide +kernel
theorem dL_law_1398 : decode cL_law 1398 = .ok (.aload_n 0, 1) := by decide +kernel
theorem dL_law_1399 : decode cL_law 1399 = .ok (.iload 5, 2) := by decide +kernel
theorem dL_law_1401 : decode cL_law 1401 = .ok (.iconst 1, 1) := by decide +kernel
theorem dL_law_1402 : decode cL_law 1402 = .ok (.iadd, 1) := by decide +kernel
theorem dL_law_1403 : decode cL_law 1403 = .ok (.iaload, 1) := by decide +kernel
theorem dL_law_1404 : decode cL_law 1404 = .ok (.aload_n 3, 1) := by decide +kernel
theorem dL_law_1405 : decode cL_law 1405 = .ok (.invokestatic 258, 3) := by decide +kernel
theorem dL_law_1408 : decode cL_law 1408 = .ok (.istore 6, 2) := by decide +kernel
theorem dL_law_1410 : decode cL_law 1410 = .ok (.aload_n 2, 1) := by decide +kernel
theorem dL_law_1411 : decode cL_law 1411 = .ok (.aload_n 0, 1) := by decide +kernel
theorem dL_law_1412 : decode cL_law 1412 = .ok (.iload 5, 2) := by decide +kernel
theorem dL_law_1414 : decode cL_law 1414 = .ok (.iconst 1, 1) := by decide +kernel
theorem dL_law_1415 : decode cL_law 1415 = .ok (.iadd, 1) := by decide +kernel
theorem dL_law_1416 : decode cL_law 1416 = .ok (.iaload, 1) := by decide +kernel
theorem dL_law_1417 : decode cL_law 1417 = .ok (.invokevirtual 260, 3) := by decide +kernel
theorem dL_law_1420 : decode cL_law 1420 = .ok (.istore 7, 2) := by decide +kernel
theorem dL_law_1422 : decode cL_law 1422 = .ok (.aload_n 2, 1) := by decide +kernel
theorem dL_law_1423 : decode cL_law 1423 = .ok (.invokevirtual 204, 3) := by decide +kernel
theorem dL_law_1426 : decode cL_law 1426 = .ok (.iload 6, 2) := by decide +kernel
theorem dL_law_1428 : decode cL_law 1428 = .ok (.if_icmp .eq 5, 3) := by decide +kernel
theorem dL_law_1431 : decode cL_law 1431 = .ok (.iconst 0, 1) := by decide +kernel
theorem dL_law_1432 : decode cL_law 1432 = .ok (.ireturn, 1) := by decide +kernel
theorem dL_law_1433 : decode cL_law 1433 = .ok (.iload 6, 2) := by decide +kernel
theorem dL_law_1435 : decode cL_law 1435 = .ok (.ifCond .ne 22, 3) := by decide +kernel
theorem dL_law_1438 : decode cL_law 1438 = .ok (.aload_n 3, 1) := by decide +kernel
theorem dL_law_1439 : decode cL_law 1439 = .ok (.iconst 0, 1) := by decide +kernel
theorem dL_law_1440 : decode cL_law 1440 = .ok (.laload, 1) := by decide +kernel
theorem dL_law_1441 : decode cL_law 1441 = .ok (.iload 7, 2) := by decide +kernel
theorem dL_law_1443 : decode cL_law 1443 = .ok (.ifCond .eq 7, 3) := by decide +kernel
theorem dL_law_1446 : decode cL_law 1446 = .ok (.lconst 1, 1) := by decide +kernel
theorem dL_law_1447 : decode cL_law 1447 = .ok (.goto 4, 3) := by decide +kernel
theorem dL_law_1450 : decode cL_law 1450 = .ok (.lconst 0, 1) := by decide +kernel
theorem dL_law_1451 : decode cL_law 1451 = .ok (.lcmp, 1) := by decide +kernel
theorem dL_law_1452 : decode cL_law 1452 = .ok (.ifCond .eq 5, 3) := by decide +kernel
theorem dL_law_1455 : decode cL_law 1455 = .ok (.iconst 0, 1) := by decide +kernel
theorem dL_law_1456 : decode cL_law 1456 = .ok (.ireturn, 1) := by decide +kernel
theorem dL_law_1457 : decode cL_law 1457 = .ok (.goto 2160, 3) := by decide +kernel
theorem dL_law_1460 : decode cL_law 1460 = .ok (.aload_n 1, 1) := by decide +kernel
theorem dL_law_1461 : decode cL_law 1461 = .ok (.aload_n 0, 1) := by decide +kernel
theorem dL_law_1462 : decode cL_law 1462 = .ok (.iload 5, 2) := by decide +kernel
theorem dL_law_1464 : decode cL_law 1464 = .ok (.iconst 1, 1) := by decide +kernel
theorem dL_law_1465 : decode cL_law 1465 = .ok (.iadd, 1) := by decide +kernel
theorem dL_law_1466 : decode cL_law 1466 = .ok (.iaload, 1) := by decide +kernel
theorem dL_law_1467 : decode cL_law 1467 = .ok (.aload_n 3, 1) := by decide +kernel
theorem dL_law_1468 : decode cL_law 1468 = .ok (.invokestatic 261, 3) := by decide +kernel
theorem dL_law_1471 : decode cL_law 1471 = .ok (.istore 6, 2) := by decide +kernel
theorem dL_law_1473 : decode cL_law 1473 = .ok (.aload_n 2, 1) := by decide +kernel
theorem dL_law_1474 : decode cL_law 1474 = .ok (.aload_n 0, 1) := by decide +kernel
theorem dL_law_1475 : decode cL_law 1475 = .ok (.iload 5, 2) := by decide +kernel
theorem dL_law_1477 : decode cL_law 1477 = .ok (.iconst 1, 1) := by decide +kernel
theorem dL_law_1478 : decode cL_law 1478 = .ok (.iadd, 1) := by decide +kernel
theorem dL_law_1479 : decode cL_law 1479 = .ok (.iaload, 1) := by decide +kernel
theorem dL_law_1480 : decode cL_law 1480 = .ok (.invokevirtual 263, 3) := by decide +kernel
theorem dL_law_1483 : decode cL_law 1483 = .ok (.istore 7, 2) := by decide +kernel
theorem dL_law_1485 : decode cL_law 1485 = .ok (.aload_n 2, 1) := by decide +kernel
theorem dL_law_1486 : decode cL_law 1486 = .ok (.invokevirtual 204, 3) := by decide +kernel
theorem dL_law_1489 : decode cL_law 1489 = .ok (.iload 6, 2) := by decide +kernel
theorem dL_law_1491 : decode cL_law 1491 = .ok (.if_icmp .eq 5, 3) := by decide +kernel
theorem dL_law_1494 : decode cL_law 1494 = .ok (.iconst 0, 1) := by decide +kernel
theorem dL_law_1495 : decode cL_law 1495 = .ok (.ireturn, 1) := by decide +kernel
theorem dL_law_1496 : decode cL_law 1496 = .ok (.iload 6, 2) := by decide +kernel
theorem dL_law_1498 : decode cL_law 1498 = .ok (.ifCond .ne 15, 3) := by decide +kernel
theorem dL_law_1501 : decode cL_law 1501 = .ok (.aload_n 3, 1) := by decide +kernel
theorem dL_law_1502 : decode cL_law 1502 = .ok (.iconst 0, 1) := by decide +kernel
theorem dL_law_1503 : decode cL_law 1503 = .ok (.laload, 1) := by decide +kernel
theorem dL_law_1504 : decode cL_law 1504 = .ok (.iload 7, 2) := by decide +kernel
theorem dL_law_1506 : decode cL_law 1506 = .ok (.i2l, 1) := by decide +kernel
theorem dL_law_1507 : decode cL_law 1507 = .ok (.lcmp, 1) := by decide +kernel
theorem dL_law_1508 : decode cL_law 1508 = .ok (.ifCond .eq 5, 3) := by decide +kernel
theorem dL_law_1511 : decode cL_law 1511 = .ok (.iconst 0, 1) := by decide +kernel
theorem dL_law_1512 : decode cL_law 1512 = .ok (.ireturn, 1) := by decide +kernel
theorem dL_law_1513 : decode cL_law 1513 = .ok (.goto 2104, 3) := by decide +kernel
theorem dL_law_1516 : decode cL_law 1516 = .ok (.aload_n 1, 1) := by decide +kernel
theorem dL_law_1517 : decode cL_law 1517 = .ok (.aload_n 0, 1) := by decide +kernel
theorem dL_law_1518 : decode cL_law 1518 = .ok (.iload 5, 2) := by decide +kernel
theorem dL_law_1520 : decode cL_law 1520 = .ok (.iconst 1, 1) := by decide +kernel
theorem dL_law_1521 : decode cL_law 1521 = .ok (.iadd, 1) := by decide +kernel
theorem dL_law_1522 : decode cL_law 1522 = .ok (.iaload, 1) := by decide +kernel
theorem dL_law_1523 : decode cL_law 1523 = .ok (.aload_n 3, 1) := by decide +kernel
theorem dL_law_1524 : decode cL_law 1524 = .ok (.invokestatic 264, 3) := by decide +kernel
theorem dL_law_1527 : decode cL_law 1527 = .ok (.istore 6, 2) := by decide +kernel
theorem dL_law_1529 : decode cL_law 1529 = .ok (.aload_n 2, 1) := by decide +kernel
theorem dL_law_1530 : decode cL_law 1530 = .ok (.aload_n 0, 1) := by decide +kernel
theorem dL_law_1531 : decode cL_law 1531 = .ok (.iload 5, 2) := by decide +kernel
theorem dL_law_1533 : decode cL_law 1533 = .ok (.iconst 1, 1) := by decide +kernel
theorem dL_law_1534 : decode cL_law 1534 = .ok (.iadd, 1) := by decide +kernel
theorem dL_law_1535 : decode cL_law 1535 = .ok (.iaload, 1) := by decide +kernel
theorem dL_law_1536 : decode cL_law 1536 = .ok (.invokevirtual 266, 3) := by decide +kernel
theorem dL_law_1539 : decode cL_law 1539 = .ok (.istore 7, 2) := by decide +kernel
theorem dL_law_1541 : decode cL_law 1541 = .ok (.aload_n 2, 1) := by decide +kernel
theorem dL_law_1542 : decode cL_law 1542 = .ok (.invokevirtual 204, 3) := by decide +kernel
theorem dL_law_1545 : decode cL_law 1545 = .ok (.iload 6, 2) := by decide +kernel
theorem dL_law_1547 : decode cL_law 1547 = .ok (.if_icmp .eq 5, 3) := by decide +kernel
theorem dL_law_1550 : decode cL_law 1550 = .ok (.iconst 0, 1) := by decide +kernel
theorem dL_law_1551 : decode cL_law 1551 = .ok (.ireturn, 1) := by decide +kernel
theorem dL_law_1552 : decode cL_law 1552 = .ok (.iload 6, 2) := by decide +kernel
theorem dL_law_1554 : decode cL_law 1554 = .ok (.ifCond .ne 15, 3) := by decide +kernel
theorem dL_law_1557 : decode cL_law 1557 = .ok (.aload_n 3, 1) := by decide +kernel
theorem dL_law_1558 : decode cL_law 1558 = .ok (.iconst 0, 1) := by decide +kernel
theorem dL_law_1559 : decode cL_law 1559 = .ok (.laload, 1) := by decide +kernel
theorem dL_law_1560 : decode cL_law 1560 = .ok (.iload 7, 2) := by decide +kernel
theorem dL_law_1562 : decode cL_law 1562 = .ok (.i2l, 1) := by decide +kernel
theorem dL_law_1563 : decode cL_law 1563 = .ok (.lcmp, 1) := by decide +kernel
theorem dL_law_1564 : decode cL_law 1564 = .ok (.ifCond .eq 5, 3) := by decide +kernel
theorem dL_law_1567 : decode cL_law 1567 = .ok (.iconst 0, 1) := by decide +kernel
theorem dL_law_1568 : decode cL_law 1568 = .ok (.ireturn, 1) := by decide +kernel
theorem dL_law_1569 : decode cL_law 1569 = .ok (.goto 2048, 3) := by decide +kernel
theorem dL_law_1572 : decode cL_law 1572 = .ok (.aload_n 1, 1) := by decide +kernel
theorem dL_law_1573 : decode cL_law 1573 = .ok (.aload_n 0, 1) := by decide +kernel
theorem dL_law_1574 : decode cL_law 1574 = .ok (.iload 5, 2) := by decide +kernel
theorem dL_law_1576 : decode cL_law 1576 = .ok (.iconst 1, 1) := by decide +kernel
theorem dL_law_1577 : decode cL_law 1577 = .ok (.iadd, 1) := by decide +kernel
theorem dL_law_1578 : decode cL_law 1578 = .ok (.iaload, 1) := by decide +kernel
theorem dL_law_1579 : decode cL_law 1579 = .ok (.aload_n 3, 1) := by decide +kernel
theorem dL_law_1580 : decode cL_law 1580 = .ok (.invokestatic 267, 3) := by decide +kernel
theorem dL_law_1583 : decode cL_law 1583 = .ok (.istore 6, 2) := by decide +kernel
theorem dL_law_1585 : decode cL_law 1585 = .ok (.aload_n 2, 1) := by decide +kernel
theorem dL_law_1586 : decode cL_law 1586 = .ok (.aload_n 0, 1) := by decide +kernel
theorem dL_law_1587 : decode cL_law 1587 = .ok (.iload 5, 2) := by decide +kernel
theorem dL_law_1589 : decode cL_law 1589 = .ok (.iconst 1, 1) := by decide +kernel
theorem dL_law_1590 : decode cL_law 1590 = .ok (.iadd, 1) := by decide +kernel
theorem dL_law_1591 : decode cL_law 1591 = .ok (.iaload, 1) := by decide +kernel
theorem dL_law_1592 : decode cL_law 1592 = .ok (.invokevirtual 269, 3) := by decide +kernel
theorem dL_law_1595 : decode cL_law 1595 = .ok (.istore 7, 2) := by decide +kernel
theorem dL_law_1597 : decode cL_law 1597 = .ok (.aload_n 2, 1) := by decide +kernel
theorem dL_law_1598 : decode cL_law 1598 = .ok (.invokevirtual 204, 3) := by decide +kernel
theorem dL_law_1601 : decode cL_law 1601 = .ok (.iload 6, 2) := by decide +kernel
theorem dL_law_1603 : decode cL_law 1603 = .ok (.if_icmp .eq 5, 3) := by decide +kernel
theorem dL_law_1606 : decode cL_law 1606 = .ok (.iconst 0, 1) := by decide +kernel
theorem dL_law_1607 : decode cL_law 1607 = .ok (.ireturn, 1) := by decide +kernel
theorem dL_law_1608 : decode cL_law 1608 = .ok (.iload 6, 2) := by decide +kernel
theorem dL_law_1610 : decode cL_law 1610 = .ok (.ifCond .ne 15, 3) := by decide +kernel
theorem dL_law_1613 : decode cL_law 1613 = .ok (.aload_n 3, 1) := by decide +kernel
theorem dL_law_1614 : decode cL_law 1614 = .ok (.iconst 0, 1) := by decide +kernel
theorem dL_law_1615 : decode cL_law 1615 = .ok (.laload, 1) := by decide +kernel
theorem dL_law_1616 : decode cL_law 1616 = .ok (.iload 7, 2) := by decide +kernel
theorem dL_law_1618 : decode cL_law 1618 = .ok (.i2l, 1) := by decide +kernel
theorem dL_law_1619 : decode cL_law 1619 = .ok (.lcmp, 1) := by decide +kernel
theorem dL_law_1620 : decode cL_law 1620 = .ok (.ifCond .eq 5, 3) := by decide +kernel
theorem dL_law_1623 : decode cL_law 1623 = .ok (.iconst 0, 1) := by decide +kernel
theorem dL_law_1624 : decode cL_law 1624 = .ok (.ireturn, 1) := by decide +kernel
theorem dL_law_1625 : decode cL_law 1625 = .ok (.goto 1992, 3) := by decide +kernel
theorem dL_law_1628 : decode cL_law 1628 = .ok (.aload_n 1, 1) := by decide +kernel
theorem dL_law_1629 : decode cL_law 1629 = .ok (.aload_n 0, 1) := by decide +kernel
theorem dL_law_1630 : decode cL_law 1630 = .ok (.iload 5, 2) := by decide +kernel
theorem dL_law_1632 : decode cL_law 1632 = .ok (.iconst 1, 1) := by decide +kernel
theorem dL_law_1633 : decode cL_law 1633 = .ok (.iadd, 1) := by decide +kernel
theorem dL_law_1634 : decode cL_law 1634 = .ok (.iaload, 1) := by decide +kernel
theorem dL_law_1635 : decode cL_law 1635 = .ok (.aload_n 3, 1) := by decide +kernel
theorem dL_law_1636 : decode cL_law 1636 = .ok (.invokestatic 270, 3) := by decide +kernel
theorem dL_law_1639 : decode cL_law 1639 = .ok (.istore 6, 2) := by decide +kernel
theorem dL_law_1641 : decode cL_law 1641 = .ok (.aload_n 2, 1) := by decide +kernel
theorem dL_law_1642 : decode cL_law 1642 = .ok (.aload_n 0, 1) := by decide +kernel
theorem dL_law_1643 : decode cL_law 1643 = .ok (.iload 5, 2) := by decide +kernel
theorem dL_law_1645 : decode cL_law 1645 = .ok (.iconst 1, 1) := by decide +kernel
theorem dL_law_1646 : decode cL_law 1646 = .ok (.iadd, 1) := by decide +kernel
theorem dL_law_1647 : decode cL_law 1647 = .ok (.iaload, 1) := by decide +kernel
theorem dL_law_1648 : decode cL_law 1648 = .ok (.invokevirtual 272, 3) := by decide +kernel
theorem dL_law_1651 : decode cL_law 1651 = .ok (.istore 7, 2) := by decide +kernel
theorem dL_law_1653 : decode cL_law 1653 = .ok (.aload_n 2, 1) := by decide +kernel
theorem dL_law_1654 : decode cL_law 1654 = .ok (.invokevirtual 204, 3) := by decide +kernel
theorem dL_law_1657 : decode cL_law 1657 = .ok (.iload 6, 2) := by decide +kernel
theorem dL_law_1659 : decode cL_law 1659 = .ok (.if_icmp .eq 5, 3) := by decide +kernel
theorem dL_law_1662 : decode cL_law 1662 = .ok (.iconst 0, 1) := by decide +kernel
theorem dL_law_1663 : decode cL_law 1663 = .ok (.ireturn, 1) := by decide +kernel
theorem dL_law_1664 : decode cL_law 1664 = .ok (.iload 6, 2) := by decide +kernel
theorem dL_law_1666 : decode cL_law 1666 = .ok (.ifCond .ne 22, 3) := by decide +kernel
theorem dL_law_1669 : decode cL_law 1669 = .ok (.aload_n 3, 1) := by decide +kernel
theorem dL_law_1670 : decode cL_law 1670 = .ok (.iconst 0, 1) := by decide +kernel
theorem dL_law_1671 : decode cL_law 1671 = .ok (.laload, 1) := by decide +kernel
theorem dL_law_1672 : decode cL_law 1672 = .ok (.iload 7, 2) := by decide +kernel
theorem dL_law_1674 : decode cL_law 1674 = .ok (.ifCond .eq 7, 3) := by decide +kernel
theorem dL_law_1677 : decode cL_law 1677 = .ok (.lconst 1, 1) := by decide +kernel
theorem dL_law_1678 : decode cL_law 1678 = .ok (.goto 4, 3) := by decide +kernel
theorem dL_law_1681 : decode cL_law 1681 = .ok (.lconst 0, 1) := by decide +kernel
theorem dL_law_1682 : decode cL_law 1682 = .ok (.lcmp, 1) := by decide +kernel
theorem dL_law_1683 : decode cL_law 1683 = .ok (.ifCond .eq 5, 3) := by decide +kernel
theorem dL_law_1686 : decode cL_law 1686 = .ok (.iconst 0, 1) := by decide +kernel
theorem dL_law_1687 : decode cL_law 1687 = .ok (.ireturn, 1) := by decide +kernel
theorem dL_law_1688 : decode cL_law 1688 = .ok (.goto 1929, 3) := by decide +kernel
theorem dL_law_1691 : decode cL_law 1691 = .ok (.aload_n 1, 1) := by decide +kernel
theorem dL_law_1692 : decode cL_law 1692 = .ok (.aload_n 0, 1) := by decide +kernel
theorem dL_law_1693 : decode cL_law 1693 = .ok (.iload 5, 2) := by decide +kernel
theorem dL_law_1695 : decode cL_law 1695 = .ok (.iconst 1, 1) := by decide +kernel
theorem dL_law_1696 : decode cL_law 1696 = .ok (.iadd, 1) := by decide +kernel
theorem dL_law_1697 : decode cL_law 1697 = .ok (.iaload, 1) := by decide +kernel
theorem dL_law_1698 : decode cL_law 1698 = .ok (.aload_n 3, 1) := by decide +kernel
theorem dL_law_1699 : decode cL_law 1699 = .ok (.invokestatic 273, 3) := by decide +kernel
theorem dL_law_1702 : decode cL_law 1702 = .ok (.istore 6, 2) := by decide +kernel
theorem dL_law_1704 : decode cL_law 1704 = .ok (.aload_n 2, 1) := by decide +kernel
theorem dL_law_1705 : decode cL_law 1705 = .ok (.aload_n 0, 1) := by decide +kernel
theorem dL_law_1706 : decode cL_law 1706 = .ok (.iload 5, 2) := by decide +kernel
theorem dL_law_1708 : decode cL_law 1708 = .ok (.iconst 1, 1) := by decide +kernel
theorem dL_law_1709 : decode cL_law 1709 = .ok (.iadd, 1) := by decide +kernel
theorem dL_law_1710 : decode cL_law 1710 = .ok (.iaload, 1) := by decide +kernel
theorem dL_law_1711 : decode cL_law 1711 = .ok (.invokevirtual 275, 3) := by decide +kernel
theorem dL_law_1714 : decode cL_law 1714 = .ok (.istore 7, 2) := by decide +kernel
theorem dL_law_1716 : decode cL_law 1716 = .ok (.aload_n 2, 1) := by decide +kernel
theorem dL_law_1717 : decode cL_law 1717 = .ok (.invokevirtual 204, 3) := by decide +kernel
theorem dL_law_1720 : decode cL_law 1720 = .ok (.iload 6, 2) := by decide +kernel
theorem dL_law_1722 : decode cL_law 1722 = .ok (.if_icmp .eq 5, 3) := by decide +kernel
theorem dL_law_1725 : decode cL_law 1725 = .ok (.iconst 0, 1) := by decide +kernel
theorem dL_law_1726 : decode cL_law 1726 = .ok (.ireturn, 1) := by decide +kernel
theorem dL_law_1727 : decode cL_law 1727 = .ok (.iload 6, 2) := by decide +kernel
theorem dL_law_1729 : decode cL_law 1729 = .ok (.ifCond .ne 22, 3) := by decide +kernel
theorem dL_law_1732 : decode cL_law 1732 = .ok (.aload_n 3, 1) := by decide +kernel
theorem dL_law_1733 : decode cL_law 1733 = .ok (.iconst 0, 1) := by decide +kernel
theorem dL_law_1734 : decode cL_law 1734 = .ok (.laload, 1) := by decide +kernel
theorem dL_law_1735 : decode cL_law 1735 = .ok (.iload 7, 2) := by decide +kernel
theorem dL_law_1737 : decode cL_law 1737 = .ok (.ifCond .eq 7, 3) := by decide +kernel
theorem dL_law_1740 : decode cL_law 1740 = .ok (.lconst 1, 1) := by decide +kernel
theorem dL_law_1741 : decode cL_law 1741 = .ok (.goto 4, 3) := by decide +kernel
theorem dL_law_1744 : decode cL_law 1744 = .ok (.lconst 0, 1) := by decide +kernel
theorem dL_law_1745 : decode cL_law 1745 = .ok (.lcmp, 1) := by decide +kernel
theorem dL_law_1746 : decode cL_law 1746 = .ok (.ifCond .eq 5, 3) := by decide +kernel
theorem dL_law_1749 : decode cL_law 1749 = .ok (.iconst 0, 1) := by decide +kernel
theorem dL_law_1750 : decode cL_law 1750 = .ok (.ireturn, 1) := by decide +kernel
theorem dL_law_1751 : decode cL_law 1751 = .ok (.goto 1866, 3) := by decide +kernel
theorem dL_law_1754 : decode cL_law 1754 = .ok (.aload_n 1, 1) := by decide +kernel
theorem dL_law_1755 : decode cL_law 1755 = .ok (.aload_n 0, 1) := by decide +kernel
theorem dL_law_1756 : decode cL_law 1756 = .ok (.iload 5, 2) := by decide +kernel
theorem dL_law_1758 : decode cL_law 1758 = .ok (.iconst 1, 1) := by decide +kernel
theorem dL_law_1759 : decode cL_law 1759 = .ok (.iadd, 1) := by decide +kernel
theorem dL_law_1760 : decode cL_law 1760 = .ok (.iaload, 1) := by decide +kernel
theorem dL_law_1761 : decode cL_law 1761 = .ok (.aload_n 3, 1) := by decide +kernel
theorem dL_law_1762 : decode cL_law 1762 = .ok (.invokestatic 276, 3) := by decide +kernel
theorem dL_law_1765 : decode cL_law 1765 = .ok (.istore 6, 2) := by decide +kernel
theorem dL_law_1767 : decode cL_law 1767 = .ok (.aload_n 2, 1) := by decide +kernel
theorem dL_law_1768 : decode cL_law 1768 = .ok (.aload_n 0, 1) := by decide +kernel
theorem dL_law_1769 : decode cL_law 1769 = .ok (.iload 5, 2) := by decide +kernel
theorem dL_law_1771 : decode cL_law 1771 = .ok (.iconst 1, 1) := by decide +kernel
theorem dL_law_1772 : decode cL_law 1772 = .ok (.iadd, 1) := by decide +kernel
theorem dL_law_1773 : decode cL_law 1773 = .ok (.iaload, 1) := by decide +kernel
theorem dL_law_1774 : decode cL_law 1774 = .ok (.invokevirtual 278, 3) := by decide +kernel
theorem dL_law_1777 : decode cL_law 1777 = .ok (.istore 7, 2) := by decide +kernel
theorem dL_law_1779 : decode cL_law 1779 = .ok (.aload_n 2, 1) := by decide +kernel
theorem dL_law_1780 : decode cL_law 1780 = .ok (.invokevirtual 204, 3) := by decide +kernel
theorem dL_law_1783 : decode cL_law 1783 = .ok (.iload 6, 2) := by decide +kernel
theorem dL_law_1785 : decode cL_law 1785 = .ok (.if_icmp .eq 5, 3) := by decide +kernel
theorem dL_law_1788 : decode cL_law 1788 = .ok (.iconst 0, 1) := by decide +kernel
theorem dL_law_1789 : decode cL_law 1789 = .ok (.ireturn, 1) := by decide +kernel
theorem dL_law_1790 : decode cL_law 1790 = .ok (.iload 6, 2) := by decide +kernel
theorem dL_law_1792 : decode cL_law 1792 = .ok (.ifCond .ne 22, 3) := by decide +kernel
theorem dL_law_1795 : decode cL_law 1795 = .ok (.aload_n 3, 1) := by decide +kernel
theorem dL_law_1796 : decode cL_law 1796 = .ok (.iconst 0, 1) := by decide +kernel
theorem dL_law_1797 : decode cL_law 1797 = .ok (.laload, 1) := by decide +kernel
theorem dL_law_1798 : decode cL_law 1798 = .ok (.iload 7, 2) := by decide +kernel
theorem dL_law_1800 : decode cL_law 1800 = .ok (.ifCond .eq 7, 3) := by decide +kernel
theorem dL_law_1803 : decode cL_law 1803 = .ok (.lconst 1, 1) := by decide +kernel
theorem dL_law_1804 : decode cL_law 1804 = .ok (.goto 4, 3) := by decide +kernel
theorem dL_law_1807 : decode cL_law 1807 = .ok (.lconst 0, 1) := by decide +kernel
theorem dL_law_1808 : decode cL_law 1808 = .ok (.lcmp, 1) := by decide +kernel
theorem dL_law_1809 : decode cL_law 1809 = .ok (.ifCond .eq 5, 3) := by decide +kernel
theorem dL_law_1812 : decode cL_law 1812 = .ok (.iconst 0, 1) := by decide +kernel
theorem dL_law_1813 : decode cL_law 1813 = .ok (.ireturn, 1) := by decide +kernel
theorem dL_law_1814 : decode cL_law 1814 = .ok (.goto 1803, 3) := by decide +kernel
theorem dL_law_1817 : decode cL_law 1817 = .ok (.aload_n 1, 1) := by decide +kernel
theorem dL_law_1818 : decode cL_law 1818 = .ok (.aload_n 0, 1) := by decide +kernel
theorem dL_law_1819 : decode cL_law 1819 = .ok (.iload 5, 2) := by decide +kernel
theorem dL_law_1821 : decode cL_law 1821 = .ok (.iconst 1, 1) := by decide +kernel
theorem dL_law_1822 : decode cL_law 1822 = .ok (.iadd, 1) := by decide +kernel
theorem dL_law_1823 : decode cL_law 1823 = .ok (.iaload, 1) := by decide +kernel
theorem dL_law_1824 : decode cL_law 1824 = .ok (.aload_n 3, 1) := by decide +kernel
theorem dL_law_1825 : decode cL_law 1825 = .ok (.invokestatic 279, 3) := by decide +kernel
theorem dL_law_1828 : decode cL_law 1828 = .ok (.istore 6, 2) := by decide +kernel
theorem dL_law_1830 : decode cL_law 1830 = .ok (.aload_n 2, 1) := by decide +kernel
theorem dL_law_1831 : decode cL_law 1831 = .ok (.aload_n 0, 1) := by decide +kernel
theorem dL_law_1832 : decode cL_law 1832 = .ok (.iload 5, 2) := by decide +kernel
theorem dL_law_1834 : decode cL_law 1834 = .ok (.iconst 1, 1) := by decide +kernel
theorem dL_law_1835 : decode cL_law 1835 = .ok (.iadd, 1) := by decide +kernel
theorem dL_law_1836 : decode cL_law 1836 = .ok (.iaload, 1) := by decide +kernel
theorem dL_law_1837 : decode cL_law 1837 = .ok (.invokevirtual 281, 3) := by decide +kernel
theorem dL_law_1840 : decode cL_law 1840 = .ok (.istore 7, 2) := by decide +kernel
theorem dL_law_1842 : decode cL_law 1842 = .ok (.aload_n 2, 1) := by decide +kernel
theorem dL_law_1843 : decode cL_law 1843 = .ok (.invokevirtual 204, 3) := by decide +kernel
theorem dL_law_1846 : decode cL_law 1846 = .ok (.iload 6, 2) := by decide +kernel
theorem dL_law_1848 : decode cL_law 1848 = .ok (.if_icmp .eq 5, 3) := by decide +kernel
theorem dL_law_1851 : decode cL_law 1851 = .ok (.iconst 0, 1) := by decide +kernel
theorem dL_law_1852 : decode cL_law 1852 = .ok (.ireturn, 1) := by decide +kernel
theorem dL_law_1853 : decode cL_law 1853 = .ok (.iload 6, 2) := by decide +kernel
theorem dL_law_1855 : decode cL_law 1855 = .ok (.ifCond .ne 15, 3) := by decide +kernel
theorem dL_law_1858 : decode cL_law 1858 = .ok (.aload_n 3, 1) := by decide +kernel
theorem dL_law_1859 : decode cL_law 1859 = .ok (.iconst 0, 1) := by decide +kernel
theorem dL_law_1860 : decode cL_law 1860 = .ok (.laload, 1) := by decide +kernel
theorem dL_law_1861 : decode cL_law 1861 = .ok (.iload 7, 2) := by decide +kernel
theorem dL_law_1863 : decode cL_law 1863 = .ok (.i2l, 1) := by decide +kernel
theorem dL_law_1864 : decode cL_law 1864 = .ok (.lcmp, 1) := by decide +kernel
theorem dL_law_1865 : decode cL_law 1865 = .ok (.ifCond .eq 5, 3) := by decide +kernel
theorem dL_law_1868 : decode cL_law 1868 = .ok (.iconst 0, 1) := by decide +kernel
theorem dL_law_1869 : decode cL_law 1869 = .ok (.ireturn, 1) := by decide +kernel
theorem dL_law_1870 : decode cL_law 1870 = .ok (.goto 1747, 3) := by decide +kernel
theorem dL_law_1873 : decode cL_law 1873 = .ok (.aload_n 1, 1) := by decide +kernel
theorem dL_law_1874 : decode cL_law 1874 = .ok (.aload_n 0, 1) := by decide +kernel
theorem dL_law_1875 : decode cL_law 1875 = .ok (.iload 5, 2) := by decide +kernel
theorem dL_law_1877 : decode cL_law 1877 = .ok (.iconst 1, 1) := by decide +kernel
theorem dL_law_1878 : decode cL_law 1878 = .ok (.iadd, 1) := by decide +kernel
theorem dL_law_1879 : decode cL_law 1879 = .ok (.iaload, 1) := by decide +kernel
theorem dL_law_1880 : decode cL_law 1880 = .ok (.aload_n 3, 1) := by decide +kernel
theorem dL_law_1881 : decode cL_law 1881 = .ok (.invokestatic 282, 3) := by decide +kernel
theorem dL_law_1884 : decode cL_law 1884 = .ok (.istore 6, 2) := by decide +kernel
theorem dL_law_1886 : decode cL_law 1886 = .ok (.aload_n 2, 1) := by decide +kernel
theorem dL_law_1887 : decode cL_law 1887 = .ok (.aload_n 0, 1) := by decide +kernel
theorem dL_law_1888 : decode cL_law 1888 = .ok (.iload 5, 2) := by decide +kernel
theorem dL_law_1890 : decode cL_law 1890 = .ok (.iconst 1, 1) := by decide +kernel
theorem dL_law_1891 : decode cL_law 1891 = .ok (.iadd, 1) := by decide +kernel
theorem dL_law_1892 : decode cL_law 1892 = .ok (.iaload, 1) := by decide +kernel
theorem dL_law_1893 : decode cL_law 1893 = .ok (.invokevirtual 284, 3) := by decide +kernel
theorem dL_law_1896 : decode cL_law 1896 = .ok (.istore 7, 2) := by decide +kernel
theorem dL_law_1898 : decode cL_law 1898 = .ok (.aload_n 2, 1) := by decide +kernel
theorem dL_law_1899 : decode cL_law 1899 = .ok (.invokevirtual 204, 3) := by decide +kernel
theorem dL_law_1902 : decode cL_law 1902 = .ok (.iload 6, 2) := by decide +kernel
theorem dL_law_1904 : decode cL_law 1904 = .ok (.if_icmp .eq 5, 3) := by decide +kernel
theorem dL_law_1907 : decode cL_law 1907 = .ok (.iconst 0, 1) := by decide +kernel
theorem dL_law_1908 : decode cL_law 1908 = .ok (.ireturn, 1) := by decide +kernel
theorem dL_law_1909 : decode cL_law 1909 = .ok (.iload 6, 2) := by decide +kernel
theorem dL_law_1911 : decode cL_law 1911 = .ok (.ifCond .ne 15, 3) := by decide +kernel
theorem dL_law_1914 : decode cL_law 1914 = .ok (.aload_n 3, 1) := by decide +kernel
theorem dL_law_1915 : decode cL_law 1915 = .ok (.iconst 0, 1) := by decide +kernel
theorem dL_law_1916 : decode cL_law 1916 = .ok (.laload, 1) := by decide +kernel
theorem dL_law_1917 : decode cL_law 1917 = .ok (.iload 7, 2) := by decide +kernel
theorem dL_law_1919 : decode cL_law 1919 = .ok (.i2l, 1) := by decide +kernel
theorem dL_law_1920 : decode cL_law 1920 = .ok (.lcmp, 1) := by decide +kernel
theorem dL_law_1921 : decode cL_law 1921 = .ok (.ifCond .eq 5, 3) := by decide +kernel
theorem dL_law_1924 : decode cL_law 1924 = .ok (.iconst 0, 1) := by decide +kernel
theorem dL_law_1925 : decode cL_law 1925 = .ok (.ireturn, 1) := by decide +kernel
theorem dL_law_1926 : decode cL_law 1926 = .ok (.goto 1691, 3) := by decide +kernel
theorem dL_law_1929 : decode cL_law 1929 = .ok (.aload_n 1, 1) := by decide +kernel
theorem dL_law_1930 : decode cL_law 1930 = .ok (.aload_n 0, 1) := by decide +kernel
theorem dL_law_1931 : decode cL_law 1931 = .ok (.iload 5, 2) := by decide +kernel
theorem dL_law_1933 : decode cL_law 1933 = .ok (.iconst 1, 1) := by decide +kernel
theorem dL_law_1934 : decode cL_law 1934 = .ok (.iadd, 1) := by decide +kernel
theorem dL_law_1935 : decode cL_law 1935 = .ok (.iaload, 1) := by decide +kernel
theorem dL_law_1936 : decode cL_law 1936 = .ok (.aload_n 0, 1) := by decide +kernel
theorem dL_law_1937 : decode cL_law 1937 = .ok (.iload 5, 2) := by decide +kernel
theorem dL_law_1939 : decode cL_law 1939 = .ok (.iconst 2, 1) := by decide +kernel
theorem dL_law_1940 : decode cL_law 1940 = .ok (.iadd, 1) := by decide +kernel
theorem dL_law_1941 : decode cL_law 1941 = .ok (.iaload, 1) := by decide +kernel
theorem dL_law_1942 : decode cL_law 1942 = .ok (.aload_n 3, 1) := by decide +kernel
theorem dL_law_1943 : decode cL_law 1943 = .ok (.invokestatic 285, 3) := by decide +kernel
theorem dL_law_1946 : decode cL_law 1946 = .ok (.istore 6, 2) := by decide +kernel
theorem dL_law_1948 : decode cL_law 1948 = .ok (.aload_n 2, 1) := by decide +kernel
theorem dL_law_1949 : decode cL_law 1949 = .ok (.aload_n 0, 1) := by decide +kernel
theorem dL_law_1950 : decode cL_law 1950 = .ok (.iload 5, 2) := by decide +kernel
theorem dL_law_1952 : decode cL_law 1952 = .ok (.iconst 1, 1) := by decide +kernel
theorem dL_law_1953 : decode cL_law 1953 = .ok (.iadd, 1) := by decide +kernel
theorem dL_law_1954 : decode cL_law 1954 = .ok (.iaload, 1) := by decide +kernel
theorem dL_law_1955 : decode cL_law 1955 = .ok (.aload_n 0, 1) := by decide +kernel
theorem dL_law_1956 : decode cL_law 1956 = .ok (.iload 5, 2) := by decide +kernel
theorem dL_law_1958 : decode cL_law 1958 = .ok (.iconst 2, 1) := by decide +kernel
theorem dL_law_1959 : decode cL_law 1959 = .ok (.iadd, 1) := by decide +kernel
theorem dL_law_1960 : decode cL_law 1960 = .ok (.iaload, 1) := by decide +kernel
theorem dL_law_1961 : decode cL_law 1961 = .ok (.invokevirtual 288, 3) := by decide +kernel
theorem dL_law_1964 : decode cL_law 1964 = .ok (.istore 7, 2) := by decide +kernel
theorem dL_law_1966 : decode cL_law 1966 = .ok (.aload_n 2, 1) := by decide +kernel
theorem dL_law_1967 : decode cL_law 1967 = .ok (.invokevirtual 204, 3) := by decide +kernel
theorem dL_law_1970 : decode cL_law 1970 = .ok (.iload 6, 2) := by decide +kernel
theorem dL_law_1972 : decode cL_law 1972 = .ok (.if_icmp .eq 5, 3) := by decide +kernel
theorem dL_law_1975 : decode cL_law 1975 = .ok (.iconst 0, 1) := by decide +kernel
theorem dL_law_1976 : decode cL_law 1976 = .ok (.ireturn, 1) := by decide +kernel
theorem dL_law_1977 : decode cL_law 1977 = .ok (.iload 6, 2) := by decide +kernel
theorem dL_law_1979 : decode cL_law 1979 = .ok (.ifCond .ne 15, 3) := by decide +kernel
theorem dL_law_1982 : decode cL_law 1982 = .ok (.aload_n 3, 1) := by decide +kernel
theorem dL_law_1983 : decode cL_law 1983 = .ok (.iconst 0, 1) := by decide +kernel
theorem dL_law_1984 : decode cL_law 1984 = .ok (.laload, 1) := by decide +kernel
theorem dL_law_1985 : decode cL_law 1985 = .ok (.iload 7, 2) := by decide +kernel
theorem dL_law_1987 : decode cL_law 1987 = .ok (.i2l, 1) := by decide +kernel
theorem dL_law_1988 : decode cL_law 1988 = .ok (.lcmp, 1) := by decide +kernel
theorem dL_law_1989 : decode cL_law 1989 = .ok (.ifCond .eq 5, 3) := by decide +kernel
theorem dL_law_1992 : decode cL_law 1992 = .ok (.iconst 0, 1) := by decide +kernel
theorem dL_law_1993 : decode cL_law 1993 = .ok (.ireturn, 1) := by decide +kernel
theorem dL_law_1994 : decode cL_law 1994 = .ok (.goto 1623, 3) := by decide +kernel
theorem dL_law_1997 : decode cL_law 1997 = .ok (.aload_n 1, 1) := by decide +kernel
theorem dL_law_1998 : decode cL_law 1998 = .ok (.aload_n 0, 1) := by decide +kernel
theorem dL_law_1999 : decode cL_law 1999 = .ok (.iload 5, 2) := by decide +kernel
theorem dL_law_2001 : decode cL_law 2001 = .ok (.iconst 1, 1) := by decide +kernel
theorem dL_law_2002 : decode cL_law 2002 = .ok (.iadd, 1) := by decide +kernel
theorem dL_law_2003 : decode cL_law 2003 = .ok (.iaload, 1) := by decide +kernel
theorem dL_law_2004 : decode cL_law 2004 = .ok (.aload_n 3, 1) := by decide +kernel
theorem dL_law_2005 : decode cL_law 2005 = .ok (.invokestatic 289, 3) := by decide +kernel
theorem dL_law_2008 : decode cL_law 2008 = .ok (.istore 6, 2) := by decide +kernel
theorem dL_law_2010 : decode cL_law 2010 = .ok (.aload_n 2, 1) := by decide +kernel
theorem dL_law_2011 : decode cL_law 2011 = .ok (.aload_n 0, 1) := by decide +kernel
theorem dL_law_2012 : decode cL_law 2012 = .ok (.iload 5, 2) := by decide +kernel
theorem dL_law_2014 : decode cL_law 2014 = .ok (.iconst 1, 1) := by decide +kernel
theorem dL_law_2015 : decode cL_law 2015 = .ok (.iadd, 1) := by decide +kernel
theorem dL_law_2016 : decode cL_law 2016 = .ok (.iaload, 1) := by decide +kernel
theorem dL_law_2017 : decode cL_law 2017 = .ok (.invokevirtual 291, 3) := by decide +kernel
theorem dL_law_2020 : decode cL_law 2020 = .ok (.istore 7, 2) := by decide +kernel
theorem dL_law_2022 : decode cL_law 2022 = .ok (.aload_n 2, 1) := by decide +kernel
theorem dL_law_2023 : decode cL_law 2023 = .ok (.invokevirtual 204, 3) := by decide +kernel
theorem dL_law_2026 : decode cL_law 2026 = .ok (.iload 6, 2) := by decide +kernel
theorem dL_law_2028 : decode cL_law 2028 = .ok (.if_icmp .eq 5, 3) := by decide +kernel
theorem dL_law_2031 : decode cL_law 2031 = .ok (.iconst 0, 1) := by decide +kernel
theorem dL_law_2032 : decode cL_law 2032 = .ok (.ireturn, 1) := by decide +kernel
theorem dL_law_2033 : decode cL_law 2033 = .ok (.iload 6, 2) := by decide +kernel
theorem dL_law_2035 : decode cL_law 2035 = .ok (.ifCond .ne 15, 3) := by decide +kernel
theorem dL_law_2038 : decode cL_law 2038 = .ok (.aload_n 3, 1) := by decide +kernel
theorem dL_law_2039 : decode cL_law 2039 = .ok (.iconst 0, 1) := by decide +kernel
theorem dL_law_2040 : decode cL_law 2040 = .ok (.laload, 1) := by decide +kernel
theorem dL_law_2041 : decode cL_law 2041 = .ok (.iload 7, 2) := by decide +kernel
theorem dL_law_2043 : decode cL_law 2043 = .ok (.i2l, 1) := by decide +kernel
theorem dL_law_2044 : decode cL_law 2044 = .ok (.lcmp, 1) := by decide +kernel
theorem dL_law_2045 : decode cL_law 2045 = .ok (.ifCond .eq 5, 3) := by decide +kernel
theorem dL_law_2048 : decode cL_law 2048 = .ok (.iconst 0, 1) := by decide +kernel
theorem dL_law_2049 : decode cL_law 2049 = .ok (.ireturn, 1) := by decide +kernel
theorem dL_law_2050 : decode cL_law 2050 = .ok (.goto 1567, 3) := by decide +kernel
theorem dL_law_2053 : decode cL_law 2053 = .ok (.aload_n 1, 1) := by decide +kernel
theorem dL_law_2054 : decode cL_law 2054 = .ok (.aload_n 0, 1) := by decide +kernel
theorem dL_law_2055 : decode cL_law 2055 = .ok (.iload 5, 2) := by decide +kernel
theorem dL_law_2057 : decode cL_law 2057 = .ok (.iconst 1, 1) := by decide +kernel
theorem dL_law_2058 : decode cL_law 2058 = .ok (.iadd, 1) := by decide +kernel
theorem dL_law_2059 : decode cL_law 2059 = .ok (.iaload, 1) := by decide +kernel
theorem dL_law_2060 : decode cL_law 2060 = .ok (.aload_n 3, 1) := by decide +kernel
theorem dL_law_2061 : decode cL_law 2061 = .ok (.invokestatic 292, 3) := by decide +kernel
theorem dL_law_2064 : decode cL_law 2064 = .ok (.istore 6, 2) := by decide +kernel
theorem dL_law_2066 : decode cL_law 2066 = .ok (.aload_n 2, 1) := by decide +kernel
theorem dL_law_2067 : decode cL_law 2067 = .ok (.aload_n 0, 1) := by decide +kernel
theorem dL_law_2068 : decode cL_law 2068 = .ok (.iload 5, 2) := by decide +kernel
theorem dL_law_2070 : decode cL_law 2070 = .ok (.iconst 1, 1) := by decide +kernel
theorem dL_law_2071 : decode cL_law 2071 = .ok (.iadd, 1) := by decide +kernel
theorem dL_law_2072 : decode cL_law 2072 = .ok (.iaload, 1) := by decide +kernel
theorem dL_law_2073 : decode cL_law 2073 = .ok (.invokevirtual 294, 3) := by decide +kernel
theorem dL_law_2076 : decode cL_law 2076 = .ok (.istore 7, 2) := by decide +kernel
theorem dL_law_2078 : decode cL_law 2078 = .ok (.aload_n 2, 1) := by decide +kernel
theorem dL_law_2079 : decode cL_law 2079 = .ok (.invokevirtual 204, 3) := by decide +kernel
theorem dL_law_2082 : decode cL_law 2082 = .ok (.iload 6, 2) := by decide +kernel
theorem dL_law_2084 : decode cL_law 2084 = .ok (.if_icmp .eq 5, 3) := by decide +kernel
theorem dL_law_2087 : decode cL_law 2087 = .ok (.iconst 0, 1) := by decide +kernel
theorem dL_law_2088 : decode cL_law 2088 = .ok (.ireturn, 1) := by decide +kernel
theorem dL_law_2089 : decode cL_law 2089 = .ok (.iload 6, 2) := by decide +kernel
theorem dL_law_2091 : decode cL_law 2091 = .ok (.ifCond .ne 15, 3) := by decide +kernel
theorem dL_law_2094 : decode cL_law 2094 = .ok (.aload_n 3, 1) := by decide +kernel
theorem dL_law_2095 : decode cL_law 2095 = .ok (.iconst 0, 1) := by decide +kernel
theorem dL_law_2096 : decode cL_law 2096 = .ok (.laload, 1) := by decide +kernel
theorem dL_law_2097 : decode cL_law 2097 = .ok (.iload 7, 2) := by decide +kernel
theorem dL_law_2099 : decode cL_law 2099 = .ok (.i2l, 1) := by decide +kernel
theorem dL_law_2100 : decode cL_law 2100 = .ok (.lcmp, 1) := by decide +kernel
theorem dL_law_2101 : decode cL_law 2101 = .ok (.ifCond .eq 5, 3) := by decide +kernel
theorem dL_law_2104 : decode cL_law 2104 = .ok (.iconst 0, 1) := by decide +kernel
theorem dL_law_2105 : decode cL_law 2105 = .ok (.ireturn, 1) := by decide +kernel
theorem dL_law_2106 : decode cL_law 2106 = .ok (.goto 1511, 3) := by decide +kernel
theorem dL_law_2109 : decode cL_law 2109 = .ok (.aload_n 1, 1) := by decide +kernel
theorem dL_law_2110 : decode cL_law 2110 = .ok (.aload_n 0, 1) := by decide +kernel
theorem dL_law_2111 : decode cL_law 2111 = .ok (.iload 5, 2) := by decide +kernel
theorem dL_law_2113 : decode cL_law 2113 = .ok (.iconst 1, 1) := by decide +kernel
theorem dL_law_2114 : decode cL_law 2114 = .ok (.iadd, 1) := by decide +kernel
theorem dL_law_2115 : decode cL_law 2115 = .ok (.iaload, 1) := by decide +kernel
theorem dL_law_2116 : decode cL_law 2116 = .ok (.aload_n 3, 1) := by decide +kernel
theorem dL_law_2117 : decode cL_law 2117 = .ok (.invokestatic 295, 3) := by decide +kernel
theorem dL_law_2120 : decode cL_law 2120 = .ok (.istore 6, 2) := by decide +kernel
theorem dL_law_2122 : decode cL_law 2122 = .ok (.aload_n 2, 1) := by decide +kernel
theorem dL_law_2123 : decode cL_law 2123 = .ok (.aload_n 0, 1) := by decide +kernel
theorem dL_law_2124 : decode cL_law 2124 = .ok (.iload 5, 2) := by decide +kernel
theorem dL_law_2126 : decode cL_law 2126 = .ok (.iconst 1, 1) := by decide +kernel
theorem dL_law_2127 : decode cL_law 2127 = .ok (.iadd, 1) := by decide +kernel
theorem dL_law_2128 : decode cL_law 2128 = .ok (.iaload, 1) := by decide +kernel
theorem dL_law_2129 : decode cL_law 2129 = .ok (.invokevirtual 297, 3) := by decide +kernel
theorem dL_law_2132 : decode cL_law 2132 = .ok (.istore 7, 2) := by decide +kernel
theorem dL_law_2134 : decode cL_law 2134 = .ok (.aload_n 2, 1) := by decide +kernel
theorem dL_law_2135 : decode cL_law 2135 = .ok (.invokevirtual 204, 3) := by decide +kernel
theorem dL_law_2138 : decode cL_law 2138 = .ok (.iload 6, 2) := by decide +kernel
theorem dL_law_2140 : decode cL_law 2140 = .ok (.if_icmp .eq 5, 3) := by decide +kernel
theorem dL_law_2143 : decode cL_law 2143 = .ok (.iconst 0, 1) := by decide +kernel
theorem dL_law_2144 : decode cL_law 2144 = .ok (.ireturn, 1) := by decide +kernel
theorem dL_law_2145 : decode cL_law 2145 = .ok (.iload 6, 2) := by decide +kernel
theorem dL_law_2147 : decode cL_law 2147 = .ok (.ifCond .ne 15, 3) := by decide +kernel
theorem dL_law_2150 : decode cL_law 2150 = .ok (.aload_n 3, 1) := by decide +kernel
theorem dL_law_2151 : decode cL_law 2151 = .ok (.iconst 0, 1) := by decide +kernel
theorem dL_law_2152 : decode cL_law 2152 = .ok (.laload, 1) := by decide +kernel
theorem dL_law_2153 : decode cL_law 2153 = .ok (.iload 7, 2) := by decide +kernel
theorem dL_law_2155 : decode cL_law 2155 = .ok (.i2l, 1) := by decide +kernel
theorem dL_law_2156 : decode cL_law 2156 = .ok (.lcmp, 1) := by decide +kernel
theorem dL_law_2157 : decode cL_law 2157 = .ok (.ifCond .eq 5, 3) := by decide +kernel
theorem dL_law_2160 : decode cL_law 2160 = .ok (.iconst 0, 1) := by decide +kernel
theorem dL_law_2161 : decode cL_law 2161 = .ok (.ireturn, 1) := by decide +kernel
theorem dL_law_2162 : decode cL_law 2162 = .ok (.goto 1455, 3) := by decide +kernel
theorem dL_law_2165 : decode cL_law 2165 = .ok (.aload_n 1, 1) := by decide +kernel
theorem dL_law_2166 : decode cL_law 2166 = .ok (.aload_n 0, 1) := by decide +kernel
theorem dL_law_2167 : decode cL_law 2167 = .ok (.iload 5, 2) := by decide +kernel
theorem dL_law_2169 : decode cL_law 2169 = .ok (.iconst 1, 1) := by decide +kernel
theorem dL_law_2170 : decode cL_law 2170 = .ok (.iadd, 1) := by decide +kernel
theorem dL_law_2171 : decode cL_law 2171 = .ok (.iaload, 1) := by decide +kernel
theorem dL_law_2172 : decode cL_law 2172 = .ok (.aload_n 3, 1) := by decide +kernel
theorem dL_law_2173 : decode cL_law 2173 = .ok (.invokestatic 298, 3) := by decide +kernel
theorem dL_law_2176 : decode cL_law 2176 = .ok (.istore 6, 2) := by decide +kernel
theorem dL_law_2178 : decode cL_law 2178 = .ok (.aload_n 2, 1) := by decide +kernel
theorem dL_law_2179 : decode cL_law 2179 = .ok (.aload_n 0, 1) := by decide +kernel
theorem dL_law_2180 : decode cL_law 2180 = .ok (.iload 5, 2) := by decide +kernel
theorem dL_law_2182 : decode cL_law 2182 = .ok (.iconst 1, 1) := by decide +kernel
theorem dL_law_2183 : decode cL_law 2183 = .ok (.iadd, 1) := by decide +kernel
theorem dL_law_2184 : decode cL_law 2184 = .ok (.iaload, 1) := by decide +kernel
theorem dL_law_2185 : decode cL_law 2185 = .ok (.invokevirtual 300, 3) := by decide +kernel
theorem dL_law_2188 : decode cL_law 2188 = .ok (.istore 7, 2) := by decide +kernel
theorem dL_law_2190 : decode cL_law 2190 = .ok (.aload_n 2, 1) := by decide +kernel
theorem dL_law_2191 : decode cL_law 2191 = .ok (.invokevirtual 204, 3) := by decide +kernel
theorem dL_law_2194 : decode cL_law 2194 = .ok (.iload 6, 2) := by decide +kernel
theorem dL_law_2196 : decode cL_law 2196 = .ok (.if_icmp .eq 5, 3) := by decide +kernel
theorem dL_law_2199 : decode cL_law 2199 = .ok (.iconst 0, 1) := by decide +kernel
theorem dL_law_2200 : decode cL_law 2200 = .ok (.ireturn, 1) := by decide +kernel
theorem dL_law_2201 : decode cL_law 2201 = .ok (.iload 6, 2) := by decide +kernel
theorem dL_law_2203 : decode cL_law 2203 = .ok (.ifCond .ne 15, 3) := by decide +kernel
theorem dL_law_2206 : decode cL_law 2206 = .ok (.aload_n 3, 1) := by decide +kernel
theorem dL_law_2207 : decode cL_law 2207 = .ok (.iconst 0, 1) := by decide +kernel
theorem dL_law_2208 : decode cL_law 2208 = .ok (.laload, 1) := by decide +kernel
theorem dL_law_2209 : decode cL_law 2209 = .ok (.iload 7, 2) := by decide +kernel
theorem dL_law_2211 : decode cL_law 2211 = .ok (.i2l, 1) := by decide +kernel
theorem dL_law_2212 : decode cL_law 2212 = .ok (.lcmp, 1) := by decide +kernel
theorem dL_law_2213 : decode cL_law 2213 = .ok (.ifCond .eq 5, 3) := by decide +kernel
theorem dL_law_2216 : decode cL_law 2216 = .ok (.iconst 0, 1) := by decide +kernel
theorem dL_law_2217 : decode cL_law 2217 = .ok (.ireturn, 1) := by decide +kernel
theorem dL_law_2218 : decode cL_law 2218 = .ok (.goto 1399, 3) := by decide +kernel
theorem dL_law_2221 : decode cL_law 2221 = .ok (.aload_n 1, 1) := by decide +kernel
theorem dL_law_2222 : decode cL_law 2222 = .ok (.aload_n 0, 1) := by decide +kernel
theorem dL_law_2223 : decode cL_law 2223 = .ok (.iload 5, 2) := by decide +kernel
theorem dL_law_2225 : decode cL_law 2225 = .ok (.iconst 1, 1) := by decide +kernel
theorem dL_law_2226 : decode cL_law 2226 = .ok (.iadd, 1) := by decide +kernel
theorem dL_law_2227 : decode cL_law 2227 = .ok (.iaload, 1) := by decide +kernel
theorem dL_law_2228 : decode cL_law 2228 = .ok (.aload_n 3, 1) := by decide +kernel
theorem dL_law_2229 : decode cL_law 2229 = .ok (.invokestatic 301, 3) := by decide +kernel
theorem dL_law_2232 : decode cL_law 2232 = .ok (.istore 6, 2) := by decide +kernel
theorem dL_law_2234 : decode cL_law 2234 = .ok (.aload_n 2, 1) := by decide +kernel
theorem dL_law_2235 : decode cL_law 2235 = .ok (.aload_n 0, 1) := by decide +kernel
theorem dL_law_2236 : decode cL_law 2236 = .ok (.iload 5, 2) := by decide +kernel
theorem dL_law_2238 : decode cL_law 2238 = .ok (.iconst 1, 1) := by decide +kernel
theorem dL_law_2239 : decode cL_law 2239 = .ok (.iadd, 1) := by decide +kernel
theorem dL_law_2240 : decode cL_law 2240 = .ok (.iaload, 1) := by decide +kernel
theorem dL_law_2241 : decode cL_law 2241 = .ok (.invokevirtual 303, 3) := by decide +kernel
theorem dL_law_2244 : decode cL_law 2244 = .ok (.istore 7, 2) := by decide +kernel
theorem dL_law_2246 : decode cL_law 2246 = .ok (.aload_n 2, 1) := by decide +kernel
theorem dL_law_2247 : decode cL_law 2247 = .ok (.invokevirtual 204, 3) := by decide +kernel
theorem dL_law_2250 : decode cL_law 2250 = .ok (.iload 6, 2) := by decide +kernel
theorem dL_law_2252 : decode cL_law 2252 = .ok (.if_icmp .eq 5, 3) := by decide +kernel
theorem dL_law_2255 : decode cL_law 2255 = .ok (.iconst 0, 1) := by decide +kernel
theorem dL_law_2256 : decode cL_law 2256 = .ok (.ireturn, 1) := by decide +kernel
theorem dL_law_2257 : decode cL_law 2257 = .ok (.iload 6, 2) := by decide +kernel
theorem dL_law_2259 : decode cL_law 2259 = .ok (.ifCond .ne 15, 3) := by decide +kernel
theorem dL_law_2262 : decode cL_law 2262 = .ok (.aload_n 3, 1) := by decide +kernel
theorem dL_law_2263 : decode cL_law 2263 = .ok (.iconst 0, 1) := by decide +kernel
theorem dL_law_2264 : decode cL_law 2264 = .ok (.laload, 1) := by decide +kernel
theorem dL_law_2265 : decode cL_law 2265 = .ok (.iload 7, 2) := by decide +kernel
theorem dL_law_2267 : decode cL_law 2267 = .ok (.i2l, 1) := by decide +kernel
theorem dL_law_2268 : decode cL_law 2268 = .ok (.lcmp, 1) := by decide +kernel
theorem dL_law_2269 : decode cL_law 2269 = .ok (.ifCond .eq 5, 3) := by decide +kernel
theorem dL_law_2272 : decode cL_law 2272 = .ok (.iconst 0, 1) := by decide +kernel
theorem dL_law_2273 : decode cL_law 2273 = .ok (.ireturn, 1) := by decide +kernel
theorem dL_law_2274 : decode cL_law 2274 = .ok (.goto 1343, 3) := by decide +kernel
theorem dL_law_2277 : decode cL_law 2277 = .ok (.aload_n 1, 1) := by decide +kernel
theorem dL_law_2278 : decode cL_law 2278 = .ok (.aload_n 0, 1) := by decide +kernel
theorem dL_law_2279 : decode cL_law 2279 = .ok (.iload 5, 2) := by decide +kernel
theorem dL_law_2281 : decode cL_law 2281 = .ok (.iconst 1, 1) := by decide +kernel
theorem dL_law_2282 : decode cL_law 2282 = .ok (.iadd, 1) := by decide +kernel
theorem dL_law_2283 : decode cL_law 2283 = .ok (.iaload, 1) := by decide +kernel
theorem dL_law_2284 : decode cL_law 2284 = .ok (.aload 4, 2) := by decide +kernel
theorem dL_law_2286 : decode cL_law 2286 = .ok (.invokestatic 304, 3) := by decide +kernel
theorem dL_law_2289 : decode cL_law 2289 = .ok (.istore 6, 2) := by decide +kernel
theorem dL_law_2291 : decode cL_law 2291 = .ok (.aload_n 2, 1) := by decide +kernel
theorem dL_law_2292 : decode cL_law 2292 = .ok (.aload_n 0, 1) := by decide +kernel
theorem dL_law_2293 : decode cL_law 2293 = .ok (.iload 5, 2) := by decide +kernel
theorem dL_law_2295 : decode cL_law 2295 = .ok (.iconst 1, 1) := by decide +kernel
theorem dL_law_2296 : decode cL_law 2296 = .ok (.iadd, 1) := by decide +kernel
theorem dL_law_2297 : decode cL_law 2297 = .ok (.iaload, 1) := by decide +kernel
theorem dL_law_2298 : decode cL_law 2298 = .ok (.invokevirtual 306, 3) := by decide +kernel
theorem dL_law_2301 : decode cL_law 2301 = .ok (.dstore 7, 2) := by decide +kernel
theorem dL_law_2303 : decode cL_law 2303 = .ok (.aload_n 2, 1) := by decide +kernel
theorem dL_law_2304 : decode cL_law 2304 = .ok (.invokevirtual 204, 3) := by decide +kernel
theorem dL_law_2307 : decode cL_law 2307 = .ok (.iload 6, 2) := by decide +kernel
theorem dL_law_2309 : decode cL_law 2309 = .ok (.if_icmp .eq 5, 3) := by decide +kernel
theorem dL_law_2312 : decode cL_law 2312 = .ok (.iconst 0, 1) := by decide +kernel
theorem dL_law_2313 : decode cL_law 2313 = .ok (.ireturn, 1) := by decide +kernel
theorem dL_law_2314 : decode cL_law 2314 = .ok (.iload 6, 2) := by decide +kernel
theorem dL_law_2316 : decode cL_law 2316 = .ok (.ifCond .ne 35, 3) := by decide +kernel
theorem dL_law_2319 : decode cL_law 2319 = .ok (.aload 4, 2) := by decide +kernel
theorem dL_law_2321 : decode cL_law 2321 = .ok (.iconst 0, 1) := by decide +kernel
theorem dL_law_2322 : decode cL_law 2322 = .ok (.daload, 1) := by decide +kernel
theorem dL_law_2323 : decode cL_law 2323 = .ok (.dload 7, 2) := by decide +kernel
theorem dL_law_2325 : decode cL_law 2325 = .ok (.dcmp .l, 1) := by decide +kernel
theorem dL_law_2326 : decode cL_law 2326 = .ok (.ifCond .eq 25, 3) := by decide +kernel
theorem dL_law_2329 : decode cL_law 2329 = .ok (.aload 4, 2) := by decide +kernel
theorem dL_law_2331 : decode cL_law 2331 = .ok (.iconst 0, 1) := by decide +kernel
theorem dL_law_2332 : decode cL_law 2332 = .ok (.daload, 1) := by decide +kernel
theorem dL_law_2333 : decode cL_law 2333 = .ok (.aload 4, 2) := by decide +kernel
theorem dL_law_2335 : decode cL_law 2335 = .ok (.iconst 0, 1) := by decide +kernel
theorem dL_law_2336 : decode cL_law 2336 = .ok (.daload, 1) := by decide +kernel
theorem dL_law_2337 : decode cL_law 2337 = .ok (.dcmp .l, 1) := by decide +kernel
theorem dL_law_2338 : decode cL_law 2338 = .ok (.ifCond .eq 11, 3) := by decide +kernel
theorem dL_law_2341 : decode cL_law 2341 = .ok (.dload 7, 2) := by decide +kernel
theorem dL_law_2343 : decode cL_law 2343 = .ok (.dload 7, 2) := by decide +kernel
theorem dL_law_2345 : decode cL_law 2345 = .ok (.dcmp .l, 1) := by decide +kernel
theorem dL_law_2346 : decode cL_law 2346 = .ok (.ifCond .ne 5, 3) := by decide +kernel
theorem dL_law_2349 : decode cL_law 2349 = .ok (.iconst 0, 1) := by decide +kernel
theorem dL_law_2350 : decode cL_law 2350 = .ok (.ireturn, 1) := by decide +kernel
theorem dL_law_2351 : decode cL_law 2351 = .ok (.goto 1266, 3) := by decide +kernel
theorem dL_law_2354 : decode cL_law 2354 = .ok (.aload_n 1, 1) := by decide +kernel
theorem dL_law_2355 : decode cL_law 2355 = .ok (.aload_n 0, 1) := by decide +kernel
theorem dL_law_2356 : decode cL_law 2356 = .ok (.iload 5, 2) := by decide +kernel
theorem dL_law_2358 : decode cL_law 2358 = .ok (.iconst 1, 1) := by decide +kernel
theorem dL_law_2359 : decode cL_law 2359 = .ok (.iadd, 1) := by decide +kernel
theorem dL_law_2360 : decode cL_law 2360 = .ok (.iaload, 1) := by decide +kernel
theorem dL_law_2361 : decode cL_law 2361 = .ok (.aload_n 0, 1) := by decide +kernel
theorem dL_law_2362 : decode cL_law 2362 = .ok (.iload 5, 2) := by decide +kernel
theorem dL_law_2364 : decode cL_law 2364 = .ok (.iconst 2, 1) := by decide +kernel
theorem dL_law_2365 : decode cL_law 2365 = .ok (.iadd, 1) := by decide +kernel
theorem dL_law_2366 : decode cL_law 2366 = .ok (.iaload, 1) := by decide +kernel
theorem dL_law_2367 : decode cL_law 2367 = .ok (.aload_n 0, 1) := by decide +kernel
theorem dL_law_2368 : decode cL_law 2368 = .ok (.iload 5, 2) := by decide +kernel
theorem dL_law_2370 : decode cL_law 2370 = .ok (.iconst 3, 1) := by decide +kernel
theorem dL_law_2371 : decode cL_law 2371 = .ok (.iadd, 1) := by decide +kernel
theorem dL_law_2372 : decode cL_law 2372 = .ok (.iaload, 1) := by decide +kernel
theorem dL_law_2373 : decode cL_law 2373 = .ok (.aload_n 3, 1) := by decide +kernel
theorem dL_law_2374 : decode cL_law 2374 = .ok (.invokestatic 307, 3) := by decide +kernel
theorem dL_law_2377 : decode cL_law 2377 = .ok (.istore 6, 2) := by decide +kernel
theorem dL_law_2379 : decode cL_law 2379 = .ok (.aload_n 2, 1) := by decide +kernel
theorem dL_law_2380 : decode cL_law 2380 = .ok (.aload_n 0, 1) := by decide +kernel
theorem dL_law_2381 : decode cL_law 2381 = .ok (.iload 5, 2) := by decide +kernel
theorem dL_law_2383 : decode cL_law 2383 = .ok (.iconst 1, 1) := by decide +kernel
theorem dL_law_2384 : decode cL_law 2384 = .ok (.iadd, 1) := by decide +kernel
theorem dL_law_2385 : decode cL_law 2385 = .ok (.iaload, 1) := by decide +kernel
theorem dL_law_2386 : decode cL_law 2386 = .ok (.aload_n 0, 1) := by decide +kernel
theorem dL_law_2387 : decode cL_law 2387 = .ok (.iload 5, 2) := by decide +kernel
theorem dL_law_2389 : decode cL_law 2389 = .ok (.iconst 2, 1) := by decide +kernel
theorem dL_law_2390 : decode cL_law 2390 = .ok (.iadd, 1) := by decide +kernel
theorem dL_law_2391 : decode cL_law 2391 = .ok (.iaload, 1) := by decide +kernel
theorem dL_law_2392 : decode cL_law 2392 = .ok (.aload_n 0, 1) := by decide +kernel
theorem dL_law_2393 : decode cL_law 2393 = .ok (.iload 5, 2) := by decide +kernel
theorem dL_law_2395 : decode cL_law 2395 = .ok (.iconst 3, 1) := by decide +kernel
theorem dL_law_2396 : decode cL_law 2396 = .ok (.iadd, 1) := by decide +kernel
theorem dL_law_2397 : decode cL_law 2397 = .ok (.iaload, 1) := by decide +kernel
theorem dL_law_2398 : decode cL_law 2398 = .ok (.invokevirtual 309, 3) := by decide +kernel
theorem dL_law_2401 : decode cL_law 2401 = .ok (.istore 7, 2) := by decide +kernel
theorem dL_law_2403 : decode cL_law 2403 = .ok (.aload_n 2, 1) := by decide +kernel
theorem dL_law_2404 : decode cL_law 2404 = .ok (.invokevirtual 204, 3) := by decide +kernel
theorem dL_law_2407 : decode cL_law 2407 = .ok (.iload 6, 2) := by decide +kernel
theorem dL_law_2409 : decode cL_law 2409 = .ok (.if_icmp .eq 5, 3) := by decide +kernel
theorem dL_law_2412 : decode cL_law 2412 = .ok (.iconst 0, 1) := by decide +kernel
theorem dL_law_2413 : decode cL_law 2413 = .ok (.ireturn, 1) := by decide +kernel
theorem dL_law_2414 : decode cL_law 2414 = .ok (.iload 6, 2) := by decide +kernel
theorem dL_law_2416 : decode cL_law 2416 = .ok (.ifCond .ne 15, 3) := by decide +kernel
theorem dL_law_2419 : decode cL_law 2419 = .ok (.aload_n 3, 1) := by decide +kernel
theorem dL_law_2420 : decode cL_law 2420 = .ok (.iconst 0, 1) := by decide +kernel
theorem dL_law_2421 : decode cL_law 2421 = .ok (.laload, 1) := by decide +kernel
theorem dL_law_2422 : decode cL_law 2422 = .ok (.iload 7, 2) := by decide +kernel
theorem dL_law_2424 : decode cL_law 2424 = .ok (.i2l, 1) := by decide +kernel
theorem dL_law_2425 : decode cL_law 2425 = .ok (.lcmp, 1) := by decide +kernel
theorem dL_law_2426 : decode cL_law 2426 = .ok (.ifCond .eq 5, 3) := by decide +kernel
theorem dL_law_2429 : decode cL_law 2429 = .ok (.iconst 0, 1) := by decide +kernel
theorem dL_law_2430 : decode cL_law 2430 = .ok (.ireturn, 1) := by decide +kernel
theorem dL_law_2431 : decode cL_law 2431 = .ok (.goto 1186, 3) := by decide +kernel
theorem dL_law_2434 : decode cL_law 2434 = .ok (.aload_n 1, 1) := by decide +kernel
theorem dL_law_2435 : decode cL_law 2435 = .ok (.aload_n 0, 1) := by decide +kernel
theorem dL_law_2436 : decode cL_law 2436 = .ok (.iload 5, 2) := by decide +kernel
theorem dL_law_2438 : decode cL_law 2438 = .ok (.iconst 1, 1) := by decide +kernel
theorem dL_law_2439 : decode cL_law 2439 = .ok (.iadd, 1) := by decide +kernel
theorem dL_law_2440 : decode cL_law 2440 = .ok (.iaload, 1) := by decide +kernel
theorem dL_law_2441 : decode cL_law 2441 = .ok (.aload_n 0, 1) := by decide +kernel
theorem dL_law_2442 : decode cL_law 2442 = .ok (.iload 5, 2) := by decide +kernel
theorem dL_law_2444 : decode cL_law 2444 = .ok (.iconst 2, 1) := by decide +kernel
theorem dL_law_2445 : decode cL_law 2445 = .ok (.iadd, 1) := by decide +kernel
theorem dL_law_2446 : decode cL_law 2446 = .ok (.iaload, 1) := by decide +kernel
theorem dL_law_2447 : decode cL_law 2447 = .ok (.aload_n 0, 1) := by decide +kernel
theorem dL_law_2448 : decode cL_law 2448 = .ok (.iload 5, 2) := by decide +kernel
theorem dL_law_2450 : decode cL_law 2450 = .ok (.iconst 3, 1) := by decide +kernel
theorem dL_law_2451 : decode cL_law 2451 = .ok (.iadd, 1) := by decide +kernel
theorem dL_law_2452 : decode cL_law 2452 = .ok (.iaload, 1) := by decide +kernel
theorem dL_law_2453 : decode cL_law 2453 = .ok (.aload_n 3, 1) := by decide +kernel
theorem dL_law_2454 : decode cL_law 2454 = .ok (.invokestatic 310, 3) := by decide +kernel
theorem dL_law_2457 : decode cL_law 2457 = .ok (.istore 6, 2) := by decide +kernel
theorem dL_law_2459 : decode cL_law 2459 = .ok (.aload_n 2, 1) := by decide +kernel
theorem dL_law_2460 : decode cL_law 2460 = .ok (.aload_n 0, 1) := by decide +kernel
theorem dL_law_2461 : decode cL_law 2461 = .ok (.iload 5, 2) := by decide +kernel
theorem dL_law_2463 : decode cL_law 2463 = .ok (.iconst 1, 1) := by decide +kernel
theorem dL_law_2464 : decode cL_law 2464 = .ok (.iadd, 1) := by decide +kernel
theorem dL_law_2465 : decode cL_law 2465 = .ok (.iaload, 1) := by decide +kernel
theorem dL_law_2466 : decode cL_law 2466 = .ok (.aload_n 0, 1) := by decide +kernel
theorem dL_law_2467 : decode cL_law 2467 = .ok (.iload 5, 2) := by decide +kernel
theorem dL_law_2469 : decode cL_law 2469 = .ok (.iconst 2, 1) := by decide +kernel
theorem dL_law_2470 : decode cL_law 2470 = .ok (.iadd, 1) := by decide +kernel
theorem dL_law_2471 : decode cL_law 2471 = .ok (.iaload, 1) := by decide +kernel
theorem dL_law_2472 : decode cL_law 2472 = .ok (.aload_n 0, 1) := by decide +kernel
theorem dL_law_2473 : decode cL_law 2473 = .ok (.iload 5, 2) := by decide +kernel
theorem dL_law_2475 : decode cL_law 2475 = .ok (.iconst 3, 1) := by decide +kernel
theorem dL_law_2476 : decode cL_law 2476 = .ok (.iadd, 1) := by decide +kernel
theorem dL_law_2477 : decode cL_law 2477 = .ok (.iaload, 1) := by decide +kernel
theorem dL_law_2478 : decode cL_law 2478 = .ok (.invokevirtual 312, 3) := by decide +kernel
theorem dL_law_2481 : decode cL_law 2481 = .ok (.istore 7, 2) := by decide +kernel
theorem dL_law_2483 : decode cL_law 2483 = .ok (.aload_n 2, 1) := by decide +kernel
theorem dL_law_2484 : decode cL_law 2484 = .ok (.invokevirtual 204, 3) := by decide +kernel
theorem dL_law_2487 : decode cL_law 2487 = .ok (.iload 6, 2) := by decide +kernel
theorem dL_law_2489 : decode cL_law 2489 = .ok (.if_icmp .eq 5, 3) := by decide +kernel
theorem dL_law_2492 : decode cL_law 2492 = .ok (.iconst 0, 1) := by decide +kernel
theorem dL_law_2493 : decode cL_law 2493 = .ok (.ireturn, 1) := by decide +kernel
theorem dL_law_2494 : decode cL_law 2494 = .ok (.iload 6, 2) := by decide +kernel
theorem dL_law_2496 : decode cL_law 2496 = .ok (.ifCond .ne 22, 3) := by decide +kernel
theorem dL_law_2499 : decode cL_law 2499 = .ok (.aload_n 3, 1) := by decide +kernel
theorem dL_law_2500 : decode cL_law 2500 = .ok (.iconst 0, 1) := by decide +kernel
theorem dL_law_2501 : decode cL_law 2501 = .ok (.laload, 1) := by decide +kernel
theorem dL_law_2502 : decode cL_law 2502 = .ok (.iload 7, 2) := by decide +kernel
theorem dL_law_2504 : decode cL_law 2504 = .ok (.ifCond .eq 7, 3) := by decide +kernel
theorem dL_law_2507 : decode cL_law 2507 = .ok (.lconst 1, 1) := by decide +kernel
theorem dL_law_2508 : decode cL_law 2508 = .ok (.goto 4, 3) := by decide +kernel
theorem dL_law_2511 : decode cL_law 2511 = .ok (.lconst 0, 1) := by decide +kernel
theorem dL_law_2512 : decode cL_law 2512 = .ok (.lcmp, 1) := by decide +kernel
theorem dL_law_2513 : decode cL_law 2513 = .ok (.ifCond .eq 5, 3) := by decide +kernel
theorem dL_law_2516 : decode cL_law 2516 = .ok (.iconst 0, 1) := by decide +kernel
theorem dL_law_2517 : decode cL_law 2517 = .ok (.ireturn, 1) := by decide +kernel
theorem dL_law_2518 : decode cL_law 2518 = .ok (.goto 1099, 3) := by decide +kernel
theorem dL_law_2521 : decode cL_law 2521 = .ok (.aload_n 1, 1) := by decide +kernel
theorem dL_law_2522 : decode cL_law 2522 = .ok (.aload_n 0, 1) := by decide +kernel
theorem dL_law_2523 : decode cL_law 2523 = .ok (.iload 5, 2) := by decide +kernel
theorem dL_law_2525 : decode cL_law 2525 = .ok (.iconst 1, 1) := by decide +kernel
theorem dL_law_2526 : decode cL_law 2526 = .ok (.iadd, 1) := by decide +kernel
theorem dL_law_2527 : decode cL_law 2527 = .ok (.iaload, 1) := by decide +kernel
theorem dL_law_2528 : decode cL_law 2528 = .ok (.aload_n 3, 1) := by decide +kernel
theorem dL_law_2529 : decode cL_law 2529 = .ok (.invokestatic 313, 3) := by decide +kernel
theorem dL_law_2532 : decode cL_law 2532 = .ok (.istore 6, 2) := by decide +kernel
theorem dL_law_2534 : decode cL_law 2534 = .ok (.aload_n 2, 1) := by decide +kernel
theorem dL_law_2535 : decode cL_law 2535 = .ok (.aload_n 0, 1) := by decide +kernel
theorem dL_law_2536 : decode cL_law 2536 = .ok (.iload 5, 2) := by decide +kernel
theorem dL_law_2538 : decode cL_law 2538 = .ok (.iconst 1, 1) := by decide +kernel
theorem dL_law_2539 : decode cL_law 2539 = .ok (.iadd, 1) := by decide +kernel
theorem dL_law_2540 : decode cL_law 2540 = .ok (.iaload, 1) := by decide +kernel
theorem dL_law_2541 : decode cL_law 2541 = .ok (.invokevirtual 315, 3) := by decide +kernel
theorem dL_law_2544 : decode cL_law 2544 = .ok (.istore 7, 2) := by decide +kernel
theorem dL_law_2546 : decode cL_law 2546 = .ok (.aload_n 2, 1) := by decide +kernel
theorem dL_law_2547 : decode cL_law 2547 = .ok (.invokevirtual 204, 3) := by decide +kernel
theorem dL_law_2550 : decode cL_law 2550 = .ok (.iload 6, 2) := by decide +kernel
theorem dL_law_2552 : decode cL_law 2552 = .ok (.if_icmp .eq 5, 3) := by decide +kernel
theorem dL_law_2555 : decode cL_law 2555 = .ok (.iconst 0, 1) := by decide +kernel
theorem dL_law_2556 : decode cL_law 2556 = .ok (.ireturn, 1) := by decide +kernel
theorem dL_law_2557 : decode cL_law 2557 = .ok (.iload 6, 2) := by decide +kernel
theorem dL_law_2559 : decode cL_law 2559 = .ok (.ifCond .ne 15, 3) := by decide +kernel
theorem dL_law_2562 : decode cL_law 2562 = .ok (.aload_n 3, 1) := by decide +kernel
theorem dL_law_2563 : decode cL_law 2563 = .ok (.iconst 0, 1) := by decide +kernel
theorem dL_law_2564 : decode cL_law 2564 = .ok (.laload, 1) := by decide +kernel
theorem dL_law_2565 : decode cL_law 2565 = .ok (.iload 7, 2) := by decide +kernel
theorem dL_law_2567 : decode cL_law 2567 = .ok (.i2l, 1) := by decide +kernel
theorem dL_law_2568 : decode cL_law 2568 = .ok (.lcmp, 1) := by decide +kernel
theorem dL_law_2569 : decode cL_law 2569 = .ok (.ifCond .eq 5, 3) := by decide +kernel
theorem dL_law_2572 : decode cL_law 2572 = .ok (.iconst 0, 1) := by decide +kernel
theorem dL_law_2573 : decode cL_law 2573 = .ok (.ireturn, 1) := by decide +kernel
theorem dL_law_2574 : decode cL_law 2574 = .ok (.goto 1043, 3) := by decide +kernel
theorem dL_law_2577 : decode cL_law 2577 = .ok (.aload_n 1, 1) := by decide +kernel
theorem dL_law_2578 : decode cL_law 2578 = .ok (.aload_n 0, 1) := by decide +kernel
theorem dL_law_2579 : decode cL_law 2579 = .ok (.iload 5, 2) := by decide +kernel
theorem dL_law_2581 : decode cL_law 2581 = .ok (.iconst 1, 1) := by decide +kernel
theorem dL_law_2582 : decode cL_law 2582 = .ok (.iadd, 1) := by decide +kernel
theorem dL_law_2583 : decode cL_law 2583 = .ok (.iaload, 1) := by decide +kernel
theorem dL_law_2584 : decode cL_law 2584 = .ok (.aload_n 3, 1) := by decide +kernel
theorem dL_law_2585 : decode cL_law 2585 = .ok (.invokestatic 316, 3) := by decide +kernel
theorem dL_law_2588 : decode cL_law 2588 = .ok (.istore 6, 2) := by decide +kernel
theorem dL_law_2590 : decode cL_law 2590 = .ok (.aload_n 2, 1) := by decide +kernel
theorem dL_law_2591 : decode cL_law 2591 = .ok (.aload_n 0, 1) := by decide +kernel
theorem dL_law_2592 : decode cL_law 2592 = .ok (.iload 5, 2) := by decide +kernel
theorem dL_law_2594 : decode cL_law 2594 = .ok (.iconst 1, 1) := by decide +kernel
theorem dL_law_2595 : decode cL_law 2595 = .ok (.iadd, 1) := by decide +kernel
theorem dL_law_2596 : decode cL_law 2596 = .ok (.iaload, 1) := by decide +kernel
theorem dL_law_2597 : decode cL_law 2597 = .ok (.invokevirtual 318, 3) := by decide +kernel
theorem dL_law_2600 : decode cL_law 2600 = .ok (.istore 7, 2) := by decide +kernel
theorem dL_law_2602 : decode cL_law 2602 = .ok (.aload_n 2, 1) := by decide +kernel
theorem dL_law_2603 : decode cL_law 2603 = .ok (.invokevirtual 204, 3) := by decide +kernel
theorem dL_law_2606 : decode cL_law 2606 = .ok (.iload 6, 2) := by decide +kernel
theorem dL_law_2608 : decode cL_law 2608 = .ok (.if_icmp .eq 5, 3) := by decide +kernel
theorem dL_law_2611 : decode cL_law 2611 = .ok (.iconst 0, 1) := by decide +kernel
theorem dL_law_2612 : decode cL_law 2612 = .ok (.ireturn, 1) := by decide +kernel
theorem dL_law_2613 : decode cL_law 2613 = .ok (.iload 6, 2) := by decide +kernel
theorem dL_law_2615 : decode cL_law 2615 = .ok (.ifCond .ne 15, 3) := by decide +kernel
theorem dL_law_2618 : decode cL_law 2618 = .ok (.aload_n 3, 1) := by decide +kernel
theorem dL_law_2619 : decode cL_law 2619 = .ok (.iconst 0, 1) := by decide +kernel
theorem dL_law_2620 : decode cL_law 2620 = .ok (.laload, 1) := by decide +kernel
theorem dL_law_2621 : decode cL_law 2621 = .ok (.iload 7, 2) := by decide +kernel
theorem dL_law_2623 : decode cL_law 2623 = .ok (.i2l, 1) := by decide +kernel
theorem dL_law_2624 : decode cL_law 2624 = .ok (.lcmp, 1) := by decide +kernel
theorem dL_law_2625 : decode cL_law 2625 = .ok (.ifCond .eq 5, 3) := by decide +kernel
theorem dL_law_2628 : decode cL_law 2628 = .ok (.iconst 0, 1) := by decide +kernel
theorem dL_law_2629 : decode cL_law 2629 = .ok (.ireturn, 1) := by decide +kernel
theorem dL_law_2630 : decode cL_law 2630 = .ok (.goto 987, 3) := by decide +kernel
theorem dL_law_2633 : decode cL_law 2633 = .ok (.aload_n 1, 1) := by decide +kernel
theorem dL_law_2634 : decode cL_law 2634 = .ok (.aload_n 0, 1) := by decide +kernel
theorem dL_law_2635 : decode cL_law 2635 = .ok (.iload 5, 2) := by decide +kernel
theorem dL_law_2637 : decode cL_law 2637 = .ok (.iconst 1, 1) := by decide +kernel
theorem dL_law_2638 : decode cL_law 2638 = .ok (.iadd, 1) := by decide +kernel
theorem dL_law_2639 : decode cL_law 2639 = .ok (.iaload, 1) := by decide +kernel
theorem dL_law_2640 : decode cL_law 2640 = .ok (.aload_n 3, 1) := by decide +kernel
theorem dL_law_2641 : decode cL_law 2641 = .ok (.invokestatic 319, 3) := by decide +kernel
theorem dL_law_2644 : decode cL_law 2644 = .ok (.istore 6, 2) := by decide +kernel
theorem dL_law_2646 : decode cL_law 2646 = .ok (.aload_n 2, 1) := by decide +kernel
theorem dL_law_2647 : decode cL_law 2647 = .ok (.aload_n 0, 1) := by decide +kernel
theorem dL_law_2648 : decode cL_law 2648 = .ok (.iload 5, 2) := by decide +kernel
theorem dL_law_2650 : decode cL_law 2650 = .ok (.iconst 1, 1) := by decide +kernel
theorem dL_law_2651 : decode cL_law 2651 = .ok (.iadd, 1) := by decide +kernel
theorem dL_law_2652 : decode cL_law 2652 = .ok (.iaload, 1) := by decide +kernel
theorem dL_law_2653 : decode cL_law 2653 = .ok (.invokevirtual 321, 3) := by decide +kernel
theorem dL_law_2656 : decode cL_law 2656 = .ok (.istore 7, 2) := by decide +kernel
theorem dL_law_2658 : decode cL_law 2658 = .ok (.aload_n 2, 1) := by decide +kernel
theorem dL_law_2659 : decode cL_law 2659 = .ok (.invokevirtual 204, 3) := by decide +kernel
theorem dL_law_2662 : decode cL_law 2662 = .ok (.iload 6, 2) := by decide +kernel
theorem dL_law_2664 : decode cL_law 2664 = .ok (.if_icmp .eq 5, 3) := by decide +kernel
theorem dL_law_2667 : decode cL_law 2667 = .ok (.iconst 0, 1) := by decide +kernel
theorem dL_law_2668 : decode cL_law 2668 = .ok (.ireturn, 1) := by decide +kernel
theorem dL_law_2669 : decode cL_law 2669 = .ok (.iload 6, 2) := by decide +kernel
theorem dL_law_2671 : decode cL_law 2671 = .ok (.ifCond .ne 15, 3) := by decide +kernel
theorem dL_law_2674 : decode cL_law 2674 = .ok (.aload_n 3, 1) := by decide +kernel
theorem dL_law_2675 : decode cL_law 2675 = .ok (.iconst 0, 1) := by decide +kernel
theorem dL_law_2676 : decode cL_law 2676 = .ok (.laload, 1) := by decide +kernel
theorem dL_law_2677 : decode cL_law 2677 = .ok (.iload 7, 2) := by decide +kernel
theorem dL_law_2679 : decode cL_law 2679 = .ok (.i2l, 1) := by decide +kernel
theorem dL_law_2680 : decode cL_law 2680 = .ok (.lcmp, 1) := by decide +kernel
theorem dL_law_2681 : decode cL_law 2681 = .ok (.ifCond .eq 5, 3) := by decide +kernel
theorem dL_law_2684 : decode cL_law 2684 = .ok (.iconst 0, 1) := by decide +kernel
theorem dL_law_2685 : decode cL_law 2685 = .ok (.ireturn, 1) := by decide +kernel
theorem dL_law_2686 : decode cL_law 2686 = .ok (.goto 931, 3) := by decide +kernel
theorem dL_law_2689 : decode cL_law 2689 = .ok (.aload_n 1, 1) := by decide +kernel
theorem dL_law_2690 : decode cL_law 2690 = .ok (.aload_n 0, 1) := by decide +kernel
theorem dL_law_2691 : decode cL_law 2691 = .ok (.iload 5, 2) := by decide +kernel
theorem dL_law_2693 : decode cL_law 2693 = .ok (.iconst 1, 1) := by decide +kernel
theorem dL_law_2694 : decode cL_law 2694 = .ok (.iadd, 1) := by decide +kernel
theorem dL_law_2695 : decode cL_law 2695 = .ok (.iaload, 1) := by decide +kernel
theorem dL_law_2696 : decode cL_law 2696 = .ok (.aload_n 0, 1) := by decide +kernel
theorem dL_law_2697 : decode cL_law 2697 = .ok (.iload 5, 2) := by decide +kernel
theorem dL_law_2699 : decode cL_law 2699 = .ok (.iconst 2, 1) := by decide +kernel
theorem dL_law_2700 : decode cL_law 2700 = .ok (.iadd, 1) := by decide +kernel
theorem dL_law_2701 : decode cL_law 2701 = .ok (.iaload, 1) := by decide +kernel
theorem dL_law_2702 : decode cL_law 2702 = .ok (.aload_n 3, 1) := by decide +kernel
theorem dL_law_2703 : decode cL_law 2703 = .ok (.invokestatic 322, 3) := by decide +kernel
theorem dL_law_2706 : decode cL_law 2706 = .ok (.istore 6, 2) := by decide +kernel
theorem dL_law_2708 : decode cL_law 2708 = .ok (.aload_n 2, 1) := by decide +kernel
theorem dL_law_2709 : decode cL_law 2709 = .ok (.aload_n 0, 1) := by decide +kernel
theorem dL_law_2710 : decode cL_law 2710 = .ok (.iload 5, 2) := by decide +kernel
theorem dL_law_2712 : decode cL_law 2712 = .ok (.iconst 1, 1) := by decide +kernel
theorem dL_law_2713 : decode cL_law 2713 = .ok (.iadd, 1) := by decide +kernel
theorem dL_law_2714 : decode cL_law 2714 = .ok (.iaload, 1) := by decide +kernel
theorem dL_law_2715 : decode cL_law 2715 = .ok (.aload_n 0, 1) := by decide +kernel
theorem dL_law_2716 : decode cL_law 2716 = .ok (.iload 5, 2) := by decide +kernel
theorem dL_law_2718 : decode cL_law 2718 = .ok (.iconst 2, 1) := by decide +kernel
theorem dL_law_2719 : decode cL_law 2719 = .ok (.iadd, 1) := by decide +kernel
theorem dL_law_2720 : decode cL_law 2720 = .ok (.iaload, 1) := by decide +kernel
theorem dL_law_2721 : decode cL_law 2721 = .ok (.invokevirtual 324, 3) := by decide +kernel
theorem dL_law_2724 : decode cL_law 2724 = .ok (.istore 7, 2) := by decide +kernel
theorem dL_law_2726 : decode cL_law 2726 = .ok (.aload_n 2, 1) := by decide +kernel
theorem dL_law_2727 : decode cL_law 2727 = .ok (.invokevirtual 204, 3) := by decide +kernel
theorem dL_law_2730 : decode cL_law 2730 = .ok (.iload 6, 2) := by decide +kernel
theorem dL_law_2732 : decode cL_law 2732 = .ok (.if_icmp .eq 5, 3) := by decide +kernel
theorem dL_law_2735 : decode cL_law 2735 = .ok (.iconst 0, 1) := by decide +kernel
theorem dL_law_2736 : decode cL_law 2736 = .ok (.ireturn, 1) := by decide +kernel
theorem dL_law_2737 : decode cL_law 2737 = .ok (.iload 6, 2) := by decide +kernel
theorem dL_law_2739 : decode cL_law 2739 = .ok (.ifCond .ne 15, 3) := by decide +kernel
theorem dL_law_2742 : decode cL_law 2742 = .ok (.aload_n 3, 1) := by decide +kernel
theorem dL_law_2743 : decode cL_law 2743 = .ok (.iconst 0, 1) := by decide +kernel
theorem dL_law_2744 : decode cL_law 2744 = .ok (.laload, 1) := by decide +kernel
theorem dL_law_2745 : decode cL_law 2745 = .ok (.iload 7, 2) := by decide +kernel
theorem dL_law_2747 : decode cL_law 2747 = .ok (.i2l, 1) := by decide +kernel
theorem dL_law_2748 : decode cL_law 2748 = .ok (.lcmp, 1) := by decide +kernel
theorem dL_law_2749 : decode cL_law 2749 = .ok (.ifCond .eq 5, 3) := by decide +kernel
theorem dL_law_2752 : decode cL_law 2752 = .ok (.iconst 0, 1) := by decide +kernel
theorem dL_law_2753 : decode cL_law 2753 = .ok (.ireturn, 1) := by decide +kernel
theorem dL_law_2754 : decode cL_law 2754 = .ok (.goto 863, 3) := by decide +kernel
theorem dL_law_2757 : decode cL_law 2757 = .ok (.aload_n 1, 1) := by decide +kernel
theorem dL_law_2758 : decode cL_law 2758 = .ok (.aload_n 0, 1) := by decide +kernel
theorem dL_law_2759 : decode cL_law 2759 = .ok (.iload 5, 2) := by decide +kernel
theorem dL_law_2761 : decode cL_law 2761 = .ok (.iconst 1, 1) := by decide +kernel
theorem dL_law_2762 : decode cL_law 2762 = .ok (.iadd, 1) := by decide +kernel
theorem dL_law_2763 : decode cL_law 2763 = .ok (.iaload, 1) := by decide +kernel
theorem dL_law_2764 : decode cL_law 2764 = .ok (.aload_n 3, 1) := by decide +kernel
theorem dL_law_2765 : decode cL_law 2765 = .ok (.invokestatic 325, 3) := by decide +kernel
theorem dL_law_2768 : decode cL_law 2768 = .ok (.istore 6, 2) := by decide +kernel
theorem dL_law_2770 : decode cL_law 2770 = .ok (.aload_n 2, 1) := by decide +kernel
theorem dL_law_2771 : decode cL_law 2771 = .ok (.aload_n 0, 1) := by decide +kernel
theorem dL_law_2772 : decode cL_law 2772 = .ok (.iload 5, 2) := by decide +kernel
theorem dL_law_2774 : decode cL_law 2774 = .ok (.iconst 1, 1) := by decide +kernel
theorem dL_law_2775 : decode cL_law 2775 = .ok (.iadd, 1) := by decide +kernel
theorem dL_law_2776 : decode cL_law 2776 = .ok (.iaload, 1) := by decide +kernel
theorem dL_law_2777 : decode cL_law 2777 = .ok (.invokevirtual 327, 3) := by decide +kernel
theorem dL_law_2780 : decode cL_law 2780 = .ok (.istore 7, 2) := by decide +kernel
theorem dL_law_2782 : decode cL_law 2782 = .ok (.aload_n 2, 1) := by decide +kernel
theorem dL_law_2783 : decode cL_law 2783 = .ok (.invokevirtual 204, 3) := by decide +kernel
theorem dL_law_2786 : decode cL_law 2786 = .ok (.iload 6, 2) := by decide +kernel
theorem dL_law_2788 : decode cL_law 2788 = .ok (.if_icmp .eq 5, 3) := by decide +kernel
theorem dL_law_2791 : decode cL_law 2791 = .ok (.iconst 0, 1) := by decide +kernel
theorem dL_law_2792 : decode cL_law 2792 = .ok (.ireturn, 1) := by decide +kernel
theorem dL_law_2793 : decode cL_law 2793 = .ok (.iload 6, 2) := by decide +kernel
theorem dL_law_2795 : decode cL_law 2795 = .ok (.ifCond .ne 15, 3) := by decide +kernel
theorem dL_law_2798 : decode cL_law 2798 = .ok (.aload_n 3, 1) := by decide +kernel
theorem dL_law_2799 : decode cL_law 2799 = .ok (.iconst 0, 1) := by decide +kernel
theorem dL_law_2800 : decode cL_law 2800 = .ok (.laload, 1) := by decide +kernel
theorem dL_law_2801 : decode cL_law 2801 = .ok (.iload 7, 2) := by decide +kernel
theorem dL_law_2803 : decode cL_law 2803 = .ok (.i2l, 1) := by decide +kernel
theorem dL_law_2804 : decode cL_law 2804 = .ok (.lcmp, 1) := by decide +kernel
theorem dL_law_2805 : decode cL_law 2805 = .ok (.ifCond .eq 5, 3) := by decide +kernel
theorem dL_law_2808 : decode cL_law 2808 = .ok (.iconst 0, 1) := by decide +kernel
theorem dL_law_2809 : decode cL_law 2809 = .ok (.ireturn, 1) := by decide +kernel
theorem dL_law_2810 : decode cL_law 2810 = .ok (.goto 807, 3) := by decide +kernel
theorem dL_law_2813 : decode cL_law 2813 = .ok (.aload_n 1, 1) := by decide +kernel
theorem dL_law_2814 : decode cL_law 2814 = .ok (.invokevirtual 328, 3) := by decide +kernel
theorem dL_law_2817 : decode cL_law 2817 = .ok (.aload_n 2, 1) := by decide +kernel
theorem dL_law_2818 : decode cL_law 2818 = .ok (.invokevirtual 331, 3) := by decide +kernel
theorem dL_law_2821 : decode cL_law 2821 = .ok (.if_icmp .eq 796, 3) := by decide +kernel
theorem dL_law_2824 : decode cL_law 2824 = .ok (.iconst 0, 1) := by decide +kernel
theorem dL_law_2825 : decode cL_law 2825 = .ok (.ireturn, 1) := by decide +kernel
theorem dL_law_2826 : decode cL_law 2826 = .ok (.aload_n 1, 1) := by decide +kernel
theorem dL_law_2827 : decode cL_law 2827 = .ok (.aload_n 0, 1) := by decide +kernel
theorem dL_law_2828 : decode cL_law 2828 = .ok (.iload 5, 2) := by decide +kernel
theorem dL_law_2830 : decode cL_law 2830 = .ok (.iconst 1, 1) := by decide +kernel
theorem dL_law_2831 : decode cL_law 2831 = .ok (.iadd, 1) := by decide +kernel
theorem dL_law_2832 : decode cL_law 2832 = .ok (.iaload, 1) := by decide +kernel
theorem dL_law_2833 : decode cL_law 2833 = .ok (.aload_n 3, 1) := by decide +kernel
theorem dL_law_2834 : decode cL_law 2834 = .ok (.invokestatic 332, 3) := by decide +kernel
theorem dL_law_2837 : decode cL_law 2837 = .ok (.istore 6, 2) := by decide +kernel
theorem dL_law_2839 : decode cL_law 2839 = .ok (.aload_n 2, 1) := by decide +kernel
theorem dL_law_2840 : decode cL_law 2840 = .ok (.aload_n 0, 1) := by decide +kernel
theorem dL_law_2841 : decode cL_law 2841 = .ok (.iload 5, 2) := by decide +kernel
theorem dL_law_2843 : decode cL_law 2843 = .ok (.iconst 1, 1) := by decide +kernel
theorem dL_law_2844 : decode cL_law 2844 = .ok (.iadd, 1) := by decide +kernel
theorem dL_law_2845 : decode cL_law 2845 = .ok (.iaload, 1) := by decide +kernel
theorem dL_law_2846 : decode cL_law 2846 = .ok (.invokevirtual 334, 3) := by decide +kernel
theorem dL_law_2849 : decode cL_law 2849 = .ok (.istore 7, 2) := by decide +kernel
theorem dL_law_2851 : decode cL_law 2851 = .ok (.aload_n 2, 1) := by decide +kernel
theorem dL_law_2852 : decode cL_law 2852 = .ok (.invokevirtual 204, 3) := by decide +kernel
theorem dL_law_2855 : decode cL_law 2855 = .ok (.iload 6, 2) := by decide +kernel
theorem dL_law_2857 : decode cL_law 2857 = .ok (.if_icmp .eq 5, 3) := by decide +kernel
theorem dL_law_2860 : decode cL_law 2860 = .ok (.iconst 0, 1) := by decide +kernel
theorem dL_law_2861 : decode cL_law 2861 = .ok (.ireturn, 1) := by decide +kernel
theorem dL_law_2862 : decode cL_law 2862 = .ok (.iload 6, 2) := by decide +kernel
theorem dL_law_2864 : decode cL_law 2864 = .ok (.ifCond .ne 15, 3) := by decide +kernel
theorem dL_law_2867 : decode cL_law 2867 = .ok (.aload_n 3, 1) := by decide +kernel
theorem dL_law_2868 : decode cL_law 2868 = .ok (.iconst 0, 1) := by decide +kernel
theorem dL_law_2869 : decode cL_law 2869 = .ok (.laload, 1) := by decide +kernel
theorem dL_law_2870 : decode cL_law 2870 = .ok (.iload 7, 2) := by decide +kernel
theorem dL_law_2872 : decode cL_law 2872 = .ok (.i2l, 1) := by decide +kernel
theorem dL_law_2873 : decode cL_law 2873 = .ok (.lcmp, 1) := by decide +kernel
theorem dL_law_2874 : decode cL_law 2874 = .ok (.ifCond .eq 5, 3) := by decide +kernel
theorem dL_law_2877 : decode cL_law 2877 = .ok (.iconst 0, 1) := by decide +kernel
theorem dL_law_2878 : decode cL_law 2878 = .ok (.ireturn, 1) := by decide +kernel
theorem dL_law_2879 : decode cL_law 2879 = .ok (.goto 738, 3) := by decide +kernel
theorem dL_law_2882 : decode cL_law 2882 = .ok (.aload_n 1, 1) := by decide +kernel
theorem dL_law_2883 : decode cL_law 2883 = .ok (.invokevirtual 335, 3) := by decide +kernel
theorem dL_law_2886 : decode cL_law 2886 = .ok (.aload_n 2, 1) := by decide +kernel
theorem dL_law_2887 : decode cL_law 2887 = .ok (.invokevirtual 338, 3) := by decide +kernel
theorem dL_law_2890 : decode cL_law 2890 = .ok (.if_icmp .eq 727, 3) := by decide +kernel
theorem dL_law_2893 : decode cL_law 2893 = .ok (.iconst 0, 1) := by decide +kernel
theorem dL_law_2894 : decode cL_law 2894 = .ok (.ireturn, 1) := by decide +kernel
theorem dL_law_2895 : decode cL_law 2895 = .ok (.aload_n 1, 1) := by decide +kernel
theorem dL_law_2896 : decode cL_law 2896 = .ok (.invokevirtual 339, 3) := by decide +kernel
theorem dL_law_2899 : decode cL_law 2899 = .ok (.aload_n 2, 1) := by decide +kernel
theorem dL_law_2900 : decode cL_law 2900 = .ok (.invokevirtual 342, 3) := by decide +kernel
theorem dL_law_2903 : decode cL_law 2903 = .ok (.if_icmp .eq 714, 3) := by decide +kernel
theorem dL_law_2906 : decode cL_law 2906 = .ok (.iconst 0, 1) := by decide +kernel
theorem dL_law_2907 : decode cL_law 2907 = .ok (.ireturn, 1) := by decide +kernel
theorem dL_law_2908 : decode cL_law 2908 = .ok (.aload_n 1, 1) := by decide +kernel
theorem dL_law_2909 : decode cL_law 2909 = .ok (.invokevirtual 343, 3) := by decide +kernel
theorem dL_law_2912 : decode cL_law 2912 = .ok (.aload_n 2, 1) := by decide +kernel
theorem dL_law_2913 : decode cL_law 2913 = .ok (.invokevirtual 346, 3) := by decide +kernel
theorem dL_law_2916 : decode cL_law 2916 = .ok (.if_icmp .eq 701, 3) := by decide +kernel
theorem dL_law_2919 : decode cL_law 2919 = .ok (.iconst 0, 1) := by decide +kernel
theorem dL_law_2920 : decode cL_law 2920 = .ok (.ireturn, 1) := by decide +kernel
theorem dL_law_2921 : decode cL_law 2921 = .ok (.aload_n 1, 1) := by decide +kernel
theorem dL_law_2922 : decode cL_law 2922 = .ok (.invokevirtual 347, 3) := by decide +kernel
theorem dL_law_2925 : decode cL_law 2925 = .ok (.aload_n 2, 1) := by decide +kernel
theorem dL_law_2926 : decode cL_law 2926 = .ok (.invokevirtual 350, 3) := by decide +kernel
theorem dL_law_2929 : decode cL_law 2929 = .ok (.if_icmp .eq 688, 3) := by decide +kernel
theorem dL_law_2932 : decode cL_law 2932 = .ok (.iconst 0, 1) := by decide +kernel
theorem dL_law_2933 : decode cL_law 2933 = .ok (.ireturn, 1) := by decide +kernel
theorem dL_law_2934 : decode cL_law 2934 = .ok (.aload_n 1, 1) := by decide +kernel
theorem dL_law_2935 : decode cL_law 2935 = .ok (.aload 4, 2) := by decide +kernel
theorem dL_law_2937 : decode cL_law 2937 = .ok (.invokestatic 351, 3) := by decide +kernel
theorem dL_law_2940 : decode cL_law 2940 = .ok (.istore 6, 2) := by decide +kernel
theorem dL_law_2942 : decode cL_law 2942 = .ok (.aload_n 2, 1) := by decide +kernel
theorem dL_law_2943 : decode cL_law 2943 = .ok (.invokevirtual 354, 3) := by decide +kernel
theorem dL_law_2946 : decode cL_law 2946 = .ok (.fstore 7, 2) := by decide +kernel
theorem dL_law_2948 : decode cL_law 2948 = .ok (.aload_n 2, 1) := by decide +kernel
theorem dL_law_2949 : decode cL_law 2949 = .ok (.invokevirtual 204, 3) := by decide +kernel
theorem dL_law_2952 : decode cL_law 2952 = .ok (.iload 6, 2) := by decide +kernel
theorem dL_law_2954 : decode cL_law 2954 = .ok (.if_icmp .eq 5, 3) := by decide +kernel
theorem dL_law_2957 : decode cL_law 2957 = .ok (.iconst 0, 1) := by decide +kernel
theorem dL_law_2958 : decode cL_law 2958 = .ok (.ireturn, 1) := by decide +kernel
theorem dL_law_2959 : decode cL_law 2959 = .ok (.iload 6, 2) := by decide +kernel
theorem dL_law_2961 : decode cL_law 2961 = .ok (.ifCond .ne 36, 3) := by decide +kernel
theorem dL_law_2964 : decode cL_law 2964 = .ok (.aload 4, 2) := by decide +kernel
theorem dL_law_2966 : decode cL_law 2966 = .ok (.iconst 0, 1) := by decide +kernel
theorem dL_law_2967 : decode cL_law 2967 = .ok (.daload, 1) := by decide +kernel
theorem dL_law_2968 : decode cL_law 2968 = .ok (.fload 7, 2) := by decide +kernel
theorem dL_law_2970 : decode cL_law 2970 = .ok (.f2d, 1) := by decide +kernel
theorem dL_law_2971 : decode cL_law 2971 = .ok (.dcmp .l, 1) := by decide +kernel
theorem dL_law_2972 : decode cL_law 2972 = .ok (.ifCond .eq 25, 3) := by decide +kernel
theorem dL_law_2975 : decode cL_law 2975 = .ok (.aload 4, 2) := by decide +kernel
theorem dL_law_2977 : decode cL_law 2977 = .ok (.iconst 0, 1) := by decide +kernel
theorem dL_law_2978 : decode cL_law 2978 = .ok (.daload, 1) := by decide +kernel
theorem dL_law_2979 : decode cL_law 2979 = .ok (.aload 4, 2) := by decide +kernel
theorem dL_law_2981 : decode cL_law 2981 = .ok (.iconst 0, 1) := by decide +kernel
theorem dL_law_2982 : decode cL_law 2982 = .ok (.daload, 1) := by decide +kernel
theorem dL_law_2983 : decode cL_law 2983 = .ok (.dcmp .l, 1) := by decide +kernel
theorem dL_law_2984 : decode cL_law 2984 = .ok (.ifCond .eq 11, 3) := by decide +kernel
theorem dL_law_2987 : decode cL_law 2987 = .ok (.fload 7, 2) := by decide +kernel
theorem dL_law_2989 : decode cL_law 2989 = .ok (.fload 7, 2) := by decide +kernel
theorem dL_law_2991 : decode cL_law 2991 = .ok (.fcmp .l, 1) := by decide +kernel
theorem dL_law_2992 : decode cL_law 2992 = .ok (.ifCond .ne 5, 3) := by decide +kernel
theorem dL_law_2995 : decode cL_law 2995 = .ok (.iconst 0, 1) := by decide +kernel
theorem dL_law_2996 : decode cL_law 2996 = .ok (.ireturn, 1) := by decide +kernel
theorem dL_law_2997 : decode cL_law 2997 = .ok (.goto 620, 3) := by decide +kernel
theorem dL_law_3000 : decode cL_law 3000 = .ok (.aload_n 1, 1) := by decide +kernel
theorem dL_law_3001 : decode cL_law 3001 = .ok (.invokevirtual 355, 3) := by decide +kernel
theorem dL_law_3004 : decode cL_law 3004 = .ok (.aload_n 2, 1) := by decide +kernel
theorem dL_law_3005 : decode cL_law 3005 = .ok (.invokevirtual 359, 3) := by decide +kernel
theorem dL_law_3008 : decode cL_law 3008 = .ok (.if_icmp .eq 609, 3) := by decide +kernel
theorem dL_law_3011 : decode cL_law 3011 = .ok (.iconst 0, 1) := by decide +kernel
theorem dL_law_3012 : decode cL_law 3012 = .ok (.ireturn, 1) := by decide +kernel
theorem dL_law_3013 : decode cL_law 3013 = .ok (.aload_n 1, 1) := by decide +kernel
theorem dL_law_3014 : decode cL_law 3014 = .ok (.aload_n 0, 1) := by decide +kernel
theorem dL_law_3015 : decode cL_law 3015 = .ok (.iload 5, 2) := by decide +kernel
theorem dL_law_3017 : decode cL_law 3017 = .ok (.iconst 1, 1) := by decide +kernel
theorem dL_law_3018 : decode cL_law 3018 = .ok (.iadd, 1) := by decide +kernel
theorem dL_law_3019 : decode cL_law 3019 = .ok (.iaload, 1) := by decide +kernel
theorem dL_law_3020 : decode cL_law 3020 = .ok (.aload_n 3, 1) := by decide +kernel
theorem dL_law_3021 : decode cL_law 3021 = .ok (.invokestatic 360, 3) := by decide +kernel
theorem dL_law_3024 : decode cL_law 3024 = .ok (.istore 6, 2) := by decide +kernel
theorem dL_law_3026 : decode cL_law 3026 = .ok (.aload_n 2, 1) := by decide +kernel
theorem dL_law_3027 : decode cL_law 3027 = .ok (.aload_n 0, 1) := by decide +kernel
theorem dL_law_3028 : decode cL_law 3028 = .ok (.iload 5, 2) := by decide +kernel
theorem dL_law_3030 : decode cL_law 3030 = .ok (.iconst 1, 1) := by decide +kernel
theorem dL_law_3031 : decode cL_law 3031 = .ok (.iadd, 1) := by decide +kernel
theorem dL_law_3032 : decode cL_law 3032 = .ok (.iaload, 1) := by decide +kernel
theorem dL_law_3033 : decode cL_law 3033 = .ok (.invokevirtual 362, 3) := by decide +kernel
theorem dL_law_3036 : decode cL_law 3036 = .ok (.istore 7, 2) := by decide +kernel
theorem dL_law_3038 : decode cL_law 3038 = .ok (.aload_n 2, 1) := by decide +kernel
theorem dL_law_3039 : decode cL_law 3039 = .ok (.invokevirtual 204, 3) := by decide +kernel
theorem dL_law_3042 : decode cL_law 3042 = .ok (.iload 6, 2) := by decide +kernel
theorem dL_law_3044 : decode cL_law 3044 = .ok (.if_icmp .eq 5, 3) := by decide +kernel
theorem dL_law_3047 : decode cL_law 3047 = .ok (.iconst 0, 1) := by decide +kernel
theorem dL_law_3048 : decode cL_law 3048 = .ok (.ireturn, 1) := by decide +kernel
theorem dL_law_3049 : decode cL_law 3049 = .ok (.iload 6, 2) := by decide +kernel
theorem dL_law_3051 : decode cL_law 3051 = .ok (.ifCond .ne 15, 3) := by decide +kernel
theorem dL_law_3054 : decode cL_law 3054 = .ok (.aload_n 3, 1) := by decide +kernel
theorem dL_law_3055 : decode cL_law 3055 = .ok (.iconst 0, 1) := by decide +kernel
theorem dL_law_3056 : decode cL_law 3056 = .ok (.laload, 1) := by decide +kernel
theorem dL_law_3057 : decode cL_law 3057 = .ok (.iload 7, 2) := by decide +kernel
theorem dL_law_3059 : decode cL_law 3059 = .ok (.i2l, 1) := by decide +kernel
theorem dL_law_3060 : decode cL_law 3060 = .ok (.lcmp, 1) := by decide +kernel
theorem dL_law_3061 : decode cL_law 3061 = .ok (.ifCond .eq 5, 3) := by decide +kernel
theorem dL_law_3064 : decode cL_law 3064 = .ok (.iconst 0, 1) := by decide +kernel
theorem dL_law_3065 : decode cL_law 3065 = .ok (.ireturn, 1) := by decide +kernel
theorem dL_law_3066 : decode cL_law 3066 = .ok (.goto 551, 3) := by decide +kernel
theorem dL_law_3069 : decode cL_law 3069 = .ok (.aload_n 1, 1) := by decide +kernel
theorem dL_law_3070 : decode cL_law 3070 = .ok (.aload_n 0, 1) := by decide +kernel
theorem dL_law_3071 : decode cL_law 3071 = .ok (.iload 5, 2) := by decide +kernel
theorem dL_law_3073 : decode cL_law 3073 = .ok (.iconst 1, 1) := by decide +kernel
theorem dL_law_3074 : decode cL_law 3074 = .ok (.iadd, 1) := by decide +kernel
theorem dL_law_3075 : decode cL_law 3075 = .ok (.iaload, 1) := by decide +kernel
theorem dL_law_3076 : decode cL_law 3076 = .ok (.aload_n 3, 1) := by decide +kernel
theorem dL_law_3077 : decode cL_law 3077 = .ok (.invokestatic 363, 3) := by decide +kernel
theorem dL_law_3080 : decode cL_law 3080 = .ok (.istore 6, 2) := by decide +kernel
theorem dL_law_3082 : decode cL_law 3082 = .ok (.aload_n 2, 1) := by decide +kernel
theorem dL_law_3083 : decode cL_law 3083 = .ok (.aload_n 0, 1) := by decide +kernel
theorem dL_law_3084 : decode cL_law 3084 = .ok (.iload 5, 2) := by decide +kernel
theorem dL_law_3086 : decode cL_law 3086 = .ok (.iconst 1, 1) := by decide +kernel
theorem dL_law_3087 : decode cL_law 3087 = .ok (.iadd, 1) := by decide +kernel
theorem dL_law_3088 : decode cL_law 3088 = .ok (.iaload, 1) := by decide +kernel
theorem dL_law_3089 : decode cL_law 3089 = .ok (.invokevirtual 365, 3) := by decide +kernel
theorem dL_law_3092 : decode cL_law 3092 = .ok (.istore 7, 2) := by decide +kernel
theorem dL_law_3094 : decode cL_law 3094 = .ok (.aload_n 2, 1) := by decide +kernel
theorem dL_law_3095 : decode cL_law 3095 = .ok (.invokevirtual 204, 3) := by decide +kernel
theorem dL_law_3098 : decode cL_law 3098 = .ok (.iload 6, 2) := by decide +kernel
theorem dL_law_3100 : decode cL_law 3100 = .ok (.if_icmp .eq 5, 3) := by decide +kernel
theorem dL_law_3103 : decode cL_law 3103 = .ok (.iconst 0, 1) := by decide +kernel
theorem dL_law_3104 : decode cL_law 3104 = .ok (.ireturn, 1) := by decide +kernel
theorem dL_law_3105 : decode cL_law 3105 = .ok (.iload 6, 2) := by decide +kernel
theorem dL_law_3107 : decode cL_law 3107 = .ok (.ifCond .ne 15, 3) := by decide +kernel
theorem dL_law_3110 : decode cL_law 3110 = .ok (.aload_n 3, 1) := by decide +kernel
theorem dL_law_3111 : decode cL_law 3111 = .ok (.iconst 0, 1) := by decide +kernel
theorem dL_law_3112 : decode cL_law 3112 = .ok (.laload, 1) := by decide +kernel
theorem dL_law_3113 : decode cL_law 3113 = .ok (.iload 7, 2) := by decide +kernel
theorem dL_law_3115 : decode cL_law 3115 = .ok (.i2l, 1) := by decide +kernel
theorem dL_law_3116 : decode cL_law 3116 = .ok (.lcmp, 1) := by decide +kernel
theorem dL_law_3117 : decode cL_law 3117 = .ok (.ifCond .eq 5, 3) := by decide +kernel
theorem dL_law_3120 : decode cL_law 3120 = .ok (.iconst 0, 1) := by decide +kernel
theorem dL_law_3121 : decode cL_law 3121 = .ok (.ireturn, 1) := by decide +kernel
theorem dL_law_3122 : decode cL_law 3122 = .ok (.goto 495, 3) := by decide +kernel
theorem dL_law_3125 : decode cL_law 3125 = .ok (.aload_n 1, 1) := by decide +kernel
theorem dL_law_3126 : decode cL_law 3126 = .ok (.aload_n 0, 1) := by decide +kernel
theorem dL_law_3127 : decode cL_law 3127 = .ok (.iload 5, 2) := by decide +kernel
theorem dL_law_3129 : decode cL_law 3129 = .ok (.iconst 1, 1) := by decide +kernel
theorem dL_law_3130 : decode cL_law 3130 = .ok (.iadd, 1) := by decide +kernel
theorem dL_law_3131 : decode cL_law 3131 = .ok (.iaload, 1) := by decide +kernel
theorem dL_law_3132 : decode cL_law 3132 = .ok (.aload_n 3, 1) := by decide +kernel
theorem dL_law_3133 : decode cL_law 3133 = .ok (.invokestatic 366, 3) := by decide +kernel
theorem dL_law_3136 : decode cL_law 3136 = .ok (.istore 6, 2) := by decide +kernel
theorem dL_law_3138 : decode cL_law 3138 = .ok (.aload_n 2, 1) := by decide +kernel
theorem dL_law_3139 : decode cL_law 3139 = .ok (.aload_n 0, 1) := by decide +kernel
theorem dL_law_3140 : decode cL_law 3140 = .ok (.iload 5, 2) := by decide +kernel
theorem dL_law_3142 : decode cL_law 3142 = .ok (.iconst 1, 1) := by decide +kernel
theorem dL_law_3143 : decode cL_law 3143 = .ok (.iadd, 1) := by decide +kernel
theorem dL_law_3144 : decode cL_law 3144 = .ok (.iaload, 1) := by decide +kernel
theorem dL_law_3145 : decode cL_law 3145 = .ok (.invokevirtual 368, 3) := by decide +kernel
theorem dL_law_3148 : decode cL_law 3148 = .ok (.istore 7, 2) := by decide +kernel
theorem dL_law_3150 : decode cL_law 3150 = .ok (.aload_n 2, 1) := by decide +kernel
theorem dL_law_3151 : decode cL_law 3151 = .ok (.invokevirtual 204, 3) := by decide +kernel
theorem dL_law_3154 : decode cL_law 3154 = .ok (.iload 6, 2) := by decide +kernel
theorem dL_law_3156 : decode cL_law 3156 = .ok (.if_icmp .eq 5, 3) := by decide +kernel
theorem dL_law_3159 : decode cL_law 3159 = .ok (.iconst 0, 1) := by decide +kernel
theorem dL_law_3160 : decode cL_law 3160 = .ok (.ireturn, 1) := by decide +kernel
theorem dL_law_3161 : decode cL_law 3161 = .ok (.iload 6, 2) := by decide +kernel
theorem dL_law_3163 : decode cL_law 3163 = .ok (.ifCond .ne 15, 3) := by decide +kernel
theorem dL_law_3166 : decode cL_law 3166 = .ok (.aload_n 3, 1) := by decide +kernel
theorem dL_law_3167 : decode cL_law 3167 = .ok (.iconst 0, 1) := by decide +kernel
theorem dL_law_3168 : decode cL_law 3168 = .ok (.laload, 1) := by decide +kernel
theorem dL_law_3169 : decode cL_law 3169 = .ok (.iload 7, 2) := by decide +kernel
theorem dL_law_3171 : decode cL_law 3171 = .ok (.i2l, 1) := by decide +kernel
theorem dL_law_3172 : decode cL_law 3172 = .ok (.lcmp, 1) := by decide +kernel
theorem dL_law_3173 : decode cL_law 3173 = .ok (.ifCond .eq 5, 3) := by decide +kernel
theorem dL_law_3176 : decode cL_law 3176 = .ok (.iconst 0, 1) := by decide +kernel
theorem dL_law_3177 : decode cL_law 3177 = .ok (.ireturn, 1) := by decide +kernel
theorem dL_law_3178 : decode cL_law 3178 = .ok (.goto 439, 3) := by decide +kernel
theorem dL_law_3181 : decode cL_law 3181 = .ok (.aload_n 1, 1) := by decide +kernel
theorem dL_law_3182 : decode cL_law 3182 = .ok (.aload_n 0, 1) := by decide +kernel
theorem dL_law_3183 : decode cL_law 3183 = .ok (.iload 5, 2) := by decide +kernel
theorem dL_law_3185 : decode cL_law 3185 = .ok (.iconst 1, 1) := by decide +kernel
theorem dL_law_3186 : decode cL_law 3186 = .ok (.iadd, 1) := by decide +kernel
theorem dL_law_3187 : decode cL_law 3187 = .ok (.iaload, 1) := by decide +kernel
theorem dL_law_3188 : decode cL_law 3188 = .ok (.i2c, 1) := by decide +kernel
theorem dL_law_3189 : decode cL_law 3189 = .ok (.aload_n 3, 1) := by decide +kernel
theorem dL_law_3190 : decode cL_law 3190 = .ok (.invokestatic 369, 3) := by decide +kernel
theorem dL_law_3193 : decode cL_law 3193 = .ok (.istore 6, 2) := by decide +kernel
theorem dL_law_3195 : decode cL_law 3195 = .ok (.aload_n 2, 1) := by decide +kernel
theorem dL_law_3196 : decode cL_law 3196 = .ok (.aload_n 0, 1) := by decide +kernel
theorem dL_law_3197 : decode cL_law 3197 = .ok (.iload 5, 2) := by decide +kernel
theorem dL_law_3199 : decode cL_law 3199 = .ok (.iconst 1, 1) := by decide +kernel
theorem dL_law_3200 : decode cL_law 3200 = .ok (.iadd, 1) := by decide +kernel
theorem dL_law_3201 : decode cL_law 3201 = .ok (.iaload, 1) := by decide +kernel
theorem dL_law_3202 : decode cL_law 3202 = .ok (.i2c, 1) := by decide +kernel
theorem dL_law_3203 : decode cL_law 3203 = .ok (.invokevirtual 372, 3) := by decide +kernel
theorem dL_law_3206 : decode cL_law 3206 = .ok (.istore 7, 2) := by decide +kernel
theorem dL_law_3208 : decode cL_law 3208 = .ok (.aload_n 2, 1) := by decide +kernel
theorem dL_law_3209 : decode cL_law 3209 = .ok (.invokevirtual 204, 3) := by decide +kernel
theorem dL_law_3212 : decode cL_law 3212 = .ok (.iload 6, 2) := by decide +kernel
theorem dL_law_3214 : decode cL_law 3214 = .ok (.if_icmp .eq 5, 3) := by decide +kernel
theorem dL_law_3217 : decode cL_law 3217 = .ok (.iconst 0, 1) := by decide +kernel
theorem dL_law_3218 : decode cL_law 3218 = .ok (.ireturn, 1) := by decide +kernel
theorem dL_law_3219 : decode cL_law 3219 = .ok (.iload 6, 2) := by decide +kernel
theorem dL_law_3221 : decode cL_law 3221 = .ok (.ifCond .ne 15, 3) := by decide +kernel
theorem dL_law_3224 : decode cL_law 3224 = .ok (.aload_n 3, 1) := by decide +kernel
theorem dL_law_3225 : decode cL_law 3225 = .ok (.iconst 0, 1) := by decide +kernel
theorem dL_law_3226 : decode cL_law 3226 = .ok (.laload, 1) := by decide +kernel
theorem dL_law_3227 : decode cL_law 3227 = .ok (.iload 7, 2) := by decide +kernel
theorem dL_law_3229 : decode cL_law 3229 = .ok (.i2l, 1) := by decide +kernel
theorem dL_law_3230 : decode cL_law 3230 = .ok (.lcmp, 1) := by decide +kernel
theorem dL_law_3231 : decode cL_law 3231 = .ok (.ifCond .eq 5, 3) := by decide +kernel
theorem dL_law_3234 : decode cL_law 3234 = .ok (.iconst 0, 1) := by decide +kernel
theorem dL_law_3235 : decode cL_law 3235 = .ok (.ireturn, 1) := by decide +kernel
theorem dL_law_3236 : decode cL_law 3236 = .ok (.goto 381, 3) := by decide +kernel
theorem dL_law_3239 : decode cL_law 3239 = .ok (.aload_n 1, 1) := by decide +kernel
theorem dL_law_3240 : decode cL_law 3240 = .ok (.aload_n 3, 1) := by decide +kernel
theorem dL_law_3241 : decode cL_law 3241 = .ok (.invokestatic 373, 3) := by decide +kernel
theorem dL_law_3244 : decode cL_law 3244 = .ok (.istore 6, 2) := by decide +kernel
theorem dL_law_3246 : decode cL_law 3246 = .ok (.aload_n 2, 1) := by decide +kernel
theorem dL_law_3247 : decode cL_law 3247 = .ok (.invokevirtual 376, 3) := by decide +kernel
theorem dL_law_3250 : decode cL_law 3250 = .ok (.istore 7, 2) := by decide +kernel
theorem dL_law_3252 : decode cL_law 3252 = .ok (.aload_n 2, 1) := by decide +kernel
theorem dL_law_3253 : decode cL_law 3253 = .ok (.invokevirtual 204, 3) := by decide +kernel
theorem dL_law_3256 : decode cL_law 3256 = .ok (.iload 6, 2) := by decide +kernel
theorem dL_law_3258 : decode cL_law 3258 = .ok (.if_icmp .eq 5, 3) := by decide +kernel
theorem dL_law_3261 : decode cL_law 3261 = .ok (.iconst 0, 1) := by decide +kernel
theorem dL_law_3262 : decode cL_law 3262 = .ok (.ireturn, 1) := by decide +kernel
theorem dL_law_3263 : decode cL_law 3263 = .ok (.iload 6, 2) := by decide +kernel
theorem dL_law_3265 : decode cL_law 3265 = .ok (.ifCond .ne 15, 3) := by decide +kernel
theorem dL_law_3268 : decode cL_law 3268 = .ok (.aload_n 3, 1) := by decide +kernel
theorem dL_law_3269 : decode cL_law 3269 = .ok (.iconst 0, 1) := by decide +kernel
theorem dL_law_3270 : decode cL_law 3270 = .ok (.laload, 1) := by decide +kernel
theorem dL_law_3271 : decode cL_law 3271 = .ok (.iload 7, 2) := by decide +kernel
theorem dL_law_3273 : decode cL_law 3273 = .ok (.i2l, 1) := by decide +kernel
theorem dL_law_3274 : decode cL_law 3274 = .ok (.lcmp, 1) := by decide +kernel
theorem dL_law_3275 : decode cL_law 3275 = .ok (.ifCond .eq 5, 3) := by decide +kernel
theorem dL_law_3278 : decode cL_law 3278 = .ok (.iconst 0, 1) := by decide +kernel
theorem dL_law_3279 : decode cL_law 3279 = .ok (.ireturn, 1) := by decide +kernel
theorem dL_law_3280 : decode cL_law 3280 = .ok (.goto 337, 3) := by decide +kernel
theorem dL_law_3283 : decode cL_law 3283 = .ok (.aload_n 1, 1) := by decide +kernel
theorem dL_law_3284 : decode cL_law 3284 = .ok (.aload_n 3, 1) := by decide +kernel
theorem dL_law_3285 : decode cL_law 3285 = .ok (.invokestatic 377, 3) := by decide +kernel
theorem dL_law_3288 : decode cL_law 3288 = .ok (.istore 6, 2) := by decide +kernel
theorem dL_law_3290 : decode cL_law 3290 = .ok (.aload_n 2, 1) := by decide +kernel
theorem dL_law_3291 : decode cL_law 3291 = .ok (.invokevirtual 379, 3) := by decide +kernel
theorem dL_law_3294 : decode cL_law 3294 = .ok (.istore 7, 2) := by decide +kernel
theorem dL_law_3296 : decode cL_law 3296 = .ok (.aload_n 2, 1) := by decide +kernel
theorem dL_law_3297 : decode cL_law 3297 = .ok (.invokevirtual 204, 3) := by decide +kernel
theorem dL_law_3300 : decode cL_law 3300 = .ok (.iload 6, 2) := by decide +kernel
theorem dL_law_3302 : decode cL_law 3302 = .ok (.if_icmp .eq 5, 3) := by decide +kernel
theorem dL_law_3305 : decode cL_law 3305 = .ok (.iconst 0, 1) := by decide +kernel
theorem dL_law_3306 : decode cL_law 3306 = .ok (.ireturn, 1) := by decide +kernel
theorem dL_law_3307 : decode cL_law 3307 = .ok (.iload 6, 2) := by decide +kernel
theorem dL_law_3309 : decode cL_law 3309 = .ok (.ifCond .ne 15, 3) := by decide +kernel
theorem dL_law_3312 : decode cL_law 3312 = .ok (.aload_n 3, 1) := by decide +kernel
theorem dL_law_3313 : decode cL_law 3313 = .ok (.iconst 0, 1) := by decide +kernel
theorem dL_law_3314 : decode cL_law 3314 = .ok (.laload, 1) := by decide +kernel
theorem dL_law_3315 : decode cL_law 3315 = .ok (.iload 7, 2) := by decide +kernel
theorem dL_law_3317 : decode cL_law 3317 = .ok (.i2l, 1) := by decide +kernel
theorem dL_law_3318 : decode cL_law 3318 = .ok (.lcmp, 1) := by decide +kernel
theorem dL_law_3319 : decode cL_law 3319 = .ok (.ifCond .eq 5, 3) := by decide +kernel
theorem dL_law_3322 : decode cL_law 3322 = .ok (.iconst 0, 1) := by decide +kernel
theorem dL_law_3323 : decode cL_law 3323 = .ok (.ireturn, 1) := by decide +kernel
theorem dL_law_3324 : decode cL_law 3324 = .ok (.goto 293, 3) := by decide +kernel
theorem dL_law_3327 : decode cL_law 3327 = .ok (.aload_n 1, 1) := by decide +kernel
theorem dL_law_3328 : decode cL_law 3328 = .ok (.aload_n 3, 1) := by decide +kernel
theorem dL_law_3329 : decode cL_law 3329 = .ok (.invokestatic 380, 3) := by decide +kernel
theorem dL_law_3332 : decode cL_law 3332 = .ok (.istore 6, 2) := by decide +kernel
theorem dL_law_3334 : decode cL_law 3334 = .ok (.aload_n 2, 1) := by decide +kernel
theorem dL_law_3335 : decode cL_law 3335 = .ok (.invokevirtual 382, 3) := by decide +kernel
theorem dL_law_3338 : decode cL_law 3338 = .ok (.istore 7, 2) := by decide +kernel
theorem dL_law_3340 : decode cL_law 3340 = .ok (.aload_n 2, 1) := by decide +kernel
theorem dL_law_3341 : decode cL_law 3341 = .ok (.invokevirtual 204, 3) := by decide +kernel
theorem dL_law_3344 : decode cL_law 3344 = .ok (.iload 6, 2) := by decide +kernel
theorem dL_law_3346 : decode cL_law 3346 = .ok (.if_icmp .eq 5, 3) := by decide +kernel
theorem dL_law_3349 : decode cL_law 3349 = .ok (.iconst 0, 1) := by decide +kernel
theorem dL_law_3350 : decode cL_law 3350 = .ok (.ireturn, 1) := by decide +kernel
theorem dL_law_3351 : decode cL_law 3351 = .ok (.iload 6, 2) := by decide +kernel
theorem dL_law_3353 : decode cL_law 3353 = .ok (.ifCond .ne 15, 3) := by decide +kernel
theorem dL_law_3356 : decode cL_law 3356 = .ok (.aload_n 3, 1) := by decide +kernel
theorem dL_law_3357 : decode cL_law 3357 = .ok (.iconst 0, 1) := by decide +kernel
theorem dL_law_3358 : decode cL_law 3358 = .ok (.laload, 1) := by decide +kernel
theorem dL_law_3359 : decode cL_law 3359 = .ok (.iload 7, 2) := by decide +kernel
theorem dL_law_3361 : decode cL_law 3361 = .ok (.i2l, 1) := by decide +kernel
theorem dL_law_3362 : decode cL_law 3362 = .ok (.lcmp, 1) := by decide +kernel
theorem dL_law_3363 : decode cL_law 3363 = .ok (.ifCond .eq 5, 3) := by decide +kernel
theorem dL_law_3366 : decode cL_law 3366 = .ok (.iconst 0, 1) := by decide +kernel
theorem dL_law_3367 : decode cL_law 3367 = .ok (.ireturn, 1) := by decide +kernel
theorem dL_law_3368 : decode cL_law 3368 = .ok (.goto 249, 3) := by decide +kernel
theorem dL_law_3371 : decode cL_law 3371 = .ok (.aload_n 1, 1) := by decide +kernel
theorem dL_law_3372 : decode cL_law 3372 = .ok (.aload_n 3, 1) := by decide +kernel
theorem dL_law_3373 : decode cL_law 3373 = .ok (.invokestatic 383, 3) := by decide +kernel
theorem dL_law_3376 : decode cL_law 3376 = .ok (.istore 6, 2) := by decide +kernel
theorem dL_law_3378 : decode cL_law 3378 = .ok (.aload_n 2, 1) := by decide +kernel
theorem dL_law_3379 : decode cL_law 3379 = .ok (.invokevirtual 385, 3) := by decide +kernel
theorem dL_law_3382 : decode cL_law 3382 = .ok (.istore 7, 2) := by decide +kernel
theorem dL_law_3384 : decode cL_law 3384 = .ok (.aload_n 2, 1) := by decide +kernel
theorem dL_law_3385 : decode cL_law 3385 = .ok (.invokevirtual 204, 3) := by decide +kernel
theorem dL_law_3388 : decode cL_law 3388 = .ok (.iload 6, 2) := by decide +kernel
theorem dL_law_3390 : decode cL_law 3390 = .ok (.if_icmp .eq 5, 3) := by decide +kernel
theorem dL_law_3393 : decode cL_law 3393 = .ok (.iconst 0, 1) := by decide +kernel
theorem dL_law_3394 : decode cL_law 3394 = .ok (.ireturn, 1) := by decide +kernel
theorem dL_law_3395 : decode cL_law 3395 = .ok (.iload 6, 2) := by decide +kernel
theorem dL_law_3397 : decode cL_law 3397 = .ok (.ifCond .ne 15, 3) := by decide +kernel
theorem dL_law_3400 : decode cL_law 3400 = .ok (.aload_n 3, 1) := by decide +kernel
theorem dL_law_3401 : decode cL_law 3401 = .ok (.iconst 0, 1) := by decide +kernel
theorem dL_law_3402 : decode cL_law 3402 = .ok (.laload, 1) := by decide +kernel
theorem dL_law_3403 : decode cL_law 3403 = .ok (.iload 7, 2) := by decide +kernel
theorem dL_law_3405 : decode cL_law 3405 = .ok (.i2l, 1) := by decide +kernel
theorem dL_law_3406 : decode cL_law 3406 = .ok (.lcmp, 1) := by decide +kernel
theorem dL_law_3407 : decode cL_law 3407 = .ok (.ifCond .eq 5, 3) := by decide +kernel
theorem dL_law_3410 : decode cL_law 3410 = .ok (.iconst 0, 1) := by decide +kernel
theorem dL_law_3411 : decode cL_law 3411 = .ok (.ireturn, 1) := by decide +kernel
theorem dL_law_3412 : decode cL_law 3412 = .ok (.goto 205, 3) := by decide +kernel
theorem dL_law_3415 : decode cL_law 3415 = .ok (.aload_n 1, 1) := by decide +kernel
theorem dL_law_3416 : decode cL_law 3416 = .ok (.aload_n 3, 1) := by decide +kernel
theorem dL_law_3417 : decode cL_law 3417 = .ok (.invokestatic 386, 3) := by decide +kernel
theorem dL_law_3420 : decode cL_law 3420 = .ok (.istore 6, 2) := by decide +kernel
theorem dL_law_3422 : decode cL_law 3422 = .ok (.aload_n 2, 1) := by decide +kernel
theorem dL_law_3423 : decode cL_law 3423 = .ok (.invokevirtual 388, 3) := by decide +kernel
theorem dL_law_3426 : decode cL_law 3426 = .ok (.istore 7, 2) := by decide +kernel
theorem dL_law_3428 : decode cL_law 3428 = .ok (.aload_n 2, 1) := by decide +kernel
theorem dL_law_3429 : decode cL_law 3429 = .ok (.invokevirtual 204, 3) := by decide +kernel
theorem dL_law_3432 : decode cL_law 3432 = .ok (.iload 6, 2) := by decide +kernel
theorem dL_law_3434 : decode cL_law 3434 = .ok (.if_icmp .eq 5, 3) := by decide +kernel
theorem dL_law_3437 : decode cL_law 3437 = .ok (.iconst 0, 1) := by decide +kernel
theorem dL_law_3438 : decode cL_law 3438 = .ok (.ireturn, 1) := by decide +kernel
theorem dL_law_3439 : decode cL_law 3439 = .ok (.iload 6, 2) := by decide +kernel
theorem dL_law_3441 : decode cL_law 3441 = .ok (.ifCond .ne 15, 3) := by decide +kernel
theorem dL_law_3444 : decode cL_law 3444 = .ok (.aload_n 3, 1) := by decide +kernel
theorem dL_law_3445 : decode cL_law 3445 = .ok (.iconst 0, 1) := by decide +kernel
theorem dL_law_3446 : decode cL_law 3446 = .ok (.laload, 1) := by decide +kernel
theorem dL_law_3447 : decode cL_law 3447 = .ok (.iload 7, 2) := by decide +kernel
theorem dL_law_3449 : decode cL_law 3449 = .ok (.i2l, 1) := by decide +kernel
theorem dL_law_3450 : decode cL_law 3450 = .ok (.lcmp, 1) := by decide +kernel
theorem dL_law_3451 : decode cL_law 3451 = .ok (.ifCond .eq 5, 3) := by decide +kernel
theorem dL_law_3454 : decode cL_law 3454 = .ok (.iconst 0, 1) := by decide +kernel
theorem dL_law_3455 : decode cL_law 3455 = .ok (.ireturn, 1) := by decide +kernel
theorem dL_law_3456 : decode cL_law 3456 = .ok (.goto 161, 3) := by decide +kernel
theorem dL_law_3459 : decode cL_law 3459 = .ok (.aload_n 1, 1) := by decide +kernel
theorem dL_law_3460 : decode cL_law 3460 = .ok (.aload_n 3, 1) := by decide +kernel
theorem dL_law_3461 : decode cL_law 3461 = .ok (.invokestatic 389, 3) := by decide +kernel
theorem dL_law_3464 : decode cL_law 3464 = .ok (.istore 6, 2) := by decide +kernel
theorem dL_law_3466 : decode cL_law 3466 = .ok (.aload_n 2, 1) := by decide +kernel
theorem dL_law_3467 : decode cL_law 3467 = .ok (.invokevirtual 391, 3) := by decide +kernel
theorem dL_law_3470 : decode cL_law 3470 = .ok (.istore 7, 2) := by decide +kernel
theorem dL_law_3472 : decode cL_law 3472 = .ok (.aload_n 2, 1) := by decide +kernel
theorem dL_law_3473 : decode cL_law 3473 = .ok (.invokevirtual 204, 3) := by decide +kernel
theorem dL_law_3476 : decode cL_law 3476 = .ok (.iload 6, 2) := by decide +kernel
theorem dL_law_3478 : decode cL_law 3478 = .ok (.if_icmp .eq 5, 3) := by decide +kernel
theorem dL_law_3481 : decode cL_law 3481 = .ok (.iconst 0, 1) := by decide +kernel
theorem dL_law_3482 : decode cL_law 3482 = .ok (.ireturn, 1) := by decide +kernel
theorem dL_law_3483 : decode cL_law 3483 = .ok (.iload 6, 2) := by decide +kernel
theorem dL_law_3485 : decode cL_law 3485 = .ok (.ifCond .ne 15, 3) := by decide +kernel
theorem dL_law_3488 : decode cL_law 3488 = .ok (.aload_n 3, 1) := by decide +kernel
theorem dL_law_3489 : decode cL_law 3489 = .ok (.iconst 0, 1) := by decide +kernel
theorem dL_law_3490 : decode cL_law 3490 = .ok (.laload, 1) := by decide +kernel
theorem dL_law_3491 : decode cL_law 3491 = .ok (.iload 7, 2) := by decide +kernel
theorem dL_law_3493 : decode cL_law 3493 = .ok (.i2l, 1) := by decide +kernel
theorem dL_law_3494 : decode cL_law 3494 = .ok (.lcmp, 1) := by decide +kernel
theorem dL_law_3495 : decode cL_law 3495 = .ok (.ifCond .eq 5, 3) := by decide +kernel
theorem dL_law_3498 : decode cL_law 3498 = .ok (.iconst 0, 1) := by decide +kernel
theorem dL_law_3499 : decode cL_law 3499 = .ok (.ireturn, 1) := by decide +kernel
theorem dL_law_3500 : decode cL_law 3500 = .ok (.goto 117, 3) := by decide +kernel
theorem dL_law_3503 : decode cL_law 3503 = .ok (.aload_n 1, 1) := by decide +kernel
theorem dL_law_3504 : decode cL_law 3504 = .ok (.aload_n 3, 1) := by decide +kernel
theorem dL_law_3505 : decode cL_law 3505 = .ok (.invokestatic 392, 3) := by decide +kernel
theorem dL_law_3508 : decode cL_law 3508 = .ok (.istore 6, 2) := by decide +kernel
theorem dL_law_3510 : decode cL_law 3510 = .ok (.aload_n 2, 1) := by decide +kernel
theorem dL_law_3511 : decode cL_law 3511 = .ok (.invokevirtual 394, 3) := by decide +kernel
theorem dL_law_3514 : decode cL_law 3514 = .ok (.istore 7, 2) := by decide +kernel
theorem dL_law_3516 : decode cL_law 3516 = .ok (.aload_n 2, 1) := by decide +kernel
theorem dL_law_3517 : decode cL_law 3517 = .ok (.invokevirtual 204, 3) := by decide +kernel
theorem dL_law_3520 : decode cL_law 3520 = .ok (.iload 6, 2) := by decide +kernel
theorem dL_law_3522 : decode cL_law 3522 = .ok (.if_icmp .eq 5, 3) := by decide +kernel
theorem dL_law_3525 : decode cL_law 3525 = .ok (.iconst 0, 1) := by decide +kernel
theorem dL_law_3526 : decode cL_law 3526 = .ok (.ireturn, 1) := by decide +kernel
theorem dL_law_3527 : decode cL_law 3527 = .ok (.iload 6, 2) := by decide +kernel
theorem dL_law_3529 : decode cL_law 3529 = .ok (.ifCond .ne 15, 3) := by decide +kernel
theorem dL_law_3532 : decode cL_law 3532 = .ok (.aload_n 3, 1) := by decide +kernel
theorem dL_law_3533 : decode cL_law 3533 = .ok (.iconst 0, 1) := by decide +kernel
theorem dL_law_3534 : decode cL_law 3534 = .ok (.laload, 1) := by decide +kernel
theorem dL_law_3535 : decode cL_law 3535 = .ok (.iload 7, 2) := by decide +kernel
theorem dL_law_3537 : decode cL_law 3537 = .ok (.i2l, 1) := by decide +kernel
theorem dL_law_3538 : decode cL_law 3538 = .ok (.lcmp, 1) := by decide +kernel
theorem dL_law_3539 : decode cL_law 3539 = .ok (.ifCond .eq 5, 3) := by decide +kernel
theorem dL_law_3542 : decode cL_law 3542 = .ok (.iconst 0, 1) := by decide +kernel
theorem dL_law_3543 : decode cL_law 3543 = .ok (.ireturn, 1) := by decide +kernel
theorem dL_law_3544 : decode cL_law 3544 = .ok (.goto 73, 3) := by decide +kernel
theorem dL_law_3547 : decode cL_law 3547 = .ok (.aload_n 1, 1) := by decide +kernel
theorem dL_law_3548 : decode cL_law 3548 = .ok (.invokevirtual 395, 3) := by decide +kernel
theorem dL_law_3551 : decode cL_law 3551 = .ok (.aload_n 2, 1) := by decide +kernel
theorem dL_law_3552 : decode cL_law 3552 = .ok (.invokevirtual 398, 3) := by decide +kernel
theorem dL_law_3555 : decode cL_law 3555 = .ok (.if_icmp .eq 62, 3) := by decide +kernel
theorem dL_law_3558 : decode cL_law 3558 = .ok (.iconst 0, 1) := by decide +kernel
theorem dL_law_3559 : decode cL_law 3559 = .ok (.ireturn, 1) := by decide +kernel
theorem dL_law_3560 : decode cL_law 3560 = .ok (.aload_n 1, 1) := by decide +kernel
theorem dL_law_3561 : decode cL_law 3561 = .ok (.invokevirtual 399, 3) := by decide +kernel
theorem dL_law_3564 : decode cL_law 3564 = .ok (.aload_n 2, 1) := by decide +kernel
theorem dL_law_3565 : decode cL_law 3565 = .ok (.invokevirtual 402, 3) := by decide +kernel
theorem dL_law_3568 : decode cL_law 3568 = .ok (.if_icmp .eq 49, 3) := by decide +kernel
theorem dL_law_3571 : decode cL_law 3571 = .ok (.iconst 0, 1) := by decide +kernel
theorem dL_law_3572 : decode cL_law 3572 = .ok (.ireturn, 1) := by decide +kernel
theorem dL_law_3573 : decode cL_law 3573 = .ok (.aload_n 1, 1) := by decide +kernel
theorem dL_law_3574 : decode cL_law 3574 = .ok (.aload_n 3, 1) := by decide +kernel
theorem dL_law_3575 : decode cL_law 3575 = .ok (.invokestatic 403, 3) := by decide +kernel
theorem dL_law_3578 : decode cL_law 3578 = .ok (.istore 6, 2) := by decide +kernel
theorem dL_law_3580 : decode cL_law 3580 = .ok (.aload_n 2, 1) := by decide +kernel
theorem dL_law_3581 : decode cL_law 3581 = .ok (.invokevirtual 405, 3) := by decide +kernel
theorem dL_law_3584 : decode cL_law 3584 = .ok (.istore 7, 2) := by decide +kernel
theorem dL_law_3586 : decode cL_law 3586 = .ok (.aload_n 2, 1) := by decide +kernel
theorem dL_law_3587 : decode cL_law 3587 = .ok (.invokevirtual 204, 3) := by decide +kernel
theorem dL_law_3590 : decode cL_law 3590 = .ok (.iload 6, 2) := by decide +kernel
theorem dL_law_3592 : decode cL_law 3592 = .ok (.if_icmp .eq 5, 3) := by decide +kernel
theorem dL_law_3595 : decode cL_law 3595 = .ok (.iconst 0, 1) := by decide +kernel
theorem dL_law_3596 : decode cL_law 3596 = .ok (.ireturn, 1) := by decide +kernel
theorem dL_law_3597 : decode cL_law 3597 = .ok (.iload 6, 2) := by decide +kernel
theorem dL_law_3599 : decode cL_law 3599 = .ok (.ifCond .ne 15, 3) := by decide +kernel
theorem dL_law_3602 : decode cL_law 3602 = .ok (.aload_n 3, 1) := by decide +kernel
theorem dL_law_3603 : decode cL_law 3603 = .ok (.iconst 0, 1) := by decide +kernel
theorem dL_law_3604 : decode cL_law 3604 = .ok (.laload, 1) := by decide +kernel
theorem dL_law_3605 : decode cL_law 3605 = .ok (.iload 7, 2) := by decide +kernel
theorem dL_law_3607 : decode cL_law 3607 = .ok (.i2l, 1) := by decide +kernel
theorem dL_law_3608 : decode cL_law 3608 = .ok (.lcmp, 1) := by decide +kernel
theorem dL_law_3609 : decode cL_law 3609 = .ok (.ifCond .eq 5, 3) := by decide +kernel
theorem dL_law_3612 : decode cL_law 3612 = .ok (.iconst 0, 1) := by decide +kernel
theorem dL_law_3613 : decode cL_law 3613 = .ok (.ireturn, 1) := by decide +kernel
theorem dL_law_3614 : decode cL_law 3614 = .ok (.goto 3, 3) := by decide +kernel
theorem dL_law_3617 : decode cL_law 3617 = .ok (.iinc 5 7, 3) := by decide +kernel
theorem dL_law_3620 : decode cL_law 3620 = .ok (.goto (-3592), 3) := by decide +kernel
theorem dL_law_3623 : decode cL_law 3623 = .ok (.iconst 1, 1) := by decide +kernel
theorem dL_law_3624 : decode cL_law 3624 = .ok (.ireturn, 1) := by decide +kernel
