theorem d_Lw_law_735 : decode code 735 = .ok (.ifCond .eq 5, 3) := by decide +kernel
theorem d_Lw_law_738 : decode code 738 = .ok (.iconst 0, 1) := by decide +kernel
theorem d_Lw_law_739 : decode code 739 = .ok (.ireturn, 1) := by decide +kernel
theorem d_Lw_law_740 : decode code 740 = .ok (.goto 607, 3) := by decide +kernel
theorem d_Lw_law_743 : decode code 743 = .ok (.aload_n 1, 1) := by decide +kernel
theorem d_Lw_law_744 : decode code 744 = .ok (.aload_n 0, 1) := by decide +kernel
theorem d_Lw_law_745 : decode code 745 = .ok (.iload 4, 2) := by decide +kernel
theorem d_Lw_law_747 : decode code 747 = .ok (.iconst 1, 1) := by decide +kernel
theorem d_Lw_law_748 : decode code 748 = .ok (.iadd, 1) := by decide +kernel
theorem d_Lw_law_749 : decode code 749 = .ok (.iaload, 1) := by decide +kernel
theorem d_Lw_law_750 : decode code 750 = .ok (.aload_n 0, 1) := by decide +kernel
theorem d_Lw_law_751 : decode code 751 = .ok (.iload 4, 2) := by decide +kernel
theorem d_Lw_law_753 : decode code 753 = .ok (.iconst 2, 1) := by decide +kernel
theorem d_Lw_law_754 : decode code 754 = .ok (.iadd, 1) := by decide +kernel
theorem d_Lw_law_755 : decode code 755 = .ok (.iaload, 1) := by decide +kernel
theorem d_Lw_law_756 : decode code 756 = .ok (.aload_n 3, 1) := by decide +kernel
theorem d_Lw_law_757 : decode code 757 = .ok (.invokestatic 122, 3) := by decide +kernel
theorem d_Lw_law_760 : decode code 760 = .ok (.istore 5, 2) := by decide +kernel
theorem d_Lw_law_762 : decode code 762 = .ok (.aload_n 2, 1) := by decide +kernel
theorem d_Lw_law_763 : decode code 763 = .ok (.aload_n 0, 1) := by decide +kernel
theorem d_Lw_law_764 : decode code 764 = .ok (.iload 4, 2) := by decide +kernel
theorem d_Lw_law_766 : decode code 766 = .ok (.iconst 1, 1) := by decide +kernel
theorem d_Lw_law_767 : decode code 767 = .ok (.iadd, 1) := by decide +kernel
theorem d_Lw_law_768 : decode code 768 = .ok (.iaload, 1) := by decide +kernel
theorem d_Lw_law_769 : decode code 769 = .ok (.aload_n 0, 1) := by decide +kernel
theorem d_Lw_law_770 : decode code 770 = .ok (.iload 4, 2) := by decide +kernel
theorem d_Lw_law_772 : decode code 772 = .ok (.iconst 2, 1) := by decide +kernel
theorem d_Lw_law_773 : decode code 773 = .ok (.iadd, 1) := by decide +kernel
theorem d_Lw_law_774 : decode code 774 = .ok (.iaload, 1) := by decide +kernel
theorem d_Lw_law_775 : decode code 775 = .ok (.invokevirtual 124, 3) := by decide +kernel
theorem d_Lw_law_778 : decode code 778 = .ok (.lstore 6, 2) := by decide +kernel
theorem d_Lw_law_780 : decode code 780 = .ok (.aload_n 2, 1) := by decide +kernel
theorem d_Lw_law_781 : decode code 781 = .ok (.invokevirtual 89, 3) := by decide +kernel
theorem d_Lw_law_784 : decode code 784 = .ok (.iload 5, 2) := by decide +kernel
theorem d_Lw_law_786 : decode code 786 = .ok (.if_icmp .eq 5, 3) := by decide +kernel
theorem d_Lw_law_789 : decode code 789 = .ok (.iconst 0, 1) := by decide +kernel
theorem d_Lw_law_790 : decode code 790 = .ok (.ireturn, 1) := by decide +kernel
theorem d_Lw_law_791 : decode code 791 = .ok (.iload 5, 2) := by decide +kernel
theorem d_Lw_law_793 : decode code 793 = .ok (.ifCond .ne 14, 3) := by decide +kernel
theorem d_Lw_law_796 : decode code 796 = .ok (.aload_n 3, 1) := by decide +kernel
theorem d_Lw_law_797 : decode code 797 = .ok (.iconst 0, 1) := by decide +kernel
theorem d_Lw_law_798 : decode code 798 = .ok (.laload, 1) := by decide +kernel
theorem d_Lw_law_799 : decode code 799 = .ok (.lload 6, 2) := by decide +kernel
theorem d_Lw_law_801 : decode code 801 = .ok (.lcmp, 1) := by decide +kernel
theorem d_Lw_law_802 : decode code 802 = .ok (.ifCond .eq 5, 3) := by decide +kernel
theorem d_Lw_law_805 : decode code 805 = .ok (.iconst 0, 1) := by decide +kernel
theorem d_Lw_law_806 : decode code 806 = .ok (.ireturn, 1) := by decide +kernel
theorem d_Lw_law_807 : decode code 807 = .ok (.goto 540, 3) := by decide +kernel
theorem d_Lw_law_810 : decode code 810 = .ok (.aload_n 1, 1) := by decide +kernel
theorem d_Lw_law_811 : decode code 811 = .ok (.aload_n 0, 1) := by decide +kernel
theorem d_Lw_law_812 : decode code 812 = .ok (.iload 4, 2) := by decide +kernel
theorem d_Lw_law_814 : decode code 814 = .ok (.iconst 1, 1) := by decide +kernel
theorem d_Lw_law_815 : decode code 815 = .ok (.iadd, 1) := by decide +kernel
theorem d_Lw_law_816 : decode code 816 = .ok (.iaload, 1) := by decide +kernel
theorem d_Lw_law_817 : decode code 817 = .ok (.aload_n 0, 1) := by decide +kernel
theorem d_Lw_law_818 : decode code 818 = .ok (.iload 4, 2) := by decide +kernel
theorem d_Lw_law_820 : decode code 820 = .ok (.iconst 2, 1) := by decide +kernel
theorem d_Lw_law_821 : decode code 821 = .ok (.iadd, 1) := by decide +kernel
theorem d_Lw_law_822 : decode code 822 = .ok (.iaload, 1) := by decide +kernel
theorem d_Lw_law_823 : decode code 823 = .ok (.aload_n 0, 1) := by decide +kernel
theorem d_Lw_law_824 : decode code 824 = .ok (.iload 4, 2) := by decide +kernel
theorem d_Lw_law_826 : decode code 826 = .ok (.iconst 3, 1) := by decide +kernel
theorem d_Lw_law_827 : decode code 827 = .ok (.iadd, 1) := by decide +kernel
theorem d_Lw_law_828 : decode code 828 = .ok (.iaload, 1) := by decide +kernel
theorem d_Lw_law_829 : decode code 829 = .ok (.aload_n 0, 1) := by decide +kernel
theorem d_Lw_law_830 : decode code 830 = .ok (.iload 4, 2) := by decide +kernel
theorem d_Lw_law_832 : decode code 832 = .ok (.iconst 4, 1) := by decide +kernel
theorem d_Lw_law_833 : decode code 833 = .ok (.iadd, 1) := by decide +kernel
theorem d_Lw_law_834 : decode code 834 = .ok (.iaload, 1) := by decide +kernel
theorem d_Lw_law_835 : decode code 835 = .ok (.aload_n 3, 1) := by decide +kernel
theorem d_Lw_law_836 : decode code 836 = .ok (.invokestatic 125, 3) := by decide +kernel
theorem d_Lw_law_839 : decode code 839 = .ok (.istore 5, 2) := by decide +kernel
theorem d_Lw_law_841 : decode code 841 = .ok (.aload_n 2, 1) := by decide +kernel
theorem d_Lw_law_842 : decode code 842 = .ok (.aload_n 0, 1) := by decide +kernel
theorem d_Lw_law_843 : decode code 843 = .ok (.iload 4, 2) := by decide +kernel
theorem d_Lw_law_845 : decode code 845 = .ok (.iconst 1, 1) := by decide +kernel
theorem d_Lw_law_846 : decode code 846 = .ok (.iadd, 1) := by decide +kernel
theorem d_Lw_law_847 : decode code 847 = .ok (.iaload, 1) := by decide +kernel
theorem d_Lw_law_848 : decode code 848 = .ok (.aload_n 0, 1) := by decide +kernel
theorem d_Lw_law_849 : decode code 849 = .ok (.iload 4, 2) := by decide +kernel
theorem d_Lw_law_851 : decode code 851 = .ok (.iconst 2, 1) := by decide +kernel
theorem d_Lw_law_852 : decode code 852 = .ok (.iadd, 1) := by decide +kernel
theorem d_Lw_law_853 : decode code 853 = .ok (.iaload, 1) := by decide +kernel
theorem d_Lw_law_854 : decode code 854 = .ok (.aload_n 0, 1) := by decide +kernel
theorem d_Lw_law_855 : decode code 855 = .ok (.iload 4, 2) := by decide +kernel
theorem d_Lw_law_857 : decode code 857 = .ok (.iconst 3, 1) := by decide +kernel
theorem d_Lw_law_858 : decode code 858 = .ok (.iadd, 1) := by decide +kernel
theorem d_Lw_law_859 : decode code 859 = .ok (.iaload, 1) := by decide +kernel
theorem d_Lw_law_860 : decode code 860 = .ok (.aload_n 0, 1) := by decide +kernel
theorem d_Lw_law_861 : decode code 861 = .ok (.iload 4, 2) := by decide +kernel
theorem d_Lw_law_863 : decode code 863 = .ok (.iconst 4, 1) := by decide +kernel
theorem d_Lw_law_864 : decode code 864 = .ok (.iadd, 1) := by decide +kernel
theorem d_Lw_law_865 : decode code 865 = .ok (.iaload, 1) := by decide +kernel
theorem d_Lw_law_866 : decode code 866 = .ok (.invokevirtual 128, 3) := by decide +kernel
theorem d_Lw_law_869 : decode code 869 = .ok (.istore 6, 2) := by decide +kernel
theorem d_Lw_law_871 : decode code 871 = .ok (.aload_n 2, 1) := by decide +kernel
theorem d_Lw_law_872 : decode code 872 = .ok (.invokevirtual 89, 3) := by decide +kernel
theorem d_Lw_law_875 : decode code 875 = .ok (.iload 5, 2) := by decide +kernel
theorem d_Lw_law_877 : decode code 877 = .ok (.if_icmp .eq 5, 3) := by decide +kernel
theorem d_Lw_law_880 : decode code 880 = .ok (.iconst 0, 1) := by decide +kernel
theorem d_Lw_law_881 : decode code 881 = .ok (.ireturn, 1) := by decide +kernel
theorem d_Lw_law_882 : decode code 882 = .ok (.iload 5, 2) := by decide +kernel
theorem d_Lw_law_884 : decode code 884 = .ok (.ifCond .ne 22, 3) := by decide +kernel
theorem d_Lw_law_887 : decode code 887 = .ok (.aload_n 3, 1) := by decide +kernel
theorem d_Lw_law_888 : decode code 888 = .ok (.iconst 0, 1) := by decide +kernel
theorem d_Lw_law_889 : decode code 889 = .ok (.laload, 1) := by decide +kernel
theorem d_Lw_law_890 : decode code 890 = .ok (.iload 6, 2) := by decide +kernel
theorem d_Lw_law_892 : decode code 892 = .ok (.ifCond .eq 7, 3) := by decide +kernel
theorem d_Lw_law_895 : decode code 895 = .ok (.lconst 1, 1) := by decide +kernel
theorem d_Lw_law_896 : decode code 896 = .ok (.goto 4, 3) := by decide +kernel
theorem d_Lw_law_899 : decode code 899 = .ok (.lconst 0, 1) := by decide +kernel
theorem d_Lw_law_900 : decode code 900 = .ok (.lcmp, 1) := by decide +kernel
theorem d_Lw_law_901 : decode code 901 = .ok (.ifCond .eq 5, 3) := by decide +kernel
theorem d_Lw_law_904 : decode code 904 = .ok (.iconst 0, 1) := by decide +kernel
theorem d_Lw_law_905 : decode code 905 = .ok (.ireturn, 1) := by decide +kernel
theorem d_Lw_law_906 : decode code 906 = .ok (.goto 441, 3) := by decide +kernel
theorem d_Lw_law_909 : decode code 909 = .ok (.aload_n 1, 1) := by decide +kernel
theorem d_Lw_law_910 : decode code 910 = .ok (.aload_n 0, 1) := by decide +kernel
theorem d_Lw_law_911 : decode code 911 = .ok (.iload 4, 2) := by decide +kernel
theorem d_Lw_law_913 : decode code 913 = .ok (.iconst 1, 1) := by decide +kernel
theorem d_Lw_law_914 : decode code 914 = .ok (.iadd, 1) := by decide +kernel
theorem d_Lw_law_915 : decode code 915 = .ok (.iaload, 1) := by decide +kernel
theorem d_Lw_law_916 : decode code 916 = .ok (.aload_n 0, 1) := by decide +kernel
theorem d_Lw_law_917 : decode code 917 = .ok (.iload 4, 2) := by decide +kernel
theorem d_Lw_law_919 : decode code 919 = .ok (.iconst 2, 1) := by decide +kernel
theorem d_Lw_law_920 : decode code 920 = .ok (.iadd, 1) := by decide +kernel
theorem d_Lw_law_921 : decode code 921 = .ok (.iaload, 1) := by decide +kernel
theorem d_Lw_law_922 : decode code 922 = .ok (.aload_n 3, 1) := by decide +kernel
theorem d_Lw_law_923 : decode code 923 = .ok (.invokestatic 129, 3) := by decide +kernel
theorem d_Lw_law_926 : decode code 926 = .ok (.istore 5, 2) := by decide +kernel
theorem d_Lw_law_928 : decode code 928 = .ok (.aload_n 2, 1) := by decide +kernel
theorem d_Lw_law_929 : decode code 929 = .ok (.aload_n 0, 1) := by decide +kernel
theorem d_Lw_law_930 : decode code 930 = .ok (.iload 4, 2) := by decide +kernel
theorem d_Lw_law_932 : decode code 932 = .ok (.iconst 1, 1) := by decide +kernel
theorem d_Lw_law_933 : decode code 933 = .ok (.iadd, 1) := by decide +kernel
theorem d_Lw_law_934 : decode code 934 = .ok (.iaload, 1) := by decide +kernel
theorem d_Lw_law_935 : decode code 935 = .ok (.aload_n 0, 1) := by decide +kernel
theorem d_Lw_law_936 : decode code 936 = .ok (.iload 4, 2) := by decide +kernel
theorem d_Lw_law_938 : decode code 938 = .ok (.iconst 2, 1) := by decide +kernel
theorem d_Lw_law_939 : decode code 939 = .ok (.iadd, 1) := by decide +kernel
theorem d_Lw_law_940 : decode code 940 = .ok (.iaload, 1) := by decide +kernel
theorem d_Lw_law_941 : decode code 941 = .ok (.invokevirtual 131, 3) := by decide +kernel
theorem d_Lw_law_944 : decode code 944 = .ok (.lstore 6, 2) := by decide +kernel
theorem d_Lw_law_946 : decode code 946 = .ok (.aload_n 2, 1) := by decide +kernel
theorem d_Lw_law_947 : decode code 947 = .ok (.invokevirtual 89, 3) := by decide +kernel
theorem d_Lw_law_950 : decode code 950 = .ok (.iload 5, 2) := by decide +kernel
theorem d_Lw_law_952 : decode code 952 = .ok (.if_icmp .eq 5, 3) := by decide +kernel
theorem d_Lw_law_955 : decode code 955 = .ok (.iconst 0, 1) := by decide +kernel
theorem d_Lw_law_956 : decode code 956 = .ok (.ireturn, 1) := by decide +kernel
theorem d_Lw_law_957 : decode code 957 = .ok (.iload 5, 2) := by decide +kernel
theorem d_Lw_law_959 : decode code 959 = .ok (.ifCond .ne 14, 3) := by decide +kernel
theorem d_Lw_law_962 : decode code 962 = .ok (.aload_n 3, 1) := by decide +kernel
theorem d_Lw_law_963 : decode code 963 = .ok (.iconst 0, 1) := by decide +kernel
theorem d_Lw_law_964 : decode code 964 = .ok (.laload, 1) := by decide +kernel
theorem d_Lw_law_965 : decode code 965 = .ok (.lload 6, 2) := by decide +kernel
theorem d_Lw_law_967 : decode code 967 = .ok (.lcmp, 1) := by decide +kernel
theorem d_Lw_law_968 : decode code 968 = .ok (.ifCond .eq 5, 3) := by decide +kernel
theorem d_Lw_law_971 : decode code 971 = .ok (.iconst 0, 1) := by decide +kernel
theorem d_Lw_law_972 : decode code 972 = .ok (.ireturn, 1) := by decide +kernel
theorem d_Lw_law_973 : decode code 973 = .ok (.goto 374, 3) := by decide +kernel
theorem d_Lw_law_976 : decode code 976 = .ok (.aload_n 1, 1) := by decide +kernel
theorem d_Lw_law_977 : decode code 977 = .ok (.aload_n 0, 1) := by decide +kernel
theorem d_Lw_law_978 : decode code 978 = .ok (.iload 4, 2) := by decide +kernel
theorem d_Lw_law_980 : decode code 980 = .ok (.iconst 1, 1) := by decide +kernel
theorem d_Lw_law_981 : decode code 981 = .ok (.iadd, 1) := by decide +kernel
theorem d_Lw_law_982 : decode code 982 = .ok (.iaload, 1) := by decide +kernel
theorem d_Lw_law_983 : decode code 983 = .ok (.aload_n 0, 1) := by decide +kernel
theorem d_Lw_law_984 : decode code 984 = .ok (.iload 4, 2) := by decide +kernel
theorem d_Lw_law_986 : decode code 986 = .ok (.iconst 2, 1) := by decide +kernel
theorem d_Lw_law_987 : decode code 987 = .ok (.iadd, 1) := by decide +kernel
theorem d_Lw_law_988 : decode code 988 = .ok (.iaload, 1) := by decide +kernel
theorem d_Lw_law_989 : decode code 989 = .ok (.aload_n 3, 1) := by decide +kernel
theorem d_Lw_law_990 : decode code 990 = .ok (.invokestatic 132, 3) := by decide +kernel
theorem d_Lw_law_993 : decode code 993 = .ok (.istore 5, 2) := by decide +kernel
theorem d_Lw_law_995 : decode code 995 = .ok (.aload_n 2, 1) := by decide +kernel
theorem d_Lw_law_996 : decode code 996 = .ok (.aload_n 0, 1) := by decide +kernel
theorem d_Lw_law_997 : decode code 997 = .ok (.iload 4, 2) := by decide +kernel
theorem d_Lw_law_999 : decode code 999 = .ok (.iconst 1, 1) := by decide +kernel
theorem d_Lw_law_1000 : decode code 1000 = .ok (.iadd, 1) := by decide +kernel
theorem d_Lw_law_1001 : decode code 1001 = .ok (.iaload, 1) := by decide +kernel
theorem d_Lw_law_1002 : decode code 1002 = .ok (.aload_n 0, 1) := by decide +kernel
theorem d_Lw_law_1003 : decode code 1003 = .ok (.iload 4, 2) := by decide +kernel
theorem d_Lw_law_1005 : decode code 1005 = .ok (.iconst 2, 1) := by decide +kernel
theorem d_Lw_law_1006 : decode code 1006 = .ok (.iadd, 1) := by decide +kernel
theorem d_Lw_law_1007 : decode code 1007 = .ok (.iaload, 1) := by decide +kernel
theorem d_Lw_law_1008 : decode code 1008 = .ok (.invokevirtual 134, 3) := by decide +kernel
theorem d_Lw_law_1011 : decode code 1011 = .ok (.istore 6, 2) := by decide +kernel
theorem d_Lw_law_1013 : decode code 1013 = .ok (.aload_n 2, 1) := by decide +kernel
theorem d_Lw_law_1014 : decode code 1014 = .ok (.invokevirtual 89, 3) := by decide +kernel
theorem d_Lw_law_1017 : decode code 1017 = .ok (.iload 5, 2) := by decide +kernel
theorem d_Lw_law_1019 : decode code 1019 = .ok (.if_icmp .eq 5, 3) := by decide +kernel
theorem d_Lw_law_1022 : decode code 1022 = .ok (.iconst 0, 1) := by decide +kernel
theorem d_Lw_law_1023 : decode code 1023 = .ok (.ireturn, 1) := by decide +kernel
theorem d_Lw_law_1024 : decode code 1024 = .ok (.iload 5, 2) := by decide +kernel
theorem d_Lw_law_1026 : decode code 1026 = .ok (.ifCond .ne 22, 3) := by decide +kernel
theorem d_Lw_law_1029 : decode code 1029 = .ok (.aload_n 3, 1) := by decide +kernel
theorem d_Lw_law_1030 : decode code 1030 = .ok (.iconst 0, 1) := by decide +kernel
theorem d_Lw_law_1031 : decode code 1031 = .ok (.laload, 1) := by decide +kernel
theorem d_Lw_law_1032 : decode code 1032 = .ok (.iload 6, 2) := by decide +kernel
theorem d_Lw_law_1034 : decode code 1034 = .ok (.ifCond .eq 7, 3) := by decide +kernel
theorem d_Lw_law_1037 : decode code 1037 = .ok (.lconst 1, 1) := by decide +kernel
theorem d_Lw_law_1038 : decode code 1038 = .ok (.goto 4, 3) := by decide +kernel
theorem d_Lw_law_1041 : decode code 1041 = .ok (.lconst 0, 1) := by decide +kernel
theorem d_Lw_law_1042 : decode code 1042 = .ok (.lcmp, 1) := by decide +kernel
theorem d_Lw_law_1043 : decode code 1043 = .ok (.ifCond .eq 5, 3) := by decide +kernel
theorem d_Lw_law_1046 : decode code 1046 = .ok (.iconst 0, 1) := by decide +kernel
theorem d_Lw_law_1047 : decode code 1047 = .ok (.ireturn, 1) := by decide +kernel
theorem d_Lw_law_1048 : decode code 1048 = .ok (.goto 299, 3) := by decide +kernel
theorem d_Lw_law_1051 : decode code 1051 = .ok (.aload_n 1, 1) := by decide +kernel
theorem d_Lw_law_1052 : decode code 1052 = .ok (.aload_n 0, 1) := by decide +kernel
theorem d_Lw_law_1053 : decode code 1053 = .ok (.iload 4, 2) := by decide +kernel
theorem d_Lw_law_1055 : decode code 1055 = .ok (.iconst 1, 1) := by decide +kernel
theorem d_Lw_law_1056 : decode code 1056 = .ok (.iadd, 1) := by decide +kernel
theorem d_Lw_law_1057 : decode code 1057 = .ok (.iaload, 1) := by decide +kernel
theorem d_Lw_law_1058 : decode code 1058 = .ok (.aload_n 0, 1) := by decide +kernel
theorem d_Lw_law_1059 : decode code 1059 = .ok (.iload 4, 2) := by decide +kernel
theorem d_Lw_law_1061 : decode code 1061 = .ok (.iconst 2, 1) := by decide +kernel
theorem d_Lw_law_1062 : decode code 1062 = .ok (.iadd, 1) := by decide +kernel
theorem d_Lw_law_1063 : decode code 1063 = .ok (.iaload, 1) := by decide +kernel
theorem d_Lw_law_1064 : decode code 1064 = .ok (.aload_n 0, 1) := by decide +kernel
