theorem d_L_law_762 : decode b_L_law 762 = .ok (.lcmp, 1) := by decide +kernel
theorem d_L_law_763 : decode b_L_law 763 = .ok (.ifCond .eq 5, 3) := by decide +kernel
theorem d_L_law_766 : decode b_L_law 766 = .ok (.iconst 0, 1) := by decide +kernel
theorem d_L_law_767 : decode b_L_law 767 = .ok (.ireturn, 1) := by decide +kernel
theorem d_L_law_768 : decode b_L_law 768 = .ok (.goto 339, 3) := by decide +kernel
theorem d_L_law_771 : decode b_L_law 771 = .ok (.aload_n 1, 1) := by decide +kernel
theorem d_L_law_772 : decode b_L_law 772 = .ok (.aload_n 0, 1) := by decide +kernel
theorem d_L_law_773 : decode b_L_law 773 = .ok (.iload 4, 2) := by decide +kernel
theorem d_L_law_775 : decode b_L_law 775 = .ok (.iconst 1, 1) := by decide +kernel
theorem d_L_law_776 : decode b_L_law 776 = .ok (.iadd, 1) := by decide +kernel
theorem d_L_law_777 : decode b_L_law 777 = .ok (.iaload, 1) := by decide +kernel
theorem d_L_law_778 : decode b_L_law 778 = .ok (.aload_n 3, 1) := by decide +kernel
theorem d_L_law_779 : decode b_L_law 779 = .ok (.invokestatic 119, 3) := by decide +kernel
theorem d_L_law_782 : decode b_L_law 782 = .ok (.istore 5, 2) := by decide +kernel
theorem d_L_law_784 : decode b_L_law 784 = .ok (.aload_n 2, 1) := by decide +kernel
theorem d_L_law_785 : decode b_L_law 785 = .ok (.aload_n 0, 1) := by decide +kernel
theorem d_L_law_786 : decode b_L_law 786 = .ok (.iload 4, 2) := by decide +kernel
theorem d_L_law_788 : decode b_L_law 788 = .ok (.iconst 1, 1) := by decide +kernel
theorem d_L_law_789 : decode b_L_law 789 = .ok (.iadd, 1) := by decide +kernel
theorem d_L_law_790 : decode b_L_law 790 = .ok (.iaload, 1) := by decide +kernel
theorem d_L_law_791 : decode b_L_law 791 = .ok (.invokevirtual 121, 3) := by decide +kernel
theorem d_L_law_794 : decode b_L_law 794 = .ok (.istore 6, 2) := by decide +kernel
theorem d_L_law_796 : decode b_L_law 796 = .ok (.aload_n 2, 1) := by decide +kernel
theorem d_L_law_797 : decode b_L_law 797 = .ok (.invokevirtual 79, 3) := by decide +kernel
theorem d_L_law_800 : decode b_L_law 800 = .ok (.iload 5, 2) := by decide +kernel
theorem d_L_law_802 : decode b_L_law 802 = .ok (.if_icmp .eq 5, 3) := by decide +kernel
theorem d_L_law_805 : decode b_L_law 805 = .ok (.iconst 0, 1) := by decide +kernel
theorem d_L_law_806 : decode b_L_law 806 = .ok (.ireturn, 1) := by decide +kernel
theorem d_L_law_807 : decode b_L_law 807 = .ok (.iload 5, 2) := by decide +kernel
theorem d_L_law_809 : decode b_L_law 809 = .ok (.ifCond .ne 15, 3) := by decide +kernel
theorem d_L_law_812 : decode b_L_law 812 = .ok (.aload_n 3, 1) := by decide +kernel
theorem d_L_law_813 : decode b_L_law 813 = .ok (.iconst 0, 1) := by decide +kernel
theorem d_L_law_814 : decode b_L_law 814 = .ok (.laload, 1) := by decide +kernel
theorem d_L_law_815 : decode b_L_law 815 = .ok (.iload 6, 2) := by decide +kernel
theorem d_L_law_817 : decode b_L_law 817 = .ok (.i2l, 1) := by decide +kernel
theorem d_L_law_818 : decode b_L_law 818 = .ok (.lcmp, 1) := by decide +kernel
theorem d_L_law_819 : decode b_L_law 819 = .ok (.ifCond .eq 5, 3) := by decide +kernel
theorem d_L_law_822 : decode b_L_law 822 = .ok (.iconst 0, 1) := by decide +kernel
theorem d_L_law_823 : decode b_L_law 823 = .ok (.ireturn, 1) := by decide +kernel
theorem d_L_law_824 : decode b_L_law 824 = .ok (.goto 283, 3) := by decide +kernel
theorem d_L_law_827 : decode b_L_law 827 = .ok (.aload_n 1, 1) := by decide +kernel
theorem d_L_law_828 : decode b_L_law 828 = .ok (.aload_n 0, 1) := by decide +kernel
theorem d_L_law_829 : decode b_L_law 829 = .ok (.iload 4, 2) := by decide +kernel
theorem d_L_law_831 : decode b_L_law 831 = .ok (.iconst 1, 1) := by decide +kernel
theorem d_L_law_832 : decode b_L_law 832 = .ok (.iadd, 1) := by decide +kernel
theorem d_L_law_833 : decode b_L_law 833 = .ok (.iaload, 1) := by decide +kernel
theorem d_L_law_834 : decode b_L_law 834 = .ok (.aload_n 0, 1) := by decide +kernel
theorem d_L_law_835 : decode b_L_law 835 = .ok (.iload 4, 2) := by decide +kernel
theorem d_L_law_837 : decode b_L_law 837 = .ok (.iconst 2, 1) := by decide +kernel
theorem d_L_law_838 : decode b_L_law 838 = .ok (.iadd, 1) := by decide +kernel
theorem d_L_law_839 : decode b_L_law 839 = .ok (.iaload, 1) := by decide +kernel
theorem d_L_law_840 : decode b_L_law 840 = .ok (.aload_n 3, 1) := by decide +kernel
theorem d_L_law_841 : decode b_L_law 841 = .ok (.invokestatic 122, 3) := by decide +kernel
theorem d_L_law_844 : decode b_L_law 844 = .ok (.istore 5, 2) := by decide +kernel
theorem d_L_law_846 : decode b_L_law 846 = .ok (.aload_n 2, 1) := by decide +kernel
theorem d_L_law_847 : decode b_L_law 847 = .ok (.aload_n 0, 1) := by decide +kernel
theorem d_L_law_848 : decode b_L_law 848 = .ok (.iload 4, 2) := by decide +kernel
theorem d_L_law_850 : decode b_L_law 850 = .ok (.iconst 1, 1) := by decide +kernel
theorem d_L_law_851 : decode b_L_law 851 = .ok (.iadd, 1) := by decide +kernel
theorem d_L_law_852 : decode b_L_law 852 = .ok (.iaload, 1) := by decide +kernel
theorem d_L_law_853 : decode b_L_law 853 = .ok (.aload_n 0, 1) := by decide +kernel
theorem d_L_law_854 : decode b_L_law 854 = .ok (.iload 4, 2) := by decide +kernel
theorem d_L_law_856 : decode b_L_law 856 = .ok (.iconst 2, 1) := by decide +kernel
theorem d_L_law_857 : decode b_L_law 857 = .ok (.iadd, 1) := by decide +kernel
theorem d_L_law_858 : decode b_L_law 858 = .ok (.iaload, 1) := by decide +kernel
theorem d_L_law_859 : decode b_L_law 859 = .ok (.invokevirtual 124, 3) := by decide +kernel
theorem d_L_law_862 : decode b_L_law 862 = .ok (.istore 6, 2) := by decide +kernel
theorem d_L_law_864 : decode b_L_law 864 = .ok (.aload_n 2, 1) := by decide +kernel
theorem d_L_law_865 : decode b_L_law 865 = .ok (.invokevirtual 79, 3) := by decide +kernel
theorem d_L_law_868 : decode b_L_law 868 = .ok (.iload 5, 2) := by decide +kernel
theorem d_L_law_870 : decode b_L_law 870 = .ok (.if_icmp .eq 5, 3) := by decide +kernel
theorem d_L_law_873 : decode b_L_law 873 = .ok (.iconst 0, 1) := by decide +kernel
theorem d_L_law_874 : decode b_L_law 874 = .ok (.ireturn, 1) := by decide +kernel
theorem d_L_law_875 : decode b_L_law 875 = .ok (.iload 5, 2) := by decide +kernel
theorem d_L_law_877 : decode b_L_law 877 = .ok (.ifCond .ne 15, 3) := by decide +kernel
theorem d_L_law_880 : decode b_L_law 880 = .ok (.aload_n 3, 1) := by decide +kernel
theorem d_L_law_881 : decode b_L_law 881 = .ok (.iconst 0, 1) := by decide +kernel
theorem d_L_law_882 : decode b_L_law 882 = .ok (.laload, 1) := by decide +kernel
theorem d_L_law_883 : decode b_L_law 883 = .ok (.iload 6, 2) := by decide +kernel
theorem d_L_law_885 : decode b_L_law 885 = .ok (.i2l, 1) := by decide +kernel
theorem d_L_law_886 : decode b_L_law 886 = .ok (.lcmp, 1) := by decide +kernel
theorem d_L_law_887 : decode b_L_law 887 = .ok (.ifCond .eq 5, 3) := by decide +kernel
theorem d_L_law_890 : decode b_L_law 890 = .ok (.iconst 0, 1) := by decide +kernel
theorem d_L_law_891 : decode b_L_law 891 = .ok (.ireturn, 1) := by decide +kernel
theorem d_L_law_892 : decode b_L_law 892 = .ok (.goto 215, 3) := by decide +kernel
theorem d_L_law_895 : decode b_L_law 895 = .ok (.aload_n 1, 1) := by decide +kernel
theorem d_L_law_896 : decode b_L_law 896 = .ok (.aload_n 0, 1) := by decide +kernel
theorem d_L_law_897 : decode b_L_law 897 = .ok (.iload 4, 2) := by decide +kernel
theorem d_L_law_899 : decode b_L_law 899 = .ok (.iconst 1, 1) := by decide +kernel
theorem d_L_law_900 : decode b_L_law 900 = .ok (.iadd, 1) := by decide +kernel
theorem d_L_law_901 : decode b_L_law 901 = .ok (.iaload, 1) := by decide +kernel
theorem d_L_law_902 : decode b_L_law 902 = .ok (.aload_n 3, 1) := by decide +kernel
theorem d_L_law_903 : decode b_L_law 903 = .ok (.invokestatic 125, 3) := by decide +kernel
theorem d_L_law_906 : decode b_L_law 906 = .ok (.istore 5, 2) := by decide +kernel
theorem d_L_law_908 : decode b_L_law 908 = .ok (.aload_n 2, 1) := by decide +kernel
theorem d_L_law_909 : decode b_L_law 909 = .ok (.aload_n 0, 1) := by decide +kernel
theorem d_L_law_910 : decode b_L_law 910 = .ok (.iload 4, 2) := by decide +kernel
theorem d_L_law_912 : decode b_L_law 912 = .ok (.iconst 1, 1) := by decide +kernel
theorem d_L_law_913 : decode b_L_law 913 = .ok (.iadd, 1) := by decide +kernel
theorem d_L_law_914 : decode b_L_law 914 = .ok (.iaload, 1) := by decide +kernel
theorem d_L_law_915 : decode b_L_law 915 = .ok (.invokevirtual 127, 3) := by decide +kernel
theorem d_L_law_918 : decode b_L_law 918 = .ok (.istore 6, 2) := by decide +kernel
theorem d_L_law_920 : decode b_L_law 920 = .ok (.aload_n 2, 1) := by decide +kernel
theorem d_L_law_921 : decode b_L_law 921 = .ok (.invokevirtual 79, 3) := by decide +kernel
theorem d_L_law_924 : decode b_L_law 924 = .ok (.iload 5, 2) := by decide +kernel
theorem d_L_law_926 : decode b_L_law 926 = .ok (.if_icmp .eq 5, 3) := by decide +kernel
theorem d_L_law_929 : decode b_L_law 929 = .ok (.iconst 0, 1) := by decide +kernel
theorem d_L_law_930 : decode b_L_law 930 = .ok (.ireturn, 1) := by decide +kernel
theorem d_L_law_931 : decode b_L_law 931 = .ok (.iload 5, 2) := by decide +kernel
theorem d_L_law_933 : decode b_L_law 933 = .ok (.ifCond .ne 15, 3) := by decide +kernel
theorem d_L_law_936 : decode b_L_law 936 = .ok (.aload_n 3, 1) := by decide +kernel
theorem d_L_law_937 : decode b_L_law 937 = .ok (.iconst 0, 1) := by decide +kernel
theorem d_L_law_938 : decode b_L_law 938 = .ok (.laload, 1) := by decide +kernel
theorem d_L_law_939 : decode b_L_law 939 = .ok (.iload 6, 2) := by decide +kernel
theorem d_L_law_941 : decode b_L_law 941 = .ok (.i2l, 1) := by decide +kernel
theorem d_L_law_942 : decode b_L_law 942 = .ok (.lcmp, 1) := by decide +kernel
theorem d_L_law_943 : decode b_L_law 943 = .ok (.ifCond .eq 5, 3) := by decide +kernel
theorem d_L_law_946 : decode b_L_law 946 = .ok (.iconst 0, 1) := by decide +kernel
theorem d_L_law_947 : decode b_L_law 947 = .ok (.ireturn, 1) := by decide +kernel
theorem d_L_law_948 : decode b_L_law 948 = .ok (.goto 159, 3) := by decide +kernel
theorem d_L_law_951 : decode b_L_law 951 = .ok (.aload_n 1, 1) := by decide +kernel
theorem d_L_law_952 : decode b_L_law 952 = .ok (.invokestatic 128, 3) := by decide +kernel
theorem d_L_law_955 : decode b_L_law 955 = .ok (.istore 5, 2) := by decide +kernel
theorem d_L_law_957 : decode b_L_law 957 = .ok (.aload_n 2, 1) := by decide +kernel
theorem d_L_law_958 : decode b_L_law 958 = .ok (.invokevirtual 131, 3) := by decide +kernel
theorem d_L_law_961 : decode b_L_law 961 = .ok (.aload_n 2, 1) := by decide +kernel
theorem d_L_law_962 : decode b_L_law 962 = .ok (.invokevirtual 79, 3) := by decide +kernel
theorem d_L_law_965 : decode b_L_law 965 = .ok (.iload 5, 2) := by decide +kernel
theorem d_L_law_967 : decode b_L_law 967 = .ok (.if_icmp .eq 5, 3) := by decide +kernel
theorem d_L_law_970 : decode b_L_law 970 = .ok (.iconst 0, 1) := by decide +kernel
theorem d_L_law_971 : decode b_L_law 971 = .ok (.ireturn, 1) := by decide +kernel
theorem d_L_law_972 : decode b_L_law 972 = .ok (.goto 135, 3) := by decide +kernel
theorem d_L_law_975 : decode b_L_law 975 = .ok (.aload_n 1, 1) := by decide +kernel
theorem d_L_law_976 : decode b_L_law 976 = .ok (.aload_n 3, 1) := by decide +kernel
theorem d_L_law_977 : decode b_L_law 977 = .ok (.invokestatic 132, 3) := by decide +kernel
theorem d_L_law_980 : decode b_L_law 980 = .ok (.istore 5, 2) := by decide +kernel
theorem d_L_law_982 : decode b_L_law 982 = .ok (.aload_n 2, 1) := by decide +kernel
theorem d_L_law_983 : decode b_L_law 983 = .ok (.invokevirtual 134, 3) := by decide +kernel
theorem d_L_law_986 : decode b_L_law 986 = .ok (.istore 6, 2) := by decide +kernel
theorem d_L_law_988 : decode b_L_law 988 = .ok (.aload_n 2, 1) := by decide +kernel
theorem d_L_law_989 : decode b_L_law 989 = .ok (.invokevirtual 79, 3) := by decide +kernel
theorem d_L_law_992 : decode b_L_law 992 = .ok (.iload 5, 2) := by decide +kernel
theorem d_L_law_994 : decode b_L_law 994 = .ok (.if_icmp .eq 5, 3) := by decide +kernel
theorem d_L_law_997 : decode b_L_law 997 = .ok (.iconst 0, 1) := by decide +kernel
theorem d_L_law_998 : decode b_L_law 998 = .ok (.ireturn, 1) := by decide +kernel
theorem d_L_law_999 : decode b_L_law 999 = .ok (.iload 5, 2) := by decide +kernel
theorem d_L_law_1001 : decode b_L_law 1001 = .ok (.ifCond .ne 15, 3) := by decide +kernel
theorem d_L_law_1004 : decode b_L_law 1004 = .ok (.aload_n 3, 1) := by decide +kernel
theorem d_L_law_1005 : decode b_L_law 1005 = .ok (.iconst 0, 1) := by decide +kernel
theorem d_L_law_1006 : decode b_L_law 1006 = .ok (.laload, 1) := by decide +kernel
theorem d_L_law_1007 : decode b_L_law 1007 = .ok (.iload 6, 2) := by decide +kernel
theorem d_L_law_1009 : decode b_L_law 1009 = .ok (.i2l, 1) := by decide +kernel
theorem d_L_law_1010 : decode b_L_law 1010 = .ok (.lcmp, 1) := by decide +kernel
theorem d_L_law_1011 : decode b_L_law 1011 = .ok (.ifCond .eq 5, 3) := by decide +kernel
theorem d_L_law_1014 : decode b_L_law 1014 = .ok (.iconst 0, 1) := by decide +kernel
theorem d_L_law_1015 : decode b_L_law 1015 = .ok (.ireturn, 1) := by decide +kernel
theorem d_L_law_1016 : decode b_L_law 1016 = .ok (.goto 91, 3) := by decide +kernel
theorem d_L_law_1019 : decode b_L_law 1019 = .ok (.aload_n 1, 1) := by decide +kernel
theorem d_L_law_1020 : decode b_L_law 1020 = .ok (.aload_n 3, 1) := by decide +kernel
theorem d_L_law_1021 : decode b_L_law 1021 = .ok (.invokestatic 135, 3) := by decide +kernel
theorem d_L_law_1024 : decode b_L_law 1024 = .ok (.istore 5, 2) := by decide +kernel
theorem d_L_law_1026 : decode b_L_law 1026 = .ok (.aload_n 2, 1) := by decide +kernel
theorem d_L_law_1027 : decode b_L_law 1027 = .ok (.invokevirtual 137, 3) := by decide +kernel
theorem d_L_law_1030 : decode b_L_law 1030 = .ok (.istore 6, 2) := by decide +kernel
theorem d_L_law_1032 : decode b_L_law 1032 = .ok (.aload_n 2, 1) := by decide +kernel
theorem d_L_law_1033 : decode b_L_law 1033 = .ok (.invokevirtual 79, 3) := by decide +kernel
theorem d_L_law_1036 : decode b_L_law 1036 = .ok (.iload 5, 2) := by decide +kernel
theorem d_L_law_1038 : decode b_L_law 1038 = .ok (.if_icmp .eq 5, 3) := by decide +kernel
theorem d_L_law_1041 : decode b_L_law 1041 = .ok (.iconst 0, 1) := by decide +kernel
theorem d_L_law_1042 : decode b_L_law 1042 = .ok (.ireturn, 1) := by decide +kernel
theorem d_L_law_1043 : decode b_L_law 1043 = .ok (.iload 5, 2) := by decide +kernel
theorem d_L_law_1045 : decode b_L_law 1045 = .ok (.ifCond .ne 15, 3) := by decide +kernel
theorem d_L_law_1048 : decode b_L_law 1048 = .ok (.aload_n 3, 1) := by decide +kernel
theorem d_L_law_1049 : decode b_L_law 1049 = .ok (.iconst 0, 1) := by decide +kernel
theorem d_L_law_1050 : decode b_L_law 1050 = .ok (.laload, 1) := by decide +kernel
theorem d_L_law_1051 : decode b_L_law 1051 = .ok (.iload 6, 2) := by decide +kernel
theorem d_L_law_1053 : decode b_L_law 1053 = .ok (.i2l, 1) := by decide +kernel
theorem d_L_law_1054 : decode b_L_law 1054 = .ok (.lcmp, 1) := by decide +kernel
theorem d_L_law_1055 : decode b_L_law 1055 = .ok (.ifCond .eq 5, 3) := by decide +kernel
theorem d_L_law_1058 : decode b_L_law 1058 = .ok (.iconst 0, 1) := by decide +kernel
theorem d_L_law_1059 : decode b_L_law 1059 = .ok (.ireturn, 1) := by decide +kernel
theorem d_L_law_1060 : decode b_L_law 1060 = .ok (.goto 47, 3) := by decide +kernel
theorem d_L_law_1063 : decode b_L_law 1063 = .ok (.aload_n 1, 1) := by decide +kernel
theorem d_L_law_1064 : decode b_L_law 1064 = .ok (.aload_n 3, 1) := by decide +kernel
theorem d_L_law_1065 : decode b_L_law 1065 = .ok (.invokestatic 138, 3) := by decide +kernel
theorem d_L_law_1068 : decode b_L_law 1068 = .ok (.istore 5, 2) := by decide +kernel
theorem d_L_law_1070 : decode b_L_law 1070 = .ok (.aload_n 2, 1) := by decide +kernel
theorem d_L_law_1071 : decode b_L_law 1071 = .ok (.invokevirtual 140, 3) := by decide +kernel
theorem d_L_law_1074 : decode b_L_law 1074 = .ok (.istore 6, 2) := by decide +kernel
theorem d_L_law_1076 : decode b_L_law 1076 = .ok (.aload_n 2, 1) := by decide +kernel
theorem d_L_law_1077 : decode b_L_law 1077 = .ok (.invokevirtual 79, 3) := by decide +kernel
theorem d_L_law_1080 : decode b_L_law 1080 = .ok (.iload 5, 2) := by decide +kernel
theorem d_L_law_1082 : decode b_L_law 1082 = .ok (.if_icmp .eq 5, 3) := by decide +kernel
theorem d_L_law_1085 : decode b_L_law 1085 = .ok (.iconst 0, 1) := by decide +kernel
theorem d_L_law_1086 : decode b_L_law 1086 = .ok (.ireturn, 1) := by decide +kernel
theorem d_L_law_1087 : decode b_L_law 1087 = .ok (.iload 5, 2) := by decide +kernel
theorem d_L_law_1089 : decode b_L_law 1089 = .ok (.ifCond .ne 15, 3) := by decide +kernel
theorem d_L_law_1092 : decode b_L_law 1092 = .ok (.aload_n 3, 1) := by decide +kernel
theorem d_L_law_1093 : decode b_L_law 1093 = .ok (.iconst 0, 1) := by decide +kernel
theorem d_L_law_1094 : decode b_L_law 1094 = .ok (.laload, 1) := by decide +kernel
theorem d_L_law_1095 : decode b_L_law 1095 = .ok (.iload 6, 2) := by decide +kernel
theorem d_L_law_1097 : decode b_L_law 1097 = .ok (.i2l, 1) := by decide +kernel
theorem d_L_law_1098 : decode b_L_law 1098 = .ok (.lcmp, 1) := by decide +kernel
theorem d_L_law_1099 : decode b_L_law 1099 = .ok (.ifCond .eq 5, 3) := by decide +kernel
theorem d_L_law_1102 : decode b_L_law 1102 = .ok (.iconst 0, 1) := by decide +kernel
theorem d_L_law_1103 : decode b_L_law 1103 = .ok (.ireturn, 1) := by decide +kernel
theorem d_L_law_1104 : decode b_L_law 1104 = .ok (.goto 3, 3) := by decide +kernel
theorem d_L_law_1107 : decode b_L_law 1107 = .ok (.iinc 4 5, 3) := by decide +kernel
theorem d_L_law_1110 : decode b_L_law 1110 = .ok (.goto (-1087), 3) := by decide +kernel
theorem d_L_law_1113 : decode b_L_law 1113 = .ok (.iconst 1, 1) := by decide +kernel
theorem d_L_law_1114 : decode b_L_law 1114 = .ok (.ireturn, 1) := by decide +kernel

