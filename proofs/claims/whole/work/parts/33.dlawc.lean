theorem dL_law_785 : decode cL_law 785 = .ok (.aload_n 0, 1) := by decide +kernel
theorem dL_law_786 : decode cL_law 786 = .ok (.iload 5, 2) := by decide +kernel
theorem dL_law_788 : decode cL_law 788 = .ok (.iconst 1, 1) := by decide +kernel
theorem dL_law_789 : decode cL_law 789 = .ok (.iadd, 1) := by decide +kernel
theorem dL_law_790 : decode cL_law 790 = .ok (.iaload, 1) := by decide +kernel
theorem dL_law_791 : decode cL_law 791 = .ok (.aload_n 3, 1) := by decide +kernel
theorem dL_law_792 : decode cL_law 792 = .ok (.invokestatic 169, 3) := by decide +kernel
theorem dL_law_795 : decode cL_law 795 = .ok (.istore 6, 2) := by decide +kernel
theorem dL_law_797 : decode cL_law 797 = .ok (.aload_n 2, 1) := by decide +kernel
theorem dL_law_798 : decode cL_law 798 = .ok (.aload_n 0, 1) := by decide +kernel
theorem dL_law_799 : decode cL_law 799 = .ok (.iload 5, 2) := by decide +kernel
theorem dL_law_801 : decode cL_law 801 = .ok (.iconst 1, 1) := by decide +kernel
theorem dL_law_802 : decode cL_law 802 = .ok (.iadd, 1) := by decide +kernel
theorem dL_law_803 : decode cL_law 803 = .ok (.iaload, 1) := by decide +kernel
theorem dL_law_804 : decode cL_law 804 = .ok (.invokevirtual 171, 3) := by decide +kernel
theorem dL_law_807 : decode cL_law 807 = .ok (.istore 7, 2) := by decide +kernel
theorem dL_law_809 : decode cL_law 809 = .ok (.aload_n 2, 1) := by decide +kernel
theorem dL_law_810 : decode cL_law 810 = .ok (.invokevirtual 124, 3) := by decide +kernel
theorem dL_law_813 : decode cL_law 813 = .ok (.iload 6, 2) := by decide +kernel
theorem dL_law_815 : decode cL_law 815 = .ok (.if_icmp .eq 5, 3) := by decide +kernel
theorem dL_law_818 : decode cL_law 818 = .ok (.iconst 0, 1) := by decide +kernel
theorem dL_law_819 : decode cL_law 819 = .ok (.ireturn, 1) := by decide +kernel
theorem dL_law_820 : decode cL_law 820 = .ok (.iload 6, 2) := by decide +kernel
theorem dL_law_822 : decode cL_law 822 = .ok (.ifCond .ne 15, 3) := by decide +kernel
theorem dL_law_825 : decode cL_law 825 = .ok (.aload_n 3, 1) := by decide +kernel
theorem dL_law_826 : decode cL_law 826 = .ok (.iconst 0, 1) := by decide +kernel
theorem dL_law_827 : decode cL_law 827 = .ok (.laload, 1) := by decide +kernel
theorem dL_law_828 : decode cL_law 828 = .ok (.iload 7, 2) := by decide +kernel
theorem dL_law_830 : decode cL_law 830 = .ok (.i2l, 1) := by decide +kernel
theorem dL_law_831 : decode cL_law 831 = .ok (.lcmp, 1) := by decide +kernel
theorem dL_law_832 : decode cL_law 832 = .ok (.ifCond .eq 5, 3) := by decide +kernel
theorem dL_law_835 : decode cL_law 835 = .ok (.iconst 0, 1) := by decide +kernel
theorem dL_law_836 : decode cL_law 836 = .ok (.ireturn, 1) := by decide +kernel
theorem dL_law_837 : decode cL_law 837 = .ok (.goto 1245, 3) := by decide +kernel
theorem dL_law_840 : decode cL_law 840 = .ok (.aload_n 1, 1) := by decide +kernel
theorem dL_law_841 : decode cL_law 841 = .ok (.aload_n 0, 1) := by decide +kernel
theorem dL_law_842 : decode cL_law 842 = .ok (.iload 5, 2) := by decide +kernel
theorem dL_law_844 : decode cL_law 844 = .ok (.iconst 1, 1) := by decide +kernel
theorem dL_law_845 : decode cL_law 845 = .ok (.iadd, 1) := by decide +kernel
theorem dL_law_846 : decode cL_law 846 = .ok (.iaload, 1) := by decide +kernel
theorem dL_law_847 : decode cL_law 847 = .ok (.aload_n 3, 1) := by decide +kernel
theorem dL_law_848 : decode cL_law 848 = .ok (.invokestatic 172, 3) := by decide +kernel
theorem dL_law_851 : decode cL_law 851 = .ok (.istore 6, 2) := by decide +kernel
theorem dL_law_853 : decode cL_law 853 = .ok (.aload_n 2, 1) := by decide +kernel
theorem dL_law_854 : decode cL_law 854 = .ok (.aload_n 0, 1) := by decide +kernel
theorem dL_law_855 : decode cL_law 855 = .ok (.iload 5, 2) := by decide +kernel
theorem dL_law_857 : decode cL_law 857 = .ok (.iconst 1, 1) := by decide +kernel
theorem dL_law_858 : decode cL_law 858 = .ok (.iadd, 1) := by decide +kernel
theorem dL_law_859 : decode cL_law 859 = .ok (.iaload, 1) := by decide +kernel
theorem dL_law_860 : decode cL_law 860 = .ok (.invokevirtual 174, 3) := by decide +kernel
theorem dL_law_863 : decode cL_law 863 = .ok (.istore 7, 2) := by decide +kernel
theorem dL_law_865 : decode cL_law 865 = .ok (.aload_n 2, 1) := by decide +kernel
theorem dL_law_866 : decode cL_law 866 = .ok (.invokevirtual 124, 3) := by decide +kernel
theorem dL_law_869 : decode cL_law 869 = .ok (.iload 6, 2) := by decide +kernel
theorem dL_law_871 : decode cL_law 871 = .ok (.if_icmp .eq 5, 3) := by decide +kernel
theorem dL_law_874 : decode cL_law 874 = .ok (.iconst 0, 1) := by decide +kernel
theorem dL_law_875 : decode cL_law 875 = .ok (.ireturn, 1) := by decide +kernel
theorem dL_law_876 : decode cL_law 876 = .ok (.iload 6, 2) := by decide +kernel
theorem dL_law_878 : decode cL_law 878 = .ok (.ifCond .ne 15, 3) := by decide +kernel
theorem dL_law_881 : decode cL_law 881 = .ok (.aload_n 3, 1) := by decide +kernel
theorem dL_law_882 : decode cL_law 882 = .ok (.iconst 0, 1) := by decide +kernel
theorem dL_law_883 : decode cL_law 883 = .ok (.laload, 1) := by decide +kernel
theorem dL_law_884 : decode cL_law 884 = .ok (.iload 7, 2) := by decide +kernel
theorem dL_law_886 : decode cL_law 886 = .ok (.i2l, 1) := by decide +kernel
theorem dL_law_887 : decode cL_law 887 = .ok (.lcmp, 1) := by decide +kernel
theorem dL_law_888 : decode cL_law 888 = .ok (.ifCond .eq 5, 3) := by decide +kernel
theorem dL_law_891 : decode cL_law 891 = .ok (.iconst 0, 1) := by decide +kernel
theorem dL_law_892 : decode cL_law 892 = .ok (.ireturn, 1) := by decide +kernel
theorem dL_law_893 : decode cL_law 893 = .ok (.goto 1189, 3) := by decide +kernel
theorem dL_law_896 : decode cL_law 896 = .ok (.aload_n 1, 1) := by decide +kernel
theorem dL_law_897 : decode cL_law 897 = .ok (.aload_n 0, 1) := by decide +kernel
theorem dL_law_898 : decode cL_law 898 = .ok (.iload 5, 2) := by decide +kernel
theorem dL_law_900 : decode cL_law 900 = .ok (.iconst 1, 1) := by decide +kernel
theorem dL_law_901 : decode cL_law 901 = .ok (.iadd, 1) := by decide +kernel
theorem dL_law_902 : decode cL_law 902 = .ok (.iaload, 1) := by decide +kernel
theorem dL_law_903 : decode cL_law 903 = .ok (.aload_n 3, 1) := by decide +kernel
theorem dL_law_904 : decode cL_law 904 = .ok (.invokestatic 175, 3) := by decide +kernel
theorem dL_law_907 : decode cL_law 907 = .ok (.istore 6, 2) := by decide +kernel
theorem dL_law_909 : decode cL_law 909 = .ok (.aload_n 2, 1) := by decide +kernel
theorem dL_law_910 : decode cL_law 910 = .ok (.aload_n 0, 1) := by decide +kernel
theorem dL_law_911 : decode cL_law 911 = .ok (.iload 5, 2) := by decide +kernel
theorem dL_law_913 : decode cL_law 913 = .ok (.iconst 1, 1) := by decide +kernel
theorem dL_law_914 : decode cL_law 914 = .ok (.iadd, 1) := by decide +kernel
theorem dL_law_915 : decode cL_law 915 = .ok (.iaload, 1) := by decide +kernel
theorem dL_law_916 : decode cL_law 916 = .ok (.invokevirtual 177, 3) := by decide +kernel
theorem dL_law_919 : decode cL_law 919 = .ok (.istore 7, 2) := by decide +kernel
theorem dL_law_921 : decode cL_law 921 = .ok (.aload_n 2, 1) := by decide +kernel
theorem dL_law_922 : decode cL_law 922 = .ok (.invokevirtual 124, 3) := by decide +kernel
theorem dL_law_925 : decode cL_law 925 = .ok (.iload 6, 2) := by decide +kernel
theorem dL_law_927 : decode cL_law 927 = .ok (.if_icmp .eq 5, 3) := by decide +kernel
theorem dL_law_930 : decode cL_law 930 = .ok (.iconst 0, 1) := by decide +kernel
theorem dL_law_931 : decode cL_law 931 = .ok (.ireturn, 1) := by decide +kernel
theorem dL_law_932 : decode cL_law 932 = .ok (.iload 6, 2) := by decide +kernel
theorem dL_law_934 : decode cL_law 934 = .ok (.ifCond .ne 15, 3) := by decide +kernel
theorem dL_law_937 : decode cL_law 937 = .ok (.aload_n 3, 1) := by decide +kernel
theorem dL_law_938 : decode cL_law 938 = .ok (.iconst 0, 1) := by decide +kernel
theorem dL_law_939 : decode cL_law 939 = .ok (.laload, 1) := by decide +kernel
theorem dL_law_940 : decode cL_law 940 = .ok (.iload 7, 2) := by decide +kernel
theorem dL_law_942 : decode cL_law 942 = .ok (.i2l, 1) := by decide +kernel
theorem dL_law_943 : decode cL_law 943 = .ok (.lcmp, 1) := by decide +kernel
theorem dL_law_944 : decode cL_law 944 = .ok (.ifCond .eq 5, 3) := by decide +kernel
theorem dL_law_947 : decode cL_law 947 = .ok (.iconst 0, 1) := by decide +kernel
theorem dL_law_948 : decode cL_law 948 = .ok (.ireturn, 1) := by decide +kernel
theorem dL_law_949 : decode cL_law 949 = .ok (.goto 1133, 3) := by decide +kernel
theorem dL_law_952 : decode cL_law 952 = .ok (.aload_n 1, 1) := by decide +kernel
theorem dL_law_953 : decode cL_law 953 = .ok (.aload_n 0, 1) := by decide +kernel
theorem dL_law_954 : decode cL_law 954 = .ok (.iload 5, 2) := by decide +kernel
theorem dL_law_956 : decode cL_law 956 = .ok (.iconst 1, 1) := by decide +kernel
theorem dL_law_957 : decode cL_law 957 = .ok (.iadd, 1) := by decide +kernel
theorem dL_law_958 : decode cL_law 958 = .ok (.iaload, 1) := by decide +kernel
theorem dL_law_959 : decode cL_law 959 = .ok (.aload_n 3, 1) := by decide +kernel
theorem dL_law_960 : decode cL_law 960 = .ok (.invokestatic 178, 3) := by decide +kernel
theorem dL_law_963 : decode cL_law 963 = .ok (.istore 6, 2) := by decide +kernel
theorem dL_law_965 : decode cL_law 965 = .ok (.aload_n 2, 1) := by decide +kernel
theorem dL_law_966 : decode cL_law 966 = .ok (.aload_n 0, 1) := by decide +kernel
theorem dL_law_967 : decode cL_law 967 = .ok (.iload 5, 2) := by decide +kernel
theorem dL_law_969 : decode cL_law 969 = .ok (.iconst 1, 1) := by decide +kernel
theorem dL_law_970 : decode cL_law 970 = .ok (.iadd, 1) := by decide +kernel
theorem dL_law_971 : decode cL_law 971 = .ok (.iaload, 1) := by decide +kernel
theorem dL_law_972 : decode cL_law 972 = .ok (.invokevirtual 180, 3) := by decide +kernel
theorem dL_law_975 : decode cL_law 975 = .ok (.istore 7, 2) := by decide +kernel
theorem dL_law_977 : decode cL_law 977 = .ok (.aload_n 2, 1) := by decide +kernel
theorem dL_law_978 : decode cL_law 978 = .ok (.invokevirtual 124, 3) := by decide +kernel
theorem dL_law_981 : decode cL_law 981 = .ok (.iload 6, 2) := by decide +kernel
theorem dL_law_983 : decode cL_law 983 = .ok (.if_icmp .eq 5, 3) := by decide +kernel
theorem dL_law_986 : decode cL_law 986 = .ok (.iconst 0, 1) := by decide +kernel
theorem dL_law_987 : decode cL_law 987 = .ok (.ireturn, 1) := by decide +kernel
theorem dL_law_988 : decode cL_law 988 = .ok (.iload 6, 2) := by decide +kernel
theorem dL_law_990 : decode cL_law 990 = .ok (.ifCond .ne 15, 3) := by decide +kernel
theorem dL_law_993 : decode cL_law 993 = .ok (.aload_n 3, 1) := by decide +kernel
theorem dL_law_994 : decode cL_law 994 = .ok (.iconst 0, 1) := by decide +kernel
theorem dL_law_995 : decode cL_law 995 = .ok (.laload, 1) := by decide +kernel
theorem dL_law_996 : decode cL_law 996 = .ok (.iload 7, 2) := by decide +kernel
theorem dL_law_998 : decode cL_law 998 = .ok (.i2l, 1) := by decide +kernel
theorem dL_law_999 : decode cL_law 999 = .ok (.lcmp, 1) := by decide +kernel
theorem dL_law_1000 : decode cL_law 1000 = .ok (.ifCond .eq 5, 3) := by decide +kernel
theorem dL_law_1003 : decode cL_law 1003 = .ok (.iconst 0, 1) := by decide +kernel
theorem dL_law_1004 : decode cL_law 1004 = .ok (.ireturn, 1) := by decide +kernel
theorem dL_law_1005 : decode cL_law 1005 = .ok (.goto 1077, 3) := by decide +kernel
theorem dL_law_1008 : decode cL_law 1008 = .ok (.aload_n 1, 1) := by decide +kernel
theorem dL_law_1009 : decode cL_law 1009 = .ok (.aload_n 0, 1) := by decide +kernel
theorem dL_law_1010 : decode cL_law 1010 = .ok (.iload 5, 2) := by decide +kernel
theorem dL_law_1012 : decode cL_law 1012 = .ok (.iconst 1, 1) := by decide +kernel
theorem dL_law_1013 : decode cL_law 1013 = .ok (.iadd, 1) := by decide +kernel
theorem dL_law_1014 : decode cL_law 1014 = .ok (.iaload, 1) := by decide +kernel
theorem dL_law_1015 : decode cL_law 1015 = .ok (.aload_n 3, 1) := by decide +kernel
theorem dL_law_1016 : decode cL_law 1016 = .ok (.invokestatic 181, 3) := by decide +kernel
theorem dL_law_1019 : decode cL_law 1019 = .ok (.istore 6, 2) := by decide +kernel
theorem dL_law_1021 : decode cL_law 1021 = .ok (.aload_n 2, 1) := by decide +kernel
theorem dL_law_1022 : decode cL_law 1022 = .ok (.aload_n 0, 1) := by decide +kernel
theorem dL_law_1023 : decode cL_law 1023 = .ok (.iload 5, 2) := by decide +kernel
theorem dL_law_1025 : decode cL_law 1025 = .ok (.iconst 1, 1) := by decide +kernel
theorem dL_law_1026 : decode cL_law 1026 = .ok (.iadd, 1) := by decide +kernel
theorem dL_law_1027 : decode cL_law 1027 = .ok (.iaload, 1) := by decide +kernel
theorem dL_law_1028 : decode cL_law 1028 = .ok (.invokevirtual 183, 3) := by decide +kernel
theorem dL_law_1031 : decode cL_law 1031 = .ok (.istore 7, 2) := by decide +kernel
theorem dL_law_1033 : decode cL_law 1033 = .ok (.aload_n 2, 1) := by decide +kernel
theorem dL_law_1034 : decode cL_law 1034 = .ok (.invokevirtual 124, 3) := by decide +kernel
theorem dL_law_1037 : decode cL_law 1037 = .ok (.iload 6, 2) := by decide +kernel
theorem dL_law_1039 : decode cL_law 1039 = .ok (.if_icmp .eq 5, 3) := by decide +kernel
theorem dL_law_1042 : decode cL_law 1042 = .ok (.iconst 0, 1) := by decide +kernel
theorem dL_law_1043 : decode cL_law 1043 = .ok (.ireturn, 1) := by decide +kernel
theorem dL_law_1044 : decode cL_law 1044 = .ok (.iload 6, 2) := by decide +kernel
theorem dL_law_1046 : decode cL_law 1046 = .ok (.ifCond .ne 15, 3) := by decide +kernel
theorem dL_law_1049 : decode cL_law 1049 = .ok (.aload_n 3, 1) := by decide +kernel
theorem dL_law_1050 : decode cL_law 1050 = .ok (.iconst 0, 1) := by decide +kernel
theorem dL_law_1051 : decode cL_law 1051 = .ok (.laload, 1) := by decide +kernel
theorem dL_law_1052 : decode cL_law 1052 = .ok (.iload 7, 2) := by decide +kernel
theorem dL_law_1054 : decode cL_law 1054 = .ok (.i2l, 1) := by decide +kernel
theorem dL_law_1055 : decode cL_law 1055 = .ok (.lcmp, 1) := by decide +kernel
theorem dL_law_1056 : decode cL_law 1056 = .ok (.ifCond .eq 5, 3) := by decide +kernel
theorem dL_law_1059 : decode cL_law 1059 = .ok (.iconst 0, 1) := by decide +kernel
theorem dL_law_1060 : decode cL_law 1060 = .ok (.ireturn, 1) := by decide +kernel
theorem dL_law_1061 : decode cL_law 1061 = .ok (.goto 1021, 3) := by decide +kernel
theorem dL_law_1064 : decode cL_law 1064 = .ok (.aload_n 1, 1) := by decide +kernel
theorem dL_law_1065 : decode cL_law 1065 = .ok (.aload_n 0, 1) := by decide +kernel
theorem dL_law_1066 : decode cL_law 1066 = .ok (.iload 5, 2) := by decide +kernel
theorem dL_law_1068 : decode cL_law 1068 = .ok (.iconst 1, 1) := by decide +kernel
theorem dL_law_1069 : decode cL_law 1069 = .ok (.iadd, 1) := by decide +kernel
theorem dL_law_1070 : decode cL_law 1070 = .ok (.iaload, 1) := by decide +kernel
theorem dL_law_1071 : decode cL_law 1071 = .ok (.aload_n 3, 1) := by decide +kernel
theorem dL_law_1072 : decode cL_law 1072 = .ok (.invokestatic 184, 3) := by decide +kernel
theorem dL_law_1075 : decode cL_law 1075 = .ok (.istore 6, 2) := by decide +kernel
theorem dL_law_1077 : decode cL_law 1077 = .ok (.aload_n 2, 1) := by decide +kernel
theorem dL_law_1078 : decode cL_law 1078 = .ok (.aload_n 0, 1) := by decide +kernel
theorem dL_law_1079 : decode cL_law 1079 = .ok (.iload 5, 2) := by decide +kernel
theorem dL_law_1081 : decode cL_law 1081 = .ok (.iconst 1, 1) := by decide +kernel
theorem dL_law_1082 : decode cL_law 1082 = .ok (.iadd, 1) := by decide +kernel
theorem dL_law_1083 : decode cL_law 1083 = .ok (.iaload, 1) := by decide +kernel
theorem dL_law_1084 : decode cL_law 1084 = .ok (.invokevirtual 186, 3) := by decide +kernel
theorem dL_law_1087 : decode cL_law 1087 = .ok (.istore 7, 2) := by decide +kernel
theorem dL_law_1089 : decode cL_law 1089 = .ok (.aload_n 2, 1) := by decide +kernel
theorem dL_law_1090 : decode cL_law 1090 = .ok (.invokevirtual 124, 3) := by decide +kernel
theorem dL_law_1093 : decode cL_law 1093 = .ok (.iload 6, 2) := by decide +kernel
theorem dL_law_1095 : decode cL_law 1095 = .ok (.if_icmp .eq 5, 3) := by decide +kernel
theorem dL_law_1098 : decode cL_law 1098 = .ok (.iconst 0, 1) := by decide +kernel
theorem dL_law_1099 : decode cL_law 1099 = .ok (.ireturn, 1) := by decide +kernel
theorem dL_law_1100 : decode cL_law 1100 = .ok (.iload 6, 2) := by decide +kernel
theorem dL_law_1102 : decode cL_law 1102 = .ok (.ifCond .ne 15, 3) := by decide +kernel
theorem dL_law_1105 : decode cL_law 1105 = .ok (.aload_n 3, 1) := by decide +kernel
theorem dL_law_1106 : decode cL_law 1106 = .ok (.iconst 0, 1) := by decide +kernel
theorem dL_law_1107 : decode cL_law 1107 = .ok (.laload, 1) := by decide +kernel
theorem dL_law_1108 : decode cL_law 1108 = .ok (.iload 7, 2) := by decide +kernel
theorem dL_law_1110 : decode cL_law 1110 = .ok (.i2l, 1) := by decide +kernel
theorem dL_law_1111 : decode cL_law 1111 = .ok (.lcmp, 1) := by decide +kernel
theorem dL_law_1112 : decode cL_law 1112 = .ok (.ifCond .eq 5, 3) := by decide +kernel
theorem dL_law_1115 : decode cL_law 1115 = .ok (.iconst 0, 1) := by decide +kernel
theorem dL_law_1116 : decode cL_law 1116 = .ok (.ireturn, 1) := by decide +kernel
theorem dL_law_1117 : decode cL_law 1117 = .ok (.goto 965, 3) := by decide +kernel
theorem dL_law_1120 : decode cL_law 1120 = .ok (.aload_n 1, 1) := by decide +kernel
theorem dL_law_1121 : decode cL_law 1121 = .ok (.aload 4, 2) := by decide +kernel
theorem dL_law_1123 : decode cL_law 1123 = .ok (.invokestatic 187, 3) := by decide +kernel
theorem dL_law_1126 : decode cL_law 1126 = .ok (.istore 6, 2) := by decide +kernel
theorem dL_law_1128 : decode cL_law 1128 = .ok (.aload_n 2, 1) := by decide +kernel
theorem dL_law_1129 : decode cL_law 1129 = .ok (.invokevirtual 190, 3) := by decide +kernel
theorem dL_law_1132 : decode cL_law 1132 = .ok (.dstore 7, 2) := by decide +kernel
theorem dL_law_1134 : decode cL_law 1134 = .ok (.aload_n 2, 1) := by decide +kernel
theorem dL_law_1135 : decode cL_law 1135 = .ok (.invokevirtual 124, 3) := by decide +kernel
theorem dL_law_1138 : decode cL_law 1138 = .ok (.iload 6, 2) := by decide +kernel
theorem dL_law_1140 : decode cL_law 1140 = .ok (.if_icmp .eq 5, 3) := by decide +kernel
theorem dL_law_1143 : decode cL_law 1143 = .ok (.iconst 0, 1) := by decide +kernel
theorem dL_law_1144 : decode cL_law 1144 = .ok (.ireturn, 1) := by decide +kernel
theorem dL_law_1145 : decode cL_law 1145 = .ok (.iload 6, 2) := by decide +kernel
theorem dL_law_1147 : decode cL_law 1147 = .ok (.ifCond .ne 35, 3) := by decide +kernel
theorem dL_law_1150 : decode cL_law 1150 = .ok (.aload 4, 2) := by decide +kernel
theorem dL_law_1152 : decode cL_law 1152 = .ok (.iconst 0, 1) := by decide +kernel
theorem dL_law_1153 : decode cL_law 1153 = .ok (.daload, 1) := by decide +kernel
theorem dL_law_1154 : decode cL_law 1154 = .ok (.dload 7, 2) := by decide +kernel
theorem dL_law_1156 : decode cL_law 1156 = .ok (.dcmp .l, 1) := by decide +kernel
theorem dL_law_1157 : decode cL_law 1157 = .ok (.ifCond .eq 25, 3) := by decide +kernel
theorem dL_law_1160 : decode cL_law 1160 = .ok (.aload 4, 2) := by decide +kernel
theorem dL_law_1162 : decode cL_law 1162 = .ok (.iconst 0, 1) := by decide +kernel
theorem dL_law_1163 : decode cL_law 1163 = .ok (.daload, 1) := by decide +kernel
theorem dL_law_1164 : decode cL_law 1164 = .ok (.aload 4, 2) := by decide +kernel
theorem dL_law_1166 : decode cL_law 1166 = .ok (.iconst 0, 1) := by decide +kernel
theorem dL_law_1167 : decode cL_law 1167 = .ok (.daload, 1) := by decide +kernel
theorem dL_law_1168 : decode cL_law 1168 = .ok (.dcmp .l, 1) := by decide +kernel
theorem dL_law_1169 : decode cL_law 1169 = .ok (.ifCond .eq 11, 3) := by decide +kernel
theorem dL_law_1172 : decode cL_law 1172 = .ok (.dload 7, 2) := by decide +kernel
theorem dL_law_1174 : decode cL_law 1174 = .ok (.dload 7, 2) := by decide +kernel
theorem dL_law_1176 : decode cL_law 1176 = .ok (.dcmp .l, 1) := by decide +kernel
theorem dL_law_1177 : decode cL_law 1177 = .ok (.ifCond .ne 5, 3) := by decide +kernel
theorem dL_law_1180 : decode cL_law 1180 = .ok (.iconst 0, 1) := by decide +kernel
theorem dL_law_1181 : decode cL_law 1181 = .ok (.ireturn, 1) := by decide +kernel
theorem dL_law_1182 : decode cL_law 1182 = .ok (.goto 900, 3) := by decide +kernel
theorem dL_law_1185 : decode cL_law 1185 = .ok (.aload_n 1, 1) := by decide +kernel
theorem dL_law_1186 : decode cL_law 1186 = .ok (.aload_n 0, 1) := by decide +kernel
theorem dL_law_1187 : decode cL_law 1187 = .ok (.iload 5, 2) := by decide +kernel
theorem dL_law_1189 : decode cL_law 1189 = .ok (.iconst 1, 1) := by decide +kernel
theorem dL_law_1190 : decode cL_law 1190 = .ok (.iadd, 1) := by decide +kernel
theorem dL_law_1191 : decode cL_law 1191 = .ok (.iaload, 1) := by decide +kernel
theorem dL_law_1192 : decode cL_law 1192 = .ok (.aload 4, 2) := by decide +kernel
theorem dL_law_1194 : decode cL_law 1194 = .ok (.invokestatic 191, 3) := by decide +kernel
theorem dL_law_1197 : decode cL_law 1197 = .ok (.istore 6, 2) := by decide +kernel
theorem dL_law_1199 : decode cL_law 1199 = .ok (.aload_n 2, 1) := by decide +kernel
theorem dL_law_1200 : decode cL_law 1200 = .ok (.aload_n 0, 1) := by decide +kernel
theorem dL_law_1201 : decode cL_law 1201 = .ok (.iload 5, 2) := by decide +kernel
theorem dL_law_1203 : decode cL_law 1203 = .ok (.iconst 1, 1) := by decide +kernel
theorem dL_law_1204 : decode cL_law 1204 = .ok (.iadd, 1) := by decide +kernel
theorem dL_law_1205 : decode cL_law 1205 = .ok (.iaload, 1) := by decide +kernel
theorem dL_law_1206 : decode cL_law 1206 = .ok (.invokevirtual 194, 3) := by decide +kernel
theorem dL_law_1209 : decode cL_law 1209 = .ok (.fstore 7, 2) := by decide +kernel
theorem dL_law_1211 : decode cL_law 1211 = .ok (.aload_n 2, 1) := by decide +kernel
theorem dL_law_1212 : decode cL_law 1212 = .ok (.invokevirtual 124, 3) := by decide +kernel
theorem dL_law_1215 : decode cL_law 1215 = .ok (.iload 6, 2) := by decide +kernel
theorem dL_law_1217 : decode cL_law 1217 = .ok (.if_icmp .eq 5, 3) := by decide +kernel
theorem dL_law_1220 : decode cL_law 1220 = .ok (.iconst 0, 1) := by decide +kernel
theorem dL_law_1221 : decode cL_law 1221 = .ok (.ireturn, 1) := by decide +kernel
theorem dL_law_1222 : decode cL_law 1222 = .ok (.iload 6, 2) := by decide +kernel
theorem dL_law_1224 : decode cL_law 1224 = .ok (.ifCond .ne 36, 3) := by decide +kernel
theorem dL_law_1227 : decode cL_law 1227 = .ok (.aload 4, 2) := by decide +kernel
theorem dL_law_1229 : decode cL_law 1229 = .ok (.iconst 0, 1) := by decide +kernel
theorem dL_law_1230 : decode cL_law 1230 = .ok (.daload, 1) := by decide +kernel
theorem dL_law_1231 : decode cL_law 1231 = .ok (.fload 7, 2) := by decide +kernel
theorem dL_law_1233 : decode cL_law 1233 = .ok (.f2d, 1) := by decide +kernel
theorem dL_law_1234 : decode cL_law 1234 = .ok (.dcmp .l, 1) := by decide +kernel
theorem dL_law_1235 : decode cL_law 1235 = .ok (.ifCond .eq 25, 3) := by decide +kernel
theorem dL_law_1238 : decode cL_law 1238 = .ok (.aload 4, 2) := by decide +kernel
theorem dL_law_1240 : decode cL_law 1240 = .ok (.iconst 0, 1) := by decide +kernel
theorem dL_law_1241 : decode cL_law 1241 = .ok (.daload, 1) := by decide +kernel
theorem dL_law_1242 : decode cL_law 1242 = .ok (.aload 4, 2) := by decide +kernel
theorem dL_law_1244 : decode cL_law 1244 = .ok (.iconst 0, 1) := by decide +kernel
theorem dL_law_1245 : decode cL_law 1245 = .ok (.daload, 1) := by decide +kernel
theorem dL_law_1246 : decode cL_law 1246 = .ok (.dcmp .l, 1) := by decide +kernel
theorem dL_law_1247 : decode cL_law 1247 = .ok (.ifCond .eq 11, 3) := by decide +kernel
theorem dL_law_1250 : decode cL_law 1250 = .ok (.fload 7, 2) := by decide +kernel
theorem dL_law_1252 : decode cL_law 1252 = .ok (.fload 7, 2) := by decide +kernel
theorem dL_law_1254 : decode cL_law 1254 = .ok (.fcmp .l, 1) := by decide +kernel
theorem dL_law_1255 : decode cL_law 1255 = .ok (.ifCond .ne 5, 3) := by decide +kernel
theorem dL_law_1258 : decode cL_law 1258 = .ok (.iconst 0, 1) := by decide +kernel
theorem dL_law_1259 : decode cL_law 1259 = .ok (.ireturn, 1) := by decide +kernel
theorem dL_law_1260 : decode cL_law 1260 = .ok (.goto 822, 3) := by decide +kernel
theorem dL_law_1263 : decode cL_law 1263 = .ok (.aload_n 1, 1) := by decide +kernel
theorem dL_law_1264 : decode cL_law 1264 = .ok (.aload_n 0, 1) := by decide +kernel
theorem dL_law_1265 : decode cL_law 1265 = .ok (.iload 5, 2) := by decide +kernel
theorem dL_law_1267 : decode cL_law 1267 = .ok (.iconst 1, 1) := by decide +kernel
theorem dL_law_1268 : decode cL_law 1268 = .ok (.iadd, 1) := by decide +kernel
theorem dL_law_1269 : decode cL_law 1269 = .ok (.iaload, 1) := by decide +kernel
theorem dL_law_1270 : decode cL_law 1270 = .ok (.aload_n 3, 1) := by decide +kernel
theorem dL_law_1271 : decode cL_law 1271 = .ok (.invokestatic 195, 3) := by decide +kernel
theorem dL_law_1274 : decode cL_law 1274 = .ok (.istore 6, 2) := by decide +kernel
theorem dL_law_1276 : decode cL_law 1276 = .ok (.aload_n 2, 1) := by decide +kernel
theorem dL_law_1277 : decode cL_law 1277 = .ok (.aload_n 0, 1) := by decide +kernel
theorem dL_law_1278 : decode cL_law 1278 = .ok (.iload 5, 2) := by decide +kernel
theorem dL_law_1280 : decode cL_law 1280 = .ok (.iconst 1, 1) := by decide +kernel
theorem dL_law_1281 : decode cL_law 1281 = .ok (.iadd, 1) := by decide +kernel
theorem dL_law_1282 : decode cL_law 1282 = .ok (.iaload, 1) := by decide +kernel
theorem dL_law_1283 : decode cL_law 1283 = .ok (.invokevirtual 197, 3) := by decide +kernel
theorem dL_law_1286 : decode cL_law 1286 = .ok (.istore 7, 2) := by decide +kernel
theorem dL_law_1288 : decode cL_law 1288 = .ok (.aload_n 2, 1) := by decide +kernel
theorem dL_law_1289 : decode cL_law 1289 = .ok (.invokevirtual 124, 3) := by decide +kernel
theorem dL_law_1292 : decode cL_law 1292 = .ok (.iload 6, 2) := by decide +kernel
theorem dL_law_1294 : decode cL_law 1294 = .ok (.if_icmp .eq 5, 3) := by decide +kernel
theorem dL_law_1297 : decode cL_law 1297 = .ok (.iconst 0, 1) := by decide +kernel
theorem dL_law_1298 : decode cL_law 1298 = .ok (.ireturn, 1) := by decide +kernel
theorem dL_law_1299 : decode cL_law 1299 = .ok (.iload 6, 2) := by decide +kernel
theorem dL_law_1301 : decode cL_law 1301 = .ok (.ifCond .ne 15, 3) := by decide +kernel
theorem dL_law_1304 : decode cL_law 1304 = .ok (.aload_n 3, 1) := by decide +kernel
theorem dL_law_1305 : decode cL_law 1305 = .ok (.iconst 0, 1) := by decide +kernel
theorem dL_law_1306 : decode cL_law 1306 = .ok (.laload, 1) := by decide +kernel
theorem dL_law_1307 : decode cL_law 1307 = .ok (.iload 7, 2) := by decide +kernel
theorem dL_law_1309 : decode cL_law 1309 = .ok (.i2l, 1) := by decide +kernel
theorem dL_law_1310 : decode cL_law 1310 = .ok (.lcmp, 1) := by decide +kernel
theorem dL_law_1311 : decode cL_law 1311 = .ok (.ifCond .eq 5, 3) := by decide +kernel
theorem dL_law_1314 : decode cL_law 1314 = .ok (.iconst 0, 1) := by decide +kernel
theorem dL_law_1315 : decode cL_law 1315 = .ok (.ireturn, 1) := by decide +kernel
theorem dL_law_1316 : decode cL_law 1316 = .ok (.goto 766, 3) := by decide +kernel
theorem dL_law_1319 : decode cL_law 1319 = .ok (.aload_n 1, 1) := by decide +kernel
theorem dL_law_1320 : decode cL_law 1320 = .ok (.aload 4, 2) := by decide +kernel
theorem dL_law_1322 : decode cL_law 1322 = .ok (.invokestatic 198, 3) := by decide +kernel
theorem dL_law_1325 : decode cL_law 1325 = .ok (.istore 6, 2) := by decide +kernel
theorem dL_law_1327 : decode cL_law 1327 = .ok (.aload_n 2, 1) := by decide +kernel
theorem dL_law_1328 : decode cL_law 1328 = .ok (.invokevirtual 200, 3) := by decide +kernel
theorem dL_law_1331 : decode cL_law 1331 = .ok (.dstore 7, 2) := by decide +kernel
theorem dL_law_1333 : decode cL_law 1333 = .ok (.aload_n 2, 1) := by decide +kernel
theorem dL_law_1334 : decode cL_law 1334 = .ok (.invokevirtual 124, 3) := by decide +kernel
theorem dL_law_1337 : decode cL_law 1337 = .ok (.iload 6, 2) := by decide +kernel
theorem dL_law_1339 : decode cL_law 1339 = .ok (.if_icmp .eq 5, 3) := by decide +kernel
theorem dL_law_1342 : decode cL_law 1342 = .ok (.iconst 0, 1) := by decide +kernel
theorem dL_law_1343 : decode cL_law 1343 = .ok (.ireturn, 1) := by decide +kernel
theorem dL_law_1344 : decode cL_law 1344 = .ok (.iload 6, 2) := by decide +kernel
theorem dL_law_1346 : decode cL_law 1346 = .ok (.ifCond .ne 35, 3) := by decide +kernel
theorem dL_law_1349 : decode cL_law 1349 = .ok (.aload 4, 2) := by decide +kernel
theorem dL_law_1351 : decode cL_law 1351 = .ok (.iconst 0, 1) := by decide +kernel
theorem dL_law_1352 : decode cL_law 1352 = .ok (.daload, 1) := by decide +kernel
theorem dL_law_1353 : decode cL_law 1353 = .ok (.dload 7, 2) := by decide +kernel
theorem dL_law_1355 : decode cL_law 1355 = .ok (.dcmp .l, 1) := by decide +kernel
theorem dL_law_1356 : decode cL_law 1356 = .ok (.ifCond .eq 25, 3) := by decide +kernel
theorem dL_law_1359 : decode cL_law 1359 = .ok (.aload 4, 2) := by decide +kernel
theorem dL_law_1361 : decode cL_law 1361 = .ok (.iconst 0, 1) := by decide +kernel
theorem dL_law_1362 : decode cL_law 1362 = .ok (.daload, 1) := by decide +kernel
theorem dL_law_1363 : decode cL_law 1363 = .ok (.aload 4, 2) := by decide +kernel
theorem dL_law_1365 : decode cL_law 1365 = .ok (.iconst 0, 1) := by decide +kernel
theorem dL_law_1366 : decode cL_law 1366 = .ok (.daload, 1) := by decide +kernel
theorem dL_law_1367 : decode cL_law 1367 = .ok (.dcmp .l, 1) := by decide +kernel
theorem dL_law_1368 : decode cL_law 1368 = .ok (.ifCond .eq 11, 3) := by decide +kernel
theorem dL_law_1371 : decode cL_law 1371 = .ok (.dload 7, 2) := by decide +kernel
theorem dL_law_1373 : decode cL_law 1373 = .ok (.dload 7, 2) := by decide +kernel
theorem dL_law_1375 : decode cL_law 1375 = .ok (.dcmp .l, 1) := by decide +kernel
theorem dL_law_1376 : decode cL_law 1376 = .ok (.ifCond .ne 5, 3) := by decide +kernel
theorem dL_law_1379 : decode cL_law 1379 = .ok (.iconst 0, 1) := by decide +kernel
theorem dL_law_1380 : decode cL_law 1380 = .ok (.ireturn, 1) := by decide +kernel
theorem dL_law_1381 : decode cL_law 1381 = .ok (.goto 701, 3) := by decide +kernel
theorem dL_law_1384 : decode cL_law 1384 = .ok (.aload_n 1, 1) := by decide +kernel
theorem dL_law_1385 : decode cL_law 1385 = .ok (.invokevirtual 201, 3) := by decide +kernel
theorem dL_law_1388 : decode cL_law 1388 = .ok (.aload_n 2, 1) := by decide +kernel
theorem dL_law_1389 : decode cL_law 1389 = .ok (.invokevirtual 204, 3) := by decide +kernel
theorem dL_law_1392 : decode cL_law 1392 = .ok (.if_icmp .eq 690, 3) := by decide +kernel
theorem dL_law_1395 : decode cL_law 1395 = .ok (.iconst 0, 1) := by decide +kernel
theorem dL_law_1396 : decode cL_law 1396 = .ok (.ireturn, 1) := by decide +kernel
theorem dL_law_1397 : decode cL_law 1397 = .ok (.aload_n 1, 1) := by decide +kernel
theorem dL_law_1398 : decode cL_law 1398 = .ok (.aload_n 0, 1) := by decide +kernel
theorem dL_law_1399 : decode cL_law 1399 = .ok (.iload 5, 2) := by decide +kernel
theorem dL_law_1401 : decode cL_law 1401 = .ok (.iconst 1, 1) := by decide +kernel
theorem dL_law_1402 : decode cL_law 1402 = .ok (.iadd, 1) := by decide +kernel
theorem dL_law_1403 : decode cL_law 1403 = .ok (.iaload, 1) := by decide +kernel
theorem dL_law_1404 : decode cL_law 1404 = .ok (.aload_n 0, 1) := by decide +kernel
theorem dL_law_1405 : decode cL_law 1405 = .ok (.iload 5, 2) := by decide +kernel
theorem dL_law_1407 : decode cL_law 1407 = .ok (.iconst 2, 1) := by decide +kernel
theorem dL_law_1408 : decode cL_law 1408 = .ok (.iadd, 1) := by decide +kernel
theorem dL_law_1409 : decode cL_law 1409 = .ok (.iaload, 1) := by decide +kernel
theorem dL_law_1410 : decode cL_law 1410 = .ok (.aload_n 3, 1) := by decide +kernel
theorem dL_law_1411 : decode cL_law 1411 = .ok (.invokestatic 205, 3) := by decide +kernel
theorem dL_law_1414 : decode cL_law 1414 = .ok (.istore 6, 2) := by decide +kernel
theorem dL_law_1416 : decode cL_law 1416 = .ok (.aload_n 2, 1) := by decide +kernel
theorem dL_law_1417 : decode cL_law 1417 = .ok (.aload_n 0, 1) := by decide +kernel
theorem dL_law_1418 : decode cL_law 1418 = .ok (.iload 5, 2) := by decide +kernel
theorem dL_law_1420 : decode cL_law 1420 = .ok (.iconst 1, 1) := by decide +kernel
theorem dL_law_1421 : decode cL_law 1421 = .ok (.iadd, 1) := by decide +kernel
theorem dL_law_1422 : decode cL_law 1422 = .ok (.iaload, 1) := by decide +kernel
theorem dL_law_1423 : decode cL_law 1423 = .ok (.aload_n 0, 1) := by decide +kernel
theorem dL_law_1424 : decode cL_law 1424 = .ok (.iload 5, 2) := by decide +kernel
theorem dL_law_1426 : decode cL_law 1426 = .ok (.iconst 2, 1) := by decide +kernel
theorem dL_law_1427 : decode cL_law 1427 = .ok (.iadd, 1) := by decide +kernel
theorem dL_law_1428 : decode cL_law 1428 = .ok (.iaload, 1) := by decide +kernel
theorem dL_law_1429 : decode cL_law 1429 = .ok (.invokevirtual 207, 3) := by decide +kernel
theorem dL_law_1432 : decode cL_law 1432 = .ok (.istore 7, 2) := by decide +kernel
theorem dL_law_1434 : decode cL_law 1434 = .ok (.aload_n 2, 1) := by decide +kernel
theorem dL_law_1435 : decode cL_law 1435 = .ok (.invokevirtual 124, 3) := by decide +kernel
theorem dL_law_1438 : decode cL_law 1438 = .ok (.iload 6, 2) := by decide +kernel
theorem dL_law_1440 : decode cL_law 1440 = .ok (.if_icmp .eq 5, 3) := by decide +kernel
theorem dL_law_1443 : decode cL_law 1443 = .ok (.iconst 0, 1) := by decide +kernel
