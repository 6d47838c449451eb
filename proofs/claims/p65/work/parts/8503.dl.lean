theorem dL_law_866 : decode code 866 = .ok (.i2d, 1) := by decide +kernel
theorem dL_law_867 : decode code 867 = .ok (.ddiv, 1) := by decide +kernel
theorem dL_law_868 : decode code 868 = .ok (.dcmp .l, 1) := by decide +kernel
theorem dL_law_869 : decode code 869 = .ok (.ifCond .ne 40, 3) := by decide +kernel
theorem dL_law_872 : decode code 872 = .ok (.aload_n 1, 1) := by decide +kernel
theorem dL_law_873 : decode code 873 = .ok (.invokevirtual 300, 3) := by decide +kernel
theorem dL_law_876 : decode code 876 = .ok (.iload 5, 2) := by decide +kernel
theorem dL_law_878 : decode code 878 = .ok (.i2f, 1) := by decide +kernel
theorem dL_law_879 : decode code 879 = .ok (.iload_n 3, 1) := by decide +kernel
theorem dL_law_880 : decode code 880 = .ok (.i2f, 1) := by decide +kernel
theorem dL_law_881 : decode code 881 = .ok (.fdiv, 1) := by decide +kernel
theorem dL_law_882 : decode code 882 = .ok (.fcmp .l, 1) := by decide +kernel
theorem dL_law_883 : decode code 883 = .ok (.ifCond .ne 26, 3) := by decide +kernel
theorem dL_law_886 : decode code 886 = .ok (.aload_n 1, 1) := by decide +kernel
theorem dL_law_887 : decode code 887 = .ok (.iload 7, 2) := by decide +kernel
theorem dL_law_889 : decode code 889 = .ok (.invokestatic 304, 3) := by decide +kernel
theorem dL_law_892 : decode code 892 = .ok (.sipush (-30000), 3) := by decide +kernel
theorem dL_law_895 : decode code 895 = .ok (.if_icmp .ne 14, 3) := by decide +kernel
theorem dL_law_898 : decode code 898 = .ok (.aload_n 1, 1) := by decide +kernel
theorem dL_law_899 : decode code 899 = .ok (.iload_n 3, 1) := by decide +kernel
theorem dL_law_900 : decode code 900 = .ok (.invokestatic 306, 3) := by decide +kernel
theorem dL_law_903 : decode code 903 = .ok (.sipush (-30000), 3) := by decide +kernel
theorem dL_law_906 : decode code 906 = .ok (.if_icmp .eq 5, 3) := by decide +kernel
theorem dL_law_909 : decode code 909 = .ok (.iconst 0, 1) := by decide +kernel
theorem dL_law_910 : decode code 910 = .ok (.ireturn, 1) := by decide +kernel
theorem dL_law_911 : decode code 911 = .ok (.iconst 1, 1) := by decide +kernel
theorem dL_law_912 : decode code 912 = .ok (.istore 13, 2) := by decide +kernel
theorem dL_law_914 : decode code 914 = .ok (.iload 13, 2) := by decide +kernel
theorem dL_law_916 : decode code 916 = .ok (.iload 7, 2) := by decide +kernel
theorem dL_law_918 : decode code 918 = .ok (.if_icmp .ge 86, 3) := by decide +kernel
theorem dL_law_921 : decode code 921 = .ok (.aload_n 1, 1) := by decide +kernel
theorem dL_law_922 : decode code 922 = .ok (.iload 13, 2) := by decide +kernel
theorem dL_law_924 : decode code 924 = .ok (.iconst 1, 1) := by decide +kernel
theorem dL_law_925 : decode code 925 = .ok (.isub, 1) := by decide +kernel
theorem dL_law_926 : decode code 926 = .ok (.invokevirtual 76, 3) := by decide +kernel
theorem dL_law_929 : decode code 929 = .ok (.istore 14, 2) := by decide +kernel
theorem dL_law_931 : decode code 931 = .ok (.aload_n 1, 1) := by decide +kernel
theorem dL_law_932 : decode code 932 = .ok (.iload 13, 2) := by decide +kernel
theorem dL_law_934 : decode code 934 = .ok (.invokevirtual 76, 3) := by decide +kernel
theorem dL_law_937 : decode code 937 = .ok (.istore 15, 2) := by decide +kernel
theorem dL_law_939 : decode code 939 = .ok (.aload_n 1, 1) := by decide +kernel
theorem dL_law_940 : decode code 940 = .ok (.iload 14, 2) := by decide +kernel
theorem dL_law_942 : decode code 942 = .ok (.invokevirtual 70, 3) := by decide +kernel
theorem dL_law_945 : decode code 945 = .ok (.aload_n 1, 1) := by decide +kernel
theorem dL_law_946 : decode code 946 = .ok (.iload 15, 2) := by decide +kernel
theorem dL_law_948 : decode code 948 = .ok (.invokevirtual 70, 3) := by decide +kernel
theorem dL_law_951 : decode code 951 = .ok (.isub, 1) := by decide +kernel
theorem dL_law_952 : decode code 952 = .ok (.istore 16, 2) := by decide +kernel
theorem dL_law_954 : decode code 954 = .ok (.aload_n 1, 1) := by decide +kernel
theorem dL_law_955 : decode code 955 = .ok (.iload 14, 2) := by decide +kernel
theorem dL_law_957 : decode code 957 = .ok (.invokevirtual 73, 3) := by decide +kernel
theorem dL_law_960 : decode code 960 = .ok (.aload_n 1, 1) := by decide +kernel
theorem dL_law_961 : decode code 961 = .ok (.iload 15, 2) := by decide +kernel
theorem dL_law_963 : decode code 963 = .ok (.invokevirtual 73, 3) := by decide +kernel
theorem dL_law_966 : decode code 966 = .ok (.isub, 1) := by decide +kernel
theorem dL_law_967 : decode code 967 = .ok (.istore 17, 2) := by decide +kernel
theorem dL_law_969 : decode code 969 = .ok (.iload 16, 2) := by decide +kernel
theorem dL_law_971 : decode code 971 = .ok (.ifCond .lt 25, 3) := by decide +kernel
theorem dL_law_974 : decode code 974 = .ok (.iload 16, 2) := by decide +kernel
theorem dL_law_976 : decode code 976 = .ok (.ifCond .ne 22, 3) := by decide +kernel
theorem dL_law_979 : decode code 979 = .ok (.iload 17, 2) := by decide +kernel
theorem dL_law_981 : decode code 981 = .ok (.ifCond .lt 15, 3) := by decide +kernel
theorem dL_law_984 : decode code 984 = .ok (.iload 17, 2) := by decide +kernel
theorem dL_law_986 : decode code 986 = .ok (.ifCond .ne 12, 3) := by decide +kernel
theorem dL_law_989 : decode code 989 = .ok (.iload 14, 2) := by decide +kernel
theorem dL_law_991 : decode code 991 = .ok (.iload 15, 2) := by decide +kernel
theorem dL_law_993 : decode code 993 = .ok (.if_icmp .le 5, 3) := by decide +kernel
theorem dL_law_996 : decode code 996 = .ok (.iconst 0, 1) := by decide +kernel
theorem dL_law_997 : decode code 997 = .ok (.ireturn, 1) := by decide +kernel
theorem dL_law_998 : decode code 998 = .ok (.iinc 13 1, 3) := by decide +kernel
theorem dL_law_1001 : decode code 1001 = .ok (.goto (-87), 3) := by decide +kernel
theorem dL_law_1004 : decode code 1004 = .ok (.iconst 1, 1) := by decide +kernel
theorem dL_law_1005 : decode code 1005 = .ok (.istore 13, 2) := by decide +kernel
theorem dL_law_1007 : decode code 1007 = .ok (.iload 13, 2) := by decide +kernel
theorem dL_law_1009 : decode code 1009 = .ok (.iload_n 3, 1) := by decide +kernel
theorem dL_law_1010 : decode code 1010 = .ok (.if_icmp .ge 86, 3) := by decide +kernel
theorem dL_law_1013 : decode code 1013 = .ok (.aload_n 1, 1) := by decide +kernel
theorem dL_law_1014 : decode code 1014 = .ok (.iload 13, 2) := by decide +kernel
theorem dL_law_1016 : decode code 1016 = .ok (.iconst 1, 1) := by decide +kernel
theorem dL_law_1017 : decode code 1017 = .ok (.isub, 1) := by decide +kernel
theorem dL_law_1018 : decode code 1018 = .ok (.invokevirtual 85, 3) := by decide +kernel
theorem dL_law_1021 : decode code 1021 = .ok (.istore 14, 2) := by decide +kernel
theorem dL_law_1023 : decode code 1023 = .ok (.aload_n 1, 1) := by decide +kernel
theorem dL_law_1024 : decode code 1024 = .ok (.iload 13, 2) := by decide +kernel
theorem dL_law_1026 : decode code 1026 = .ok (.invokevirtual 85, 3) := by decide +kernel
theorem dL_law_1029 : decode code 1029 = .ok (.istore 15, 2) := by decide +kernel
theorem dL_law_1031 : decode code 1031 = .ok (.aload_n 1, 1) := by decide +kernel
theorem dL_law_1032 : decode code 1032 = .ok (.iload 14, 2) := by decide +kernel
theorem dL_law_1034 : decode code 1034 = .ok (.invokevirtual 211, 3) := by decide +kernel
theorem dL_law_1037 : decode code 1037 = .ok (.aload_n 1, 1) := by decide +kernel
theorem dL_law_1038 : decode code 1038 = .ok (.iload 15, 2) := by decide +kernel
theorem dL_law_1040 : decode code 1040 = .ok (.invokevirtual 211, 3) := by decide +kernel
theorem dL_law_1043 : decode code 1043 = .ok (.isub, 1) := by decide +kernel
theorem dL_law_1044 : decode code 1044 = .ok (.istore 16, 2) := by decide +kernel
theorem dL_law_1046 : decode code 1046 = .ok (.aload_n 1, 1) := by decide +kernel
theorem dL_law_1047 : decode code 1047 = .ok (.iload 14, 2) := by decide +kernel
theorem dL_law_1049 : decode code 1049 = .ok (.invokevirtual 153, 3) := by decide +kernel
theorem dL_law_1052 : decode code 1052 = .ok (.aload_n 1, 1) := by decide +kernel
theorem dL_law_1053 : decode code 1053 = .ok (.iload 15, 2) := by decide +kernel
theorem dL_law_1055 : decode code 1055 = .ok (.invokevirtual 153, 3) := by decide +kernel
theorem dL_law_1058 : decode code 1058 = .ok (.isub, 1) := by decide +kernel
theorem dL_law_1059 : decode code 1059 = .ok (.istore 17, 2) := by decide +kernel
theorem dL_law_1061 : decode code 1061 = .ok (.iload 16, 2) := by decide +kernel
theorem dL_law_1063 : decode code 1063 = .ok (.ifCond .lt 25, 3) := by decide +kernel
theorem dL_law_1066 : decode code 1066 = .ok (.iload 16, 2) := by decide +kernel
theorem dL_law_1068 : decode code 1068 = .ok (.ifCond .ne 22, 3) := by decide +kernel
theorem dL_law_1071 : decode code 1071 = .ok (.iload 17, 2) := by decide +kernel
theorem dL_law_1073 : decode code 1073 = .ok (.ifCond .lt 15, 3) := by decide +kernel
theorem dL_law_1076 : decode code 1076 = .ok (.iload 17, 2) := by decide +kernel
theorem dL_law_1078 : decode code 1078 = .ok (.ifCond .ne 12, 3) := by decide +kernel
theorem dL_law_1081 : decode code 1081 = .ok (.iload 14, 2) := by decide +kernel
theorem dL_law_1083 : decode code 1083 = .ok (.iload 15, 2) := by decide +kernel
theorem dL_law_1085 : decode code 1085 = .ok (.if_icmp .le 5, 3) := by decide +kernel
theorem dL_law_1088 : decode code 1088 = .ok (.iconst 0, 1) := by decide +kernel
theorem dL_law_1089 : decode code 1089 = .ok (.ireturn, 1) := by decide +kernel
theorem dL_law_1090 : decode code 1090 = .ok (.iinc 13 1, 3) := by decide +kernel
theorem dL_law_1093 : decode code 1093 = .ok (.goto (-86), 3) := by decide +kernel
theorem dL_law_1096 : decode code 1096 = .ok (.aload_n 1, 1) := by decide +kernel
theorem dL_law_1097 : decode code 1097 = .ok (.aload_n 0, 1) := by decide +kernel
theorem dL_law_1098 : decode code 1098 = .ok (.bipush 92, 2) := by decide +kernel
theorem dL_law_1100 : decode code 1100 = .ok (.iconst 4, 1) := by decide +kernel
theorem dL_law_1101 : decode code 1101 = .ok (.iload_n 2, 1) := by decide +kernel
theorem dL_law_1102 : decode code 1102 = .ok (.imul, 1) := by decide +kernel
theorem dL_law_1103 : decode code 1103 = .ok (.iadd, 1) := by decide +kernel
theorem dL_law_1104 : decode code 1104 = .ok (.invokestatic 104, 3) := by decide +kernel
theorem dL_law_1107 : decode code 1107 = .ok (.iinc 2 1, 3) := by decide +kernel
theorem dL_law_1110 : decode code 1110 = .ok (.goto (-1095), 3) := by decide +kernel
theorem dL_law_1113 : decode code 1113 = .ok (.iconst 1, 1) := by decide +kernel
theorem dL_law_1114 : decode code 1114 = .ok (.ireturn, 1) := by decide +kernel
