theorem dL_law_850 : decode cL_law 850 = .ok (.iload 4, 2) := by decide +kernel
theorem dL_law_852 : decode cL_law 852 = .ok (.iconst 1, 1) := by decide +kernel
theorem dL_law_853 : decode cL_law 853 = .ok (.iadd, 1) := by decide +kernel
theorem dL_law_854 : decode cL_law 854 = .ok (.iaload, 1) := by decide +kernel
theorem dL_law_855 : decode cL_law 855 = .ok (.invokevirtual 165, 3) := by decide +kernel
theorem dL_law_858 : decode cL_law 858 = .ok (.istore 6, 2) := by decide +kernel
theorem dL_law_860 : decode cL_law 860 = .ok (.aload_n 2, 1) := by decide +kernel
theorem dL_law_861 : decode cL_law 861 = .ok (.invokevirtual 101, 3) := by decide +kernel
theorem dL_law_864 : decode cL_law 864 = .ok (.iload 5, 2) := by decide +kernel
theorem dL_law_866 : decode cL_law 866 = .ok (.if_icmp .eq 5, 3) := by decide +kernel
theorem dL_law_869 : decode cL_law 869 = .ok (.iconst 0, 1) := by decide +kernel
theorem dL_law_870 : decode cL_law 870 = .ok (.ireturn, 1) := by decide +kernel
theorem dL_law_871 : decode cL_law 871 = .ok (.iload 5, 2) := by decide +kernel
theorem dL_law_873 : decode cL_law 873 = .ok (.ifCond .ne 15, 3) := by decide +kernel
theorem dL_law_876 : decode cL_law 876 = .ok (.aload_n 3, 1) := by decide +kernel
theorem dL_law_877 : decode cL_law 877 = .ok (.iconst 0, 1) := by decide +kernel
theorem dL_law_878 : decode cL_law 878 = .ok (.laload, 1) := by decide +kernel
theorem dL_law_879 : decode cL_law 879 = .ok (.iload 6, 2) := by decide +kernel
theorem dL_law_881 : decode cL_law 881 = .ok (.i2l, 1) := by decide +kernel
theorem dL_law_882 : decode cL_law 882 = .ok (.lcmp, 1) := by decide +kernel
theorem dL_law_883 : decode cL_law 883 = .ok (.ifCond .eq 5, 3) := by decide +kernel
theorem dL_law_886 : decode cL_law 886 = .ok (.iconst 0, 1) := by decide +kernel
theorem dL_law_887 : decode cL_law 887 = .ok (.ireturn, 1) := by decide +kernel
theorem dL_law_888 : decode cL_law 888 = .ok (.goto 864, 3) := by decide +kernel
theorem dL_law_891 : decode cL_law 891 = .ok (.aload_n 1, 1) := by decide +kernel
theorem dL_law_892 : decode cL_law 892 = .ok (.aload_n 0, 1) := by decide +kernel
theorem dL_law_893 : decode cL_law 893 = .ok (.iload 4, 2) := by decide +kernel
theorem dL_law_895 : decode cL_law 895 = .ok (.iconst 1, 1) := by decide +kernel
theorem dL_law_896 : decode cL_law 896 = .ok (.iadd, 1) := by decide +kernel
theorem dL_law_897 : decode cL_law 897 = .ok (.iaload, 1) := by decide +kernel
theorem dL_law_898 : decode cL_law 898 = .ok (.aload_n 3, 1) := by decide +kernel
theorem dL_law_899 : decode cL_law 899 = .ok (.invokestatic 166, 3) := by decide +kernel
theorem dL_law_902 : decode cL_law 902 = .ok (.istore 5, 2) := by decide +kernel
theorem dL_law_904 : decode cL_law 904 = .ok (.aload_n 2, 1) := by decide +kernel
theorem dL_law_905 : decode cL_law 905 = .ok (.aload_n 0, 1) := by decide +kernel
theorem dL_law_906 : decode cL_law 906 = .ok (.iload 4, 2) := by decide +kernel
theorem dL_law_908 : decode cL_law 908 = .ok (.iconst 1, 1) := by decide +kernel
theorem dL_law_909 : decode cL_law 909 = .ok (.iadd, 1) := by decide +kernel
theorem dL_law_910 : decode cL_law 910 = .ok (.iaload, 1) := by decide +kernel
theorem dL_law_911 : decode cL_law 911 = .ok (.invokevirtual 168, 3) := by decide +kernel
theorem dL_law_914 : decode cL_law 914 = .ok (.istore 6, 2) := by decide +kernel
theorem dL_law_916 : decode cL_law 916 = .ok (.aload_n 2, 1) := by decide +kernel
theorem dL_law_917 : decode cL_law 917 = .ok (.invokevirtual 101, 3) := by decide +kernel
theorem dL_law_920 : decode cL_law 920 = .ok (.iload 5, 2) := by decide +kernel
theorem dL_law_922 : decode cL_law 922 = .ok (.if_icmp .eq 5, 3) := by decide +kernel
theorem dL_law_925 : decode cL_law 925 = .ok (.iconst 0, 1) := by decide +kernel
theorem dL_law_926 : decode cL_law 926 = .ok (.ireturn, 1) := by decide +kernel
theorem dL_law_927 : decode cL_law 927 = .ok (.iload 5, 2) := by decide +kernel
theorem dL_law_929 : decode cL_law 929 = .ok (.ifCond .ne 15, 3) := by decide +kernel
theorem dL_law_932 : decode cL_law 932 = .ok (.aload_n 3, 1) := by decide +kernel
theorem dL_law_933 : decode cL_law 933 = .ok (.iconst 0, 1) := by decide +kernel
theorem dL_law_934 : decode cL_law 934 = .ok (.laload, 1) := by decide +kernel
theorem dL_law_935 : decode cL_law 935 = .ok (.iload 6, 2) := by decide +kernel
theorem dL_law_937 : decode cL_law 937 = .ok (.i2l, 1) := by decide +kernel
theorem dL_law_938 : decode cL_law 938 = .ok (.lcmp, 1) := by decide +kernel
theorem dL_law_939 : decode cL_law 939 = .ok (.ifCond .eq 5, 3) := by decide +kernel
theorem dL_law_942 : decode cL_law 942 = .ok (.iconst 0, 1) := by decide +kernel
theorem dL_law_943 : decode cL_law 943 = .ok (.ireturn, 1) := by decide +kernel
theorem dL_law_944 : decode cL_law 944 = .ok (.goto 808, 3) := by decide +kernel
theorem dL_law_947 : decode cL_law 947 = .ok (.aload_n 1, 1) := by decide +kernel
theorem dL_law_948 : decode cL_law 948 = .ok (.aload_n 0, 1) := by decide +kernel
theorem dL_law_949 : decode cL_law 949 = .ok (.iload 4, 2) := by decide +kernel
theorem dL_law_951 : decode cL_law 951 = .ok (.iconst 1, 1) := by decide +kernel
theorem dL_law_952 : decode cL_law 952 = .ok (.iadd, 1) := by decide +kernel
theorem dL_law_953 : decode cL_law 953 = .ok (.iaload, 1) := by decide +kernel
theorem dL_law_954 : decode cL_law 954 = .ok (.aload_n 3, 1) := by decide +kernel
theorem dL_law_955 : decode cL_law 955 = .ok (.invokestatic 169, 3) := by decide +kernel
theorem dL_law_958 : decode cL_law 958 = .ok (.istore 5, 2) := by decide +kernel
theorem dL_law_960 : decode cL_law 960 = .ok (.aload_n 2, 1) := by decide +kernel
theorem dL_law_961 : decode cL_law 961 = .ok (.aload_n 0, 1) := by decide +kernel
theorem dL_law_962 : decode cL_law 962 = .ok (.iload 4, 2) := by decide +kernel
theorem dL_law_964 : decode cL_law 964 = .ok (.iconst 1, 1) := by decide +kernel
theorem dL_law_965 : decode cL_law 965 = .ok (.iadd, 1) := by decide +kernel
theorem dL_law_966 : decode cL_law 966 = .ok (.iaload, 1) := by decide +kernel
theorem dL_law_967 : decode cL_law 967 = .ok (.invokevirtual 171, 3) := by decide +kernel
theorem dL_law_970 : decode cL_law 970 = .ok (.istore 6, 2) := by decide +kernel
theorem dL_law_972 : decode cL_law 972 = .ok (.aload_n 2, 1) := by decide +kernel
theorem dL_law_973 : decode cL_law 973 = .ok (.invokevirtual 101, 3) := by decide +kernel
theorem dL_law_976 : decode cL_law 976 = .ok (.iload 5, 2) := by decide +kernel
theorem dL_law_978 : decode cL_law 978 = .ok (.if_icmp .eq 5, 3) := by decide +kernel
theorem dL_law_981 : decode cL_law 981 = .ok (.iconst 0, 1) := by decide +kernel
theorem dL_law_982 : decode cL_law 982 = .ok (.ireturn, 1) := by decide +kernel
theorem dL_law_983 : decode cL_law 983 = .ok (.iload 5, 2) := by decide +kernel
theorem dL_law_985 : decode cL_law 985 = .ok (.ifCond .ne 15, 3) := by decide +kernel
theorem dL_law_988 : decode cL_law 988 = .ok (.aload_n 3, 1) := by decide +kernel
theorem dL_law_989 : decode cL_law 989 = .ok (.iconst 0, 1) := by decide +kernel
theorem dL_law_990 : decode cL_law 990 = .ok (.laload, 1) := by decide +kernel
theorem dL_law_991 : decode cL_law 991 = .ok (.iload 6, 2) := by decide +kernel
theorem dL_law_993 : decode cL_law 993 = .ok (.i2l, 1) := by decide +kernel
theorem dL_law_994 : decode cL_law 994 = .ok (.lcmp, 1) := by decide +kernel
theorem dL_law_995 : decode cL_law 995 = .ok (.ifCond .eq 5, 3) := by decide +kernel
theorem dL_law_998 : decode cL_law 998 = .ok (.iconst 0, 1) := by decide +kernel
theorem dL_law_999 : decode cL_law 999 = .ok (.ireturn, 1) := by decide +kernel
theorem dL_law_1000 : decode cL_law 1000 = .ok (.goto 752, 3) := by decide +kernel
theorem dL_law_1003 : decode cL_law 1003 = .ok (.aload_n 1, 1) := by decide +kernel
theorem dL_law_1004 : decode cL_law 1004 = .ok (.invokevirtual 172, 3) := by decide +kernel
theorem dL_law_1007 : decode cL_law 1007 = .ok (.aload_n 2, 1) := by decide +kernel
theorem dL_law_1008 : decode cL_law 1008 = .ok (.invokevirtual 175, 3) := by decide +kernel
theorem dL_law_1011 : decode cL_law 1011 = .ok (.if_icmp .eq 741, 3) := by decide +kernel
theorem dL_law_1014 : decode cL_law 1014 = .ok (.iconst 0, 1) := by decide +kernel
theorem dL_law_1015 : decode cL_law 1015 = .ok (.ireturn, 1) := by decide +kernel
theorem dL_law_1016 : decode cL_law 1016 = .ok (.aload_n 1, 1) := by decide +kernel
theorem dL_law_1017 : decode cL_law 1017 = .ok (.aload_n 0, 1) := by decide +kernel
theorem dL_law_1018 : decode cL_law 1018 = .ok (.iload 4, 2) := by decide +kernel
theorem dL_law_1020 : decode cL_law 1020 = .ok (.iconst 1, 1) := by decide +kernel
theorem dL_law_1021 : decode cL_law 1021 = .ok (.iadd, 1) := by decide +kernel
theorem dL_law_1022 : decode cL_law 1022 = .ok (.iaload, 1) := by decide +kernel
theorem dL_law_1023 : decode cL_law 1023 = .ok (.aload_n 0, 1) := by decide +kernel
theorem dL_law_1024 : decode cL_law 1024 = .ok (.iload 4, 2) := by decide +kernel
theorem dL_law_1026 : decode cL_law 1026 = .ok (.iconst 2, 1) := by decide +kernel
theorem dL_law_1027 : decode cL_law 1027 = .ok (.iadd, 1) := by decide +kernel
theorem dL_law_1028 : decode cL_law 1028 = .ok (.iaload, 1) := by decide +kernel
theorem dL_law_1029 : decode cL_law 1029 = .ok (.aload_n 3, 1) := by decide +kernel
theorem dL_law_1030 : decode cL_law 1030 = .ok (.invokestatic 176, 3) := by decide +kernel
theorem dL_law_1033 : decode cL_law 1033 = .ok (.istore 5, 2) := by decide +kernel
theorem dL_law_1035 : decode cL_law 1035 = .ok (.aload_n 2, 1) := by decide +kernel
theorem dL_law_1036 : decode cL_law 1036 = .ok (.aload_n 0, 1) := by decide +kernel
theorem dL_law_1037 : decode cL_law 1037 = .ok (.iload 4, 2) := by decide +kernel
theorem dL_law_1039 : decode cL_law 1039 = .ok (.iconst 1, 1) := by decide +kernel
theorem dL_law_1040 : decode cL_law 1040 = .ok (.iadd, 1) := by decide +kernel
theorem dL_law_1041 : decode cL_law 1041 = .ok (.iaload, 1) := by decide +kernel
theorem dL_law_1042 : decode cL_law 1042 = .ok (.aload_n 0, 1) := by decide +kernel
theorem dL_law_1043 : decode cL_law 1043 = .ok (.iload 4, 2) := by decide +kernel
theorem dL_law_1045 : decode cL_law 1045 = .ok (.iconst 2, 1) := by decide +kernel
theorem dL_law_1046 : decode cL_law 1046 = .ok (.iadd, 1) := by decide +kernel
theorem dL_law_1047 : decode cL_law 1047 = .ok (.iaload, 1) := by decide +kernel
theorem dL_law_1048 : decode cL_law 1048 = .ok (.invokevirtual 178, 3) := by decide +kernel
theorem dL_law_1051 : decode cL_law 1051 = .ok (.istore 6, 2) := by decide +kernel
theorem dL_law_1053 : decode cL_law 1053 = .ok (.aload_n 2, 1) := by decide +kernel
theorem dL_law_1054 : decode cL_law 1054 = .ok (.invokevirtual 101, 3) := by decide +kernel
theorem dL_law_1057 : decode cL_law 1057 = .ok (.iload 5, 2) := by decide +kernel
theorem dL_law_1059 : decode cL_law 1059 = .ok (.if_icmp .eq 5, 3) := by decide +kernel
theorem dL_law_1062 : decode cL_law 1062 = .ok (.iconst 0, 1) := by decide +kernel
theorem dL_law_1063 : decode cL_law 1063 = .ok (.ireturn, 1) := by decide +kernel
theorem dL_law_1064 : decode cL_law 1064 = .ok (.iload 5, 2) := by decide +kernel
theorem dL_law_1066 : decode cL_law 1066 = .ok (.ifCond .ne 15, 3) := by decide +kernel
theorem dL_law_1069 : decode cL_law 1069 = .ok (.aload_n 3, 1) := by decide +kernel
theorem dL_law_1070 : decode cL_law 1070 = .ok (.iconst 0, 1) := by decide +kernel
theorem dL_law_1071 : decode cL_law 1071 = .ok (.laload, 1) := by decide +kernel
theorem dL_law_1072 : decode cL_law 1072 = .ok (.iload 6, 2) := by decide +kernel
theorem dL_law_1074 : decode cL_law 1074 = .ok (.i2l, 1) := by decide +kernel
theorem dL_law_1075 : decode cL_law 1075 = .ok (.lcmp, 1) := by decide +kernel
theorem dL_law_1076 : decode cL_law 1076 = .ok (.ifCond .eq 5, 3) := by decide +kernel
theorem dL_law_1079 : decode cL_law 1079 = .ok (.iconst 0, 1) := by decide +kernel
theorem dL_law_1080 : decode cL_law 1080 = .ok (.ireturn, 1) := by decide +kernel
theorem dL_law_1081 : decode cL_law 1081 = .ok (.goto 671, 3) := by decide +kernel
theorem dL_law_1084 : decode cL_law 1084 = .ok (.aload_n 1, 1) := by decide +kernel
theorem dL_law_1085 : decode cL_law 1085 = .ok (.aload_n 0, 1) := by decide +kernel
theorem dL_law_1086 : decode cL_law 1086 = .ok (.iload 4, 2) := by decide +kernel
theorem dL_law_1088 : decode cL_law 1088 = .ok (.iconst 1, 1) := by decide +kernel
theorem dL_law_1089 : decode cL_law 1089 = .ok (.iadd, 1) := by decide +kernel
theorem dL_law_1090 : decode cL_law 1090 = .ok (.iaload, 1) := by decide +kernel
theorem dL_law_1091 : decode cL_law 1091 = .ok (.aload_n 3, 1) := by decide +kernel
theorem dL_law_1092 : decode cL_law 1092 = .ok (.invokestatic 179, 3) := by decide +kernel
theorem dL_law_1095 : decode cL_law 1095 = .ok (.istore 5, 2) := by decide +kernel
theorem dL_law_1097 : decode cL_law 1097 = .ok (.aload_n 2, 1) := by decide +kernel
theorem dL_law_1098 : decode cL_law 1098 = .ok (.aload_n 0, 1) := by decide +kernel
theorem dL_law_1099 : decode cL_law 1099 = .ok (.iload 4, 2) := by decide +kernel
theorem dL_law_1101 : decode cL_law 1101 = .ok (.iconst 1, 1) := by decide +kernel
theorem dL_law_1102 : decode cL_law 1102 = .ok (.iadd, 1) := by decide +kernel
theorem dL_law_1103 : decode cL_law 1103 = .ok (.iaload, 1) := by decide +kernel
theorem dL_law_1104 : decode cL_law 1104 = .ok (.invokevirtual 181, 3) := by decide +kernel
theorem dL_law_1107 : decode cL_law 1107 = .ok (.istore 6, 2) := by decide +kernel
theorem dL_law_1109 : decode cL_law 1109 = .ok (.aload_n 2, 1) := by decide +kernel
theorem dL_law_1110 : decode cL_law 1110 = .ok (.invokevirtual 101, 3) := by decide +kernel
theorem dL_law_1113 : decode cL_law 1113 = .ok (.iload 5, 2) := by decide +kernel
theorem dL_law_1115 : decode cL_law 1115 = .ok (.if_icmp .eq 5, 3) := by decide +kernel
theorem dL_law_1118 : decode cL_law 1118 = .ok (.iconst 0, 1) := by decide +kernel
theorem dL_law_1119 : decode cL_law 1119 = .ok (.ireturn, 1) := by decide +kernel
theorem dL_law_1120 : decode cL_law 1120 = .ok (.iload 5, 2) := by decide +kernel
theorem dL_law_1122 : decode cL_law 1122 = .ok (.ifCond .ne 15, 3) := by decide +kernel
theorem dL_law_1125 : decode cL_law 1125 = .ok (.aload_n 3, 1) := by decide +kernel
theorem dL_law_1126 : decode cL_law 1126 = .ok (.iconst 0, 1) := by decide +kernel
theorem dL_law_1127 : decode cL_law 1127 = .ok (.laload, 1) := by decide +kernel
theorem dL_law_1128 : decode cL_law 1128 = .ok (.iload 6, 2) := by decide +kernel
theorem dL_law_1130 : decode cL_law 1130 = .ok (.i2l, 1) := by decide +kernel
theorem dL_law_1131 : decode cL_law 1131 = .ok (.lcmp, 1) := by decide +kernel
theorem dL_law_1132 : decode cL_law 1132 = .ok (.ifCond .eq 5, 3) := by decide +kernel
theorem dL_law_1135 : decode cL_law 1135 = .ok (.iconst 0, 1) := by decide +kernel
theorem dL_law_1136 : decode cL_law 1136 = .ok (.ireturn, 1) := by decide +kernel
theorem dL_law_1137 : decode cL_law 1137 = .ok (.goto 615, 3) := by decide +kernel
theorem dL_law_1140 : decode cL_law 1140 = .ok (.aload_n 1, 1) := by decide +kernel
theorem dL_law_1141 : decode cL_law 1141 = .ok (.invokevirtual 182, 3) := by decide +kernel
theorem dL_law_1144 : decode cL_law 1144 = .ok (.aload_n 2, 1) := by decide +kernel
theorem dL_law_1145 : decode cL_law 1145 = .ok (.invokevirtual 185, 3) := by decide +kernel
theorem dL_law_1148 : decode cL_law 1148 = .ok (.if_icmp .eq 604, 3) := by decide +kernel
theorem dL_law_1151 : decode cL_law 1151 = .ok (.iconst 0, 1) := by decide +kernel
theorem dL_law_1152 : decode cL_law 1152 = .ok (.ireturn, 1) := by decide +kernel
theorem dL_law_1153 : decode cL_law 1153 = .ok (.aload_n 1, 1) := by decide +kernel
theorem dL_law_1154 : decode cL_law 1154 = .ok (.invokevirtual 186, 3) := by decide +kernel
theorem dL_law_1157 : decode cL_law 1157 = .ok (.aload_n 2, 1) := by decide +kernel
theorem dL_law_1158 : decode cL_law 1158 = .ok (.invokevirtual 190, 3) := by decide +kernel
theorem dL_law_1161 : decode cL_law 1161 = .ok (.if_icmp .eq 591, 3) := by decide +kernel
theorem dL_law_1164 : decode cL_law 1164 = .ok (.iconst 0, 1) := by decide +kernel
theorem dL_law_1165 : decode cL_law 1165 = .ok (.ireturn, 1) := by decide +kernel
theorem dL_law_1166 : decode cL_law 1166 = .ok (.aload_n 1, 1) := by decide +kernel
theorem dL_law_1167 : decode cL_law 1167 = .ok (.aload_n 0, 1) := by decide +kernel
theorem dL_law_1168 : decode cL_law 1168 = .ok (.iload 4, 2) := by decide +kernel
theorem dL_law_1170 : decode cL_law 1170 = .ok (.iconst 1, 1) := by decide +kernel
theorem dL_law_1171 : decode cL_law 1171 = .ok (.iadd, 1) := by decide +kernel
theorem dL_law_1172 : decode cL_law 1172 = .ok (.iaload, 1) := by decide +kernel
theorem dL_law_1173 : decode cL_law 1173 = .ok (.aload_n 3, 1) := by decide +kernel
theorem dL_law_1174 : decode cL_law 1174 = .ok (.invokestatic 191, 3) := by decide +kernel
theorem dL_law_1177 : decode cL_law 1177 = .ok (.istore 5, 2) := by decide +kernel
theorem dL_law_1179 : decode cL_law 1179 = .ok (.aload_n 2, 1) := by decide +kernel
theorem dL_law_1180 : decode cL_law 1180 = .ok (.aload_n 0, 1) := by decide +kernel
theorem dL_law_1181 : decode cL_law 1181 = .ok (.iload 4, 2) := by decide +kernel
theorem dL_law_1183 : decode cL_law 1183 = .ok (.iconst 1, 1) := by decide +kernel
theorem dL_law_1184 : decode cL_law 1184 = .ok (.iadd, 1) := by decide +kernel
theorem dL_law_1185 : decode cL_law 1185 = .ok (.iaload, 1) := by decide +kernel
theorem dL_law_1186 : decode cL_law 1186 = .ok (.invokevirtual 193, 3) := by decide +kernel
theorem dL_law_1189 : decode cL_law 1189 = .ok (.istore 6, 2) := by decide +kernel
theorem dL_law_1191 : decode cL_law 1191 = .ok (.aload_n 2, 1) := by decide +kernel
theorem dL_law_1192 : decode cL_law 1192 = .ok (.invokevirtual 101, 3) := by decide +kernel
theorem dL_law_1195 : decode cL_law 1195 = .ok (.iload 5, 2) := by decide +kernel
theorem dL_law_1197 : decode cL_law 1197 = .ok (.if_icmp .eq 5, 3) := by decide +kernel
theorem dL_law_1200 : decode cL_law 1200 = .ok (.iconst 0, 1) := by decide +kernel
theorem dL_law_1201 : decode cL_law 1201 = .ok (.ireturn, 1) := by decide +kernel
theorem dL_law_1202 : decode cL_law 1202 = .ok (.iload 5, 2) := by decide +kernel
theorem dL_law_1204 : decode cL_law 1204 = .ok (.ifCond .ne 15, 3) := by decide +kernel
theorem dL_law_1207 : decode cL_law 1207 = .ok (.aload_n 3, 1) := by decide +kernel
theorem dL_law_1208 : decode cL_law 1208 = .ok (.iconst 0, 1) := by decide +kernel
theorem dL_law_1209 : decode cL_law 1209 = .ok (.laload, 1) := by decide +kernel
theorem dL_law_1210 : decode cL_law 1210 = .ok (.iload 6, 2) := by decide +kernel
theorem dL_law_1212 : decode cL_law 1212 = .ok (.i2l, 1) := by decide +kernel
theorem dL_law_1213 : decode cL_law 1213 = .ok (.lcmp, 1) := by decide +kernel
theorem dL_law_1214 : decode cL_law 1214 = .ok (.ifCond .eq 5, 3) := by decide +kernel
theorem dL_law_1217 : decode cL_law 1217 = .ok (.iconst 0, 1) := by decide +kernel
theorem dL_law_1218 : decode cL_law 1218 = .ok (.ireturn, 1) := by decide +kernel
theorem dL_law_1219 : decode cL_law 1219 = .ok (.goto 533, 3) := by decide +kernel
theorem dL_law_1222 : decode cL_law 1222 = .ok (.aload_n 1, 1) := by decide +kernel
theorem dL_law_1223 : decode cL_law 1223 = .ok (.aload_n 0, 1) := by decide +kernel
theorem dL_law_1224 : decode cL_law 1224 = .ok (.iload 4, 2) := by decide +kernel
theorem dL_law_1226 : decode cL_law 1226 = .ok (.iconst 1, 1) := by decide +kernel
theorem dL_law_1227 : decode cL_law 1227 = .ok (.iadd, 1) := by decide +kernel
theorem dL_law_1228 : decode cL_law 1228 = .ok (.iaload, 1) := by decide +kernel
theorem dL_law_1229 : decode cL_law 1229 = .ok (.aload_n 0, 1) := by decide +kernel
theorem dL_law_1230 : decode cL_law 1230 = .ok (.iload 4, 2) := by decide +kernel
theorem dL_law_1232 : decode cL_law 1232 = .ok (.iconst 2, 1) := by decide +kernel
theorem dL_law_1233 : decode cL_law 1233 = .ok (.iadd, 1) := by decide +kernel
theorem dL_law_1234 : decode cL_law 1234 = .ok (.iaload, 1) := by decide +kernel
theorem dL_law_1235 : decode cL_law 1235 = .ok (.aload_n 3, 1) := by decide +kernel
theorem dL_law_1236 : decode cL_law 1236 = .ok (.invokestatic 194, 3) := by decide +kernel
theorem dL_law_1239 : decode cL_law 1239 = .ok (.istore 5, 2) := by decide +kernel
theorem dL_law_1241 : decode cL_law 1241 = .ok (.aload_n 2, 1) := by decide +kernel
theorem dL_law_1242 : decode cL_law 1242 = .ok (.aload_n 0, 1) := by decide +kernel
theorem dL_law_1243 : decode cL_law 1243 = .ok (.iload 4, 2) := by decide +kernel
theorem dL_law_1245 : decode cL_law 1245 = .ok (.iconst 1, 1) := by decide +kernel
theorem dL_law_1246 : decode cL_law 1246 = .ok (.iadd, 1) := by decide +kernel
theorem dL_law_1247 : decode cL_law 1247 = .ok (.iaload, 1) := by decide +kernel
theorem dL_law_1248 : decode cL_law 1248 = .ok (.aload_n 0, 1) := by decide +kernel
theorem dL_law_1249 : decode cL_law 1249 = .ok (.iload 4, 2) := by decide +kernel
theorem dL_law_1251 : decode cL_law 1251 = .ok (.iconst 2, 1) := by decide +kernel
theorem dL_law_1252 : decode cL_law 1252 = .ok (.iadd, 1) := by decide +kernel
theorem dL_law_1253 : decode cL_law 1253 = .ok (.iaload, 1) := by decide +kernel
theorem dL_law_1254 : decode cL_law 1254 = .ok (.invokevirtual 196, 3) := by decide +kernel
theorem dL_law_1257 : decode cL_law 1257 = .ok (.istore 6, 2) := by decide +kernel
theorem dL_law_1259 : decode cL_law 1259 = .ok (.aload_n 2, 1) := by decide +kernel
theorem dL_law_1260 : decode cL_law 1260 = .ok (.invokevirtual 101, 3) := by decide +kernel
theorem dL_law_1263 : decode cL_law 1263 = .ok (.iload 5, 2) := by decide +kernel
theorem dL_law_1265 : decode cL_law 1265 = .ok (.if_icmp .eq 5, 3) := by decide +kernel
theorem dL_law_1268 : decode cL_law 1268 = .ok (.iconst 0, 1) := by decide +kernel
theorem dL_law_1269 : decode cL_law 1269 = .ok (.ireturn, 1) := by decide +kernel
theorem dL_law_1270 : decode cL_law 1270 = .ok (.iload 5, 2) := by decide +kernel
theorem dL_law_1272 : decode cL_law 1272 = .ok (.ifCond .ne 15, 3) := by decide +kernel
theorem dL_law_1275 : decode cL_law 1275 = .ok (.aload_n 3, 1) := by decide +kernel
theorem dL_law_1276 : decode cL_law 1276 = .ok (.iconst 0, 1) := by decide +kernel
theorem dL_law_1277 : decode cL_law 1277 = .ok (.laload, 1) := by decide +kernel
theorem dL_law_1278 : decode cL_law 1278 = .ok (.iload 6, 2) := by decide +kernel
theorem dL_law_1280 : decode cL_law 1280 = .ok (.i2l, 1) := by decide +kernel
theorem dL_law_1281 : decode cL_law 1281 = .ok (.lcmp, 1) := by decide +kernel
theorem dL_law_1282 : decode cL_law 1282 = .ok (.ifCond .eq 5, 3) := by decide +kernel
theorem dL_law_1285 : decode cL_law 1285 = .ok (.iconst 0, 1) := by decide +kernel
theorem dL_law_1286 : decode cL_law 1286 = .ok (.ireturn, 1) := by decide +kernel
theorem dL_law_1287 : decode cL_law 1287 = .ok (.goto 465, 3) := by decide +kernel
theorem dL_law_1290 : decode cL_law 1290 = .ok (.aload_n 1, 1) := by decide +kernel
theorem dL_law_1291 : decode cL_law 1291 = .ok (.aload_n 0, 1) := by decide +kernel
theorem dL_law_1292 : decode cL_law 1292 = .ok (.iload 4, 2) := by decide +kernel
theorem dL_law_1294 : decode cL_law 1294 = .ok (.iconst 1, 1) := by decide +kernel
theorem dL_law_1295 : decode cL_law 1295 = .ok (.iadd, 1) := by decide +kernel
theorem dL_law_1296 : decode cL_law 1296 = .ok (.iaload, 1) := by decide +kernel
theorem dL_law_1297 : decode cL_law 1297 = .ok (.aload_n 0, 1) := by decide +kernel
theorem dL_law_1298 : decode cL_law 1298 = .ok (.iload 4, 2) := by decide +kernel
theorem dL_law_1300 : decode cL_law 1300 = .ok (.iconst 2, 1) := by decide +kernel
theorem dL_law_1301 : decode cL_law 1301 = .ok (.iadd, 1) := by decide +kernel
theorem dL_law_1302 : decode cL_law 1302 = .ok (.iaload, 1) := by decide +kernel
theorem dL_law_1303 : decode cL_law 1303 = .ok (.aload_n 3, 1) := by decide +kernel
theorem dL_law_1304 : decode cL_law 1304 = .ok (.invokestatic 197, 3) := by decide +kernel
theorem dL_law_1307 : decode cL_law 1307 = .ok (.istore 5, 2) := by decide +kernel
theorem dL_law_1309 : decode cL_law 1309 = .ok (.aload_n 2, 1) := by decide +kernel
theorem dL_law_1310 : decode cL_law 1310 = .ok (.aload_n 0, 1) := by decide +kernel
theorem dL_law_1311 : decode cL_law 1311 = .ok (.iload 4, 2) := by decide +kernel
theorem dL_law_1313 : decode cL_law 1313 = .ok (.iconst 1, 1) := by decide +kernel
theorem dL_law_1314 : decode cL_law 1314 = .ok (.iadd, 1) := by decide +kernel
theorem dL_law_1315 : decode cL_law 1315 = .ok (.iaload, 1) := by decide +kernel
theorem dL_law_1316 : decode cL_law 1316 = .ok (.aload_n 0, 1) := by decide +kernel
theorem dL_law_1317 : decode cL_law 1317 = .ok (.iload 4, 2) := by decide +kernel
theorem dL_law_1319 : decode cL_law 1319 = .ok (.iconst 2, 1) := by decide +kernel
theorem dL_law_1320 : decode cL_law 1320 = .ok (.iadd, 1) := by decide +kernel
theorem dL_law_1321 : decode cL_law 1321 = .ok (.iaload, 1) := by decide +kernel
theorem dL_law_1322 : decode cL_law 1322 = .ok (.invokevirtual 199, 3) := by decide +kernel
theorem dL_law_1325 : decode cL_law 1325 = .ok (.istore 6, 2) := by decide +kernel
theorem dL_law_1327 : decode cL_law 1327 = .ok (.aload_n 2, 1) := by decide +kernel
theorem dL_law_1328 : decode cL_law 1328 = .ok (.invokevirtual 101, 3) := by decide +kernel
theorem dL_law_1331 : decode cL_law 1331 = .ok (.iload 5, 2) := by decide +kernel
theorem dL_law_1333 : decode cL_law 1333 = .ok (.if_icmp .eq 5, 3) := by decide +kernel
theorem dL_law_1336 : decode cL_law 1336 = .ok (.iconst 0, 1) := by decide +kernel
theorem dL_law_1337 : decode cL_law 1337 = .ok (.ireturn, 1) := by decide +kernel
theorem dL_law_1338 : decode cL_law 1338 = .ok (.iload 5, 2) := by decide +kernel
theorem dL_law_1340 : decode cL_law 1340 = .ok (.ifCond .ne 15, 3) := by decide +kernel
theorem dL_law_1343 : decode cL_law 1343 = .ok (.aload_n 3, 1) := by decide +kernel
theorem dL_law_1344 : decode cL_law 1344 = .ok (.iconst 0, 1) := by decide +kernel
theorem dL_law_1345 : decode cL_law 1345 = .ok (.laload, 1) := by decide +kernel
theorem dL_law_1346 : decode cL_law 1346 = .ok (.iload 6, 2) := by decide +kernel
theorem dL_law_1348 : decode cL_law 1348 = .ok (.i2l, 1) := by decide +kernel
theorem dL_law_1349 : decode cL_law 1349 = .ok (.lcmp, 1) := by decide +kernel
theorem dL_law_1350 : decode cL_law 1350 = .ok (.ifCond .eq 5, 3) := by decide +kernel
theorem dL_law_1353 : decode cL_law 1353 = .ok (.iconst 0, 1) := by decide +kernel
theorem dL_law_1354 : decode cL_law 1354 = .ok (.ireturn, 1) := by decide +kernel
theorem dL_law_1355 : decode cL_law 1355 = .ok (.goto 397, 3) := by decide +kernel
theorem dL_law_1358 : decode cL_law 1358 = .ok (.aload_n 1, 1) := by decide +kernel
theorem dL_law_1359 : decode cL_law 1359 = .ok (.aload_n 0, 1) := by decide +kernel
theorem dL_law_1360 : decode cL_law 1360 = .ok (.iload 4, 2) := by decide +kernel
theorem dL_law_1362 : decode cL_law 1362 = .ok (.iconst 1, 1) := by decide +kernel
theorem dL_law_1363 : decode cL_law 1363 = .ok (.iadd, 1) := by decide +kernel
theorem dL_law_1364 : decode cL_law 1364 = .ok (.iaload, 1) := by decide +kernel
theorem dL_law_1365 : decode cL_law 1365 = .ok (.aload_n 3, 1) := by decide +kernel
theorem dL_law_1366 : decode cL_law 1366 = .ok (.invokestatic 200, 3) := by decide +kernel
theorem dL_law_1369 : decode cL_law 1369 = .ok (.istore 5, 2) := by decide +kernel
theorem dL_law_1371 : decode cL_law 1371 = .ok (.aload_n 2, 1) := by decide +kernel
theorem dL_law_1372 : decode cL_law 1372 = .ok (.aload_n 0, 1) := by decide +kernel
theorem dL_law_1373 : decode cL_law 1373 = .ok (.iload 4, 2) := by decide +kernel
theorem dL_law_1375 : decode cL_law 1375 = .ok (.iconst 1, 1) := by decide +kernel
theorem dL_law_1376 : decode cL_law 1376 = .ok (.iadd, 1) := by decide +kernel
theorem dL_law_1377 : decode cL_law 1377 = .ok (.iaload, 1) := by decide +kernel
theorem dL_law_1378 : decode cL_law 1378 = .ok (.invokevirtual 202, 3) := by decide +kernel
theorem dL_law_1381 : decode cL_law 1381 = .ok (.istore 6, 2) := by decide +kernel
theorem dL_law_1383 : decode cL_law 1383 = .ok (.aload_n 2, 1) := by decide +kernel
theorem dL_law_1384 : decode cL_law 1384 = .ok (.invokevirtual 101, 3) := by decide +kernel
theorem dL_law_1387 : decode cL_law 1387 = .ok (.iload 5, 2) := by decide +kernel
theorem dL_law_1389 : decode cL_law 1389 = .ok (.if_icmp .eq 5, 3) := by decide +kernel
theorem dL_law_1392 : decode cL_law 1392 = .ok (.iconst 0, 1) := by decide +kernel
theorem dL_law_1393 : decode cL_law 1393 = .ok (.ireturn, 1) := by decide +kernel
theorem dL_law_1394 : decode cL_law 1394 = .ok (.iload 5, 2) := by decide +kernel
theorem dL_law_1396 : decode cL_law 1396 = .ok (.ifCond .ne 15, 3) := by decide +kernel
theorem dL_law_1399 : decode cL_law 1399 = .ok (.aload_n 3, 1) := by decide +kernel
theorem dL_law_1400 : decode cL_law 1400 = .ok (.iconst 0, 1) := by decide +kernel
theorem dL_law_1401 : decode cL_law 1401 = .ok (.laload, 1) := by decide +kernel
theorem dL_law_1402 : decode cL_law 1402 = .ok (.iload 6, 2) := by decide +kernel
theorem dL_law_1404 : decode cL_law 1404 = .ok (.i2l, 1) := by decide +kernel
theorem dL_law_1405 : decode cL_law 1405 = .ok (.lcmp, 1) := by decide +kernel
theorem dL_law_1406 : decode cL_law 1406 = .ok (.ifCond .eq 5, 3) := by decide +kernel
theorem dL_law_1409 : decode cL_law 1409 = .ok (.iconst 0, 1) := by decide +kernel
theorem dL_law_1410 : decode cL_law 1410 = .ok (.ireturn, 1) := by decide +kernel
theorem dL_law_1411 : decode cL_law 1411 = .ok (.goto 341, 3) := by decide +kernel
theorem dL_law_1414 : decode cL_law 1414 = .ok (.aload_n 1, 1) := by decide +kernel
theorem dL_law_1415 : decode cL_law 1415 = .ok (.aload_n 0, 1) := by decide +kernel
theorem dL_law_1416 : decode cL_law 1416 = .ok (.iload 4, 2) := by decide +kernel
theorem dL_law_1418 : decode cL_law 1418 = .ok (.iconst 1, 1) := by decide +kernel
theorem dL_law_1419 : decode cL_law 1419 = .ok (.iadd, 1) := by decide +kernel
theorem dL_law_1420 : decode cL_law 1420 = .ok (.iaload, 1) := by decide +kernel
theorem dL_law_1421 : decode cL_law 1421 = .ok (.aload_n 0, 1) := by decide +kernel
theorem dL_law_1422 : decode cL_law 1422 = .ok (.iload 4, 2) := by decide +kernel
theorem dL_law_1424 : decode cL_law 1424 = .ok (.iconst 2, 1) := by decide +kernel
theorem dL_law_1425 : decode cL_law 1425 = .ok (.iadd, 1) := by decide +kernel
theorem dL_law_1426 : decode cL_law 1426 = .ok (.iaload, 1) := by decide +kernel
theorem dL_law_1427 : decode cL_law 1427 = .ok (.aload_n 3, 1) := by decide +kernel
theorem dL_law_1428 : decode cL_law 1428 = .ok (.invokestatic 203, 3) := by decide +kernel
theorem dL_law_1431 : decode cL_law 1431 = .ok (.istore 5, 2) := by decide +kernel
theorem dL_law_1433 : decode cL_law 1433 = .ok (.aload_n 2, 1) := by decide +kernel
theorem dL_law_1434 : decode cL_law 1434 = .ok (.aload_n 0, 1) := by decide +kernel
theorem dL_law_1435 : decode cL_law 1435 = .ok (.iload 4, 2) := by decide +kernel
theorem dL_law_1437 : decode cL_law 1437 = .ok (.iconst 1, 1) := by decide +kernel
theorem dL_law_1438 : decode cL_law 1438 = .ok (.iadd, 1) := by decide +kernel
theorem dL_law_1439 : decode cL_law 1439 = .ok (.iaload, 1) := by decide +kernel
theorem dL_law_1440 : decode cL_law 1440 = .ok (.aload_n 0, 1) := by decide +kernel
theorem dL_law_1441 : decode cL_law 1441 = .ok (.iload 4, 2) := by decide +kernel
theorem dL_law_1443 : decode cL_law 1443 = .ok (.iconst 2, 1) := by decide +kernel
theorem dL_law_1444 : decode cL_law 1444 = .ok (.iadd, 1) := by decide +kernel
theorem dL_law_1445 : decode cL_law 1445 = .ok (.iaload, 1) := by decide +kernel
theorem dL_law_1446 : decode cL_law 1446 = .ok (.invokevirtual 205, 3) := by decide +kernel
theorem dL_law_1449 : decode cL_law 1449 = .ok (.istore 6, 2) := by decide +kernel
theorem dL_law_1451 : decode cL_law 1451 = .ok (.aload_n 2, 1) := by decide +kernel
theorem dL_law_1452 : decode cL_law 1452 = .ok (.invokevirtual 101, 3) := by decide +kernel
theorem dL_law_1455 : decode cL_law 1455 = .ok (.iload 5, 2) := by decide +kernel
theorem dL_law_1457 : decode cL_law 1457 = .ok (.if_icmp .eq 5, 3) := by decide +kernel
theorem dL_law_1460 : decode cL_law 1460 = .ok (.iconst 0, 1) := by decide +kernel
theorem dL_law_1461 : decode cL_law 1461 = .ok (.ireturn, 1) := by decide +kernel
theorem dL_law_1462 : decode cL_law 1462 = .ok (.iload 5, 2) := by decide +kernel
theorem dL_law_1464 : decode cL_law 1464 = .ok (.ifCond .ne 15, 3) := by decide +kernel
theorem dL_law_1467 : decode cL_law 1467 = .ok (.aload_n 3, 1) := by decide +kernel
theorem dL_law_1468 : decode cL_law 1468 = .ok (.iconst 0, 1) := by decide +kernel
theorem dL_law_1469 : decode cL_law 1469 = .ok (.laload, 1) := by decide +kernel
theorem dL_law_1470 : decode cL_law 1470 = .ok (.iload 6, 2) := by decide +kernel
theorem dL_law_1472 : decode cL_law 1472 = .ok (.i2l, 1) := by decide +kernel
theorem dL_law_1473 : decode cL_law 1473 = .ok (.lcmp, 1) := by decide +kernel
theorem dL_law_1474 : decode cL_law 1474 = .ok (.ifCond .eq 5, 3) := by decide +kernel
theorem dL_law_1477 : decode cL_law 1477 = .ok (.iconst 0, 1) := by decide +kernel
theorem dL_law_1478 : decode cL_law 1478 = .ok (.ireturn, 1) := by decide +kernel
theorem dL_law_1479 : decode cL_law 1479 = .ok (.goto 273, 3) := by decide +kernel
theorem dL_law_1482 : decode cL_law 1482 = .ok (.aload_n 1, 1) := by decide +kernel
theorem dL_law_1483 : decode cL_law 1483 = .ok (.aload_n 3, 1) := by decide +kernel
theorem dL_law_1484 : decode cL_law 1484 = .ok (.invokestatic 206, 3) := by decide +kernel
theorem dL_law_1487 : decode cL_law 1487 = .ok (.istore 5, 2) := by decide +kernel
theorem dL_law_1489 : decode cL_law 1489 = .ok (.aload_n 2, 1) := by decide +kernel
theorem dL_law_1490 : decode cL_law 1490 = .ok (.invokevirtual 209, 3) := by decide +kernel
theorem dL_law_1493 : decode cL_law 1493 = .ok (.istore 6, 2) := by decide +kernel
theorem dL_law_1495 : decode cL_law 1495 = .ok (.aload_n 2, 1) := by decide +kernel
theorem dL_law_1496 : decode cL_law 1496 = .ok (.invokevirtual 101, 3) := by decide +kernel
theorem dL_law_1499 : decode cL_law 1499 = .ok (.iload 5, 2) := by decide +kernel
theorem dL_law_1501 : decode cL_law 1501 = .ok (.if_icmp .eq 5, 3) := by decide +kernel
theorem dL_law_1504 : decode cL_law 1504 = .ok (.iconst 0, 1) := by decide +kernel
theorem dL_law_1505 : decode cL_law 1505 = .ok (.ireturn, 1) := by decide +kernel
theorem dL_law_1506 : decode cL_law 1506 = .ok (.iload 5, 2) := by decide +kernel
theorem dL_law_1508 : decode cL_law 1508 = .ok (.ifCond .ne 15, 3) := by decide +kernel
theorem dL_law_1511 : decode cL_law 1511 = .ok (.aload_n 3, 1) := by decide +kernel
theorem dL_law_1512 : decode cL_law 1512 = .ok (.iconst 0, 1) := by decide +kernel
theorem dL_law_1513 : decode cL_law 1513 = .ok (.laload, 1) := by decide +kernel
theorem dL_law_1514 : decode cL_law 1514 = .ok (.iload 6, 2) := by decide +kernel
theorem dL_law_1516 : decode cL_law 1516 = .ok (.i2l, 1) := by decide +kernel
theorem dL_law_1517 : decode cL_law 1517 = .ok (.lcmp, 1) := by decide +kernel
theorem dL_law_1518 : decode cL_law 1518 = .ok (.ifCond .eq 5, 3) := by decide +kernel
theorem dL_law_1521 : decode cL_law 1521 = .ok (.iconst 0, 1) := by decide +kernel
theorem dL_law_1522 : decode cL_law 1522 = .ok (.ireturn, 1) := by decide +kernel
theorem dL_law_1523 : decode cL_law 1523 = .ok (.goto 229, 3) := by decide +kernel
theorem dL_law_1526 : decode cL_law 1526 = .ok (.aload_n 1, 1) := by decide +kernel
theorem dL_law_1527 : decode cL_law 1527 = .ok (.aload_n 0, 1) := by decide +kernel
theorem dL_law_1528 : decode cL_law 1528 = .ok (.iload 4, 2) := by decide +kernel
theorem dL_law_1530 : decode cL_law 1530 = .ok (.iconst 1, 1) := by decide +kernel
theorem dL_law_1531 : decode cL_law 1531 = .ok (.iadd, 1) := by decide +kernel
theorem dL_law_1532 : decode cL_law 1532 = .ok (.iaload, 1) := by decide +kernel
theorem dL_law_1533 : decode cL_law 1533 = .ok (.aload_n 3, 1) := by decide +kernel
theorem dL_law_1534 : decode cL_law 1534 = .ok (.invokestatic 210, 3) := by decide +kernel
theorem dL_law_1537 : decode cL_law 1537 = .ok (.istore 5, 2) := by decide +kernel
theorem dL_law_1539 : decode cL_law 1539 = .ok (.aload_n 2, 1) := by decide +kernel
theorem dL_law_1540 : decode cL_law 1540 = .ok (.aload_n 0, 1) := by decide +kernel
theorem dL_law_1541 : decode cL_law 1541 = .ok (.iload 4, 2) := by decide +kernel
theorem dL_law_1543 : decode cL_law 1543 = .ok (.iconst 1, 1) := by decide +kernel
theorem dL_law_1544 : decode cL_law 1544 = .ok (.iadd, 1) := by decide +kernel
theorem dL_law_1545 : decode cL_law 1545 = .ok (.iaload, 1) := by decide +kernel
theorem dL_law_1546 : decode cL_law 1546 = .ok (.invokevirtual 212, 3) := by decide +kernel
theorem dL_law_1549 : decode cL_law 1549 = .ok (.istore 6, 2) := by decide +kernel
theorem dL_law_1551 : decode cL_law 1551 = .ok (.aload_n 2, 1) := by decide +kernel
theorem dL_law_1552 : decode cL_law 1552 = .ok (.invokevirtual 101, 3) := by decide +kernel
theorem dL_law_1555 : decode cL_law 1555 = .ok (.iload 5, 2) := by decide +kernel
theorem dL_law_1557 : decode cL_law 1557 = .ok (.if_icmp .eq 5, 3) := by decide +kernel
theorem dL_law_1560 : decode cL_law 1560 = .ok (.iconst 0, 1) := by decide +kernel
theorem dL_law_1561 : decode cL_law 1561 = .ok (.ireturn, 1) := by decide +kernel
theorem dL_law_1562 : decode cL_law 1562 = .ok (.iload 5, 2) := by decide +kernel
theorem dL_law_1564 : decode cL_law 1564 = .ok (.ifCond .ne 15, 3) := by decide +kernel
theorem dL_law_1567 : decode cL_law 1567 = .ok (.aload_n 3, 1) := by decide +kernel
theorem dL_law_1568 : decode cL_law 1568 = .ok (.iconst 0, 1) := by decide +kernel
theorem dL_law_1569 : decode cL_law 1569 = .ok (.laload, 1) := by decide +kernel
theorem dL_law_1570 : decode cL_law 1570 = .ok (.iload 6, 2) := by decide +kernel
theorem dL_law_1572 : decode cL_law 1572 = .ok (.i2l, 1) := by decide +kernel
theorem dL_law_1573 : decode cL_law 1573 = .ok (.lcmp, 1) := by decide +kernel
theorem dL_law_1574 : decode cL_law 1574 = .ok (.ifCond .eq 5, 3) := by decide +kernel
theorem dL_law_1577 : decode cL_law 1577 = .ok (.iconst 0, 1) := by decide +kernel
theorem dL_law_1578 : decode cL_law 1578 = .ok (.ireturn, 1) := by decide +kernel
theorem dL_law_1579 : decode cL_law 1579 = .ok (.goto 173, 3) := by decide +kernel
theorem dL_law_1582 : decode cL_law 1582 = .ok (.aload_n 1, 1) := by decide +kernel
theorem dL_law_1583 : decode cL_law 1583 = .ok (.aload_n 0, 1) := by decide +kernel
theorem dL_law_1584 : decode cL_law 1584 = .ok (.iload 4, 2) := by decide +kernel
theorem dL_law_1586 : decode cL_law 1586 = .ok (.iconst 1, 1) := by decide +kernel
theorem dL_law_1587 : decode cL_law 1587 = .ok (.iadd, 1) := by decide +kernel
theorem dL_law_1588 : decode cL_law 1588 = .ok (.iaload, 1) := by decide +kernel
theorem dL_law_1589 : decode cL_law 1589 = .ok (.aload_n 0, 1) := by decide +kernel
theorem dL_law_1590 : decode cL_law 1590 = .ok (.iload 4, 2) := by decide +kernel
theorem dL_law_1592 : decode cL_law 1592 = .ok (.iconst 2, 1) := by decide +kernel
theorem dL_law_1593 : decode cL_law 1593 = .ok (.iadd, 1) := by decide +kernel
theorem dL_law_1594 : decode cL_law 1594 = .ok (.iaload, 1) := by decide +kernel
theorem dL_law_1595 : decode cL_law 1595 = .ok (.aload_n 3, 1) := by decide +kernel
theorem dL_law_1596 : decode cL_law 1596 = .ok (.invokestatic 213, 3) := by decide +kernel
theorem dL_law_1599 : decode cL_law 1599 = .ok (.istore 5, 2) := by decide +kernel
theorem dL_law_1601 : decode cL_law 1601 = .ok (.aload_n 2, 1) := by decide +kernel
theorem dL_law_1602 : decode cL_law 1602 = .ok (.aload_n 0, 1) := by decide +kernel
theorem dL_law_1603 : decode cL_law 1603 = .ok (.iload 4, 2) := by decide +kernel
theorem dL_law_1605 : decode cL_law 1605 = .ok (.iconst 1, 1) := by decide +kernel
theorem dL_law_1606 : decode cL_law 1606 = .ok (.iadd, 1) := by decide +kernel
theorem dL_law_1607 : decode cL_law 1607 = .ok (.iaload, 1) := by decide +kernel
theorem dL_law_1608 : decode cL_law 1608 = .ok (.aload_n 0, 1) := by decide +kernel
theorem dL_law_1609 : decode cL_law 1609 = .ok (.iload 4, 2) := by decide +kernel
theorem dL_law_1611 : decode cL_law 1611 = .ok (.iconst 2, 1) := by decide +kernel
theorem dL_law_1612 : decode cL_law 1612 = .ok (.iadd, 1) := by decide +kernel
theorem dL_law_1613 : decode cL_law 1613 = .ok (.iaload, 1) := by decide +kernel
theorem dL_law_1614 : decode cL_law 1614 = .ok (.invokevirtual 215, 3) := by decide +kernel
theorem dL_law_1617 : decode cL_law 1617 = .ok (.istore 6, 2) := by decide +kernel
theorem dL_law_1619 : decode cL_law 1619 = .ok (.aload_n 2, 1) := by decide +kernel
theorem dL_law_1620 : decode cL_law 1620 = .ok (.invokevirtual 101, 3) := by decide +kernel
theorem dL_law_1623 : decode cL_law 1623 = .ok (.iload 5, 2) := by decide +kernel
theorem dL_law_1625 : decode cL_law 1625 = .ok (.if_icmp .eq 5, 3) := by decide +kernel
theorem dL_law_1628 : decode cL_law 1628 = .ok (.iconst 0, 1) := by decide +kernel
theorem dL_law_1629 : decode cL_law 1629 = .ok (.ireturn, 1) := by decide +kernel
theorem dL_law_1630 : decode cL_law 1630 = .ok (.iload 5, 2) := by decide +kernel
theorem dL_law_1632 : decode cL_law 1632 = .ok (.ifCond .ne 15, 3) := by decide +kernel
theorem dL_law_1635 : decode cL_law 1635 = .ok (.aload_n 3, 1) := by decide +kernel
theorem dL_law_1636 : decode cL_law 1636 = .ok (.iconst 0, 1) := by decide +kernel
theorem dL_law_1637 : decode cL_law 1637 = .ok (.laload, 1) := by decide +kernel
theorem dL_law_1638 : decode cL_law 1638 = .ok (.iload 6, 2) := by decide +kernel
theorem dL_law_1640 : decode cL_law 1640 = .ok (.i2l, 1) := by decide +kernel
theorem dL_law_1641 : decode cL_law 1641 = .ok (.lcmp, 1) := by decide +kernel
theorem dL_law_1642 : decode cL_law 1642 = .ok (.ifCond .eq 5, 3) := by decide +kernel
theorem dL_law_1645 : decode cL_law 1645 = .ok (.iconst 0, 1) := by decide +kernel
theorem dL_law_1646 : decode cL_law 1646 = .ok (.ireturn, 1) := by decide +kernel
theorem dL_law_1647 : decode cL_law 1647 = .ok (.goto 105, 3) := by decide +kernel
theorem dL_law_1650 : decode cL_law 1650 = .ok (.aload_n 1, 1) := by decide +kernel
theorem dL_law_1651 : decode cL_law 1651 = .ok (.aload_n 3, 1) := by decide +kernel
theorem dL_law_1652 : decode cL_law 1652 = .ok (.invokestatic 216, 3) := by decide +kernel
theorem dL_law_1655 : decode cL_law 1655 = .ok (.istore 5, 2) := by decide +kernel
theorem dL_law_1657 : decode cL_law 1657 = .ok (.aload_n 2, 1) := by decide +kernel
theorem dL_law_1658 : decode cL_law 1658 = .ok (.invokevirtual 218, 3) := by decide +kernel
theorem dL_law_1661 : decode cL_law 1661 = .ok (.istore 6, 2) := by decide +kernel
theorem dL_law_1663 : decode cL_law 1663 = .ok (.aload_n 2, 1) := by decide +kernel
theorem dL_law_1664 : decode cL_law 1664 = .ok (.invokevirtual 101, 3) := by decide +kernel
theorem dL_law_1667 : decode cL_law 1667 = .ok (.iload 5, 2) := by decide +kernel
theorem dL_law_1669 : decode cL_law 1669 = .ok (.if_icmp .eq 5, 3) := by decide +kernel
theorem dL_law_1672 : decode cL_law 1672 = .ok (.iconst 0, 1) := by decide +kernel
theorem dL_law_1673 : decode cL_law 1673 = .ok (.ireturn, 1) := by decide +kernel
theorem dL_law_1674 : decode cL_law 1674 = .ok (.iload 5, 2) := by decide +kernel
theorem dL_law_1676 : decode cL_law 1676 = .ok (.ifCond .ne 15, 3) := by decide +kernel
theorem dL_law_1679 : decode cL_law 1679 = .ok (.aload_n 3, 1) := by decide +kernel
theorem dL_law_1680 : decode cL_law 1680 = .ok (.iconst 0, 1) := by decide +kernel
theorem dL_law_1681 : decode cL_law 1681 = .ok (.laload, 1) := by decide +kernel
theorem dL_law_1682 : decode cL_law 1682 = .ok (.iload 6, 2) := by decide +kernel
theorem dL_law_1684 : decode cL_law 1684 = .ok (.i2l, 1) := by decide +kernel
theorem dL_law_1685 : decode cL_law 1685 = .ok (.lcmp, 1) := by decide +kernel
theorem dL_law_1686 : decode cL_law 1686 = .ok (.ifCond .eq 5, 3) := by decide +kernel
theorem dL_law_1689 : decode cL_law 1689 = .ok (.iconst 0, 1) := by decide +kernel
theorem dL_law_1690 : decode cL_law 1690 = .ok (.ireturn, 1) := by decide +kernel
theorem dL_law_1691 : decode cL_law 1691 = .ok (.goto 61, 3) := by decide +kernel
theorem dL_law_1694 : decode cL_law 1694 = .ok (.aload_n 1, 1) := by decide +kernel
theorem dL_law_1695 : decode cL_law 1695 = .ok (.aload_n 3, 1) := by decide +kernel
theorem dL_law_1696 : decode cL_law 1696 = .ok (.invokestatic 219, 3) := by decide +kernel
theorem dL_law_1699 : decode cL_law 1699 = .ok (.istore 5, 2) := by decide +kernel
theorem dL_law_1701 : decode cL_law 1701 = .ok (.aload_n 2, 1) := by decide +kernel
theorem dL_law_1702 : decode cL_law 1702 = .ok (.invokevirtual 221, 3) := by decide +kernel
theorem dL_law_1705 : decode cL_law 1705 = .ok (.istore 6, 2) := by decide +kernel
theorem dL_law_1707 : decode cL_law 1707 = .ok (.aload_n 2, 1) := by decide +kernel
theorem dL_law_1708 : decode cL_law 1708 = .ok (.invokevirtual 101, 3) := by decide +kernel
theorem dL_law_1711 : decode cL_law 1711 = .ok (.iload 5, 2) := by decide +kernel
theorem dL_law_1713 : decode cL_law 1713 = .ok (.if_icmp .eq 5, 3) := by decide +kernel
theorem dL_law_1716 : decode cL_law 1716 = .ok (.iconst 0, 1) := by decide +kernel
theorem dL_law_1717 : decode cL_law 1717 = .ok (.ireturn, 1) := by decide +kernel
theorem dL_law_1718 : decode cL_law 1718 = .ok (.iload 5, 2) := by decide +kernel
theorem dL_law_1720 : decode cL_law 1720 = .ok (.ifCond .ne 15, 3) := by decide +kernel
theorem dL_law_1723 : decode cL_law 1723 = .ok (.aload_n 3, 1) := by decide +kernel
theorem dL_law_1724 : decode cL_law 1724 = .ok (.iconst 0, 1) := by decide +kernel
theorem dL_law_1725 : decode cL_law 1725 = .ok (.laload, 1) := by decide +kernel
theorem dL_law_1726 : decode cL_law 1726 = .ok (.iload 6, 2) := by decide +kernel
theorem dL_law_1728 : decode cL_law 1728 = .ok (.i2l, 1) := by decide +kernel
theorem dL_law_1729 : decode cL_law 1729 = .ok (.lcmp, 1) := by decide +kernel
theorem dL_law_1730 : decode cL_law 1730 = .ok (.ifCond .eq 5, 3) := by decide +kernel
theorem dL_law_1733 : decode cL_law 1733 = .ok (.iconst 0, 1) := by decide +kernel
theorem dL_law_1734 : decode cL_law 1734 = .ok (.ireturn, 1) := by decide +kernel
theorem dL_law_1735 : decode cL_law 1735 = .ok (.goto 17, 3) := by decide +kernel
theorem dL_law_1738 : decode cL_law 1738 = .ok (.aload_n 1, 1) := by decide +kernel
theorem dL_law_1739 : decode cL_law 1739 = .ok (.invokevirtual 222, 3) := by decide +kernel
theorem dL_law_1742 : decode cL_law 1742 = .ok (.aload_n 2, 1) := by decide +kernel
theorem dL_law_1743 : decode cL_law 1743 = .ok (.invokevirtual 226, 3) := by decide +kernel
theorem dL_law_1746 : decode cL_law 1746 = .ok (.lcmp, 1) := by decide +kernel
theorem dL_law_1747 : decode cL_law 1747 = .ok (.ifCond .eq 5, 3) := by decide +kernel
theorem dL_law_1750 : decode cL_law 1750 = .ok (.iconst 0, 1) := by decide +kernel
theorem dL_law_1751 : decode cL_law 1751 = .ok (.ireturn, 1) := by decide +kernel
theorem dL_law_1752 : decode cL_law 1752 = .ok (.iinc 4 4, 3) := by decide +kernel
theorem dL_law_1755 : decode cL_law 1755 = .ok (.goto (-1732), 3) := by decide +kernel
theorem dL_law_1758 : decode cL_law 1758 = .ok (.iconst 1, 1) := by decide +kernel
theorem dL_law_1759 : decode cL_law 1759 = .ok (.ireturn, 1) := by decide +kernel
