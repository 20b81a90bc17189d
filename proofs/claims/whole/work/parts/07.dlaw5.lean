theorem dL_law_996 : decode cL_law 996 = .ok (.iconst 3, 1) := by decide +kernel
theorem dL_law_997 : decode cL_law 997 = .ok (.iadd, 1) := by decide +kernel
theorem dL_law_998 : decode cL_law 998 = .ok (.iaload, 1) := by decide +kernel
theorem dL_law_999 : decode cL_law 999 = .ok (.invokevirtual 123, 3) := by decide +kernel
theorem dL_law_1002 : decode cL_law 1002 = .ok (.aload_n 2, 1) := by decide +kernel
theorem dL_law_1003 : decode cL_law 1003 = .ok (.aload_n 0, 1) := by decide +kernel
theorem dL_law_1004 : decode cL_law 1004 = .ok (.iload_n 3, 1) := by decide +kernel
theorem dL_law_1005 : decode cL_law 1005 = .ok (.iconst 1, 1) := by decide +kernel
theorem dL_law_1006 : decode cL_law 1006 = .ok (.iadd, 1) := by decide +kernel
theorem dL_law_1007 : decode cL_law 1007 = .ok (.iaload, 1) := by decide +kernel
theorem dL_law_1008 : decode cL_law 1008 = .ok (.aload_n 0, 1) := by decide +kernel
theorem dL_law_1009 : decode cL_law 1009 = .ok (.iload_n 3, 1) := by decide +kernel
theorem dL_law_1010 : decode cL_law 1010 = .ok (.iconst 2, 1) := by decide +kernel
theorem dL_law_1011 : decode cL_law 1011 = .ok (.iadd, 1) := by decide +kernel
theorem dL_law_1012 : decode cL_law 1012 = .ok (.iaload, 1) := by decide +kernel
theorem dL_law_1013 : decode cL_law 1013 = .ok (.aload_n 0, 1) := by decide +kernel
theorem dL_law_1014 : decode cL_law 1014 = .ok (.iload_n 3, 1) := by decide +kernel
theorem dL_law_1015 : decode cL_law 1015 = .ok (.iconst 3, 1) := by decide +kernel
theorem dL_law_1016 : decode cL_law 1016 = .ok (.iadd, 1) := by decide +kernel
theorem dL_law_1017 : decode cL_law 1017 = .ok (.iaload, 1) := by decide +kernel
theorem dL_law_1018 : decode cL_law 1018 = .ok (.invokevirtual 126, 3) := by decide +kernel
theorem dL_law_1021 : decode cL_law 1021 = .ok (.if_icmp .eq 133, 3) := by decide +kernel
theorem dL_law_1024 : decode cL_law 1024 = .ok (.iconst 0, 1) := by decide +kernel
theorem dL_law_1025 : decode cL_law 1025 = .ok (.ireturn, 1) := by decide +kernel
theorem dL_law_1026 : decode cL_law 1026 = .ok (.aload_n 1, 1) := by decide +kernel
theorem dL_law_1027 : decode cL_law 1027 = .ok (.aload_n 0, 1) := by decide +kernel
theorem dL_law_1028 : decode cL_law 1028 = .ok (.iload_n 3, 1) := by decide +kernel
theorem dL_law_1029 : decode cL_law 1029 = .ok (.iconst 1, 1) := by decide +kernel
theorem dL_law_1030 : decode cL_law 1030 = .ok (.iadd, 1) := by decide +kernel
theorem dL_law_1031 : decode cL_law 1031 = .ok (.iaload, 1) := by decide +kernel
theorem dL_law_1032 : decode cL_law 1032 = .ok (.aload_n 0, 1) := by decide +kernel
theorem dL_law_1033 : decode cL_law 1033 = .ok (.iload_n 3, 1) := by decide +kernel
theorem dL_law_1034 : decode cL_law 1034 = .ok (.iconst 2, 1) := by decide +kernel
theorem dL_law_1035 : decode cL_law 1035 = .ok (.iadd, 1) := by decide +kernel
theorem dL_law_1036 : decode cL_law 1036 = .ok (.iaload, 1) := by decide +kernel
theorem dL_law_1037 : decode cL_law 1037 = .ok (.aload_n 0, 1) := by decide +kernel
theorem dL_law_1038 : decode cL_law 1038 = .ok (.iload_n 3, 1) := by decide +kernel
theorem dL_law_1039 : decode cL_law 1039 = .ok (.iconst 3, 1) := by decide +kernel
theorem dL_law_1040 : decode cL_law 1040 = .ok (.iadd, 1) := by decide +kernel
theorem dL_law_1041 : decode cL_law 1041 = .ok (.iaload, 1) := by decide +kernel
theorem dL_law_1042 : decode cL_law 1042 = .ok (.aload_n 0, 1) := by decide +kernel
theorem dL_law_1043 : decode cL_law 1043 = .ok (.iload_n 3, 1) := by decide +kernel
theorem dL_law_1044 : decode cL_law 1044 = .ok (.iconst 4, 1) := by decide +kernel
theorem dL_law_1045 : decode cL_law 1045 = .ok (.iadd, 1) := by decide +kernel
theorem dL_law_1046 : decode cL_law 1046 = .ok (.iaload, 1) := by decide +kernel
theorem dL_law_1047 : decode cL_law 1047 = .ok (.invokevirtual 127, 3) := by decide +kernel
theorem dL_law_1050 : decode cL_law 1050 = .ok (.aload_n 2, 1) := by decide +kernel
theorem dL_law_1051 : decode cL_law 1051 = .ok (.aload_n 0, 1) := by decide +kernel
theorem dL_law_1052 : decode cL_law 1052 = .ok (.iload_n 3, 1) := by decide +kernel
theorem dL_law_1053 : decode cL_law 1053 = .ok (.iconst 1, 1) := by decide +kernel
theorem dL_law_1054 : decode cL_law 1054 = .ok (.iadd, 1) := by decide +kernel
theorem dL_law_1055 : decode cL_law 1055 = .ok (.iaload, 1) := by decide +kernel
theorem dL_law_1056 : decode cL_law 1056 = .ok (.aload_n 0, 1) := by decide +kernel
theorem dL_law_1057 : decode cL_law 1057 = .ok (.iload_n 3, 1) := by decide +kernel
theorem dL_law_1058 : decode cL_law 1058 = .ok (.iconst 2, 1) := by decide +kernel
theorem dL_law_1059 : decode cL_law 1059 = .ok (.iadd, 1) := by decide +kernel
theorem dL_law_1060 : decode cL_law 1060 = .ok (.iaload, 1) := by decide +kernel
theorem dL_law_1061 : decode cL_law 1061 = .ok (.aload_n 0, 1) := by decide +kernel
theorem dL_law_1062 : decode cL_law 1062 = .ok (.iload_n 3, 1) := by decide +kernel
theorem dL_law_1063 : decode cL_law 1063 = .ok (.iconst 3, 1) := by decide +kernel
theorem dL_law_1064 : decode cL_law 1064 = .ok (.iadd, 1) := by decide +kernel
theorem dL_law_1065 : decode cL_law 1065 = .ok (.iaload, 1) := by decide +kernel
theorem dL_law_1066 : decode cL_law 1066 = .ok (.aload_n 0, 1) := by decide +kernel
theorem dL_law_1067 : decode cL_law 1067 = .ok (.iload_n 3, 1) := by decide +kernel
theorem dL_law_1068 : decode cL_law 1068 = .ok (.iconst 4, 1) := by decide +kernel
theorem dL_law_1069 : decode cL_law 1069 = .ok (.iadd, 1) := by decide +kernel
theorem dL_law_1070 : decode cL_law 1070 = .ok (.iaload, 1) := by decide +kernel
theorem dL_law_1071 : decode cL_law 1071 = .ok (.invokevirtual 130, 3) := by decide +kernel
theorem dL_law_1074 : decode cL_law 1074 = .ok (.if_icmp .eq 80, 3) := by decide +kernel
theorem dL_law_1077 : decode cL_law 1077 = .ok (.iconst 0, 1) := by decide +kernel
theorem dL_law_1078 : decode cL_law 1078 = .ok (.ireturn, 1) := by decide +kernel
theorem dL_law_1079 : decode cL_law 1079 = .ok (.aload_n 1, 1) := by decide +kernel
theorem dL_law_1080 : decode cL_law 1080 = .ok (.invokevirtual 131, 3) := by decide +kernel
theorem dL_law_1083 : decode cL_law 1083 = .ok (.aload_n 2, 1) := by decide +kernel
theorem dL_law_1084 : decode cL_law 1084 = .ok (.invokevirtual 135, 3) := by decide +kernel
theorem dL_law_1087 : decode cL_law 1087 = .ok (.if_icmp .eq 67, 3) := by decide +kernel
theorem dL_law_1090 : decode cL_law 1090 = .ok (.iconst 0, 1) := by decide +kernel
theorem dL_law_1091 : decode cL_law 1091 = .ok (.ireturn, 1) := by decide +kernel
theorem dL_law_1092 : decode cL_law 1092 = .ok (.aload_n 1, 1) := by decide +kernel
theorem dL_law_1093 : decode cL_law 1093 = .ok (.aload_n 0, 1) := by decide +kernel
theorem dL_law_1094 : decode cL_law 1094 = .ok (.iload_n 3, 1) := by decide +kernel
theorem dL_law_1095 : decode cL_law 1095 = .ok (.iconst 1, 1) := by decide +kernel
theorem dL_law_1096 : decode cL_law 1096 = .ok (.iadd, 1) := by decide +kernel
theorem dL_law_1097 : decode cL_law 1097 = .ok (.iaload, 1) := by decide +kernel
theorem dL_law_1098 : decode cL_law 1098 = .ok (.ifCond .eq 7, 3) := by decide +kernel
theorem dL_law_1101 : decode cL_law 1101 = .ok (.iconst 1, 1) := by decide +kernel
theorem dL_law_1102 : decode cL_law 1102 = .ok (.goto 4, 3) := by decide +kernel
theorem dL_law_1105 : decode cL_law 1105 = .ok (.iconst 0, 1) := by decide +kernel
theorem dL_law_1106 : decode cL_law 1106 = .ok (.invokevirtual 136, 3) := by decide +kernel
theorem dL_law_1109 : decode cL_law 1109 = .ok (.aload_n 2, 1) := by decide +kernel
theorem dL_law_1110 : decode cL_law 1110 = .ok (.aload_n 0, 1) := by decide +kernel
theorem dL_law_1111 : decode cL_law 1111 = .ok (.iload_n 3, 1) := by decide +kernel
theorem dL_law_1112 : decode cL_law 1112 = .ok (.iconst 1, 1) := by decide +kernel
theorem dL_law_1113 : decode cL_law 1113 = .ok (.iadd, 1) := by decide +kernel
theorem dL_law_1114 : decode cL_law 1114 = .ok (.iaload, 1) := by decide +kernel
theorem dL_law_1115 : decode cL_law 1115 = .ok (.ifCond .eq 7, 3) := by decide +kernel
theorem dL_law_1118 : decode cL_law 1118 = .ok (.iconst 1, 1) := by decide +kernel
theorem dL_law_1119 : decode cL_law 1119 = .ok (.goto 4, 3) := by decide +kernel
theorem dL_law_1122 : decode cL_law 1122 = .ok (.iconst 0, 1) := by decide +kernel
theorem dL_law_1123 : decode cL_law 1123 = .ok (.invokevirtual 140, 3) := by decide +kernel
theorem dL_law_1126 : decode cL_law 1126 = .ok (.if_icmp .eq 28, 3) := by decide +kernel
theorem dL_law_1129 : decode cL_law 1129 = .ok (.iconst 0, 1) := by decide +kernel
theorem dL_law_1130 : decode cL_law 1130 = .ok (.ireturn, 1) := by decide +kernel
theorem dL_law_1131 : decode cL_law 1131 = .ok (.aload_n 1, 1) := by decide +kernel
theorem dL_law_1132 : decode cL_law 1132 = .ok (.aload_n 0, 1) := by decide +kernel
theorem dL_law_1133 : decode cL_law 1133 = .ok (.iload_n 3, 1) := by decide +kernel
theorem dL_law_1134 : decode cL_law 1134 = .ok (.iconst 1, 1) := by decide +kernel
theorem dL_law_1135 : decode cL_law 1135 = .ok (.iadd, 1) := by decide +kernel
theorem dL_law_1136 : decode cL_law 1136 = .ok (.iaload, 1) := by decide +kernel
theorem dL_law_1137 : decode cL_law 1137 = .ok (.invokevirtual 141, 3) := by decide +kernel
theorem dL_law_1140 : decode cL_law 1140 = .ok (.aload_n 2, 1) := by decide +kernel
theorem dL_law_1141 : decode cL_law 1141 = .ok (.aload_n 0, 1) := by decide +kernel
theorem dL_law_1142 : decode cL_law 1142 = .ok (.iload_n 3, 1) := by decide +kernel
theorem dL_law_1143 : decode cL_law 1143 = .ok (.iconst 1, 1) := by decide +kernel
theorem dL_law_1144 : decode cL_law 1144 = .ok (.iadd, 1) := by decide +kernel
theorem dL_law_1145 : decode cL_law 1145 = .ok (.iaload, 1) := by decide +kernel
theorem dL_law_1146 : decode cL_law 1146 = .ok (.invokevirtual 144, 3) := by decide +kernel
theorem dL_law_1149 : decode cL_law 1149 = .ok (.if_icmp .eq 5, 3) := by decide +kernel
theorem dL_law_1152 : decode cL_law 1152 = .ok (.iconst 0, 1) := by decide +kernel
theorem dL_law_1153 : decode cL_law 1153 = .ok (.ireturn, 1) := by decide +kernel
theorem dL_law_1154 : decode cL_law 1154 = .ok (.iinc 3 6, 3) := by decide +kernel
theorem dL_law_1157 : decode cL_law 1157 = .ok (.goto (-1139), 3) := by decide +kernel
theorem dL_law_1160 : decode cL_law 1160 = .ok (.iconst 1, 1) := by decide +kernel
theorem dL_law_1161 : decode cL_law 1161 = .ok (.ireturn, 1) := by decide +kernel
