theorem dL_law_984 : decode code 984 = .ok (.iload_n 3, 1) := by decide +kernel
theorem dL_law_985 : decode code 985 = .ok (.iconst 1, 1) := by decide +kernel
theorem dL_law_986 : decode code 986 = .ok (.iadd, 1) := by decide +kernel
theorem dL_law_987 : decode code 987 = .ok (.iaload, 1) := by decide +kernel
theorem dL_law_988 : decode code 988 = .ok (.aload_n 0, 1) := by decide +kernel
theorem dL_law_989 : decode code 989 = .ok (.iload_n 3, 1) := by decide +kernel
theorem dL_law_990 : decode code 990 = .ok (.iconst 2, 1) := by decide +kernel
theorem dL_law_991 : decode code 991 = .ok (.iadd, 1) := by decide +kernel
theorem dL_law_992 : decode code 992 = .ok (.iaload, 1) := by decide +kernel
theorem dL_law_993 : decode code 993 = .ok (.invokevirtual 135, 3) := by decide +kernel
theorem dL_law_996 : decode code 996 = .ok (.if_icmp .eq 183, 3) := by decide +kernel
theorem dL_law_999 : decode code 999 = .ok (.iconst 0, 1) := by decide +kernel
theorem dL_law_1000 : decode code 1000 = .ok (.ireturn, 1) := by decide +kernel
theorem dL_law_1001 : decode code 1001 = .ok (.aload_n 1, 1) := by decide +kernel
theorem dL_law_1002 : decode code 1002 = .ok (.aload_n 0, 1) := by decide +kernel
theorem dL_law_1003 : decode code 1003 = .ok (.iload_n 3, 1) := by decide +kernel
theorem dL_law_1004 : decode code 1004 = .ok (.iconst 1, 1) := by decide +kernel
theorem dL_law_1005 : decode code 1005 = .ok (.iadd, 1) := by decide +kernel
theorem dL_law_1006 : decode code 1006 = .ok (.iaload, 1) := by decide +kernel
theorem dL_law_1007 : decode code 1007 = .ok (.aload_n 0, 1) := by decide +kernel
theorem dL_law_1008 : decode code 1008 = .ok (.iload_n 3, 1) := by decide +kernel
theorem dL_law_1009 : decode code 1009 = .ok (.iconst 2, 1) := by decide +kernel
theorem dL_law_1010 : decode code 1010 = .ok (.iadd, 1) := by decide +kernel
theorem dL_law_1011 : decode code 1011 = .ok (.iaload, 1) := by decide +kernel
theorem dL_law_1012 : decode code 1012 = .ok (.aload_n 0, 1) := by decide +kernel
theorem dL_law_1013 : decode code 1013 = .ok (.iload_n 3, 1) := by decide +kernel
theorem dL_law_1014 : decode code 1014 = .ok (.iconst 3, 1) := by decide +kernel
theorem dL_law_1015 : decode code 1015 = .ok (.iadd, 1) := by decide +kernel
theorem dL_law_1016 : decode code 1016 = .ok (.iaload, 1) := by decide +kernel
theorem dL_law_1017 : decode code 1017 = .ok (.invokevirtual 136, 3) := by decide +kernel
theorem dL_law_1020 : decode code 1020 = .ok (.aload_n 2, 1) := by decide +kernel
theorem dL_law_1021 : decode code 1021 = .ok (.aload_n 0, 1) := by decide +kernel
theorem dL_law_1022 : decode code 1022 = .ok (.iload_n 3, 1) := by decide +kernel
theorem dL_law_1023 : decode code 1023 = .ok (.iconst 1, 1) := by decide +kernel
theorem dL_law_1024 : decode code 1024 = .ok (.iadd, 1) := by decide +kernel
theorem dL_law_1025 : decode code 1025 = .ok (.iaload, 1) := by decide +kernel
theorem dL_law_1026 : decode code 1026 = .ok (.aload_n 0, 1) := by decide +kernel
theorem dL_law_1027 : decode code 1027 = .ok (.iload_n 3, 1) := by decide +kernel
theorem dL_law_1028 : decode code 1028 = .ok (.iconst 2, 1) := by decide +kernel
theorem dL_law_1029 : decode code 1029 = .ok (.iadd, 1) := by decide +kernel
theorem dL_law_1030 : decode code 1030 = .ok (.iaload, 1) := by decide +kernel
theorem dL_law_1031 : decode code 1031 = .ok (.aload_n 0, 1) := by decide +kernel
theorem dL_law_1032 : decode code 1032 = .ok (.iload_n 3, 1) := by decide +kernel
theorem dL_law_1033 : decode code 1033 = .ok (.iconst 3, 1) := by decide +kernel
theorem dL_law_1034 : decode code 1034 = .ok (.iadd, 1) := by decide +kernel
theorem dL_law_1035 : decode code 1035 = .ok (.iaload, 1) := by decide +kernel
theorem dL_law_1036 : decode code 1036 = .ok (.invokevirtual 140, 3) := by decide +kernel
theorem dL_law_1039 : decode code 1039 = .ok (.if_icmp .eq 140, 3) := by decide +kernel
theorem dL_law_1042 : decode code 1042 = .ok (.iconst 0, 1) := by decide +kernel
theorem dL_law_1043 : decode code 1043 = .ok (.ireturn, 1) := by decide +kernel
theorem dL_law_1044 : decode code 1044 = .ok (.aload_n 1, 1) := by decide +kernel
theorem dL_law_1045 : decode code 1045 = .ok (.aload_n 0, 1) := by decide +kernel
theorem dL_law_1046 : decode code 1046 = .ok (.iload_n 3, 1) := by decide +kernel
theorem dL_law_1047 : decode code 1047 = .ok (.iconst 1, 1) := by decide +kernel
theorem dL_law_1048 : decode code 1048 = .ok (.iadd, 1) := by decide +kernel
theorem dL_law_1049 : decode code 1049 = .ok (.iaload, 1) := by decide +kernel
theorem dL_law_1050 : decode code 1050 = .ok (.aload_n 0, 1) := by decide +kernel
theorem dL_law_1051 : decode code 1051 = .ok (.iload_n 3, 1) := by decide +kernel
theorem dL_law_1052 : decode code 1052 = .ok (.iconst 2, 1) := by decide +kernel
theorem dL_law_1053 : decode code 1053 = .ok (.iadd, 1) := by decide +kernel
theorem dL_law_1054 : decode code 1054 = .ok (.iaload, 1) := by decide +kernel
theorem dL_law_1055 : decode code 1055 = .ok (.invokevirtual 141, 3) := by decide +kernel
theorem dL_law_1058 : decode code 1058 = .ok (.aload_n 2, 1) := by decide +kernel
theorem dL_law_1059 : decode code 1059 = .ok (.aload_n 0, 1) := by decide +kernel
theorem dL_law_1060 : decode code 1060 = .ok (.iload_n 3, 1) := by decide +kernel
theorem dL_law_1061 : decode code 1061 = .ok (.iconst 1, 1) := by decide +kernel
theorem dL_law_1062 : decode code 1062 = .ok (.iadd, 1) := by decide +kernel
theorem dL_law_1063 : decode code 1063 = .ok (.iaload, 1) := by decide +kernel
theorem dL_law_1064 : decode code 1064 = .ok (.aload_n 0, 1) := by decide +kernel
theorem dL_law_1065 : decode code 1065 = .ok (.iload_n 3, 1) := by decide +kernel
theorem dL_law_1066 : decode code 1066 = .ok (.iconst 2, 1) := by decide +kernel
theorem dL_law_1067 : decode code 1067 = .ok (.iadd, 1) := by decide +kernel
theorem dL_law_1068 : decode code 1068 = .ok (.iaload, 1) := by decide +kernel
theorem dL_law_1069 : decode code 1069 = .ok (.invokevirtual 144, 3) := by decide +kernel
theorem dL_law_1072 : decode code 1072 = .ok (.if_icmp .eq 107, 3) := by decide +kernel
theorem dL_law_1075 : decode code 1075 = .ok (.iconst 0, 1) := by decide +kernel
theorem dL_law_1076 : decode code 1076 = .ok (.ireturn, 1) := by decide +kernel
theorem dL_law_1077 : decode code 1077 = .ok (.aload_n 1, 1) := by decide +kernel
theorem dL_law_1078 : decode code 1078 = .ok (.aload_n 0, 1) := by decide +kernel
theorem dL_law_1079 : decode code 1079 = .ok (.iload_n 3, 1) := by decide +kernel
theorem dL_law_1080 : decode code 1080 = .ok (.iconst 1, 1) := by decide +kernel
theorem dL_law_1081 : decode code 1081 = .ok (.iadd, 1) := by decide +kernel
theorem dL_law_1082 : decode code 1082 = .ok (.iaload, 1) := by decide +kernel
theorem dL_law_1083 : decode code 1083 = .ok (.invokevirtual 145, 3) := by decide +kernel
theorem dL_law_1086 : decode code 1086 = .ok (.aload_n 2, 1) := by decide +kernel
theorem dL_law_1087 : decode code 1087 = .ok (.aload_n 0, 1) := by decide +kernel
theorem dL_law_1088 : decode code 1088 = .ok (.iload_n 3, 1) := by decide +kernel
theorem dL_law_1089 : decode code 1089 = .ok (.iconst 1, 1) := by decide +kernel
theorem dL_law_1090 : decode code 1090 = .ok (.iadd, 1) := by decide +kernel
theorem dL_law_1091 : decode code 1091 = .ok (.iaload, 1) := by decide +kernel
theorem dL_law_1092 : decode code 1092 = .ok (.invokevirtual 148, 3) := by decide +kernel
theorem dL_law_1095 : decode code 1095 = .ok (.if_icmp .eq 84, 3) := by decide +kernel
theorem dL_law_1098 : decode code 1098 = .ok (.iconst 0, 1) := by decide +kernel
theorem dL_law_1099 : decode code 1099 = .ok (.ireturn, 1) := by decide +kernel
theorem dL_law_1100 : decode code 1100 = .ok (.aload_n 1, 1) := by decide +kernel
theorem dL_law_1101 : decode code 1101 = .ok (.aload_n 0, 1) := by decide +kernel
theorem dL_law_1102 : decode code 1102 = .ok (.iload_n 3, 1) := by decide +kernel
theorem dL_law_1103 : decode code 1103 = .ok (.iconst 1, 1) := by decide +kernel
theorem dL_law_1104 : decode code 1104 = .ok (.iadd, 1) := by decide +kernel
theorem dL_law_1105 : decode code 1105 = .ok (.iaload, 1) := by decide +kernel
theorem dL_law_1106 : decode code 1106 = .ok (.invokevirtual 149, 3) := by decide +kernel
theorem dL_law_1109 : decode code 1109 = .ok (.aload_n 2, 1) := by decide +kernel
theorem dL_law_1110 : decode code 1110 = .ok (.aload_n 0, 1) := by decide +kernel
theorem dL_law_1111 : decode code 1111 = .ok (.iload_n 3, 1) := by decide +kernel
theorem dL_law_1112 : decode code 1112 = .ok (.iconst 1, 1) := by decide +kernel
theorem dL_law_1113 : decode code 1113 = .ok (.iadd, 1) := by decide +kernel
theorem dL_law_1114 : decode code 1114 = .ok (.iaload, 1) := by decide +kernel
theorem dL_law_1115 : decode code 1115 = .ok (.invokevirtual 152, 3) := by decide +kernel
theorem dL_law_1118 : decode code 1118 = .ok (.if_icmp .eq 61, 3) := by decide +kernel
theorem dL_law_1121 : decode code 1121 = .ok (.iconst 0, 1) := by decide +kernel
theorem dL_law_1122 : decode code 1122 = .ok (.ireturn, 1) := by decide +kernel
theorem dL_law_1123 : decode code 1123 = .ok (.aload_n 1, 1) := by decide +kernel
theorem dL_law_1124 : decode code 1124 = .ok (.aload_n 0, 1) := by decide +kernel
theorem dL_law_1125 : decode code 1125 = .ok (.iload_n 3, 1) := by decide +kernel
theorem dL_law_1126 : decode code 1126 = .ok (.iconst 1, 1) := by decide +kernel
theorem dL_law_1127 : decode code 1127 = .ok (.iadd, 1) := by decide +kernel
theorem dL_law_1128 : decode code 1128 = .ok (.iaload, 1) := by decide +kernel
theorem dL_law_1129 : decode code 1129 = .ok (.aload_n 0, 1) := by decide +kernel
theorem dL_law_1130 : decode code 1130 = .ok (.iload_n 3, 1) := by decide +kernel
theorem dL_law_1131 : decode code 1131 = .ok (.iconst 2, 1) := by decide +kernel
theorem dL_law_1132 : decode code 1132 = .ok (.iadd, 1) := by decide +kernel
theorem dL_law_1133 : decode code 1133 = .ok (.iaload, 1) := by decide +kernel
theorem dL_law_1134 : decode code 1134 = .ok (.invokevirtual 153, 3) := by decide +kernel
theorem dL_law_1137 : decode code 1137 = .ok (.aload_n 2, 1) := by decide +kernel
theorem dL_law_1138 : decode code 1138 = .ok (.aload_n 0, 1) := by decide +kernel
theorem dL_law_1139 : decode code 1139 = .ok (.iload_n 3, 1) := by decide +kernel
theorem dL_law_1140 : decode code 1140 = .ok (.iconst 1, 1) := by decide +kernel
theorem dL_law_1141 : decode code 1141 = .ok (.iadd, 1) := by decide +kernel
theorem dL_law_1142 : decode code 1142 = .ok (.iaload, 1) := by decide +kernel
theorem dL_law_1143 : decode code 1143 = .ok (.aload_n 0, 1) := by decide +kernel
theorem dL_law_1144 : decode code 1144 = .ok (.iload_n 3, 1) := by decide +kernel
theorem dL_law_1145 : decode code 1145 = .ok (.iconst 2, 1) := by decide +kernel
theorem dL_law_1146 : decode code 1146 = .ok (.iadd, 1) := by decide +kernel
theorem dL_law_1147 : decode code 1147 = .ok (.iaload, 1) := by decide +kernel
theorem dL_law_1148 : decode code 1148 = .ok (.invokevirtual 156, 3) := by decide +kernel
theorem dL_law_1151 : decode code 1151 = .ok (.if_icmp .eq 28, 3) := by decide +kernel
theorem dL_law_1154 : decode code 1154 = .ok (.iconst 0, 1) := by decide +kernel
theorem dL_law_1155 : decode code 1155 = .ok (.ireturn, 1) := by decide +kernel
theorem dL_law_1156 : decode code 1156 = .ok (.aload_n 1, 1) := by decide +kernel
theorem dL_law_1157 : decode code 1157 = .ok (.aload_n 0, 1) := by decide +kernel
theorem dL_law_1158 : decode code 1158 = .ok (.iload_n 3, 1) := by decide +kernel
theorem dL_law_1159 : decode code 1159 = .ok (.iconst 1, 1) := by decide +kernel
theorem dL_law_1160 : decode code 1160 = .ok (.iadd, 1) := by decide +kernel
theorem dL_law_1161 : decode code 1161 = .ok (.iaload, 1) := by decide +kernel
theorem dL_law_1162 : decode code 1162 = .ok (.invokevirtual 157, 3) := by decide +kernel
theorem dL_law_1165 : decode code 1165 = .ok (.aload_n 2, 1) := by decide +kernel
theorem dL_law_1166 : decode code 1166 = .ok (.aload_n 0, 1) := by decide +kernel
theorem dL_law_1167 : decode code 1167 = .ok (.iload_n 3, 1) := by decide +kernel
theorem dL_law_1168 : decode code 1168 = .ok (.iconst 1, 1) := by decide +kernel
theorem dL_law_1169 : decode code 1169 = .ok (.iadd, 1) := by decide +kernel
theorem dL_law_1170 : decode code 1170 = .ok (.iaload, 1) := by decide +kernel
theorem dL_law_1171 : decode code 1171 = .ok (.invokevirtual 160, 3) := by decide +kernel
theorem dL_law_1174 : decode code 1174 = .ok (.if_icmp .eq 5, 3) := by decide +kernel
theorem dL_law_1177 : decode code 1177 = .ok (.iconst 0, 1) := by decide +kernel
theorem dL_law_1178 : decode code 1178 = .ok (.ireturn, 1) := by decide +kernel
theorem dL_law_1179 : decode code 1179 = .ok (.iinc 3 4, 3) := by decide +kernel
theorem dL_law_1182 : decode code 1182 = .ok (.goto (-1164), 3) := by decide +kernel
theorem dL_law_1185 : decode code 1185 = .ok (.iconst 1, 1) := by decide +kernel
theorem dL_law_1186 : decode code 1186 = .ok (.ireturn, 1) := by decide +kernel
