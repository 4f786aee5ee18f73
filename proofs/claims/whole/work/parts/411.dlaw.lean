theorem dL_law__908 : decode cL_law_ 908 = .ok (.goto 2111, 3) := by decide +kernel
theorem dL_law__911 : decode cL_law_ 911 = .ok (.aload_n 1, 1) := by decide +kernel
theorem dL_law__912 : decode cL_law_ 912 = .ok (.aload_n 0, 1) := by decide +kernel
theorem dL_law__913 : decode cL_law_ 913 = .ok (.iload 4, 2) := by decide +kernel
theorem dL_law__915 : decode cL_law_ 915 = .ok (.iconst 1, 1) := by decide +kernel
theorem dL_law__916 : decode cL_law_ 916 = .ok (.iadd, 1) := by decide +kernel
theorem dL_law__917 : decode cL_law_ 917 = .ok (.iaload, 1) := by decide +kernel
theorem dL_law__918 : decode cL_law_ 918 = .ok (.aload_n 0, 1) := by decide +kernel
theorem dL_law__919 : decode cL_law_ 919 = .ok (.iload 4, 2) := by decide +kernel
theorem dL_law__921 : decode cL_law_ 921 = .ok (.iconst 2, 1) := by decide +kernel
theorem dL_law__922 : decode cL_law_ 922 = .ok (.iadd, 1) := by decide +kernel
theorem dL_law__923 : decode cL_law_ 923 = .ok (.iaload, 1) := by decide +kernel
theorem dL_law__924 : decode cL_law_ 924 = .ok (.aload_n 3, 1) := by decide +kernel
theorem dL_law__925 : decode cL_law_ 925 = .ok (.invokestatic 179, 3) := by decide +kernel
theorem dL_law__928 : decode cL_law_ 928 = .ok (.istore 5, 2) := by decide +kernel
theorem dL_law__930 : decode cL_law_ 930 = .ok (.aload_n 2, 1) := by decide +kernel
theorem dL_law__931 : decode cL_law_ 931 = .ok (.aload_n 0, 1) := by decide +kernel
theorem dL_law__932 : decode cL_law_ 932 = .ok (.iload 4, 2) := by decide +kernel
theorem dL_law__934 : decode cL_law_ 934 = .ok (.iconst 1, 1) := by decide +kernel
theorem dL_law__935 : decode cL_law_ 935 = .ok (.iadd, 1) := by decide +kernel
theorem dL_law__936 : decode cL_law_ 936 = .ok (.iaload, 1) := by decide +kernel
theorem dL_law__937 : decode cL_law_ 937 = .ok (.aload_n 0, 1) := by decide +kernel
theorem dL_law__938 : decode cL_law_ 938 = .ok (.iload 4, 2) := by decide +kernel
theorem dL_law__940 : decode cL_law_ 940 = .ok (.iconst 2, 1) := by decide +kernel
theorem dL_law__941 : decode cL_law_ 941 = .ok (.iadd, 1) := by decide +kernel
theorem dL_law__942 : decode cL_law_ 942 = .ok (.iaload, 1) := by decide +kernel
theorem dL_law__943 : decode cL_law_ 943 = .ok (.invokevirtual 181, 3) := by decide +kernel
theorem dL_law__946 : decode cL_law_ 946 = .ok (.istore 6, 2) := by decide +kernel
theorem dL_law__948 : decode cL_law_ 948 = .ok (.aload_n 2, 1) := by decide +kernel
theorem dL_law__949 : decode cL_law_ 949 = .ok (.invokevirtual 141, 3) := by decide +kernel
theorem dL_law__952 : decode cL_law_ 952 = .ok (.iload 5, 2) := by decide +kernel
theorem dL_law__954 : decode cL_law_ 954 = .ok (.if_icmp .eq 5, 3) := by decide +kernel
theorem dL_law__957 : decode cL_law_ 957 = .ok (.iconst 0, 1) := by decide +kernel
theorem dL_law__958 : decode cL_law_ 958 = .ok (.ireturn, 1) := by decide +kernel
theorem dL_law__959 : decode cL_law_ 959 = .ok (.iload 5, 2) := by decide +kernel
theorem dL_law__961 : decode cL_law_ 961 = .ok (.ifCond .ne 15, 3) := by decide +kernel
theorem dL_law__964 : decode cL_law_ 964 = .ok (.aload_n 3, 1) := by decide +kernel
theorem dL_law__965 : decode cL_law_ 965 = .ok (.iconst 0, 1) := by decide +kernel
theorem dL_law__966 : decode cL_law_ 966 = .ok (.laload, 1) := by decide +kernel
theorem dL_law__967 : decode cL_law_ 967 = .ok (.iload 6, 2) := by decide +kernel
theorem dL_law__969 : decode cL_law_ 969 = .ok (.i2l, 1) := by decide +kernel
theorem dL_law__970 : decode cL_law_ 970 = .ok (.lcmp, 1) := by decide +kernel
theorem dL_law__971 : decode cL_law_ 971 = .ok (.ifCond .eq 5, 3) := by decide +kernel
theorem dL_law__974 : decode cL_law_ 974 = .ok (.iconst 0, 1) := by decide +kernel
theorem dL_law__975 : decode cL_law_ 975 = .ok (.ireturn, 1) := by decide +kernel
theorem dL_law__976 : decode cL_law_ 976 = .ok (.goto 2043, 3) := by decide +kernel
theorem dL_law__979 : decode cL_law_ 979 = .ok (.aload_n 1, 1) := by decide +kernel
theorem dL_law__980 : decode cL_law_ 980 = .ok (.aload_n 0, 1) := by decide +kernel
theorem dL_law__981 : decode cL_law_ 981 = .ok (.iload 4, 2) := by decide +kernel
theorem dL_law__983 : decode cL_law_ 983 = .ok (.iconst 1, 1) := by decide +kernel
theorem dL_law__984 : decode cL_law_ 984 = .ok (.iadd, 1) := by decide +kernel
theorem dL_law__985 : decode cL_law_ 985 = .ok (.iaload, 1) := by decide +kernel
theorem dL_law__986 : decode cL_law_ 986 = .ok (.aload_n 3, 1) := by decide +kernel
theorem dL_law__987 : decode cL_law_ 987 = .ok (.invokestatic 182, 3) := by decide +kernel
theorem dL_law__990 : decode cL_law_ 990 = .ok (.istore 5, 2) := by decide +kernel
theorem dL_law__992 : decode cL_law_ 992 = .ok (.aload_n 2, 1) := by decide +kernel
theorem dL_law__993 : decode cL_law_ 993 = .ok (.aload_n 0, 1) := by decide +kernel
theorem dL_law__994 : decode cL_law_ 994 = .ok (.iload 4, 2) := by decide +kernel
theorem dL_law__996 : decode cL_law_ 996 = .ok (.iconst 1, 1) := by decide +kernel
theorem dL_law__997 : decode cL_law_ 997 = .ok (.iadd, 1) := by decide +kernel
theorem dL_law__998 : decode cL_law_ 998 = .ok (.iaload, 1) := by decide +kernel
theorem dL_law__999 : decode cL_law_ 999 = .ok (.invokevirtual 184, 3) := by decide +kernel
theorem dL_law__1002 : decode cL_law_ 1002 = .ok (.istore 6, 2) := by decide +kernel
theorem dL_law__1004 : decode cL_law_ 1004 = .ok (.aload_n 2, 1) := by decide +kernel
theorem dL_law__1005 : decode cL_law_ 1005 = .ok (.invokevirtual 141, 3) := by decide +kernel
theorem dL_law__1008 : decode cL_law_ 1008 = .ok (.iload 5, 2) := by decide +kernel
theorem dL_law__1010 : decode cL_law_ 1010 = .ok (.if_icmp .eq 5, 3) := by decide +kernel
theorem dL_law__1013 : decode cL_law_ 1013 = .ok (.iconst 0, 1) := by decide +kernel
theorem dL_law__1014 : decode cL_law_ 1014 = .ok (.ireturn, 1) := by decide +kernel
theorem dL_law__1015 : decode cL_law_ 1015 = .ok (.iload 5, 2) := by decide +kernel
theorem dL_law__1017 : decode cL_law_ 1017 = .ok (.ifCond .ne 22, 3) := by decide +kernel
theorem dL_law__1020 : decode cL_law_ 1020 = .ok (.aload_n 3, 1) := by decide +kernel
theorem dL_law__1021 : decode cL_law_ 1021 = .ok (.iconst 0, 1) := by decide +kernel
theorem dL_law__1022 : decode cL_law_ 1022 = .ok (.laload, 1) := by decide +kernel
theorem dL_law__1023 : decode cL_law_ 1023 = .ok (.iload 6, 2) := by decide +kernel
theorem dL_law__1025 : decode cL_law_ 1025 = .ok (.ifCond .eq 7, 3) := by decide +kernel
theorem dL_law__1028 : decode cL_law_ 1028 = .ok (.lconst 1, 1) := by decide +kernel
theorem dL_law__1029 : decode cL_law_ 1029 = .ok (.goto 4, 3) := by decide +kernel
theorem dL_law__1032 : decode cL_law_ 1032 = .ok (.lconst 0, 1) := by decide +kernel
theorem dL_law__1033 : decode cL_law_ 1033 = .ok (.lcmp, 1) := by decide +kernel
theorem dL_law__1034 : decode cL_law_ 1034 = .ok (.ifCond .eq 5, 3) := by decide +kernel
theorem dL_law__1037 : decode cL_law_ 1037 = .ok (.iconst 0, 1) := by decide +kernel
theorem dL_law__1038 : decode cL_law_ 1038 = .ok (.ireturn, 1) := by decide +kernel
theorem dL_law__1039 : decode cL_law_ 1039 = .ok (.goto 1980, 3) := by decide +kernel
theorem dL_law__1042 : decode cL_law_ 1042 = .ok (.aload_n 1, 1) := by decide +kernel
theorem dL_law__1043 : decode cL_law_ 1043 = .ok (.aload_n 0, 1) := by decide +kernel
theorem dL_law__1044 : decode cL_law_ 1044 = .ok (.iload 4, 2) := by decide +kernel
theorem dL_law__1046 : decode cL_law_ 1046 = .ok (.iconst 1, 1) := by decide +kernel
theorem dL_law__1047 : decode cL_law_ 1047 = .ok (.iadd, 1) := by decide +kernel
theorem dL_law__1048 : decode cL_law_ 1048 = .ok (.iaload, 1) := by decide +kernel
theorem dL_law__1049 : decode cL_law_ 1049 = .ok (.aload_n 3, 1) := by decide +kernel
theorem dL_law__1050 : decode cL_law_ 1050 = .ok (.invokestatic 185, 3) := by decide +kernel
theorem dL_law__1053 : decode cL_law_ 1053 = .ok (.istore 5, 2) := by decide +kernel
theorem dL_law__1055 : decode cL_law_ 1055 = .ok (.aload_n 2, 1) := by decide +kernel
theorem dL_law__1056 : decode cL_law_ 1056 = .ok (.aload_n 0, 1) := by decide +kernel
theorem dL_law__1057 : decode cL_law_ 1057 = .ok (.iload 4, 2) := by decide +kernel
theorem dL_law__1059 : decode cL_law_ 1059 = .ok (.iconst 1, 1) := by decide +kernel
theorem dL_law__1060 : decode cL_law_ 1060 = .ok (.iadd, 1) := by decide +kernel
theorem dL_law__1061 : decode cL_law_ 1061 = .ok (.iaload, 1) := by decide +kernel
theorem dL_law__1062 : decode cL_law_ 1062 = .ok (.invokevirtual 187, 3) := by decide +kernel
theorem dL_law__1065 : decode cL_law_ 1065 = .ok (.istore 6, 2) := by decide +kernel
theorem dL_law__1067 : decode cL_law_ 1067 = .ok (.aload_n 2, 1) := by decide +kernel
theorem dL_law__1068 : decode cL_law_ 1068 = .ok (.invokevirtual 141, 3) := by decide +kernel
theorem dL_law__1071 : decode cL_law_ 1071 = .ok (.iload 5, 2) := by decide +kernel
theorem dL_law__1073 : decode cL_law_ 1073 = .ok (.if_icmp .eq 5, 3) := by decide +kernel
theorem dL_law__1076 : decode cL_law_ 1076 = .ok (.iconst 0, 1) := by decide +kernel
theorem dL_law__1077 : decode cL_law_ 1077 = .ok (.ireturn, 1) := by decide +kernel
theorem dL_law__1078 : decode cL_law_ 1078 = .ok (.iload 5, 2) := by decide +kernel
theorem dL_law__1080 : decode cL_law_ 1080 = .ok (.ifCond .ne 15, 3) := by decide +kernel
theorem dL_law__1083 : decode cL_law_ 1083 = .ok (.aload_n 3, 1) := by decide +kernel
theorem dL_law__1084 : decode cL_law_ 1084 = .ok (.iconst 0, 1) := by decide +kernel
theorem dL_law__1085 : decode cL_law_ 1085 = .ok (.laload, 1) := by decide +kernel
theorem dL_law__1086 : decode cL_law_ 1086 = .ok (.iload 6, 2) := by decide +kernel
theorem dL_law__1088 : decode cL_law_ 1088 = .ok (.i2l, 1) := by decide +kernel
theorem dL_law__1089 : decode cL_law_ 1089 = .ok (.lcmp, 1) := by decide +kernel
theorem dL_law__1090 : decode cL_law_ 1090 = .ok (.ifCond .eq 5, 3) := by decide +kernel
theorem dL_law__1093 : decode cL_law_ 1093 = .ok (.iconst 0, 1) := by decide +kernel
theorem dL_law__1094 : decode cL_law_ 1094 = .ok (.ireturn, 1) := by decide +kernel
theorem dL_law__1095 : decode cL_law_ 1095 = .ok (.goto 1924, 3) := by decide +kernel
theorem dL_law__1098 : decode cL_law_ 1098 = .ok (.aload_n 1, 1) := by decide +kernel
theorem dL_law__1099 : decode cL_law_ 1099 = .ok (.aload_n 0, 1) := by decide +kernel
theorem dL_law__1100 : decode cL_law_ 1100 = .ok (.iload 4, 2) := by decide +kernel
theorem dL_law__1102 : decode cL_law_ 1102 = .ok (.iconst 1, 1) := by decide +kernel
theorem dL_law__1103 : decode cL_law_ 1103 = .ok (.iadd, 1) := by decide +kernel
theorem dL_law__1104 : decode cL_law_ 1104 = .ok (.iaload, 1) := by decide +kernel
theorem dL_law__1105 : decode cL_law_ 1105 = .ok (.aload_n 0, 1) := by decide +kernel
theorem dL_law__1106 : decode cL_law_ 1106 = .ok (.iload 4, 2) := by decide +kernel
theorem dL_law__1108 : decode cL_law_ 1108 = .ok (.iconst 2, 1) := by decide +kernel
theorem dL_law__1109 : decode cL_law_ 1109 = .ok (.iadd, 1) := by decide +kernel
theorem dL_law__1110 : decode cL_law_ 1110 = .ok (.iaload, 1) := by decide +kernel
theorem dL_law__1111 : decode cL_law_ 1111 = .ok (.aload_n 3, 1) := by decide +kernel
theorem dL_law__1112 : decode cL_law_ 1112 = .ok (.invokestatic 188, 3) := by decide +kernel
theorem dL_law__1115 : decode cL_law_ 1115 = .ok (.istore 5, 2) := by decide +kernel
theorem dL_law__1117 : decode cL_law_ 1117 = .ok (.aload_n 2, 1) := by decide +kernel
theorem dL_law__1118 : decode cL_law_ 1118 = .ok (.aload_n 0, 1) := by decide +kernel
theorem dL_law__1119 : decode cL_law_ 1119 = .ok (.iload 4, 2) := by decide +kernel
theorem dL_law__1121 : decode cL_law_ 1121 = .ok (.iconst 1, 1) := by decide +kernel
theorem dL_law__1122 : decode cL_law_ 1122 = .ok (.iadd, 1) := by decide +kernel
theorem dL_law__1123 : decode cL_law_ 1123 = .ok (.iaload, 1) := by decide +kernel
theorem dL_law__1124 : decode cL_law_ 1124 = .ok (.aload_n 0, 1) := by decide +kernel
theorem dL_law__1125 : decode cL_law_ 1125 = .ok (.iload 4, 2) := by decide +kernel
theorem dL_law__1127 : decode cL_law_ 1127 = .ok (.iconst 2, 1) := by decide +kernel
theorem dL_law__1128 : decode cL_law_ 1128 = .ok (.iadd, 1) := by decide +kernel
theorem dL_law__1129 : decode cL_law_ 1129 = .ok (.iaload, 1) := by decide +kernel
theorem dL_law__1130 : decode cL_law_ 1130 = .ok (.invokevirtual 190, 3) := by decide +kernel
theorem dL_law__1133 : decode cL_law_ 1133 = .ok (.istore 6, 2) := by decide +kernel
theorem dL_law__1135 : decode cL_law_ 1135 = .ok (.aload_n 2, 1) := by decide +kernel
theorem dL_law__1136 : decode cL_law_ 1136 = .ok (.invokevirtual 141, 3) := by decide +kernel
theorem dL_law__1139 : decode cL_law_ 1139 = .ok (.iload 5, 2) := by decide +kernel
theorem dL_law__1141 : decode cL_law_ 1141 = .ok (.if_icmp .eq 5, 3) := by decide +kernel
theorem dL_law__1144 : decode cL_law_ 1144 = .ok (.iconst 0, 1) := by decide +kernel
theorem dL_law__1145 : decode cL_law_ 1145 = .ok (.ireturn, 1) := by decide +kernel
theorem dL_law__1146 : decode cL_law_ 1146 = .ok (.iload 5, 2) := by decide +kernel
theorem dL_law__1148 : decode cL_law_ 1148 = .ok (.ifCond .ne 15, 3) := by decide +kernel
theorem dL_law__1151 : decode cL_law_ 1151 = .ok (.aload_n 3, 1) := by decide +kernel
theorem dL_law__1152 : decode cL_law_ 1152 = .ok (.iconst 0, 1) := by decide +kernel
theorem dL_law__1153 : decode cL_law_ 1153 = .ok (.laload, 1) := by decide +kernel
theorem dL_law__1154 : decode cL_law_ 1154 = .ok (.iload 6, 2) := by decide +kernel
theorem dL_law__1156 : decode cL_law_ 1156 = .ok (.i2l, 1) := by decide +kernel
theorem dL_law__1157 : decode cL_law_ 1157 = .ok (.lcmp, 1) := by decide +kernel
theorem dL_law__1158 : decode cL_law_ 1158 = .ok (.ifCond .eq 5, 3) := by decide +kernel
theorem dL_law__1161 : decode cL_law_ 1161 = .ok (.iconst 0, 1) := by decide +kernel
theorem dL_law__1162 : decode cL_law_ 1162 = .ok (.ireturn, 1) := by decide +kernel
theorem dL_law__1163 : decode cL_law_ 1163 = .ok (.goto 1856, 3) := by decide +kernel
theorem dL_law__1166 : decode cL_law_ 1166 = .ok (.aload_n 1, 1) := by decide +kernel
theorem dL_law__1167 : decode cL_law_ 1167 = .ok (.aload_n 0, 1) := by decide +kernel
theorem dL_law__1168 : decode cL_law_ 1168 = .ok (.iload 4, 2) := by decide +kernel
theorem dL_law__1170 : decode cL_law_ 1170 = .ok (.iconst 1, 1) := by decide +kernel
theorem dL_law__1171 : decode cL_law_ 1171 = .ok (.iadd, 1) := by decide +kernel
theorem dL_law__1172 : decode cL_law_ 1172 = .ok (.iaload, 1) := by decide +kernel
theorem dL_law__1173 : decode cL_law_ 1173 = .ok (.aload_n 0, 1) := by decide +kernel
theorem dL_law__1174 : decode cL_law_ 1174 = .ok (.iload 4, 2) := by decide +kernel
theorem dL_law__1176 : decode cL_law_ 1176 = .ok (.iconst 2, 1) := by decide +kernel
theorem dL_law__1177 : decode cL_law_ 1177 = .ok (.iadd, 1) := by decide +kernel
theorem dL_law__1178 : decode cL_law_ 1178 = .ok (.iaload, 1) := by decide +kernel
theorem dL_law__1179 : decode cL_law_ 1179 = .ok (.aload_n 0, 1) := by decide +kernel
theorem dL_law__1180 : decode cL_law_ 1180 = .ok (.iload 4, 2) := by decide +kernel
theorem dL_law__1182 : decode cL_law_ 1182 = .ok (.iconst 3, 1) := by decide +kernel
theorem dL_law__1183 : decode cL_law_ 1183 = .ok (.iadd, 1) := by decide +kernel
theorem dL_law__1184 : decode cL_law_ 1184 = .ok (.iaload, 1) := by decide +kernel
theorem dL_law__1185 : decode cL_law_ 1185 = .ok (.aload_n 3, 1) := by decide +kernel
theorem dL_law__1186 : decode cL_law_ 1186 = .ok (.invokestatic 191, 3) := by decide +kernel
theorem dL_law__1189 : decode cL_law_ 1189 = .ok (.istore 5, 2) := by decide +kernel
theorem dL_law__1191 : decode cL_law_ 1191 = .ok (.aload_n 2, 1) := by decide +kernel
theorem dL_law__1192 : decode cL_law_ 1192 = .ok (.aload_n 0, 1) := by decide +kernel
theorem dL_law__1193 : decode cL_law_ 1193 = .ok (.iload 4, 2) := by decide +kernel
theorem dL_law__1195 : decode cL_law_ 1195 = .ok (.iconst 1, 1) := by decide +kernel
theorem dL_law__1196 : decode cL_law_ 1196 = .ok (.iadd, 1) := by decide +kernel
theorem dL_law__1197 : decode cL_law_ 1197 = .ok (.iaload, 1) := by decide +kernel
theorem dL_law__1198 : decode cL_law_ 1198 = .ok (.aload_n 0, 1) := by decide +kernel
theorem dL_law__1199 : decode cL_law_ 1199 = .ok (.iload 4, 2) := by decide +kernel
theorem dL_law__1201 : decode cL_law_ 1201 = .ok (.iconst 2, 1) := by decide +kernel
theorem dL_law__1202 : decode cL_law_ 1202 = .ok (.iadd, 1) := by decide +kernel
theorem dL_law__1203 : decode cL_law_ 1203 = .ok (.iaload, 1) := by decide +kernel
theorem dL_law__1204 : decode cL_law_ 1204 = .ok (.aload_n 0, 1) := by decide +kernel
theorem dL_law__1205 : decode cL_law_ 1205 = .ok (.iload 4, 2) := by decide +kernel
theorem dL_law__1207 : decode cL_law_ 1207 = .ok (.iconst 3, 1) := by decide +kernel
theorem dL_law__1208 : decode cL_law_ 1208 = .ok (.iadd, 1) := by decide +kernel
theorem dL_law__1209 : decode cL_law_ 1209 = .ok (.iaload, 1) := by decide +kernel
theorem dL_law__1210 : decode cL_law_ 1210 = .ok (.invokevirtual 194, 3) := by decide +kernel
theorem dL_law__1213 : decode cL_law_ 1213 = .ok (.istore 6, 2) := by decide +kernel
theorem dL_law__1215 : decode cL_law_ 1215 = .ok (.aload_n 2, 1) := by decide +kernel
theorem dL_law__1216 : decode cL_law_ 1216 = .ok (.invokevirtual 141, 3) := by decide +kernel
theorem dL_law__1219 : decode cL_law_ 1219 = .ok (.iload 5, 2) := by decide +kernel
theorem dL_law__1221 : decode cL_law_ 1221 = .ok (.if_icmp .eq 5, 3) := by decide +kernel
theorem dL_law__1224 : decode cL_law_ 1224 = .ok (.iconst 0, 1) := by decide +kernel
theorem dL_law__1225 : decode cL_law_ 1225 = .ok (.ireturn, 1) := by decide +kernel
theorem dL_law__1226 : decode cL_law_ 1226 = .ok (.iload 5, 2) := by decide +kernel
theorem dL_law__1228 : decode cL_law_ 1228 = .ok (.ifCond .ne 15, 3) := by decide +kernel
theorem dL_law__1231 : decode cL_law_ 1231 = .ok (.aload_n 3, 1) := by decide +kernel
theorem dL_law__1232 : decode cL_law_ 1232 = .ok (.iconst 0, 1) := by decide +kernel
theorem dL_law__1233 : decode cL_law_ 1233 = .ok (.laload, 1) := by decide +kernel
theorem dL_law__1234 : decode cL_law_ 1234 = .ok (.iload 6, 2) := by decide +kernel
theorem dL_law__1236 : decode cL_law_ 1236 = .ok (.i2l, 1) := by decide +kernel
theorem dL_law__1237 : decode cL_law_ 1237 = .ok (.lcmp, 1) := by decide +kernel
theorem dL_law__1238 : decode cL_law_ 1238 = .ok (.ifCond .eq 5, 3) := by decide +kernel
theorem dL_law__1241 : decode cL_law_ 1241 = .ok (.iconst 0, 1) := by decide +kernel
theorem dL_law__1242 : decode cL_law_ 1242 = .ok (.ireturn, 1) := by decide +kernel
theorem dL_law__1243 : decode cL_law_ 1243 = .ok (.goto 1776, 3) := by decide +kernel
theorem dL_law__1246 : decode cL_law_ 1246 = .ok (.aload_n 1, 1) := by decide +kernel
theorem dL_law__1247 : decode cL_law_ 1247 = .ok (.aload_n 0, 1) := by decide +kernel
theorem dL_law__1248 : decode cL_law_ 1248 = .ok (.iload 4, 2) := by decide +kernel
theorem dL_law__1250 : decode cL_law_ 1250 = .ok (.iconst 1, 1) := by decide +kernel
theorem dL_law__1251 : decode cL_law_ 1251 = .ok (.iadd, 1) := by decide +kernel
theorem dL_law__1252 : decode cL_law_ 1252 = .ok (.iaload, 1) := by decide +kernel
theorem dL_law__1253 : decode cL_law_ 1253 = .ok (.aload_n 3, 1) := by decide +kernel
theorem dL_law__1254 : decode cL_law_ 1254 = .ok (.invokestatic 195, 3) := by decide +kernel
theorem dL_law__1257 : decode cL_law_ 1257 = .ok (.istore 5, 2) := by decide +kernel
theorem dL_law__1259 : decode cL_law_ 1259 = .ok (.aload_n 2, 1) := by decide +kernel
theorem dL_law__1260 : decode cL_law_ 1260 = .ok (.aload_n 0, 1) := by decide +kernel
theorem dL_law__1261 : decode cL_law_ 1261 = .ok (.iload 4, 2) := by decide +kernel
theorem dL_law__1263 : decode cL_law_ 1263 = .ok (.iconst 1, 1) := by decide +kernel
theorem dL_law__1264 : decode cL_law_ 1264 = .ok (.iadd, 1) := by decide +kernel
theorem dL_law__1265 : decode cL_law_ 1265 = .ok (.iaload, 1) := by decide +kernel
theorem dL_law__1266 : decode cL_law_ 1266 = .ok (.invokevirtual 197, 3) := by decide +kernel
theorem dL_law__1269 : decode cL_law_ 1269 = .ok (.istore 6, 2) := by decide +kernel
theorem dL_law__1271 : decode cL_law_ 1271 = .ok (.aload_n 2, 1) := by decide +kernel
theorem dL_law__1272 : decode cL_law_ 1272 = .ok (.invokevirtual 141, 3) := by decide +kernel
theorem dL_law__1275 : decode cL_law_ 1275 = .ok (.iload 5, 2) := by decide +kernel
theorem dL_law__1277 : decode cL_law_ 1277 = .ok (.if_icmp .eq 5, 3) := by decide +kernel
theorem dL_law__1280 : decode cL_law_ 1280 = .ok (.iconst 0, 1) := by decide +kernel
theorem dL_law__1281 : decode cL_law_ 1281 = .ok (.ireturn, 1) := by decide +kernel
theorem dL_law__1282 : decode cL_law_ 1282 = .ok (.iload 5, 2) := by decide +kernel
theorem dL_law__1284 : decode cL_law_ 1284 = .ok (.ifCond .ne 15, 3) := by decide +kernel
theorem dL_law__1287 : decode cL_law_ 1287 = .ok (.aload_n 3, 1) := by decide +kernel
theorem dL_law__1288 : decode cL_law_ 1288 = .ok (.iconst 0, 1) := by decide +kernel
theorem dL_law__1289 : decode cL_law_ 1289 = .ok (.laload, 1) := by decide +kernel
theorem dL_law__1290 : decode cL_law_ 1290 = .ok (.iload 6, 2) := by decide +kernel
theorem dL_law__1292 : decode cL_law_ 1292 = .ok (.i2l, 1) := by decide +kernel
theorem dL_law__1293 : decode cL_law_ 1293 = .ok (.lcmp, 1) := by decide +kernel
theorem dL_law__1294 : decode cL_law_ 1294 = .ok (.ifCond .eq 5, 3) := by decide +kernel
theorem dL_law__1297 : decode cL_law_ 1297 = .ok (.iconst 0, 1) := by decide +kernel
theorem dL_law__1298 : decode cL_law_ 1298 = .ok (.ireturn, 1) := by decide +kernel
theorem dL_law__1299 : decode cL_law_ 1299 = .ok (.goto 1720, 3) := by decide +kernel
theorem dL_law__1302 : decode cL_law_ 1302 = .ok (.aload_n 1, 1) := by decide +kernel
theorem dL_law__1303 : decode cL_law_ 1303 = .ok (.aload_n 0, 1) := by decide +kernel
theorem dL_law__1304 : decode cL_law_ 1304 = .ok (.iload 4, 2) := by decide +kernel
theorem dL_law__1306 : decode cL_law_ 1306 = .ok (.iconst 1, 1) := by decide +kernel
theorem dL_law__1307 : decode cL_law_ 1307 = .ok (.iadd, 1) := by decide +kernel
theorem dL_law__1308 : decode cL_law_ 1308 = .ok (.iaload, 1) := by decide +kernel
theorem dL_law__1309 : decode cL_law_ 1309 = .ok (.aload_n 0, 1) := by decide +kernel
theorem dL_law__1310 : decode cL_law_ 1310 = .ok (.iload 4, 2) := by decide +kernel
theorem dL_law__1312 : decode cL_law_ 1312 = .ok (.iconst 2, 1) := by decide +kernel
theorem dL_law__1313 : decode cL_law_ 1313 = .ok (.iadd, 1) := by decide +kernel
theorem dL_law__1314 : decode cL_law_ 1314 = .ok (.iaload, 1) := by decide +kernel
theorem dL_law__1315 : decode cL_law_ 1315 = .ok (.aload_n 3, 1) := by decide +kernel
theorem dL_law__1316 : decode cL_law_ 1316 = .ok (.invokestatic 198, 3) := by decide +kernel
theorem dL_law__1319 : decode cL_law_ 1319 = .ok (.istore 5, 2) := by decide +kernel
theorem dL_law__1321 : decode cL_law_ 1321 = .ok (.aload_n 2, 1) := by decide +kernel
theorem dL_law__1322 : decode cL_law_ 1322 = .ok (.aload_n 0, 1) := by decide +kernel
theorem dL_law__1323 : decode cL_law_ 1323 = .ok (.iload 4, 2) := by decide +kernel
theorem dL_law__1325 : decode cL_law_ 1325 = .ok (.iconst 1, 1) := by decide +kernel
theorem dL_law__1326 : decode cL_law_ 1326 = .ok (.iadd, 1) := by decide +kernel
theorem dL_law__1327 : decode cL_law_ 1327 = .ok (.iaload, 1) := by decide +kernel
theorem dL_law__1328 : decode cL_law_ 1328 = .ok (.aload_n 0, 1) := by decide +kernel
theorem dL_law__1329 : decode cL_law_ 1329 = .ok (.iload 4, 2) := by decide +kernel
theorem dL_law__1331 : decode cL_law_ 1331 = .ok (.iconst 2, 1) := by decide +kernel
theorem dL_law__1332 : decode cL_law_ 1332 = .ok (.iadd, 1) := by decide +kernel
theorem dL_law__1333 : decode cL_law_ 1333 = .ok (.iaload, 1) := by decide +kernel
theorem dL_law__1334 : decode cL_law_ 1334 = .ok (.invokevirtual 200, 3) := by decide +kernel
theorem dL_law__1337 : decode cL_law_ 1337 = .ok (.istore 6, 2) := by decide +kernel
theorem dL_law__1339 : decode cL_law_ 1339 = .ok (.aload_n 2, 1) := by decide +kernel
theorem dL_law__1340 : decode cL_law_ 1340 = .ok (.invokevirtual 141, 3) := by decide +kernel
theorem dL_law__1343 : decode cL_law_ 1343 = .ok (.iload 5, 2) := by decide +kernel
theorem dL_law__1345 : decode cL_law_ 1345 = .ok (.if_icmp .eq 5, 3) := by decide +kernel
theorem dL_law__1348 : decode cL_law_ 1348 = .ok (.iconst 0, 1) := by decide +kernel
theorem dL_law__1349 : decode cL_law_ 1349 = .ok (.ireturn, 1) := by decide +kernel
theorem dL_law__1350 : decode cL_law_ 1350 = .ok (.iload 5, 2) := by decide +kernel
theorem dL_law__1352 : decode cL_law_ 1352 = .ok (.ifCond .ne 15, 3) := by decide +kernel
theorem dL_law__1355 : decode cL_law_ 1355 = .ok (.aload_n 3, 1) := by decide +kernel
theorem dL_law__1356 : decode cL_law_ 1356 = .ok (.iconst 0, 1) := by decide +kernel
theorem dL_law__1357 : decode cL_law_ 1357 = .ok (.laload, 1) := by decide +kernel
theorem dL_law__1358 : decode cL_law_ 1358 = .ok (.iload 6, 2) := by decide +kernel
theorem dL_law__1360 : decode cL_law_ 1360 = .ok (.i2l, 1) := by decide +kernel
theorem dL_law__1361 : decode cL_law_ 1361 = .ok (.lcmp, 1) := by decide +kernel
theorem dL_law__1362 : decode cL_law_ 1362 = .ok (.ifCond .eq 5, 3) := by decide +kernel
theorem dL_law__1365 : decode cL_law_ 1365 = .ok (.iconst 0, 1) := by decide +kernel
theorem dL_law__1366 : decode cL_law_ 1366 = .ok (.ireturn, 1) := by decide +kernel
theorem dL_law__1367 : decode cL_law_ 1367 = .ok (.goto 1652, 3) := by decide +kernel
theorem dL_law__1370 : decode cL_law_ 1370 = .ok (.aload_n 1, 1) := by decide +kernel
theorem dL_law__1371 : decode cL_law_ 1371 = .ok (.aload_n 0, 1) := by decide +kernel
theorem dL_law__1372 : decode cL_law_ 1372 = .ok (.iload 4, 2) := by decide +kernel
theorem dL_law__1374 : decode cL_law_ 1374 = .ok (.iconst 1, 1) := by decide +kernel
theorem dL_law__1375 : decode cL_law_ 1375 = .ok (.iadd, 1) := by decide +kernel
theorem dL_law__1376 : decode cL_law_ 1376 = .ok (.iaload, 1) := by decide +kernel
theorem dL_law__1377 : decode cL_law_ 1377 = .ok (.aload_n 0, 1) := by decide +kernel
theorem dL_law__1378 : decode cL_law_ 1378 = .ok (.iload 4, 2) := by decide +kernel
theorem dL_law__1380 : decode cL_law_ 1380 = .ok (.iconst 2, 1) := by decide +kernel
theorem dL_law__1381 : decode cL_law_ 1381 = .ok (.iadd, 1) := by decide +kernel
theorem dL_law__1382 : decode cL_law_ 1382 = .ok (.iaload, 1) := by decide +kernel
theorem dL_law__1383 : decode cL_law_ 1383 = .ok (.aload_n 0, 1) := by decide +kernel
theorem dL_law__1384 : decode cL_law_ 1384 = .ok (.iload 4, 2) := by decide +kernel
theorem dL_law__1386 : decode cL_law_ 1386 = .ok (.iconst 3, 1) := by decide +kernel
theorem dL_law__1387 : decode cL_law_ 1387 = .ok (.iadd, 1) := by decide +kernel
theorem dL_law__1388 : decode cL_law_ 1388 = .ok (.iaload, 1) := by decide +kernel
theorem dL_law__1389 : decode cL_law_ 1389 = .ok (.aload_n 0, 1) := by decide +kernel
theorem dL_law__1390 : decode cL_law_ 1390 = .ok (.iload 4, 2) := by decide +kernel
theorem dL_law__1392 : decode cL_law_ 1392 = .ok (.iconst 4, 1) := by decide +kernel
theorem dL_law__1393 : decode cL_law_ 1393 = .ok (.iadd, 1) := by decide +kernel
theorem dL_law__1394 : decode cL_law_ 1394 = .ok (.iaload, 1) := by decide +kernel
theorem dL_law__1395 : decode cL_law_ 1395 = .ok (.aload_n 0, 1) := by decide +kernel
theorem dL_law__1396 : decode cL_law_ 1396 = .ok (.iload 4, 2) := by decide +kernel
theorem dL_law__1398 : decode cL_law_ 1398 = .ok (.iconst 5, 1) := by decide +kernel
theorem dL_law__1399 : decode cL_law_ 1399 = .ok (.iadd, 1) := by decide +kernel
theorem dL_law__1400 : decode cL_law_ 1400 = .ok (.iaload, 1) := by decide +kernel
theorem dL_law__1401 : decode cL_law_ 1401 = .ok (.aload_n 0, 1) := by decide +kernel
theorem dL_law__1402 : decode cL_law_ 1402 = .ok (.iload 4, 2) := by decide +kernel
theorem dL_law__1404 : decode cL_law_ 1404 = .ok (.bipush 6, 2) := by decide +kernel
theorem dL_law__1406 : decode cL_law_ 1406 = .ok (.iadd, 1) := by decide +kernel
theorem dL_law__1407 : decode cL_law_ 1407 = .ok (.iaload, 1) := by decide +kernel
theorem dL_law__1408 : decode cL_law_ 1408 = .ok (.aload_n 0, 1) := by decide +kernel
theorem dL_law__1409 : decode cL_law_ 1409 = .ok (.iload 4, 2) := by decide +kernel
theorem dL_law__1411 : decode cL_law_ 1411 = .ok (.bipush 7, 2) := by decide +kernel
theorem dL_law__1413 : decode cL_law_ 1413 = .ok (.iadd, 1) := by decide +kernel
theorem dL_law__1414 : decode cL_law_ 1414 = .ok (.iaload, 1) := by decide +kernel
theorem dL_law__1415 : decode cL_law_ 1415 = .ok (.aload_n 3, 1) := by decide +kernel
theorem dL_law__1416 : decode cL_law_ 1416 = .ok (.invokestatic 201, 3) := by decide +kernel
theorem dL_law__1419 : decode cL_law_ 1419 = .ok (.istore 5, 2) := by decide +kernel
theorem dL_law__1421 : decode cL_law_ 1421 = .ok (.aload_n 2, 1) := by decide +kernel
theorem dL_law__1422 : decode cL_law_ 1422 = .ok (.aload_n 0, 1) := by decide +kernel
theorem dL_law__1423 : decode cL_law_ 1423 = .ok (.iload 4, 2) := by decide +kernel
theorem dL_law__1425 : decode cL_law_ 1425 = .ok (.iconst 1, 1) := by decide +kernel
theorem dL_law__1426 : decode cL_law_ 1426 = .ok (.iadd, 1) := by decide +kernel
theorem dL_law__1427 : decode cL_law_ 1427 = .ok (.iaload, 1) := by decide +kernel
theorem dL_law__1428 : decode cL_law_ 1428 = .ok (.aload_n 0, 1) := by decide +kernel
theorem dL_law__1429 : decode cL_law_ 1429 = .ok (.iload 4, 2) := by decide +kernel
theorem dL_law__1431 : decode cL_law_ 1431 = .ok (.iconst 2, 1) := by decide +kernel
theorem dL_law__1432 : decode cL_law_ 1432 = .ok (.iadd, 1) := by decide +kernel
theorem dL_law__1433 : decode cL_law_ 1433 = .ok (.iaload, 1) := by decide +kernel
theorem dL_law__1434 : decode cL_law_ 1434 = .ok (.aload_n 0, 1) := by decide +kernel
theorem dL_law__1435 : decode cL_law_ 1435 = .ok (.iload 4, 2) := by decide +kernel
theorem dL_law__1437 : decode cL_law_ 1437 = .ok (.iconst 3, 1) := by decide +kernel
theorem dL_law__1438 : decode cL_law_ 1438 = .ok (.iadd, 1) := by decide +kernel
theorem dL_law__1439 : decode cL_law_ 1439 = .ok (.iaload, 1) := by decide +kernel
theorem dL_law__1440 : decode cL_law_ 1440 = .ok (.aload_n 0, 1) := by decide +kernel
theorem dL_law__1441 : decode cL_law_ 1441 = .ok (.iload 4, 2) := by decide +kernel
theorem dL_law__1443 : decode cL_law_ 1443 = .ok (.iconst 4, 1) := by decide +kernel
theorem dL_law__1444 : decode cL_law_ 1444 = .ok (.iadd, 1) := by decide +kernel
theorem dL_law__1445 : decode cL_law_ 1445 = .ok (.iaload, 1) := by decide +kernel
theorem dL_law__1446 : decode cL_law_ 1446 = .ok (.aload_n 0, 1) := by decide +kernel
theorem dL_law__1447 : decode cL_law_ 1447 = .ok (.iload 4, 2) := by decide +kernel
theorem dL_law__1449 : decode cL_law_ 1449 = .ok (.iconst 5, 1) := by decide +kernel
theorem dL_law__1450 : decode cL_law_ 1450 = .ok (.iadd, 1) := by decide +kernel
theorem dL_law__1451 : decode cL_law_ 1451 = .ok (.iaload, 1) := by decide +kernel
theorem dL_law__1452 : decode cL_law_ 1452 = .ok (.aload_n 0, 1) := by decide +kernel
theorem dL_law__1453 : decode cL_law_ 1453 = .ok (.iload 4, 2) := by decide +kernel
theorem dL_law__1455 : decode cL_law_ 1455 = .ok (.bipush 6, 2) := by decide +kernel
theorem dL_law__1457 : decode cL_law_ 1457 = .ok (.iadd, 1) := by decide +kernel
theorem dL_law__1458 : decode cL_law_ 1458 = .ok (.iaload, 1) := by decide +kernel
theorem dL_law__1459 : decode cL_law_ 1459 = .ok (.aload_n 0, 1) := by decide +kernel
theorem dL_law__1460 : decode cL_law_ 1460 = .ok (.iload 4, 2) := by decide +kernel
theorem dL_law__1462 : decode cL_law_ 1462 = .ok (.bipush 7, 2) := by decide +kernel
theorem dL_law__1464 : decode cL_law_ 1464 = .ok (.iadd, 1) := by decide +kernel
theorem dL_law__1465 : decode cL_law_ 1465 = .ok (.iaload, 1) := by decide +kernel
theorem dL_law__1466 : decode cL_law_ 1466 = .ok (.invokevirtual 204, 3) := by decide +kernel
theorem dL_law__1469 : decode cL_law_ 1469 = .ok (.lstore 6, 2) := by decide +kernel
theorem dL_law__1471 : decode cL_law_ 1471 = .ok (.aload_n 2, 1) := by decide +kernel
theorem dL_law__1472 : decode cL_law_ 1472 = .ok (.invokevirtual 141, 3) := by decide +kernel
theorem dL_law__1475 : decode cL_law_ 1475 = .ok (.iload 5, 2) := by decide +kernel
theorem dL_law__1477 : decode cL_law_ 1477 = .ok (.if_icmp .eq 5, 3) := by decide +kernel
theorem dL_law__1480 : decode cL_law_ 1480 = .ok (.iconst 0, 1) := by decide +kernel
theorem dL_law__1481 : decode cL_law_ 1481 = .ok (.ireturn, 1) := by decide +kernel
theorem dL_law__1482 : decode cL_law_ 1482 = .ok (.iload 5, 2) := by decide +kernel
theorem dL_law__1484 : decode cL_law_ 1484 = .ok (.ifCond .ne 14, 3) := by decide +kernel
theorem dL_law__1487 : decode cL_law_ 1487 = .ok (.aload_n 3, 1) := by decide +kernel
theorem dL_law__1488 : decode cL_law_ 1488 = .ok (.iconst 0, 1) := by decide +kernel
theorem dL_law__1489 : decode cL_law_ 1489 = .ok (.laload, 1) := by decide +kernel
theorem dL_law__1490 : decode cL_law_ 1490 = .ok (.lload 6, 2) := by decide +kernel
theorem dL_law__1492 : decode cL_law_ 1492 = .ok (.lcmp, 1) := by decide +kernel
theorem dL_law__1493 : decode cL_law_ 1493 = .ok (.ifCond .eq 5, 3) := by decide +kernel
theorem dL_law__1496 : decode cL_law_ 1496 = .ok (.iconst 0, 1) := by decide +kernel
theorem dL_law__1497 : decode cL_law_ 1497 = .ok (.ireturn, 1) := by decide +kernel
theorem dL_law__1498 : decode cL_law_ 1498 = .ok (.goto 1521, 3) := by decide +kernel
theorem dL_law__1501 : decode cL_law_ 1501 = .ok (.aload_n 1, 1) := by decide +kernel
theorem dL_law__1502 : decode cL_law_ 1502 = .ok (.aload_n 0, 1) := by decide +kernel
theorem dL_law__1503 : decode cL_law_ 1503 = .ok (.iload 4, 2) := by decide +kernel
theorem dL_law__1505 : decode cL_law_ 1505 = .ok (.iconst 1, 1) := by decide +kernel
theorem dL_law__1506 : decode cL_law_ 1506 = .ok (.iadd, 1) := by decide +kernel
theorem dL_law__1507 : decode cL_law_ 1507 = .ok (.iaload, 1) := by decide +kernel
theorem dL_law__1508 : decode cL_law_ 1508 = .ok (.aload_n 0, 1) := by decide +kernel
theorem dL_law__1509 : decode cL_law_ 1509 = .ok (.iload 4, 2) := by decide +kernel
theorem dL_law__1511 : decode cL_law_ 1511 = .ok (.iconst 2, 1) := by decide +kernel
theorem dL_law__1512 : decode cL_law_ 1512 = .ok (.iadd, 1) := by decide +kernel
theorem dL_law__1513 : decode cL_law_ 1513 = .ok (.iaload, 1) := by decide +kernel
theorem dL_law__1514 : decode cL_law_ 1514 = .ok (.aload_n 0, 1) := by decide +kernel
theorem dL_law__1515 : decode cL_law_ 1515 = .ok (.iload 4, 2) := by decide +kernel
theorem dL_law__1517 : decode cL_law_ 1517 = .ok (.iconst 3, 1) := by decide +kernel
theorem dL_law__1518 : decode cL_law_ 1518 = .ok (.iadd, 1) := by decide +kernel
theorem dL_law__1519 : decode cL_law_ 1519 = .ok (.iaload, 1) := by decide +kernel
theorem dL_law__1520 : decode cL_law_ 1520 = .ok (.aload_n 0, 1) := by decide +kernel
theorem dL_law__1521 : decode cL_law_ 1521 = .ok (.iload 4, 2) := by decide +kernel
theorem dL_law__1523 : decode cL_law_ 1523 = .ok (.iconst 4, 1) := by decide +kernel
theorem dL_law__1524 : decode cL_law_ 1524 = .ok (.iadd, 1) := by decide +kernel
theorem dL_law__1525 : decode cL_law_ 1525 = .ok (.iaload, 1) := by decide +kernel
theorem dL_law__1526 : decode cL_law_ 1526 = .ok (.aload_n 0, 1) := by decide +kernel
theorem dL_law__1527 : decode cL_law_ 1527 = .ok (.iload 4, 2) := by decide +kernel
theorem dL_law__1529 : decode cL_law_ 1529 = .ok (.iconst 5, 1) := by decide +kernel
theorem dL_law__1530 : decode cL_law_ 1530 = .ok (.iadd, 1) := by decide +kernel
theorem dL_law__1531 : decode cL_law_ 1531 = .ok (.iaload, 1) := by decide +kernel
theorem dL_law__1532 : decode cL_law_ 1532 = .ok (.aload_n 0, 1) := by decide +kernel
theorem dL_law__1533 : decode cL_law_ 1533 = .ok (.iload 4, 2) := by decide +kernel
theorem dL_law__1535 : decode cL_law_ 1535 = .ok (.bipush 6, 2) := by decide +kernel
theorem dL_law__1537 : decode cL_law_ 1537 = .ok (.iadd, 1) := by decide +kernel
theorem dL_law__1538 : decode cL_law_ 1538 = .ok (.iaload, 1) := by decide +kernel
theorem dL_law__1539 : decode cL_law_ 1539 = .ok (.aload_n 0, 1) := by decide +kernel
theorem dL_law__1540 : decode cL_law_ 1540 = .ok (.iload 4, 2) := by decide +kernel
theorem dL_law__1542 : decode cL_law_ 1542 = .ok (.bipush 7, 2) := by decide +kernel
theorem dL_law__1544 : decode cL_law_ 1544 = .ok (.iadd, 1) := by decide +kernel
theorem dL_law__1545 : decode cL_law_ 1545 = .ok (.iaload, 1) := by decide +kernel
theorem dL_law__1546 : decode cL_law_ 1546 = .ok (.aload_n 3, 1) := by decide +kernel
theorem dL_law__1547 : decode cL_law_ 1547 = .ok (.invokestatic 205, 3) := by decide +kernel
theorem dL_law__1550 : decode cL_law_ 1550 = .ok (.istore 5, 2) := by decide +kernel
theorem dL_law__1552 : decode cL_law_ 1552 = .ok (.aload_n 2, 1) := by decide +kernel
theorem dL_law__1553 : decode cL_law_ 1553 = .ok (.aload_n 0, 1) := by decide +kernel
theorem dL_law__1554 : decode cL_law_ 1554 = .ok (.iload 4, 2) := by decide +kernel
theorem dL_law__1556 : decode cL_law_ 1556 = .ok (.iconst 1, 1) := by decide +kernel
theorem dL_law__1557 : decode cL_law_ 1557 = .ok (.iadd, 1) := by decide +kernel
theorem dL_law__1558 : decode cL_law_ 1558 = .ok (.iaload, 1) := by decide +kernel
theorem dL_law__1559 : decode cL_law_ 1559 = .ok (.aload_n 0, 1) := by decide +kernel
theorem dL_law__1560 : decode cL_law_ 1560 = .ok (.iload 4, 2) := by decide +kernel
theorem dL_law__1562 : decode cL_law_ 1562 = .ok (.iconst 2, 1) := by decide +kernel
theorem dL_law__1563 : decode cL_law_ 1563 = .ok (.iadd, 1) := by decide +kernel
theorem dL_law__1564 : decode cL_law_ 1564 = .ok (.iaload, 1) := by decide +kernel
theorem dL_law__1565 : decode cL_law_ 1565 = .ok (.aload_n 0, 1) := by decide +kernel
theorem dL_law__1566 : decode cL_law_ 1566 = .ok (.iload 4, 2) := by decide +kernel
theorem dL_law__1568 : decode cL_law_ 1568 = .ok (.iconst 3, 1) := by decide +kernel
theorem dL_law__1569 : decode cL_law_ 1569 = .ok (.iadd, 1) := by decide +kernel
theorem dL_law__1570 : decode cL_law_ 1570 = .ok (.iaload, 1) := by decide +kernel
theorem dL_law__1571 : decode cL_law_ 1571 = .ok (.aload_n 0, 1) := by decide +kernel
theorem dL_law__1572 : decode cL_law_ 1572 = .ok (.iload 4, 2) := by decide +kernel
theorem dL_law__1574 : decode cL_law_ 1574 = .ok (.iconst 4, 1) := by decide +kernel
theorem dL_law__1575 : decode cL_law_ 1575 = .ok (.iadd, 1) := by decide +kernel
theorem dL_law__1576 : decode cL_law_ 1576 = .ok (.iaload, 1) := by decide +kernel
theorem dL_law__1577 : decode cL_law_ 1577 = .ok (.aload_n 0, 1) := by decide +kernel
theorem dL_law__1578 : decode cL_law_ 1578 = .ok (.iload 4, 2) := by decide +kernel
theorem dL_law__1580 : decode cL_law_ 1580 = .ok (.iconst 5, 1) := by decide +kernel
theorem dL_law__1581 : decode cL_law_ 1581 = .ok (.iadd, 1) := by decide +kernel
theorem dL_law__1582 : decode cL_law_ 1582 = .ok (.iaload, 1) := by decide +kernel
theorem dL_law__1583 : decode cL_law_ 1583 = .ok (.aload_n 0, 1) := by decide +kernel
theorem dL_law__1584 : decode cL_law_ 1584 = .ok (.iload 4, 2) := by decide +kernel
theorem dL_law__1586 : decode cL_law_ 1586 = .ok (.bipush 6, 2) := by decide +kernel
theorem dL_law__1588 : decode cL_law_ 1588 = .ok (.iadd, 1) := by decide +kernel
theorem dL_law__1589 : decode cL_law_ 1589 = .ok (.iaload, 1) := by decide +kernel
theorem dL_law__1590 : decode cL_law_ 1590 = .ok (.aload_n 0, 1) := by decide +kernel
theorem dL_law__1591 : decode cL_law_ 1591 = .ok (.iload 4, 2) := by decide +kernel
theorem dL_law__1593 : decode cL_law_ 1593 = .ok (.bipush 7, 2) := by decide +kernel
theorem dL_law__1595 : decode cL_law_ 1595 = .ok (.iadd, 1) := by decide +kernel
theorem dL_law__1596 : decode cL_law_ 1596 = .ok (.iaload, 1) := by decide +kernel
theorem dL_law__1597 : decode cL_law_ 1597 = .ok (.invokevirtual 207, 3) := by decide +kernel
theorem dL_law__1600 : decode cL_law_ 1600 = .ok (.lstore 6, 2) := by decide +kernel
theorem dL_law__1602 : decode cL_law_ 1602 = .ok (.aload_n 2, 1) := by decide +kernel
theorem dL_law__1603 : decode cL_law_ 1603 = .ok (.invokevirtual 141, 3) := by decide +kernel
theorem dL_law__1606 : decode cL_law_ 1606 = .ok (.iload 5, 2) := by decide +kernel
theorem dL_law__1608 : decode cL_law_ 1608 = .ok (.if_icmp .eq 5, 3) := by decide +kernel
theorem dL_law__1611 : decode cL_law_ 1611 = .ok (.iconst 0, 1) := by decide +kernel
theorem dL_law__1612 : decode cL_law_ 1612 = .ok (.ireturn, 1) := by decide +kernel
theorem dL_law__1613 : decode cL_law_ 1613 = .ok (.iload 5, 2) := by decide +kernel
theorem dL_law__1615 : decode cL_law_ 1615 = .ok (.ifCond .ne 14, 3) := by decide +kernel
theorem dL_law__1618 : decode cL_law_ 1618 = .ok (.aload_n 3, 1) := by decide +kernel
theorem dL_law__1619 : decode cL_law_ 1619 = .ok (.iconst 0, 1) := by decide +kernel
