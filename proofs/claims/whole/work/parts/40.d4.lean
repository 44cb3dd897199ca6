theorem d_L_law_1011 : decode code 1011 = .ok (.laload, 1) := by decide +kernel
theorem d_L_law_1012 : decode code 1012 = .ok (.iload 6, 2) := by decide +kernel
theorem d_L_law_1014 : decode code 1014 = .ok (.i2l, 1) := by decide +kernel
theorem d_L_law_1015 : decode code 1015 = .ok (.lcmp, 1) := by decide +kernel
theorem d_L_law_1016 : decode code 1016 = .ok (.ifCond .eq 5, 3) := by decide +kernel
theorem d_L_law_1019 : decode code 1019 = .ok (.iconst 0, 1) := by decide +kernel
theorem d_L_law_1020 : decode code 1020 = .ok (.ireturn, 1) := by decide +kernel
theorem d_L_law_1021 : decode code 1021 = .ok (.goto 294, 3) := by decide +kernel
theorem d_L_law_1024 : decode code 1024 = .ok (.aload_n 1, 1) := by decide +kernel
theorem d_L_law_1025 : decode code 1025 = .ok (.aload_n 0, 1) := by decide +kernel
theorem d_L_law_1026 : decode code 1026 = .ok (.iload 4, 2) := by decide +kernel
theorem d_L_law_1028 : decode code 1028 = .ok (.iconst 1, 1) := by decide +kernel
theorem d_L_law_1029 : decode code 1029 = .ok (.iadd, 1) := by decide +kernel
theorem d_L_law_1030 : decode code 1030 = .ok (.iaload, 1) := by decide +kernel
theorem d_L_law_1031 : decode code 1031 = .ok (.aload_n 3, 1) := by decide +kernel
theorem d_L_law_1032 : decode code 1032 = .ok (.invokestatic 140, 3) := by decide +kernel
theorem d_L_law_1035 : decode code 1035 = .ok (.istore 5, 2) := by decide +kernel
theorem d_L_law_1037 : decode code 1037 = .ok (.aload_n 2, 1) := by decide +kernel
theorem d_L_law_1038 : decode code 1038 = .ok (.aload_n 0, 1) := by decide +kernel
theorem d_L_law_1039 : decode code 1039 = .ok (.iload 4, 2) := by decide +kernel
theorem d_L_law_1041 : decode code 1041 = .ok (.iconst 1, 1) := by decide +kernel
theorem d_L_law_1042 : decode code 1042 = .ok (.iadd, 1) := by decide +kernel
theorem d_L_law_1043 : decode code 1043 = .ok (.iaload, 1) := by decide +kernel
theorem d_L_law_1044 : decode code 1044 = .ok (.invokevirtual 142, 3) := by decide +kernel
theorem d_L_law_1047 : decode code 1047 = .ok (.istore 6, 2) := by decide +kernel
theorem d_L_law_1049 : decode code 1049 = .ok (.aload_n 2, 1) := by decide +kernel
theorem d_L_law_1050 : decode code 1050 = .ok (.invokevirtual 90, 3) := by decide +kernel
theorem d_L_law_1053 : decode code 1053 = .ok (.iload 5, 2) := by decide +kernel
theorem d_L_law_1055 : decode code 1055 = .ok (.if_icmp .eq 5, 3) := by decide +kernel
theorem d_L_law_1058 : decode code 1058 = .ok (.iconst 0, 1) := by decide +kernel
theorem d_L_law_1059 : decode code 1059 = .ok (.ireturn, 1) := by decide +kernel
theorem d_L_law_1060 : decode code 1060 = .ok (.iload 5, 2) := by decide +kernel
theorem d_L_law_1062 : decode code 1062 = .ok (.ifCond .ne 15, 3) := by decide +kernel
theorem d_L_law_1065 : decode code 1065 = .ok (.aload_n 3, 1) := by decide +kernel
theorem d_L_law_1066 : decode code 1066 = .ok (.iconst 0, 1) := by decide +kernel
theorem d_L_law_1067 : decode code 1067 = .ok (.laload, 1) := by decide +kernel
theorem d_L_law_1068 : decode code 1068 = .ok (.iload 6, 2) := by decide +kernel
theorem d_L_law_1070 : decode code 1070 = .ok (.i2l, 1) := by decide +kernel
theorem d_L_law_1071 : decode code 1071 = .ok (.lcmp, 1) := by decide +kernel
theorem d_L_law_1072 : decode code 1072 = .ok (.ifCond .eq 5, 3) := by decide +kernel
theorem d_L_law_1075 : decode code 1075 = .ok (.iconst 0, 1) := by decide +kernel
theorem d_L_law_1076 : decode code 1076 = .ok (.ireturn, 1) := by decide +kernel
theorem d_L_law_1077 : decode code 1077 = .ok (.goto 238, 3) := by decide +kernel
theorem d_L_law_1080 : decode code 1080 = .ok (.aload_n 1, 1) := by decide +kernel
theorem d_L_law_1081 : decode code 1081 = .ok (.aload_n 0, 1) := by decide +kernel
theorem d_L_law_1082 : decode code 1082 = .ok (.iload 4, 2) := by decide +kernel
theorem d_L_law_1084 : decode code 1084 = .ok (.iconst 1, 1) := by decide +kernel
theorem d_L_law_1085 : decode code 1085 = .ok (.iadd, 1) := by decide +kernel
theorem d_L_law_1086 : decode code 1086 = .ok (.iaload, 1) := by decide +kernel
theorem d_L_law_1087 : decode code 1087 = .ok (.aload_n 3, 1) := by decide +kernel
theorem d_L_law_1088 : decode code 1088 = .ok (.invokestatic 143, 3) := by decide +kernel
theorem d_L_law_1091 : decode code 1091 = .ok (.istore 5, 2) := by decide +kernel
theorem d_L_law_1093 : decode code 1093 = .ok (.aload_n 2, 1) := by decide +kernel
theorem d_L_law_1094 : decode code 1094 = .ok (.aload_n 0, 1) := by decide +kernel
theorem d_L_law_1095 : decode code 1095 = .ok (.iload 4, 2) := by decide +kernel
theorem d_L_law_1097 : decode code 1097 = .ok (.iconst 1, 1) := by decide +kernel
theorem d_L_law_1098 : decode code 1098 = .ok (.iadd, 1) := by decide +kernel
theorem d_L_law_1099 : decode code 1099 = .ok (.iaload, 1) := by decide +kernel
theorem d_L_law_1100 : decode code 1100 = .ok (.invokevirtual 145, 3) := by decide +kernel
theorem d_L_law_1103 : decode code 1103 = .ok (.lstore 6, 2) := by decide +kernel
theorem d_L_law_1105 : decode code 1105 = .ok (.aload_n 2, 1) := by decide +kernel
theorem d_L_law_1106 : decode code 1106 = .ok (.invokevirtual 90, 3) := by decide +kernel
theorem d_L_law_1109 : decode code 1109 = .ok (.iload 5, 2) := by decide +kernel
theorem d_L_law_1111 : decode code 1111 = .ok (.if_icmp .eq 5, 3) := by decide +kernel
theorem d_L_law_1114 : decode code 1114 = .ok (.iconst 0, 1) := by decide +kernel
theorem d_L_law_1115 : decode code 1115 = .ok (.ireturn, 1) := by decide +kernel
theorem d_L_law_1116 : decode code 1116 = .ok (.iload 5, 2) := by decide +kernel
theorem d_L_law_1118 : decode code 1118 = .ok (.ifCond .ne 14, 3) := by decide +kernel
theorem d_L_law_1121 : decode code 1121 = .ok (.aload_n 3, 1) := by decide +kernel
theorem d_L_law_1122 : decode code 1122 = .ok (.iconst 0, 1) := by decide +kernel
theorem d_L_law_1123 : decode code 1123 = .ok (.laload, 1) := by decide +kernel
theorem d_L_law_1124 : decode code 1124 = .ok (.lload 6, 2) := by decide +kernel
theorem d_L_law_1126 : decode code 1126 = .ok (.lcmp, 1) := by decide +kernel
theorem d_L_law_1127 : decode code 1127 = .ok (.ifCond .eq 5, 3) := by decide +kernel
theorem d_L_law_1130 : decode code 1130 = .ok (.iconst 0, 1) := by decide +kernel
theorem d_L_law_1131 : decode code 1131 = .ok (.ireturn, 1) := by decide +kernel
theorem d_L_law_1132 : decode code 1132 = .ok (.goto 183, 3) := by decide +kernel
theorem d_L_law_1135 : decode code 1135 = .ok (.aload_n 1, 1) := by decide +kernel
theorem d_L_law_1136 : decode code 1136 = .ok (.aload_n 0, 1) := by decide +kernel
theorem d_L_law_1137 : decode code 1137 = .ok (.iload 4, 2) := by decide +kernel
theorem d_L_law_1139 : decode code 1139 = .ok (.iconst 1, 1) := by decide +kernel
theorem d_L_law_1140 : decode code 1140 = .ok (.iadd, 1) := by decide +kernel
theorem d_L_law_1141 : decode code 1141 = .ok (.iaload, 1) := by decide +kernel
theorem d_L_law_1142 : decode code 1142 = .ok (.aload_n 3, 1) := by decide +kernel
theorem d_L_law_1143 : decode code 1143 = .ok (.invokestatic 146, 3) := by decide +kernel
theorem d_L_law_1146 : decode code 1146 = .ok (.istore 5, 2) := by decide +kernel
theorem d_L_law_1148 : decode code 1148 = .ok (.aload_n 2, 1) := by decide +kernel
theorem d_L_law_1149 : decode code 1149 = .ok (.aload_n 0, 1) := by decide +kernel
theorem d_L_law_1150 : decode code 1150 = .ok (.iload 4, 2) := by decide +kernel
theorem d_L_law_1152 : decode code 1152 = .ok (.iconst 1, 1) := by decide +kernel
theorem d_L_law_1153 : decode code 1153 = .ok (.iadd, 1) := by decide +kernel
theorem d_L_law_1154 : decode code 1154 = .ok (.iaload, 1) := by decide +kernel
theorem d_L_law_1155 : decode code 1155 = .ok (.invokevirtual 148, 3) := by decide +kernel
theorem d_L_law_1158 : decode code 1158 = .ok (.istore 6, 2) := by decide +kernel
theorem d_L_law_1160 : decode code 1160 = .ok (.aload_n 2, 1) := by decide +kernel
theorem d_L_law_1161 : decode code 1161 = .ok (.invokevirtual 90, 3) := by decide +kernel
theorem d_L_law_1164 : decode code 1164 = .ok (.iload 5, 2) := by decide +kernel
theorem d_L_law_1166 : decode code 1166 = .ok (.if_icmp .eq 5, 3) := by decide +kernel
theorem d_L_law_1169 : decode code 1169 = .ok (.iconst 0, 1) := by decide +kernel
theorem d_L_law_1170 : decode code 1170 = .ok (.ireturn, 1) := by decide +kernel
theorem d_L_law_1171 : decode code 1171 = .ok (.iload 5, 2) := by decide +kernel
theorem d_L_law_1173 : decode code 1173 = .ok (.ifCond .ne 15, 3) := by decide +kernel
theorem d_L_law_1176 : decode code 1176 = .ok (.aload_n 3, 1) := by decide +kernel
theorem d_L_law_1177 : decode code 1177 = .ok (.iconst 0, 1) := by decide +kernel
theorem d_L_law_1178 : decode code 1178 = .ok (.laload, 1) := by decide +kernel
theorem d_L_law_1179 : decode code 1179 = .ok (.iload 6, 2) := by decide +kernel
theorem d_L_law_1181 : decode code 1181 = .ok (.i2l, 1) := by decide +kernel
theorem d_L_law_1182 : decode code 1182 = .ok (.lcmp, 1) := by decide +kernel
theorem d_L_law_1183 : decode code 1183 = .ok (.ifCond .eq 5, 3) := by decide +kernel
theorem d_L_law_1186 : decode code 1186 = .ok (.iconst 0, 1) := by decide +kernel
theorem d_L_law_1187 : decode code 1187 = .ok (.ireturn, 1) := by decide +kernel
theorem d_L_law_1188 : decode code 1188 = .ok (.goto 127, 3) := by decide +kernel
theorem d_L_law_1191 : decode code 1191 = .ok (.aload_n 1, 1) := by decide +kernel
theorem d_L_law_1192 : decode code 1192 = .ok (.aload_n 0, 1) := by decide +kernel
theorem d_L_law_1193 : decode code 1193 = .ok (.iload 4, 2) := by decide +kernel
theorem d_L_law_1195 : decode code 1195 = .ok (.iconst 1, 1) := by decide +kernel
theorem d_L_law_1196 : decode code 1196 = .ok (.iadd, 1) := by decide +kernel
theorem d_L_law_1197 : decode code 1197 = .ok (.iaload, 1) := by decide +kernel
theorem d_L_law_1198 : decode code 1198 = .ok (.aload_n 0, 1) := by decide +kernel
theorem d_L_law_1199 : decode code 1199 = .ok (.iload 4, 2) := by decide +kernel
theorem d_L_law_1201 : decode code 1201 = .ok (.iconst 2, 1) := by decide +kernel
theorem d_L_law_1202 : decode code 1202 = .ok (.iadd, 1) := by decide +kernel
theorem d_L_law_1203 : decode code 1203 = .ok (.iaload, 1) := by decide +kernel
theorem d_L_law_1204 : decode code 1204 = .ok (.aload_n 3, 1) := by decide +kernel
theorem d_L_law_1205 : decode code 1205 = .ok (.invokestatic 149, 3) := by decide +kernel
theorem d_L_law_1208 : decode code 1208 = .ok (.istore 5, 2) := by decide +kernel
theorem d_L_law_1210 : decode code 1210 = .ok (.aload_n 2, 1) := by decide +kernel
theorem d_L_law_1211 : decode code 1211 = .ok (.aload_n 0, 1) := by decide +kernel
theorem d_L_law_1212 : decode code 1212 = .ok (.iload 4, 2) := by decide +kernel
theorem d_L_law_1214 : decode code 1214 = .ok (.iconst 1, 1) := by decide +kernel
theorem d_L_law_1215 : decode code 1215 = .ok (.iadd, 1) := by decide +kernel
theorem d_L_law_1216 : decode code 1216 = .ok (.iaload, 1) := by decide +kernel
theorem d_L_law_1217 : decode code 1217 = .ok (.aload_n 0, 1) := by decide +kernel
theorem d_L_law_1218 : decode code 1218 = .ok (.iload 4, 2) := by decide +kernel
theorem d_L_law_1220 : decode code 1220 = .ok (.iconst 2, 1) := by decide +kernel
theorem d_L_law_1221 : decode code 1221 = .ok (.iadd, 1) := by decide +kernel
theorem d_L_law_1222 : decode code 1222 = .ok (.iaload, 1) := by decide +kernel
theorem d_L_law_1223 : decode code 1223 = .ok (.invokevirtual 151, 3) := by decide +kernel
theorem d_L_law_1226 : decode code 1226 = .ok (.istore 6, 2) := by decide +kernel
theorem d_L_law_1228 : decode code 1228 = .ok (.aload_n 2, 1) := by decide +kernel
theorem d_L_law_1229 : decode code 1229 = .ok (.invokevirtual 90, 3) := by decide +kernel
theorem d_L_law_1232 : decode code 1232 = .ok (.iload 5, 2) := by decide +kernel
theorem d_L_law_1234 : decode code 1234 = .ok (.if_icmp .eq 5, 3) := by decide +kernel
theorem d_L_law_1237 : decode code 1237 = .ok (.iconst 0, 1) := by decide +kernel
theorem d_L_law_1238 : decode code 1238 = .ok (.ireturn, 1) := by decide +kernel
theorem d_L_law_1239 : decode code 1239 = .ok (.iload 5, 2) := by decide +kernel
theorem d_L_law_1241 : decode code 1241 = .ok (.ifCond .ne 15, 3) := by decide +kernel
theorem d_L_law_1244 : decode code 1244 = .ok (.aload_n 3, 1) := by decide +kernel
theorem d_L_law_1245 : decode code 1245 = .ok (.iconst 0, 1) := by decide +kernel
theorem d_L_law_1246 : decode code 1246 = .ok (.laload, 1) := by decide +kernel
