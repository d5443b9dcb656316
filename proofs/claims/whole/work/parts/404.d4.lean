theorem dlw_1042 : decode code 1042 = .ok (.iaload, 1) := by decide +kernel
theorem dlw_1043 : decode code 1043 = .ok (.invokevirtual 135, 3) := by decide +kernel
theorem dlw_1046 : decode code 1046 = .ok (.aload_n 2, 1) := by decide +kernel
theorem dlw_1047 : decode code 1047 = .ok (.aload_n 0, 1) := by decide +kernel
theorem dlw_1048 : decode code 1048 = .ok (.iload_n 3, 1) := by decide +kernel
theorem dlw_1049 : decode code 1049 = .ok (.iconst 1, 1) := by decide +kernel
theorem dlw_1050 : decode code 1050 = .ok (.iadd, 1) := by decide +kernel
theorem dlw_1051 : decode code 1051 = .ok (.iaload, 1) := by decide +kernel
theorem dlw_1052 : decode code 1052 = .ok (.aload_n 0, 1) := by decide +kernel
theorem dlw_1053 : decode code 1053 = .ok (.iload_n 3, 1) := by decide +kernel
theorem dlw_1054 : decode code 1054 = .ok (.iconst 2, 1) := by decide +kernel
theorem dlw_1055 : decode code 1055 = .ok (.iadd, 1) := by decide +kernel
theorem dlw_1056 : decode code 1056 = .ok (.iaload, 1) := by decide +kernel
theorem dlw_1057 : decode code 1057 = .ok (.aload_n 0, 1) := by decide +kernel
theorem dlw_1058 : decode code 1058 = .ok (.iload_n 3, 1) := by decide +kernel
theorem dlw_1059 : decode code 1059 = .ok (.iconst 3, 1) := by decide +kernel
theorem dlw_1060 : decode code 1060 = .ok (.iadd, 1) := by decide +kernel
theorem dlw_1061 : decode code 1061 = .ok (.iaload, 1) := by decide +kernel
theorem dlw_1062 : decode code 1062 = .ok (.invokevirtual 138, 3) := by decide +kernel
theorem dlw_1065 : decode code 1065 = .ok (.if_icmp .eq 220, 3) := by decide +kernel
theorem dlw_1068 : decode code 1068 = .ok (.iconst 0, 1) := by decide +kernel
theorem dlw_1069 : decode code 1069 = .ok (.ireturn, 1) := by decide +kernel
theorem dlw_1070 : decode code 1070 = .ok (.aload_n 1, 1) := by decide +kernel
theorem dlw_1071 : decode code 1071 = .ok (.aload_n 0, 1) := by decide +kernel
theorem dlw_1072 : decode code 1072 = .ok (.iload_n 3, 1) := by decide +kernel
theorem dlw_1073 : decode code 1073 = .ok (.iconst 1, 1) := by decide +kernel
theorem dlw_1074 : decode code 1074 = .ok (.iadd, 1) := by decide +kernel
theorem dlw_1075 : decode code 1075 = .ok (.iaload, 1) := by decide +kernel
theorem dlw_1076 : decode code 1076 = .ok (.invokevirtual 139, 3) := by decide +kernel
theorem dlw_1079 : decode code 1079 = .ok (.aload_n 2, 1) := by decide +kernel
theorem dlw_1080 : decode code 1080 = .ok (.aload_n 0, 1) := by decide +kernel
theorem dlw_1081 : decode code 1081 = .ok (.iload_n 3, 1) := by decide +kernel
theorem dlw_1082 : decode code 1082 = .ok (.iconst 1, 1) := by decide +kernel
theorem dlw_1083 : decode code 1083 = .ok (.iadd, 1) := by decide +kernel
theorem dlw_1084 : decode code 1084 = .ok (.iaload, 1) := by decide +kernel
theorem dlw_1085 : decode code 1085 = .ok (.invokevirtual 142, 3) := by decide +kernel
theorem dlw_1088 : decode code 1088 = .ok (.if_icmp .eq 197, 3) := by decide +kernel
theorem dlw_1091 : decode code 1091 = .ok (.iconst 0, 1) := by decide +kernel
theorem dlw_1092 : decode code 1092 = .ok (.ireturn, 1) := by decide +kernel
theorem dlw_1093 : decode code 1093 = .ok (.aload_n 1, 1) := by decide +kernel
theorem dlw_1094 : decode code 1094 = .ok (.aload_n 0, 1) := by decide +kernel
theorem dlw_1095 : decode code 1095 = .ok (.iload_n 3, 1) := by decide +kernel
theorem dlw_1096 : decode code 1096 = .ok (.iconst 1, 1) := by decide +kernel
theorem dlw_1097 : decode code 1097 = .ok (.iadd, 1) := by decide +kernel
theorem dlw_1098 : decode code 1098 = .ok (.iaload, 1) := by decide +kernel
theorem dlw_1099 : decode code 1099 = .ok (.aload_n 0, 1) := by decide +kernel
theorem dlw_1100 : decode code 1100 = .ok (.iload_n 3, 1) := by decide +kernel
theorem dlw_1101 : decode code 1101 = .ok (.iconst 2, 1) := by decide +kernel
theorem dlw_1102 : decode code 1102 = .ok (.iadd, 1) := by decide +kernel
theorem dlw_1103 : decode code 1103 = .ok (.iaload, 1) := by decide +kernel
theorem dlw_1104 : decode code 1104 = .ok (.aload_n 0, 1) := by decide +kernel
theorem dlw_1105 : decode code 1105 = .ok (.iload_n 3, 1) := by decide +kernel
theorem dlw_1106 : decode code 1106 = .ok (.iconst 3, 1) := by decide +kernel
theorem dlw_1107 : decode code 1107 = .ok (.iadd, 1) := by decide +kernel
theorem dlw_1108 : decode code 1108 = .ok (.iaload, 1) := by decide +kernel
theorem dlw_1109 : decode code 1109 = .ok (.invokevirtual 143, 3) := by decide +kernel
theorem dlw_1112 : decode code 1112 = .ok (.aload_n 2, 1) := by decide +kernel
theorem dlw_1113 : decode code 1113 = .ok (.aload_n 0, 1) := by decide +kernel
theorem dlw_1114 : decode code 1114 = .ok (.iload_n 3, 1) := by decide +kernel
theorem dlw_1115 : decode code 1115 = .ok (.iconst 1, 1) := by decide +kernel
theorem dlw_1116 : decode code 1116 = .ok (.iadd, 1) := by decide +kernel
theorem dlw_1117 : decode code 1117 = .ok (.iaload, 1) := by decide +kernel
theorem dlw_1118 : decode code 1118 = .ok (.aload_n 0, 1) := by decide +kernel
theorem dlw_1119 : decode code 1119 = .ok (.iload_n 3, 1) := by decide +kernel
theorem dlw_1120 : decode code 1120 = .ok (.iconst 2, 1) := by decide +kernel
theorem dlw_1121 : decode code 1121 = .ok (.iadd, 1) := by decide +kernel
theorem dlw_1122 : decode code 1122 = .ok (.iaload, 1) := by decide +kernel
theorem dlw_1123 : decode code 1123 = .ok (.aload_n 0, 1) := by decide +kernel
theorem dlw_1124 : decode code 1124 = .ok (.iload_n 3, 1) := by decide +kernel
theorem dlw_1125 : decode code 1125 = .ok (.iconst 3, 1) := by decide +kernel
theorem dlw_1126 : decode code 1126 = .ok (.iadd, 1) := by decide +kernel
theorem dlw_1127 : decode code 1127 = .ok (.iaload, 1) := by decide +kernel
theorem dlw_1128 : decode code 1128 = .ok (.invokevirtual 147, 3) := by decide +kernel
theorem dlw_1131 : decode code 1131 = .ok (.lcmp, 1) := by decide +kernel
theorem dlw_1132 : decode code 1132 = .ok (.ifCond .eq 153, 3) := by decide +kernel
theorem dlw_1135 : decode code 1135 = .ok (.iconst 0, 1) := by decide +kernel
theorem dlw_1136 : decode code 1136 = .ok (.ireturn, 1) := by decide +kernel
theorem dlw_1137 : decode code 1137 = .ok (.aload_n 1, 1) := by decide +kernel
theorem dlw_1138 : decode code 1138 = .ok (.aload_n 0, 1) := by decide +kernel
theorem dlw_1139 : decode code 1139 = .ok (.iload_n 3, 1) := by decide +kernel
theorem dlw_1140 : decode code 1140 = .ok (.iconst 1, 1) := by decide +kernel
theorem dlw_1141 : decode code 1141 = .ok (.iadd, 1) := by decide +kernel
theorem dlw_1142 : decode code 1142 = .ok (.iaload, 1) := by decide +kernel
theorem dlw_1143 : decode code 1143 = .ok (.aload_n 0, 1) := by decide +kernel
theorem dlw_1144 : decode code 1144 = .ok (.iload_n 3, 1) := by decide +kernel
theorem dlw_1145 : decode code 1145 = .ok (.iconst 2, 1) := by decide +kernel
theorem dlw_1146 : decode code 1146 = .ok (.iadd, 1) := by decide +kernel
theorem dlw_1147 : decode code 1147 = .ok (.iaload, 1) := by decide +kernel
theorem dlw_1148 : decode code 1148 = .ok (.invokevirtual 148, 3) := by decide +kernel
theorem dlw_1151 : decode code 1151 = .ok (.aload_n 2, 1) := by decide +kernel
theorem dlw_1152 : decode code 1152 = .ok (.aload_n 0, 1) := by decide +kernel
theorem dlw_1153 : decode code 1153 = .ok (.iload_n 3, 1) := by decide +kernel
theorem dlw_1154 : decode code 1154 = .ok (.iconst 1, 1) := by decide +kernel
theorem dlw_1155 : decode code 1155 = .ok (.iadd, 1) := by decide +kernel
theorem dlw_1156 : decode code 1156 = .ok (.iaload, 1) := by decide +kernel
theorem dlw_1157 : decode code 1157 = .ok (.aload_n 0, 1) := by decide +kernel
theorem dlw_1158 : decode code 1158 = .ok (.iload_n 3, 1) := by decide +kernel
theorem dlw_1159 : decode code 1159 = .ok (.iconst 2, 1) := by decide +kernel
theorem dlw_1160 : decode code 1160 = .ok (.iadd, 1) := by decide +kernel
theorem dlw_1161 : decode code 1161 = .ok (.iaload, 1) := by decide +kernel
theorem dlw_1162 : decode code 1162 = .ok (.invokevirtual 151, 3) := by decide +kernel
theorem dlw_1165 : decode code 1165 = .ok (.if_icmp .eq 120, 3) := by decide +kernel
theorem dlw_1168 : decode code 1168 = .ok (.iconst 0, 1) := by decide +kernel
theorem dlw_1169 : decode code 1169 = .ok (.ireturn, 1) := by decide +kernel
theorem dlw_1170 : decode code 1170 = .ok (.aload_n 1, 1) := by decide +kernel
theorem dlw_1171 : decode code 1171 = .ok (.aload_n 0, 1) := by decide +kernel
theorem dlw_1172 : decode code 1172 = .ok (.iload_n 3, 1) := by decide +kernel
theorem dlw_1173 : decode code 1173 = .ok (.iconst 1, 1) := by decide +kernel
theorem dlw_1174 : decode code 1174 = .ok (.iadd, 1) := by decide +kernel
theorem dlw_1175 : decode code 1175 = .ok (.iaload, 1) := by decide +kernel
theorem dlw_1176 : decode code 1176 = .ok (.aload_n 0, 1) := by decide +kernel
theorem dlw_1177 : decode code 1177 = .ok (.iload_n 3, 1) := by decide +kernel
theorem dlw_1178 : decode code 1178 = .ok (.iconst 2, 1) := by decide +kernel
theorem dlw_1179 : decode code 1179 = .ok (.iadd, 1) := by decide +kernel
theorem dlw_1180 : decode code 1180 = .ok (.iaload, 1) := by decide +kernel
theorem dlw_1181 : decode code 1181 = .ok (.invokevirtual 152, 3) := by decide +kernel
theorem dlw_1184 : decode code 1184 = .ok (.aload_n 2, 1) := by decide +kernel
theorem dlw_1185 : decode code 1185 = .ok (.aload_n 0, 1) := by decide +kernel
theorem dlw_1186 : decode code 1186 = .ok (.iload_n 3, 1) := by decide +kernel
theorem dlw_1187 : decode code 1187 = .ok (.iconst 1, 1) := by decide +kernel
theorem dlw_1188 : decode code 1188 = .ok (.iadd, 1) := by decide +kernel
theorem dlw_1189 : decode code 1189 = .ok (.iaload, 1) := by decide +kernel
theorem dlw_1190 : decode code 1190 = .ok (.aload_n 0, 1) := by decide +kernel
theorem dlw_1191 : decode code 1191 = .ok (.iload_n 3, 1) := by decide +kernel
theorem dlw_1192 : decode code 1192 = .ok (.iconst 2, 1) := by decide +kernel
theorem dlw_1193 : decode code 1193 = .ok (.iadd, 1) := by decide +kernel
theorem dlw_1194 : decode code 1194 = .ok (.iaload, 1) := by decide +kernel
theorem dlw_1195 : decode code 1195 = .ok (.invokevirtual 155, 3) := by decide +kernel
theorem dlw_1198 : decode code 1198 = .ok (.if_icmp .eq 87, 3) := by decide +kernel
theorem dlw_1201 : decode code 1201 = .ok (.iconst 0, 1) := by decide +kernel
theorem dlw_1202 : decode code 1202 = .ok (.ireturn, 1) := by decide +kernel
theorem dlw_1203 : decode code 1203 = .ok (.aload_n 1, 1) := by decide +kernel
theorem dlw_1204 : decode code 1204 = .ok (.aload_n 0, 1) := by decide +kernel
theorem dlw_1205 : decode code 1205 = .ok (.iload_n 3, 1) := by decide +kernel
theorem dlw_1206 : decode code 1206 = .ok (.iconst 1, 1) := by decide +kernel
theorem dlw_1207 : decode code 1207 = .ok (.iadd, 1) := by decide +kernel
theorem dlw_1208 : decode code 1208 = .ok (.iaload, 1) := by decide +kernel
theorem dlw_1209 : decode code 1209 = .ok (.invokevirtual 156, 3) := by decide +kernel
theorem dlw_1212 : decode code 1212 = .ok (.aload_n 2, 1) := by decide +kernel
theorem dlw_1213 : decode code 1213 = .ok (.aload_n 0, 1) := by decide +kernel
theorem dlw_1214 : decode code 1214 = .ok (.iload_n 3, 1) := by decide +kernel
theorem dlw_1215 : decode code 1215 = .ok (.iconst 1, 1) := by decide +kernel
theorem dlw_1216 : decode code 1216 = .ok (.iadd, 1) := by decide +kernel
theorem dlw_1217 : decode code 1217 = .ok (.iaload, 1) := by decide +kernel
theorem dlw_1218 : decode code 1218 = .ok (.invokevirtual 159, 3) := by decide +kernel
theorem dlw_1221 : decode code 1221 = .ok (.if_icmp .eq 64, 3) := by decide +kernel
theorem dlw_1224 : decode code 1224 = .ok (.iconst 0, 1) := by decide +kernel
theorem dlw_1225 : decode code 1225 = .ok (.ireturn, 1) := by decide +kernel
theorem dlw_1226 : decode code 1226 = .ok (.aload_n 1, 1) := by decide +kernel
theorem dlw_1227 : decode code 1227 = .ok (.aload_n 0, 1) := by decide +kernel
theorem dlw_1228 : decode code 1228 = .ok (.iload_n 3, 1) := by decide +kernel
theorem dlw_1229 : decode code 1229 = .ok (.iconst 1, 1) := by decide +kernel
theorem dlw_1230 : decode code 1230 = .ok (.iadd, 1) := by decide +kernel
theorem dlw_1231 : decode code 1231 = .ok (.iaload, 1) := by decide +kernel
theorem dlw_1232 : decode code 1232 = .ok (.invokevirtual 160, 3) := by decide +kernel
theorem dlw_1235 : decode code 1235 = .ok (.aload_n 2, 1) := by decide +kernel
theorem dlw_1236 : decode code 1236 = .ok (.aload_n 0, 1) := by decide +kernel
theorem dlw_1237 : decode code 1237 = .ok (.iload_n 3, 1) := by decide +kernel
theorem dlw_1238 : decode code 1238 = .ok (.iconst 1, 1) := by decide +kernel
theorem dlw_1239 : decode code 1239 = .ok (.iadd, 1) := by decide +kernel
theorem dlw_1240 : decode code 1240 = .ok (.iaload, 1) := by decide +kernel
theorem dlw_1241 : decode code 1241 = .ok (.invokevirtual 163, 3) := by decide +kernel
theorem dlw_1244 : decode code 1244 = .ok (.if_icmp .eq 41, 3) := by decide +kernel
theorem dlw_1247 : decode code 1247 = .ok (.iconst 0, 1) := by decide +kernel
theorem dlw_1248 : decode code 1248 = .ok (.ireturn, 1) := by decide +kernel
theorem dlw_1249 : decode code 1249 = .ok (.aload_n 1, 1) := by decide +kernel
theorem dlw_1250 : decode code 1250 = .ok (.aload_n 0, 1) := by decide +kernel
theorem dlw_1251 : decode code 1251 = .ok (.iload_n 3, 1) := by decide +kernel
theorem dlw_1252 : decode code 1252 = .ok (.iconst 1, 1) := by decide +kernel
theorem dlw_1253 : decode code 1253 = .ok (.iadd, 1) := by decide +kernel
theorem dlw_1254 : decode code 1254 = .ok (.iaload, 1) := by decide +kernel
theorem dlw_1255 : decode code 1255 = .ok (.invokevirtual 164, 3) := by decide +kernel
theorem dlw_1258 : decode code 1258 = .ok (.aload_n 2, 1) := by decide +kernel
theorem dlw_1259 : decode code 1259 = .ok (.aload_n 0, 1) := by decide +kernel
theorem dlw_1260 : decode code 1260 = .ok (.iload_n 3, 1) := by decide +kernel
theorem dlw_1261 : decode code 1261 = .ok (.iconst 1, 1) := by decide +kernel
theorem dlw_1262 : decode code 1262 = .ok (.iadd, 1) := by decide +kernel
theorem dlw_1263 : decode code 1263 = .ok (.iaload, 1) := by decide +kernel
theorem dlw_1264 : decode code 1264 = .ok (.invokevirtual 167, 3) := by decide +kernel
theorem dlw_1267 : decode code 1267 = .ok (.if_icmp .eq 18, 3) := by decide +kernel
theorem dlw_1270 : decode code 1270 = .ok (.iconst 0, 1) := by decide +kernel
theorem dlw_1271 : decode code 1271 = .ok (.ireturn, 1) := by decide +kernel
theorem dlw_1272 : decode code 1272 = .ok (.aload_n 1, 1) := by decide +kernel
theorem dlw_1273 : decode code 1273 = .ok (.invokevirtual 168, 3) := by decide +kernel
theorem dlw_1276 : decode code 1276 = .ok (.aload_n 2, 1) := by decide +kernel
theorem dlw_1277 : decode code 1277 = .ok (.invokevirtual 171, 3) := by decide +kernel
theorem dlw_1280 : decode code 1280 = .ok (.if_icmp .eq 5, 3) := by decide +kernel
theorem dlw_1283 : decode code 1283 = .ok (.iconst 0, 1) := by decide +kernel
theorem dlw_1284 : decode code 1284 = .ok (.ireturn, 1) := by decide +kernel
theorem dlw_1285 : decode code 1285 = .ok (.iinc 3 6, 3) := by decide +kernel
theorem dlw_1288 : decode code 1288 = .ok (.goto (-1270), 3) := by decide +kernel
theorem dlw_1291 : decode code 1291 = .ok (.iconst 1, 1) := by decide +kernel
theorem dlw_1292 : decode code 1292 = .ok (.ireturn, 1) := by decide +kernel
