/-! WHAT STANDS AT EVERY PLACE OF THE LAW, 3 -/
theorem cl361_15 : ([(1093, .ireturn, 1094), (1094, .iload 5, 1096), (1096, .ifCond .ne 15, 1099), (1099, .aload_n 3, 1100), (1100, .iconst 0, 1101), (1101, .laload, 1102), (1102, .iload 6, 1104), (1104, .i2l, 1105), (1105, .lcmp, 1106), (1106, .ifCond .eq 5, 1109), (1109, .iconst 0, 1110), (1110, .ireturn, 1111), (1111, .goto 1465, 1114), (1114, .aload_n 1, 1115), (1115, .aload_n 0, 1116), (1116, .iload 4, 1118), (1118, .iconst 1, 1119), (1119, .iadd, 1120), (1120, .iaload, 1121), (1121, .aload_n 0, 1122), (1122, .iload 4, 1124), (1124, .iconst 2, 1125), (1125, .iadd, 1126), (1126, .iaload, 1127), (1127, .aload_n 3, 1128), (1128, .invokestatic 179, 1131), (1131, .istore 5, 1133), (1133, .aload_n 2, 1134), (1134, .aload_n 0, 1135), (1135, .iload 4, 1137), (1137, .iconst 1, 1138), (1138, .iadd, 1139), (1139, .iaload, 1140), (1140, .aload_n 0, 1141), (1141, .iload 4, 1143), (1143, .iconst 2, 1144), (1144, .iadd, 1145), (1145, .iaload, 1146), (1146, .invokevirtual 181, 1149), (1149, .istore 6, 1151)] : List (Nat × Instr × Nat)).all (fun q => decide (pm_code 361 q.1 = some q.2)) = true := by decide +kernel
theorem c361_1093 : pm_code 361 1093 = some (.ireturn, 1094) := pm_of cl361_15 0 (q := (1093, .ireturn, 1094)) rfl
theorem c361_1094 : pm_code 361 1094 = some (.iload 5, 1096) := pm_of cl361_15 1 (q := (1094, .iload 5, 1096)) rfl
theorem c361_1096 : pm_code 361 1096 = some (.ifCond .ne 15, 1099) := pm_of cl361_15 2 (q := (1096, .ifCond .ne 15, 1099)) rfl
theorem c361_1099 : pm_code 361 1099 = some (.aload_n 3, 1100) := pm_of cl361_15 3 (q := (1099, .aload_n 3, 1100)) rfl
theorem c361_1100 : pm_code 361 1100 = some (.iconst 0, 1101) := pm_of cl361_15 4 (q := (1100, .iconst 0, 1101)) rfl
theorem c361_1101 : pm_code 361 1101 = some (.laload, 1102) := pm_of cl361_15 5 (q := (1101, .laload, 1102)) rfl
theorem c361_1102 : pm_code 361 1102 = some (.iload 6, 1104) := pm_of cl361_15 6 (q := (1102, .iload 6, 1104)) rfl
theorem c361_1104 : pm_code 361 1104 = some (.i2l, 1105) := pm_of cl361_15 7 (q := (1104, .i2l, 1105)) rfl
theorem c361_1105 : pm_code 361 1105 = some (.lcmp, 1106) := pm_of cl361_15 8 (q := (1105, .lcmp, 1106)) rfl
theorem c361_1106 : pm_code 361 1106 = some (.ifCond .eq 5, 1109) := pm_of cl361_15 9 (q := (1106, .ifCond .eq 5, 1109)) rfl
theorem c361_1109 : pm_code 361 1109 = some (.iconst 0, 1110) := pm_of cl361_15 10 (q := (1109, .iconst 0, 1110)) rfl
theorem c361_1110 : pm_code 361 1110 = some (.ireturn, 1111) := pm_of cl361_15 11 (q := (1110, .ireturn, 1111)) rfl
theorem c361_1111 : pm_code 361 1111 = some (.goto 1465, 1114) := pm_of cl361_15 12 (q := (1111, .goto 1465, 1114)) rfl
theorem c361_1114 : pm_code 361 1114 = some (.aload_n 1, 1115) := pm_of cl361_15 13 (q := (1114, .aload_n 1, 1115)) rfl
theorem c361_1115 : pm_code 361 1115 = some (.aload_n 0, 1116) := pm_of cl361_15 14 (q := (1115, .aload_n 0, 1116)) rfl
theorem c361_1116 : pm_code 361 1116 = some (.iload 4, 1118) := pm_of cl361_15 15 (q := (1116, .iload 4, 1118)) rfl
theorem c361_1118 : pm_code 361 1118 = some (.iconst 1, 1119) := pm_of cl361_15 16 (q := (1118, .iconst 1, 1119)) rfl
theorem c361_1119 : pm_code 361 1119 = some (.iadd, 1120) := pm_of cl361_15 17 (q := (1119, .iadd, 1120)) rfl
theorem c361_1120 : pm_code 361 1120 = some (.iaload, 1121) := pm_of cl361_15 18 (q := (1120, .iaload, 1121)) rfl
theorem c361_1121 : pm_code 361 1121 = some (.aload_n 0, 1122) := pm_of cl361_15 19 (q := (1121, .aload_n 0, 1122)) rfl
theorem c361_1122 : pm_code 361 1122 = some (.iload 4, 1124) := pm_of cl361_15 20 (q := (1122, .iload 4, 1124)) rfl
theorem c361_1124 : pm_code 361 1124 = some (.iconst 2, 1125) := pm_of cl361_15 21 (q := (1124, .iconst 2, 1125)) rfl
theorem c361_1125 : pm_code 361 1125 = some (.iadd, 1126) := pm_of cl361_15 22 (q := (1125, .iadd, 1126)) rfl
theorem c361_1126 : pm_code 361 1126 = some (.iaload, 1127) := pm_of cl361_15 23 (q := (1126, .iaload, 1127)) rfl
theorem c361_1127 : pm_code 361 1127 = some (.aload_n 3, 1128) := pm_of cl361_15 24 (q := (1127, .aload_n 3, 1128)) rfl
theorem c361_1128 : pm_code 361 1128 = some (.invokestatic 179, 1131) := pm_of cl361_15 25 (q := (1128, .invokestatic 179, 1131)) rfl
theorem c361_1131 : pm_code 361 1131 = some (.istore 5, 1133) := pm_of cl361_15 26 (q := (1131, .istore 5, 1133)) rfl
theorem c361_1133 : pm_code 361 1133 = some (.aload_n 2, 1134) := pm_of cl361_15 27 (q := (1133, .aload_n 2, 1134)) rfl
theorem c361_1134 : pm_code 361 1134 = some (.aload_n 0, 1135) := pm_of cl361_15 28 (q := (1134, .aload_n 0, 1135)) rfl
theorem c361_1135 : pm_code 361 1135 = some (.iload 4, 1137) := pm_of cl361_15 29 (q := (1135, .iload 4, 1137)) rfl
theorem c361_1137 : pm_code 361 1137 = some (.iconst 1, 1138) := pm_of cl361_15 30 (q := (1137, .iconst 1, 1138)) rfl
theorem c361_1138 : pm_code 361 1138 = some (.iadd, 1139) := pm_of cl361_15 31 (q := (1138, .iadd, 1139)) rfl
theorem c361_1139 : pm_code 361 1139 = some (.iaload, 1140) := pm_of cl361_15 32 (q := (1139, .iaload, 1140)) rfl
theorem c361_1140 : pm_code 361 1140 = some (.aload_n 0, 1141) := pm_of cl361_15 33 (q := (1140, .aload_n 0, 1141)) rfl
theorem c361_1141 : pm_code 361 1141 = some (.iload 4, 1143) := pm_of cl361_15 34 (q := (1141, .iload 4, 1143)) rfl
theorem c361_1143 : pm_code 361 1143 = some (.iconst 2, 1144) := pm_of cl361_15 35 (q := (1143, .iconst 2, 1144)) rfl
theorem c361_1144 : pm_code 361 1144 = some (.iadd, 1145) := pm_of cl361_15 36 (q := (1144, .iadd, 1145)) rfl
theorem c361_1145 : pm_code 361 1145 = some (.iaload, 1146) := pm_of cl361_15 37 (q := (1145, .iaload, 1146)) rfl
theorem c361_1146 : pm_code 361 1146 = some (.invokevirtual 181, 1149) := pm_of cl361_15 38 (q := (1146, .invokevirtual 181, 1149)) rfl
theorem c361_1149 : pm_code 361 1149 = some (.istore 6, 1151) := pm_of cl361_15 39 (q := (1149, .istore 6, 1151)) rfl
theorem cl361_16 : ([(1151, .aload_n 2, 1152), (1152, .invokevirtual 128, 1155), (1155, .iload 5, 1157), (1157, .if_icmp .eq 5, 1160), (1160, .iconst 0, 1161), (1161, .ireturn, 1162), (1162, .iload 5, 1164), (1164, .ifCond .ne 15, 1167), (1167, .aload_n 3, 1168), (1168, .iconst 0, 1169), (1169, .laload, 1170), (1170, .iload 6, 1172), (1172, .i2l, 1173), (1173, .lcmp, 1174), (1174, .ifCond .eq 5, 1177), (1177, .iconst 0, 1178), (1178, .ireturn, 1179), (1179, .goto 1397, 1182), (1182, .aload_n 1, 1183), (1183, .aload_n 0, 1184), (1184, .iload 4, 1186), (1186, .iconst 1, 1187), (1187, .iadd, 1188), (1188, .iaload, 1189), (1189, .aload_n 0, 1190), (1190, .iload 4, 1192), (1192, .iconst 2, 1193), (1193, .iadd, 1194), (1194, .iaload, 1195), (1195, .aload_n 3, 1196), (1196, .invokestatic 182, 1199), (1199, .istore 5, 1201), (1201, .aload_n 2, 1202), (1202, .aload_n 0, 1203), (1203, .iload 4, 1205), (1205, .iconst 1, 1206), (1206, .iadd, 1207), (1207, .iaload, 1208), (1208, .aload_n 0, 1209), (1209, .iload 4, 1211)] : List (Nat × Instr × Nat)).all (fun q => decide (pm_code 361 q.1 = some q.2)) = true := by decide +kernel
theorem c361_1151 : pm_code 361 1151 = some (.aload_n 2, 1152) := pm_of cl361_16 0 (q := (1151, .aload_n 2, 1152)) rfl
theorem c361_1152 : pm_code 361 1152 = some (.invokevirtual 128, 1155) := pm_of cl361_16 1 (q := (1152, .invokevirtual 128, 1155)) rfl
theorem c361_1155 : pm_code 361 1155 = some (.iload 5, 1157) := pm_of cl361_16 2 (q := (1155, .iload 5, 1157)) rfl
theorem c361_1157 : pm_code 361 1157 = some (.if_icmp .eq 5, 1160) := pm_of cl361_16 3 (q := (1157, .if_icmp .eq 5, 1160)) rfl
theorem c361_1160 : pm_code 361 1160 = some (.iconst 0, 1161) := pm_of cl361_16 4 (q := (1160, .iconst 0, 1161)) rfl
theorem c361_1161 : pm_code 361 1161 = some (.ireturn, 1162) := pm_of cl361_16 5 (q := (1161, .ireturn, 1162)) rfl
theorem c361_1162 : pm_code 361 1162 = some (.iload 5, 1164) := pm_of cl361_16 6 (q := (1162, .iload 5, 1164)) rfl
theorem c361_1164 : pm_code 361 1164 = some (.ifCond .ne 15, 1167) := pm_of cl361_16 7 (q := (1164, .ifCond .ne 15, 1167)) rfl
theorem c361_1167 : pm_code 361 1167 = some (.aload_n 3, 1168) := pm_of cl361_16 8 (q := (1167, .aload_n 3, 1168)) rfl
theorem c361_1168 : pm_code 361 1168 = some (.iconst 0, 1169) := pm_of cl361_16 9 (q := (1168, .iconst 0, 1169)) rfl
theorem c361_1169 : pm_code 361 1169 = some (.laload, 1170) := pm_of cl361_16 10 (q := (1169, .laload, 1170)) rfl
theorem c361_1170 : pm_code 361 1170 = some (.iload 6, 1172) := pm_of cl361_16 11 (q := (1170, .iload 6, 1172)) rfl
theorem c361_1172 : pm_code 361 1172 = some (.i2l, 1173) := pm_of cl361_16 12 (q := (1172, .i2l, 1173)) rfl
theorem c361_1173 : pm_code 361 1173 = some (.lcmp, 1174) := pm_of cl361_16 13 (q := (1173, .lcmp, 1174)) rfl
theorem c361_1174 : pm_code 361 1174 = some (.ifCond .eq 5, 1177) := pm_of cl361_16 14 (q := (1174, .ifCond .eq 5, 1177)) rfl
theorem c361_1177 : pm_code 361 1177 = some (.iconst 0, 1178) := pm_of cl361_16 15 (q := (1177, .iconst 0, 1178)) rfl
theorem c361_1178 : pm_code 361 1178 = some (.ireturn, 1179) := pm_of cl361_16 16 (q := (1178, .ireturn, 1179)) rfl
theorem c361_1179 : pm_code 361 1179 = some (.goto 1397, 1182) := pm_of cl361_16 17 (q := (1179, .goto 1397, 1182)) rfl
theorem c361_1182 : pm_code 361 1182 = some (.aload_n 1, 1183) := pm_of cl361_16 18 (q := (1182, .aload_n 1, 1183)) rfl
theorem c361_1183 : pm_code 361 1183 = some (.aload_n 0, 1184) := pm_of cl361_16 19 (q := (1183, .aload_n 0, 1184)) rfl
theorem c361_1184 : pm_code 361 1184 = some (.iload 4, 1186) := pm_of cl361_16 20 (q := (1184, .iload 4, 1186)) rfl
theorem c361_1186 : pm_code 361 1186 = some (.iconst 1, 1187) := pm_of cl361_16 21 (q := (1186, .iconst 1, 1187)) rfl
theorem c361_1187 : pm_code 361 1187 = some (.iadd, 1188) := pm_of cl361_16 22 (q := (1187, .iadd, 1188)) rfl
theorem c361_1188 : pm_code 361 1188 = some (.iaload, 1189) := pm_of cl361_16 23 (q := (1188, .iaload, 1189)) rfl
theorem c361_1189 : pm_code 361 1189 = some (.aload_n 0, 1190) := pm_of cl361_16 24 (q := (1189, .aload_n 0, 1190)) rfl
theorem c361_1190 : pm_code 361 1190 = some (.iload 4, 1192) := pm_of cl361_16 25 (q := (1190, .iload 4, 1192)) rfl
theorem c361_1192 : pm_code 361 1192 = some (.iconst 2, 1193) := pm_of cl361_16 26 (q := (1192, .iconst 2, 1193)) rfl
theorem c361_1193 : pm_code 361 1193 = some (.iadd, 1194) := pm_of cl361_16 27 (q := (1193, .iadd, 1194)) rfl
theorem c361_1194 : pm_code 361 1194 = some (.iaload, 1195) := pm_of cl361_16 28 (q := (1194, .iaload, 1195)) rfl
theorem c361_1195 : pm_code 361 1195 = some (.aload_n 3, 1196) := pm_of cl361_16 29 (q := (1195, .aload_n 3, 1196)) rfl
theorem c361_1196 : pm_code 361 1196 = some (.invokestatic 182, 1199) := pm_of cl361_16 30 (q := (1196, .invokestatic 182, 1199)) rfl
theorem c361_1199 : pm_code 361 1199 = some (.istore 5, 1201) := pm_of cl361_16 31 (q := (1199, .istore 5, 1201)) rfl
theorem c361_1201 : pm_code 361 1201 = some (.aload_n 2, 1202) := pm_of cl361_16 32 (q := (1201, .aload_n 2, 1202)) rfl
theorem c361_1202 : pm_code 361 1202 = some (.aload_n 0, 1203) := pm_of cl361_16 33 (q := (1202, .aload_n 0, 1203)) rfl
theorem c361_1203 : pm_code 361 1203 = some (.iload 4, 1205) := pm_of cl361_16 34 (q := (1203, .iload 4, 1205)) rfl
theorem c361_1205 : pm_code 361 1205 = some (.iconst 1, 1206) := pm_of cl361_16 35 (q := (1205, .iconst 1, 1206)) rfl
theorem c361_1206 : pm_code 361 1206 = some (.iadd, 1207) := pm_of cl361_16 36 (q := (1206, .iadd, 1207)) rfl
theorem c361_1207 : pm_code 361 1207 = some (.iaload, 1208) := pm_of cl361_16 37 (q := (1207, .iaload, 1208)) rfl
theorem c361_1208 : pm_code 361 1208 = some (.aload_n 0, 1209) := pm_of cl361_16 38 (q := (1208, .aload_n 0, 1209)) rfl
theorem c361_1209 : pm_code 361 1209 = some (.iload 4, 1211) := pm_of cl361_16 39 (q := (1209, .iload 4, 1211)) rfl
theorem cl361_17 : ([(1211, .iconst 2, 1212), (1212, .iadd, 1213), (1213, .iaload, 1214), (1214, .invokevirtual 184, 1217), (1217, .istore 6, 1219), (1219, .aload_n 2, 1220), (1220, .invokevirtual 128, 1223), (1223, .iload 5, 1225), (1225, .if_icmp .eq 5, 1228), (1228, .iconst 0, 1229), (1229, .ireturn, 1230), (1230, .iload 5, 1232), (1232, .ifCond .ne 15, 1235), (1235, .aload_n 3, 1236), (1236, .iconst 0, 1237), (1237, .laload, 1238), (1238, .iload 6, 1240), (1240, .i2l, 1241), (1241, .lcmp, 1242), (1242, .ifCond .eq 5, 1245), (1245, .iconst 0, 1246), (1246, .ireturn, 1247), (1247, .goto 1329, 1250), (1250, .aload_n 1, 1251), (1251, .aload_n 0, 1252), (1252, .iload 4, 1254), (1254, .iconst 1, 1255), (1255, .iadd, 1256), (1256, .iaload, 1257), (1257, .aload_n 3, 1258), (1258, .invokestatic 185, 1261), (1261, .istore 5, 1263), (1263, .aload_n 2, 1264), (1264, .aload_n 0, 1265), (1265, .iload 4, 1267), (1267, .iconst 1, 1268), (1268, .iadd, 1269), (1269, .iaload, 1270), (1270, .invokevirtual 187, 1273), (1273, .istore 6, 1275)] : List (Nat × Instr × Nat)).all (fun q => decide (pm_code 361 q.1 = some q.2)) = true := by decide +kernel
theorem c361_1211 : pm_code 361 1211 = some (.iconst 2, 1212) := pm_of cl361_17 0 (q := (1211, .iconst 2, 1212)) rfl
theorem c361_1212 : pm_code 361 1212 = some (.iadd, 1213) := pm_of cl361_17 1 (q := (1212, .iadd, 1213)) rfl
theorem c361_1213 : pm_code 361 1213 = some (.iaload, 1214) := pm_of cl361_17 2 (q := (1213, .iaload, 1214)) rfl
theorem c361_1214 : pm_code 361 1214 = some (.invokevirtual 184, 1217) := pm_of cl361_17 3 (q := (1214, .invokevirtual 184, 1217)) rfl
theorem c361_1217 : pm_code 361 1217 = some (.istore 6, 1219) := pm_of cl361_17 4 (q := (1217, .istore 6, 1219)) rfl
theorem c361_1219 : pm_code 361 1219 = some (.aload_n 2, 1220) := pm_of cl361_17 5 (q := (1219, .aload_n 2, 1220)) rfl
theorem c361_1220 : pm_code 361 1220 = some (.invokevirtual 128, 1223) := pm_of cl361_17 6 (q := (1220, .invokevirtual 128, 1223)) rfl
theorem c361_1223 : pm_code 361 1223 = some (.iload 5, 1225) := pm_of cl361_17 7 (q := (1223, .iload 5, 1225)) rfl
theorem c361_1225 : pm_code 361 1225 = some (.if_icmp .eq 5, 1228) := pm_of cl361_17 8 (q := (1225, .if_icmp .eq 5, 1228)) rfl
theorem c361_1228 : pm_code 361 1228 = some (.iconst 0, 1229) := pm_of cl361_17 9 (q := (1228, .iconst 0, 1229)) rfl
theorem c361_1229 : pm_code 361 1229 = some (.ireturn, 1230) := pm_of cl361_17 10 (q := (1229, .ireturn, 1230)) rfl
theorem c361_1230 : pm_code 361 1230 = some (.iload 5, 1232) := pm_of cl361_17 11 (q := (1230, .iload 5, 1232)) rfl
theorem c361_1232 : pm_code 361 1232 = some (.ifCond .ne 15, 1235) := pm_of cl361_17 12 (q := (1232, .ifCond .ne 15, 1235)) rfl
theorem c361_1235 : pm_code 361 1235 = some (.aload_n 3, 1236) := pm_of cl361_17 13 (q := (1235, .aload_n 3, 1236)) rfl
theorem c361_1236 : pm_code 361 1236 = some (.iconst 0, 1237) := pm_of cl361_17 14 (q := (1236, .iconst 0, 1237)) rfl
theorem c361_1237 : pm_code 361 1237 = some (.laload, 1238) := pm_of cl361_17 15 (q := (1237, .laload, 1238)) rfl
theorem c361_1238 : pm_code 361 1238 = some (.iload 6, 1240) := pm_of cl361_17 16 (q := (1238, .iload 6, 1240)) rfl
theorem c361_1240 : pm_code 361 1240 = some (.i2l, 1241) := pm_of cl361_17 17 (q := (1240, .i2l, 1241)) rfl
theorem c361_1241 : pm_code 361 1241 = some (.lcmp, 1242) := pm_of cl361_17 18 (q := (1241, .lcmp, 1242)) rfl
theorem c361_1242 : pm_code 361 1242 = some (.ifCond .eq 5, 1245) := pm_of cl361_17 19 (q := (1242, .ifCond .eq 5, 1245)) rfl
theorem c361_1245 : pm_code 361 1245 = some (.iconst 0, 1246) := pm_of cl361_17 20 (q := (1245, .iconst 0, 1246)) rfl
theorem c361_1246 : pm_code 361 1246 = some (.ireturn, 1247) := pm_of cl361_17 21 (q := (1246, .ireturn, 1247)) rfl
theorem c361_1247 : pm_code 361 1247 = some (.goto 1329, 1250) := pm_of cl361_17 22 (q := (1247, .goto 1329, 1250)) rfl
theorem c361_1250 : pm_code 361 1250 = some (.aload_n 1, 1251) := pm_of cl361_17 23 (q := (1250, .aload_n 1, 1251)) rfl
theorem c361_1251 : pm_code 361 1251 = some (.aload_n 0, 1252) := pm_of cl361_17 24 (q := (1251, .aload_n 0, 1252)) rfl
theorem c361_1252 : pm_code 361 1252 = some (.iload 4, 1254) := pm_of cl361_17 25 (q := (1252, .iload 4, 1254)) rfl
theorem c361_1254 : pm_code 361 1254 = some (.iconst 1, 1255) := pm_of cl361_17 26 (q := (1254, .iconst 1, 1255)) rfl
theorem c361_1255 : pm_code 361 1255 = some (.iadd, 1256) := pm_of cl361_17 27 (q := (1255, .iadd, 1256)) rfl
theorem c361_1256 : pm_code 361 1256 = some (.iaload, 1257) := pm_of cl361_17 28 (q := (1256, .iaload, 1257)) rfl
theorem c361_1257 : pm_code 361 1257 = some (.aload_n 3, 1258) := pm_of cl361_17 29 (q := (1257, .aload_n 3, 1258)) rfl
theorem c361_1258 : pm_code 361 1258 = some (.invokestatic 185, 1261) := pm_of cl361_17 30 (q := (1258, .invokestatic 185, 1261)) rfl
theorem c361_1261 : pm_code 361 1261 = some (.istore 5, 1263) := pm_of cl361_17 31 (q := (1261, .istore 5, 1263)) rfl
theorem c361_1263 : pm_code 361 1263 = some (.aload_n 2, 1264) := pm_of cl361_17 32 (q := (1263, .aload_n 2, 1264)) rfl
theorem c361_1264 : pm_code 361 1264 = some (.aload_n 0, 1265) := pm_of cl361_17 33 (q := (1264, .aload_n 0, 1265)) rfl
theorem c361_1265 : pm_code 361 1265 = some (.iload 4, 1267) := pm_of cl361_17 34 (q := (1265, .iload 4, 1267)) rfl
theorem c361_1267 : pm_code 361 1267 = some (.iconst 1, 1268) := pm_of cl361_17 35 (q := (1267, .iconst 1, 1268)) rfl
theorem c361_1268 : pm_code 361 1268 = some (.iadd, 1269) := pm_of cl361_17 36 (q := (1268, .iadd, 1269)) rfl
theorem c361_1269 : pm_code 361 1269 = some (.iaload, 1270) := pm_of cl361_17 37 (q := (1269, .iaload, 1270)) rfl
theorem c361_1270 : pm_code 361 1270 = some (.invokevirtual 187, 1273) := pm_of cl361_17 38 (q := (1270, .invokevirtual 187, 1273)) rfl
theorem c361_1273 : pm_code 361 1273 = some (.istore 6, 1275) := pm_of cl361_17 39 (q := (1273, .istore 6, 1275)) rfl
theorem cl361_18 : ([(1275, .aload_n 2, 1276), (1276, .invokevirtual 128, 1279), (1279, .iload 5, 1281), (1281, .if_icmp .eq 5, 1284), (1284, .iconst 0, 1285), (1285, .ireturn, 1286), (1286, .iload 5, 1288), (1288, .ifCond .ne 15, 1291), (1291, .aload_n 3, 1292), (1292, .iconst 0, 1293), (1293, .laload, 1294), (1294, .iload 6, 1296), (1296, .i2l, 1297), (1297, .lcmp, 1298), (1298, .ifCond .eq 5, 1301), (1301, .iconst 0, 1302), (1302, .ireturn, 1303), (1303, .goto 1273, 1306), (1306, .aload_n 1, 1307), (1307, .aload_n 0, 1308), (1308, .iload 4, 1310), (1310, .iconst 1, 1311), (1311, .iadd, 1312), (1312, .iaload, 1313), (1313, .aload_n 3, 1314), (1314, .invokestatic 188, 1317), (1317, .istore 5, 1319), (1319, .aload_n 2, 1320), (1320, .aload_n 0, 1321), (1321, .iload 4, 1323), (1323, .iconst 1, 1324), (1324, .iadd, 1325), (1325, .iaload, 1326), (1326, .invokevirtual 190, 1329), (1329, .istore 6, 1331), (1331, .aload_n 2, 1332), (1332, .invokevirtual 128, 1335), (1335, .iload 5, 1337), (1337, .if_icmp .eq 5, 1340), (1340, .iconst 0, 1341)] : List (Nat × Instr × Nat)).all (fun q => decide (pm_code 361 q.1 = some q.2)) = true := by decide +kernel
theorem c361_1275 : pm_code 361 1275 = some (.aload_n 2, 1276) := pm_of cl361_18 0 (q := (1275, .aload_n 2, 1276)) rfl
theorem c361_1276 : pm_code 361 1276 = some (.invokevirtual 128, 1279) := pm_of cl361_18 1 (q := (1276, .invokevirtual 128, 1279)) rfl
theorem c361_1279 : pm_code 361 1279 = some (.iload 5, 1281) := pm_of cl361_18 2 (q := (1279, .iload 5, 1281)) rfl
theorem c361_1281 : pm_code 361 1281 = some (.if_icmp .eq 5, 1284) := pm_of cl361_18 3 (q := (1281, .if_icmp .eq 5, 1284)) rfl
theorem c361_1284 : pm_code 361 1284 = some (.iconst 0, 1285) := pm_of cl361_18 4 (q := (1284, .iconst 0, 1285)) rfl
theorem c361_1285 : pm_code 361 1285 = some (.ireturn, 1286) := pm_of cl361_18 5 (q := (1285, .ireturn, 1286)) rfl
theorem c361_1286 : pm_code 361 1286 = some (.iload 5, 1288) := pm_of cl361_18 6 (q := (1286, .iload 5, 1288)) rfl
theorem c361_1288 : pm_code 361 1288 = some (.ifCond .ne 15, 1291) := pm_of cl361_18 7 (q := (1288, .ifCond .ne 15, 1291)) rfl
theorem c361_1291 : pm_code 361 1291 = some (.aload_n 3, 1292) := pm_of cl361_18 8 (q := (1291, .aload_n 3, 1292)) rfl
theorem c361_1292 : pm_code 361 1292 = some (.iconst 0, 1293) := pm_of cl361_18 9 (q := (1292, .iconst 0, 1293)) rfl
theorem c361_1293 : pm_code 361 1293 = some (.laload, 1294) := pm_of cl361_18 10 (q := (1293, .laload, 1294)) rfl
theorem c361_1294 : pm_code 361 1294 = some (.iload 6, 1296) := pm_of cl361_18 11 (q := (1294, .iload 6, 1296)) rfl
theorem c361_1296 : pm_code 361 1296 = some (.i2l, 1297) := pm_of cl361_18 12 (q := (1296, .i2l, 1297)) rfl
theorem c361_1297 : pm_code 361 1297 = some (.lcmp, 1298) := pm_of cl361_18 13 (q := (1297, .lcmp, 1298)) rfl
theorem c361_1298 : pm_code 361 1298 = some (.ifCond .eq 5, 1301) := pm_of cl361_18 14 (q := (1298, .ifCond .eq 5, 1301)) rfl
theorem c361_1301 : pm_code 361 1301 = some (.iconst 0, 1302) := pm_of cl361_18 15 (q := (1301, .iconst 0, 1302)) rfl
theorem c361_1302 : pm_code 361 1302 = some (.ireturn, 1303) := pm_of cl361_18 16 (q := (1302, .ireturn, 1303)) rfl
theorem c361_1303 : pm_code 361 1303 = some (.goto 1273, 1306) := pm_of cl361_18 17 (q := (1303, .goto 1273, 1306)) rfl
theorem c361_1306 : pm_code 361 1306 = some (.aload_n 1, 1307) := pm_of cl361_18 18 (q := (1306, .aload_n 1, 1307)) rfl
theorem c361_1307 : pm_code 361 1307 = some (.aload_n 0, 1308) := pm_of cl361_18 19 (q := (1307, .aload_n 0, 1308)) rfl
theorem c361_1308 : pm_code 361 1308 = some (.iload 4, 1310) := pm_of cl361_18 20 (q := (1308, .iload 4, 1310)) rfl
theorem c361_1310 : pm_code 361 1310 = some (.iconst 1, 1311) := pm_of cl361_18 21 (q := (1310, .iconst 1, 1311)) rfl
theorem c361_1311 : pm_code 361 1311 = some (.iadd, 1312) := pm_of cl361_18 22 (q := (1311, .iadd, 1312)) rfl
theorem c361_1312 : pm_code 361 1312 = some (.iaload, 1313) := pm_of cl361_18 23 (q := (1312, .iaload, 1313)) rfl
theorem c361_1313 : pm_code 361 1313 = some (.aload_n 3, 1314) := pm_of cl361_18 24 (q := (1313, .aload_n 3, 1314)) rfl
theorem c361_1314 : pm_code 361 1314 = some (.invokestatic 188, 1317) := pm_of cl361_18 25 (q := (1314, .invokestatic 188, 1317)) rfl
theorem c361_1317 : pm_code 361 1317 = some (.istore 5, 1319) := pm_of cl361_18 26 (q := (1317, .istore 5, 1319)) rfl
theorem c361_1319 : pm_code 361 1319 = some (.aload_n 2, 1320) := pm_of cl361_18 27 (q := (1319, .aload_n 2, 1320)) rfl
theorem c361_1320 : pm_code 361 1320 = some (.aload_n 0, 1321) := pm_of cl361_18 28 (q := (1320, .aload_n 0, 1321)) rfl
theorem c361_1321 : pm_code 361 1321 = some (.iload 4, 1323) := pm_of cl361_18 29 (q := (1321, .iload 4, 1323)) rfl
theorem c361_1323 : pm_code 361 1323 = some (.iconst 1, 1324) := pm_of cl361_18 30 (q := (1323, .iconst 1, 1324)) rfl
theorem c361_1324 : pm_code 361 1324 = some (.iadd, 1325) := pm_of cl361_18 31 (q := (1324, .iadd, 1325)) rfl
theorem c361_1325 : pm_code 361 1325 = some (.iaload, 1326) := pm_of cl361_18 32 (q := (1325, .iaload, 1326)) rfl
theorem c361_1326 : pm_code 361 1326 = some (.invokevirtual 190, 1329) := pm_of cl361_18 33 (q := (1326, .invokevirtual 190, 1329)) rfl
theorem c361_1329 : pm_code 361 1329 = some (.istore 6, 1331) := pm_of cl361_18 34 (q := (1329, .istore 6, 1331)) rfl
theorem c361_1331 : pm_code 361 1331 = some (.aload_n 2, 1332) := pm_of cl361_18 35 (q := (1331, .aload_n 2, 1332)) rfl
theorem c361_1332 : pm_code 361 1332 = some (.invokevirtual 128, 1335) := pm_of cl361_18 36 (q := (1332, .invokevirtual 128, 1335)) rfl
theorem c361_1335 : pm_code 361 1335 = some (.iload 5, 1337) := pm_of cl361_18 37 (q := (1335, .iload 5, 1337)) rfl
theorem c361_1337 : pm_code 361 1337 = some (.if_icmp .eq 5, 1340) := pm_of cl361_18 38 (q := (1337, .if_icmp .eq 5, 1340)) rfl
theorem c361_1340 : pm_code 361 1340 = some (.iconst 0, 1341) := pm_of cl361_18 39 (q := (1340, .iconst 0, 1341)) rfl
theorem cl361_19 : ([(1341, .ireturn, 1342), (1342, .iload 5, 1344), (1344, .ifCond .ne 15, 1347), (1347, .aload_n 3, 1348), (1348, .iconst 0, 1349), (1349, .laload, 1350), (1350, .iload 6, 1352), (1352, .i2l, 1353), (1353, .lcmp, 1354), (1354, .ifCond .eq 5, 1357), (1357, .iconst 0, 1358), (1358, .ireturn, 1359), (1359, .goto 1217, 1362), (1362, .aload_n 1, 1363), (1363, .invokevirtual 191, 1366), (1366, .aload_n 2, 1367), (1367, .invokevirtual 194, 1370), (1370, .if_icmp .eq 1206, 1373), (1373, .iconst 0, 1374), (1374, .ireturn, 1375), (1375, .aload_n 1, 1376), (1376, .aload_n 0, 1377), (1377, .iload 4, 1379), (1379, .iconst 1, 1380), (1380, .iadd, 1381), (1381, .iaload, 1382), (1382, .aload_n 3, 1383), (1383, .invokestatic 195, 1386), (1386, .istore 5, 1388), (1388, .aload_n 2, 1389), (1389, .aload_n 0, 1390), (1390, .iload 4, 1392), (1392, .iconst 1, 1393), (1393, .iadd, 1394), (1394, .iaload, 1395), (1395, .invokevirtual 197, 1398), (1398, .istore 6, 1400), (1400, .aload_n 2, 1401), (1401, .invokevirtual 128, 1404), (1404, .iload 5, 1406)] : List (Nat × Instr × Nat)).all (fun q => decide (pm_code 361 q.1 = some q.2)) = true := by decide +kernel
theorem c361_1341 : pm_code 361 1341 = some (.ireturn, 1342) := pm_of cl361_19 0 (q := (1341, .ireturn, 1342)) rfl
theorem c361_1342 : pm_code 361 1342 = some (.iload 5, 1344) := pm_of cl361_19 1 (q := (1342, .iload 5, 1344)) rfl
theorem c361_1344 : pm_code 361 1344 = some (.ifCond .ne 15, 1347) := pm_of cl361_19 2 (q := (1344, .ifCond .ne 15, 1347)) rfl
theorem c361_1347 : pm_code 361 1347 = some (.aload_n 3, 1348) := pm_of cl361_19 3 (q := (1347, .aload_n 3, 1348)) rfl
theorem c361_1348 : pm_code 361 1348 = some (.iconst 0, 1349) := pm_of cl361_19 4 (q := (1348, .iconst 0, 1349)) rfl
theorem c361_1349 : pm_code 361 1349 = some (.laload, 1350) := pm_of cl361_19 5 (q := (1349, .laload, 1350)) rfl
theorem c361_1350 : pm_code 361 1350 = some (.iload 6, 1352) := pm_of cl361_19 6 (q := (1350, .iload 6, 1352)) rfl
theorem c361_1352 : pm_code 361 1352 = some (.i2l, 1353) := pm_of cl361_19 7 (q := (1352, .i2l, 1353)) rfl
theorem c361_1353 : pm_code 361 1353 = some (.lcmp, 1354) := pm_of cl361_19 8 (q := (1353, .lcmp, 1354)) rfl
theorem c361_1354 : pm_code 361 1354 = some (.ifCond .eq 5, 1357) := pm_of cl361_19 9 (q := (1354, .ifCond .eq 5, 1357)) rfl
theorem c361_1357 : pm_code 361 1357 = some (.iconst 0, 1358) := pm_of cl361_19 10 (q := (1357, .iconst 0, 1358)) rfl
theorem c361_1358 : pm_code 361 1358 = some (.ireturn, 1359) := pm_of cl361_19 11 (q := (1358, .ireturn, 1359)) rfl
theorem c361_1359 : pm_code 361 1359 = some (.goto 1217, 1362) := pm_of cl361_19 12 (q := (1359, .goto 1217, 1362)) rfl
theorem c361_1362 : pm_code 361 1362 = some (.aload_n 1, 1363) := pm_of cl361_19 13 (q := (1362, .aload_n 1, 1363)) rfl
theorem c361_1363 : pm_code 361 1363 = some (.invokevirtual 191, 1366) := pm_of cl361_19 14 (q := (1363, .invokevirtual 191, 1366)) rfl
theorem c361_1366 : pm_code 361 1366 = some (.aload_n 2, 1367) := pm_of cl361_19 15 (q := (1366, .aload_n 2, 1367)) rfl
theorem c361_1367 : pm_code 361 1367 = some (.invokevirtual 194, 1370) := pm_of cl361_19 16 (q := (1367, .invokevirtual 194, 1370)) rfl
theorem c361_1370 : pm_code 361 1370 = some (.if_icmp .eq 1206, 1373) := pm_of cl361_19 17 (q := (1370, .if_icmp .eq 1206, 1373)) rfl
theorem c361_1373 : pm_code 361 1373 = some (.iconst 0, 1374) := pm_of cl361_19 18 (q := (1373, .iconst 0, 1374)) rfl
theorem c361_1374 : pm_code 361 1374 = some (.ireturn, 1375) := pm_of cl361_19 19 (q := (1374, .ireturn, 1375)) rfl
theorem c361_1375 : pm_code 361 1375 = some (.aload_n 1, 1376) := pm_of cl361_19 20 (q := (1375, .aload_n 1, 1376)) rfl
theorem c361_1376 : pm_code 361 1376 = some (.aload_n 0, 1377) := pm_of cl361_19 21 (q := (1376, .aload_n 0, 1377)) rfl
theorem c361_1377 : pm_code 361 1377 = some (.iload 4, 1379) := pm_of cl361_19 22 (q := (1377, .iload 4, 1379)) rfl
theorem c361_1379 : pm_code 361 1379 = some (.iconst 1, 1380) := pm_of cl361_19 23 (q := (1379, .iconst 1, 1380)) rfl
theorem c361_1380 : pm_code 361 1380 = some (.iadd, 1381) := pm_of cl361_19 24 (q := (1380, .iadd, 1381)) rfl
theorem c361_1381 : pm_code 361 1381 = some (.iaload, 1382) := pm_of cl361_19 25 (q := (1381, .iaload, 1382)) rfl
theorem c361_1382 : pm_code 361 1382 = some (.aload_n 3, 1383) := pm_of cl361_19 26 (q := (1382, .aload_n 3, 1383)) rfl
theorem c361_1383 : pm_code 361 1383 = some (.invokestatic 195, 1386) := pm_of cl361_19 27 (q := (1383, .invokestatic 195, 1386)) rfl
theorem c361_1386 : pm_code 361 1386 = some (.istore 5, 1388) := pm_of cl361_19 28 (q := (1386, .istore 5, 1388)) rfl
theorem c361_1388 : pm_code 361 1388 = some (.aload_n 2, 1389) := pm_of cl361_19 29 (q := (1388, .aload_n 2, 1389)) rfl
theorem c361_1389 : pm_code 361 1389 = some (.aload_n 0, 1390) := pm_of cl361_19 30 (q := (1389, .aload_n 0, 1390)) rfl
theorem c361_1390 : pm_code 361 1390 = some (.iload 4, 1392) := pm_of cl361_19 31 (q := (1390, .iload 4, 1392)) rfl
theorem c361_1392 : pm_code 361 1392 = some (.iconst 1, 1393) := pm_of cl361_19 32 (q := (1392, .iconst 1, 1393)) rfl
theorem c361_1393 : pm_code 361 1393 = some (.iadd, 1394) := pm_of cl361_19 33 (q := (1393, .iadd, 1394)) rfl
theorem c361_1394 : pm_code 361 1394 = some (.iaload, 1395) := pm_of cl361_19 34 (q := (1394, .iaload, 1395)) rfl
theorem c361_1395 : pm_code 361 1395 = some (.invokevirtual 197, 1398) := pm_of cl361_19 35 (q := (1395, .invokevirtual 197, 1398)) rfl
theorem c361_1398 : pm_code 361 1398 = some (.istore 6, 1400) := pm_of cl361_19 36 (q := (1398, .istore 6, 1400)) rfl
theorem c361_1400 : pm_code 361 1400 = some (.aload_n 2, 1401) := pm_of cl361_19 37 (q := (1400, .aload_n 2, 1401)) rfl
theorem c361_1401 : pm_code 361 1401 = some (.invokevirtual 128, 1404) := pm_of cl361_19 38 (q := (1401, .invokevirtual 128, 1404)) rfl
theorem c361_1404 : pm_code 361 1404 = some (.iload 5, 1406) := pm_of cl361_19 39 (q := (1404, .iload 5, 1406)) rfl
