theorem dL_1158 : decode code 1158 = .ok (.iconst 0, 1) := by decide +kernel
theorem dL_1159 : decode code 1159 = .ok (.ireturn, 1) := by decide +kernel
theorem dL_1160 : decode code 1160 = .ok (.aload_n 1, 1) := by decide +kernel
theorem dL_1161 : decode code 1161 = .ok (.aload_n 0, 1) := by decide +kernel
theorem dL_1162 : decode code 1162 = .ok (.iload_n 3, 1) := by decide +kernel
theorem dL_1163 : decode code 1163 = .ok (.iconst 1, 1) := by decide +kernel
theorem dL_1164 : decode code 1164 = .ok (.iadd, 1) := by decide +kernel
theorem dL_1165 : decode code 1165 = .ok (.iaload, 1) := by decide +kernel
theorem dL_1166 : decode code 1166 = .ok (.invokevirtual 141, 3) := by decide +kernel
theorem dL_1169 : decode code 1169 = .ok (.aload_n 2, 1) := by decide +kernel
theorem dL_1170 : decode code 1170 = .ok (.aload_n 0, 1) := by decide +kernel
theorem dL_1171 : decode code 1171 = .ok (.iload_n 3, 1) := by decide +kernel
theorem dL_1172 : decode code 1172 = .ok (.iconst 1, 1) := by decide +kernel
theorem dL_1173 : decode code 1173 = .ok (.iadd, 1) := by decide +kernel
theorem dL_1174 : decode code 1174 = .ok (.iaload, 1) := by decide +kernel
theorem dL_1175 : decode code 1175 = .ok (.invokevirtual 144, 3) := by decide +kernel
theorem dL_1178 : decode code 1178 = .ok (.if_icmp .eq 182, 3) := by decide +kernel
theorem dL_1181 : decode code 1181 = .ok (.iconst 0, 1) := by decide +kernel
theorem dL_1182 : decode code 1182 = .ok (.ireturn, 1) := by decide +kernel
theorem dL_1183 : decode code 1183 = .ok (.aload_n 1, 1) := by decide +kernel
theorem dL_1184 : decode code 1184 = .ok (.aload_n 0, 1) := by decide +kernel
theorem dL_1185 : decode code 1185 = .ok (.iload_n 3, 1) := by decide +kernel
theorem dL_1186 : decode code 1186 = .ok (.iconst 1, 1) := by decide +kernel
theorem dL_1187 : decode code 1187 = .ok (.iadd, 1) := by decide +kernel
theorem dL_1188 : decode code 1188 = .ok (.iaload, 1) := by decide +kernel
theorem dL_1189 : decode code 1189 = .ok (.invokevirtual 145, 3) := by decide +kernel
theorem dL_1192 : decode code 1192 = .ok (.aload_n 2, 1) := by decide +kernel
theorem dL_1193 : decode code 1193 = .ok (.aload_n 0, 1) := by decide +kernel
theorem dL_1194 : decode code 1194 = .ok (.iload_n 3, 1) := by decide +kernel
theorem dL_1195 : decode code 1195 = .ok (.iconst 1, 1) := by decide +kernel
theorem dL_1196 : decode code 1196 = .ok (.iadd, 1) := by decide +kernel
theorem dL_1197 : decode code 1197 = .ok (.iaload, 1) := by decide +kernel
theorem dL_1198 : decode code 1198 = .ok (.invokevirtual 148, 3) := by decide +kernel
theorem dL_1201 : decode code 1201 = .ok (.if_icmp .eq 159, 3) := by decide +kernel
theorem dL_1204 : decode code 1204 = .ok (.iconst 0, 1) := by decide +kernel
theorem dL_1205 : decode code 1205 = .ok (.ireturn, 1) := by decide +kernel
theorem dL_1206 : decode code 1206 = .ok (.aload_n 1, 1) := by decide +kernel
theorem dL_1207 : decode code 1207 = .ok (.aload_n 0, 1) := by decide +kernel
theorem dL_1208 : decode code 1208 = .ok (.iload_n 3, 1) := by decide +kernel
theorem dL_1209 : decode code 1209 = .ok (.iconst 1, 1) := by decide +kernel
theorem dL_1210 : decode code 1210 = .ok (.iadd, 1) := by decide +kernel
theorem dL_1211 : decode code 1211 = .ok (.iaload, 1) := by decide +kernel
theorem dL_1212 : decode code 1212 = .ok (.aload_n 0, 1) := by decide +kernel
theorem dL_1213 : decode code 1213 = .ok (.iload_n 3, 1) := by decide +kernel
theorem dL_1214 : decode code 1214 = .ok (.iconst 2, 1) := by decide +kernel
theorem dL_1215 : decode code 1215 = .ok (.iadd, 1) := by decide +kernel
theorem dL_1216 : decode code 1216 = .ok (.iaload, 1) := by decide +kernel
theorem dL_1217 : decode code 1217 = .ok (.invokevirtual 149, 3) := by decide +kernel
theorem dL_1220 : decode code 1220 = .ok (.aload_n 2, 1) := by decide +kernel
theorem dL_1221 : decode code 1221 = .ok (.aload_n 0, 1) := by decide +kernel
theorem dL_1222 : decode code 1222 = .ok (.iload_n 3, 1) := by decide +kernel
theorem dL_1223 : decode code 1223 = .ok (.iconst 1, 1) := by decide +kernel
theorem dL_1224 : decode code 1224 = .ok (.iadd, 1) := by decide +kernel
theorem dL_1225 : decode code 1225 = .ok (.iaload, 1) := by decide +kernel
theorem dL_1226 : decode code 1226 = .ok (.aload_n 0, 1) := by decide +kernel
theorem dL_1227 : decode code 1227 = .ok (.iload_n 3, 1) := by decide +kernel
theorem dL_1228 : decode code 1228 = .ok (.iconst 2, 1) := by decide +kernel
theorem dL_1229 : decode code 1229 = .ok (.iadd, 1) := by decide +kernel
theorem dL_1230 : decode code 1230 = .ok (.iaload, 1) := by decide +kernel
theorem dL_1231 : decode code 1231 = .ok (.invokevirtual 152, 3) := by decide +kernel
theorem dL_1234 : decode code 1234 = .ok (.if_icmp .eq 126, 3) := by decide +kernel
theorem dL_1237 : decode code 1237 = .ok (.iconst 0, 1) := by decide +kernel
theorem dL_1238 : decode code 1238 = .ok (.ireturn, 1) := by decide +kernel
theorem dL_1239 : decode code 1239 = .ok (.aload_n 1, 1) := by decide +kernel
theorem dL_1240 : decode code 1240 = .ok (.aload_n 0, 1) := by decide +kernel
theorem dL_1241 : decode code 1241 = .ok (.iload_n 3, 1) := by decide +kernel
theorem dL_1242 : decode code 1242 = .ok (.iconst 1, 1) := by decide +kernel
theorem dL_1243 : decode code 1243 = .ok (.iadd, 1) := by decide +kernel
theorem dL_1244 : decode code 1244 = .ok (.iaload, 1) := by decide +kernel
theorem dL_1245 : decode code 1245 = .ok (.invokevirtual 153, 3) := by decide +kernel
theorem dL_1248 : decode code 1248 = .ok (.aload_n 2, 1) := by decide +kernel
theorem dL_1249 : decode code 1249 = .ok (.aload_n 0, 1) := by decide +kernel
theorem dL_1250 : decode code 1250 = .ok (.iload_n 3, 1) := by decide +kernel
theorem dL_1251 : decode code 1251 = .ok (.iconst 1, 1) := by decide +kernel
theorem dL_1252 : decode code 1252 = .ok (.iadd, 1) := by decide +kernel
theorem dL_1253 : decode code 1253 = .ok (.iaload, 1) := by decide +kernel
theorem dL_1254 : decode code 1254 = .ok (.invokevirtual 156, 3) := by decide +kernel
theorem dL_1257 : decode code 1257 = .ok (.if_icmp .eq 103, 3) := by decide +kernel
theorem dL_1260 : decode code 1260 = .ok (.iconst 0, 1) := by decide +kernel
theorem dL_1261 : decode code 1261 = .ok (.ireturn, 1) := by decide +kernel
theorem dL_1262 : decode code 1262 = .ok (.aload_n 1, 1) := by decide +kernel
theorem dL_1263 : decode code 1263 = .ok (.aload_n 0, 1) := by decide +kernel
theorem dL_1264 : decode code 1264 = .ok (.iload_n 3, 1) := by decide +kernel
theorem dL_1265 : decode code 1265 = .ok (.iconst 1, 1) := by decide +kernel
theorem dL_1266 : decode code 1266 = .ok (.iadd, 1) := by decide +kernel
theorem dL_1267 : decode code 1267 = .ok (.iaload, 1) := by decide +kernel
theorem dL_1268 : decode code 1268 = .ok (.invokevirtual 157, 3) := by decide +kernel
theorem dL_1271 : decode code 1271 = .ok (.aload_n 2, 1) := by decide +kernel
theorem dL_1272 : decode code 1272 = .ok (.aload_n 0, 1) := by decide +kernel
theorem dL_1273 : decode code 1273 = .ok (.iload_n 3, 1) := by decide +kernel
theorem dL_1274 : decode code 1274 = .ok (.iconst 1, 1) := by decide +kernel
theorem dL_1275 : decode code 1275 = .ok (.iadd, 1) := by decide +kernel
theorem dL_1276 : decode code 1276 = .ok (.iaload, 1) := by decide +kernel
theorem dL_1277 : decode code 1277 = .ok (.invokevirtual 160, 3) := by decide +kernel
theorem dL_1280 : decode code 1280 = .ok (.if_icmp .eq 80, 3) := by decide +kernel
theorem dL_1283 : decode code 1283 = .ok (.iconst 0, 1) := by decide +kernel
theorem dL_1284 : decode code 1284 = .ok (.ireturn, 1) := by decide +kernel
theorem dL_1285 : decode code 1285 = .ok (.aload_n 1, 1) := by decide +kernel
theorem dL_1286 : decode code 1286 = .ok (.invokevirtual 161, 3) := by decide +kernel
theorem dL_1289 : decode code 1289 = .ok (.aload_n 2, 1) := by decide +kernel
theorem dL_1290 : decode code 1290 = .ok (.invokevirtual 165, 3) := by decide +kernel
theorem dL_1293 : decode code 1293 = .ok (.if_icmp .eq 67, 3) := by decide +kernel
theorem dL_1296 : decode code 1296 = .ok (.iconst 0, 1) := by decide +kernel
theorem dL_1297 : decode code 1297 = .ok (.ireturn, 1) := by decide +kernel
theorem dL_1298 : decode code 1298 = .ok (.aload_n 1, 1) := by decide +kernel
theorem dL_1299 : decode code 1299 = .ok (.aload_n 0, 1) := by decide +kernel
theorem dL_1300 : decode code 1300 = .ok (.iload_n 3, 1) := by decide +kernel
theorem dL_1301 : decode code 1301 = .ok (.iconst 1, 1) := by decide +kernel
theorem dL_1302 : decode code 1302 = .ok (.iadd, 1) := by decide +kernel
theorem dL_1303 : decode code 1303 = .ok (.iaload, 1) := by decide +kernel
theorem dL_1304 : decode code 1304 = .ok (.ifCond .eq 7, 3) := by decide +kernel
theorem dL_1307 : decode code 1307 = .ok (.iconst 1, 1) := by decide +kernel
theorem dL_1308 : decode code 1308 = .ok (.goto 4, 3) := by decide +kernel
theorem dL_1311 : decode code 1311 = .ok (.iconst 0, 1) := by decide +kernel
theorem dL_1312 : decode code 1312 = .ok (.invokevirtual 166, 3) := by decide +kernel
theorem dL_1315 : decode code 1315 = .ok (.aload_n 2, 1) := by decide +kernel
theorem dL_1316 : decode code 1316 = .ok (.aload_n 0, 1) := by decide +kernel
theorem dL_1317 : decode code 1317 = .ok (.iload_n 3, 1) := by decide +kernel
theorem dL_1318 : decode code 1318 = .ok (.iconst 1, 1) := by decide +kernel
theorem dL_1319 : decode code 1319 = .ok (.iadd, 1) := by decide +kernel
theorem dL_1320 : decode code 1320 = .ok (.iaload, 1) := by decide +kernel
theorem dL_1321 : decode code 1321 = .ok (.ifCond .eq 7, 3) := by decide +kernel
theorem dL_1324 : decode code 1324 = .ok (.iconst 1, 1) := by decide +kernel
theorem dL_1325 : decode code 1325 = .ok (.goto 4, 3) := by decide +kernel
theorem dL_1328 : decode code 1328 = .ok (.iconst 0, 1) := by decide +kernel
theorem dL_1329 : decode code 1329 = .ok (.invokevirtual 170, 3) := by decide +kernel
theorem dL_1332 : decode code 1332 = .ok (.if_icmp .eq 28, 3) := by decide +kernel
theorem dL_1335 : decode code 1335 = .ok (.iconst 0, 1) := by decide +kernel
theorem dL_1336 : decode code 1336 = .ok (.ireturn, 1) := by decide +kernel
theorem dL_1337 : decode code 1337 = .ok (.aload_n 1, 1) := by decide +kernel
theorem dL_1338 : decode code 1338 = .ok (.aload_n 0, 1) := by decide +kernel
theorem dL_1339 : decode code 1339 = .ok (.iload_n 3, 1) := by decide +kernel
theorem dL_1340 : decode code 1340 = .ok (.iconst 1, 1) := by decide +kernel
theorem dL_1341 : decode code 1341 = .ok (.iadd, 1) := by decide +kernel
theorem dL_1342 : decode code 1342 = .ok (.iaload, 1) := by decide +kernel
theorem dL_1343 : decode code 1343 = .ok (.invokevirtual 171, 3) := by decide +kernel
theorem dL_1346 : decode code 1346 = .ok (.aload_n 2, 1) := by decide +kernel
theorem dL_1347 : decode code 1347 = .ok (.aload_n 0, 1) := by decide +kernel
theorem dL_1348 : decode code 1348 = .ok (.iload_n 3, 1) := by decide +kernel
theorem dL_1349 : decode code 1349 = .ok (.iconst 1, 1) := by decide +kernel
theorem dL_1350 : decode code 1350 = .ok (.iadd, 1) := by decide +kernel
theorem dL_1351 : decode code 1351 = .ok (.iaload, 1) := by decide +kernel
theorem dL_1352 : decode code 1352 = .ok (.invokevirtual 174, 3) := by decide +kernel
theorem dL_1355 : decode code 1355 = .ok (.if_icmp .eq 5, 3) := by decide +kernel
theorem dL_1358 : decode code 1358 = .ok (.iconst 0, 1) := by decide +kernel
theorem dL_1359 : decode code 1359 = .ok (.ireturn, 1) := by decide +kernel
theorem dL_1360 : decode code 1360 = .ok (.iinc 3 6, 3) := by decide +kernel
theorem dL_1363 : decode code 1363 = .ok (.goto (-1345), 3) := by decide +kernel
theorem dL_1366 : decode code 1366 = .ok (.iconst 1, 1) := by decide +kernel
theorem dL_1367 : decode code 1367 = .ok (.ireturn, 1) := by decide +kernel
