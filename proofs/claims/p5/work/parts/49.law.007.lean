theorem zd_dL_law_1216 : dq cL_law [(1216, .aload_n 0, 1), (1217, .iload 4, 2), (1219, .iconst 1, 1), (1220, .iadd, 1), (1221, .iaload, 1), (1222, .invokevirtual 141, 3), (1225, .pop, 1), (1226, .aload_n 2, 1), (1227, .aload_n 0, 1), (1228, .iload 4, 2), (1230, .iconst 1, 1), (1231, .iadd, 1), (1232, .iaload, 1), (1233, .invokevirtual 144, 3), (1236, .pop, 1), (1237, .goto 289, 3), (1240, .aload_n 1, 1), (1241, .aload_n 0, 1), (1242, .iload 4, 2), (1244, .iconst 1, 1), (1245, .iadd, 1), (1246, .iaload, 1), (1247, .aload_n 0, 1), (1248, .iload 4, 2)] = true := by decide +kernel
theorem dL_law_1216 : decode cL_law 1216 = .ok (.aload_n 0, 1) := dq_at zd_dL_law_1216 0 rfl
theorem dL_law_1217 : decode cL_law 1217 = .ok (.iload 4, 2) := dq_at zd_dL_law_1216 1 rfl
theorem dL_law_1219 : decode cL_law 1219 = .ok (.iconst 1, 1) := dq_at zd_dL_law_1216 2 rfl
theorem dL_law_1220 : decode cL_law 1220 = .ok (.iadd, 1) := dq_at zd_dL_law_1216 3 rfl
theorem dL_law_1221 : decode cL_law 1221 = .ok (.iaload, 1) := dq_at zd_dL_law_1216 4 rfl
theorem dL_law_1222 : decode cL_law 1222 = .ok (.invokevirtual 141, 3) := dq_at zd_dL_law_1216 5 rfl
theorem dL_law_1225 : decode cL_law 1225 = .ok (.pop, 1) := dq_at zd_dL_law_1216 6 rfl
theorem dL_law_1226 : decode cL_law 1226 = .ok (.aload_n 2, 1) := dq_at zd_dL_law_1216 7 rfl
theorem dL_law_1227 : decode cL_law 1227 = .ok (.aload_n 0, 1) := dq_at zd_dL_law_1216 8 rfl
theorem dL_law_1228 : decode cL_law 1228 = .ok (.iload 4, 2) := dq_at zd_dL_law_1216 9 rfl
theorem dL_law_1230 : decode cL_law 1230 = .ok (.iconst 1, 1) := dq_at zd_dL_law_1216 10 rfl
theorem dL_law_1231 : decode cL_law 1231 = .ok (.iadd, 1) := dq_at zd_dL_law_1216 11 rfl
theorem dL_law_1232 : decode cL_law 1232 = .ok (.iaload, 1) := dq_at zd_dL_law_1216 12 rfl
theorem dL_law_1233 : decode cL_law 1233 = .ok (.invokevirtual 144, 3) := dq_at zd_dL_law_1216 13 rfl
theorem dL_law_1236 : decode cL_law 1236 = .ok (.pop, 1) := dq_at zd_dL_law_1216 14 rfl
theorem dL_law_1237 : decode cL_law 1237 = .ok (.goto 289, 3) := dq_at zd_dL_law_1216 15 rfl
theorem dL_law_1240 : decode cL_law 1240 = .ok (.aload_n 1, 1) := dq_at zd_dL_law_1216 16 rfl
theorem dL_law_1241 : decode cL_law 1241 = .ok (.aload_n 0, 1) := dq_at zd_dL_law_1216 17 rfl
theorem dL_law_1242 : decode cL_law 1242 = .ok (.iload 4, 2) := dq_at zd_dL_law_1216 18 rfl
theorem dL_law_1244 : decode cL_law 1244 = .ok (.iconst 1, 1) := dq_at zd_dL_law_1216 19 rfl
theorem dL_law_1245 : decode cL_law 1245 = .ok (.iadd, 1) := dq_at zd_dL_law_1216 20 rfl
theorem dL_law_1246 : decode cL_law 1246 = .ok (.iaload, 1) := dq_at zd_dL_law_1216 21 rfl
theorem dL_law_1247 : decode cL_law 1247 = .ok (.aload_n 0, 1) := dq_at zd_dL_law_1216 22 rfl
theorem dL_law_1248 : decode cL_law 1248 = .ok (.iload 4, 2) := dq_at zd_dL_law_1216 23 rfl
theorem zd_dL_law_1250 : dq cL_law [(1250, .iconst 2, 1), (1251, .iadd, 1), (1252, .iaload, 1), (1253, .aload_n 0, 1), (1254, .iload 4, 2), (1256, .iconst 3, 1), (1257, .iadd, 1), (1258, .iaload, 1), (1259, .invokevirtual 145, 3), (1262, .pop, 1), (1263, .aload_n 2, 1), (1264, .aload_n 0, 1), (1265, .iload 4, 2), (1267, .iconst 1, 1), (1268, .iadd, 1), (1269, .iaload, 1), (1270, .aload_n 0, 1), (1271, .iload 4, 2), (1273, .iconst 2, 1), (1274, .iadd, 1), (1275, .iaload, 1), (1276, .aload_n 0, 1), (1277, .iload 4, 2), (1279, .iconst 3, 1)] = true := by decide +kernel
theorem dL_law_1250 : decode cL_law 1250 = .ok (.iconst 2, 1) := dq_at zd_dL_law_1250 0 rfl
theorem dL_law_1251 : decode cL_law 1251 = .ok (.iadd, 1) := dq_at zd_dL_law_1250 1 rfl
theorem dL_law_1252 : decode cL_law 1252 = .ok (.iaload, 1) := dq_at zd_dL_law_1250 2 rfl
theorem dL_law_1253 : decode cL_law 1253 = .ok (.aload_n 0, 1) := dq_at zd_dL_law_1250 3 rfl
theorem dL_law_1254 : decode cL_law 1254 = .ok (.iload 4, 2) := dq_at zd_dL_law_1250 4 rfl
theorem dL_law_1256 : decode cL_law 1256 = .ok (.iconst 3, 1) := dq_at zd_dL_law_1250 5 rfl
theorem dL_law_1257 : decode cL_law 1257 = .ok (.iadd, 1) := dq_at zd_dL_law_1250 6 rfl
theorem dL_law_1258 : decode cL_law 1258 = .ok (.iaload, 1) := dq_at zd_dL_law_1250 7 rfl
theorem dL_law_1259 : decode cL_law 1259 = .ok (.invokevirtual 145, 3) := dq_at zd_dL_law_1250 8 rfl
theorem dL_law_1262 : decode cL_law 1262 = .ok (.pop, 1) := dq_at zd_dL_law_1250 9 rfl
theorem dL_law_1263 : decode cL_law 1263 = .ok (.aload_n 2, 1) := dq_at zd_dL_law_1250 10 rfl
theorem dL_law_1264 : decode cL_law 1264 = .ok (.aload_n 0, 1) := dq_at zd_dL_law_1250 11 rfl
theorem dL_law_1265 : decode cL_law 1265 = .ok (.iload 4, 2) := dq_at zd_dL_law_1250 12 rfl
theorem dL_law_1267 : decode cL_law 1267 = .ok (.iconst 1, 1) := dq_at zd_dL_law_1250 13 rfl
theorem dL_law_1268 : decode cL_law 1268 = .ok (.iadd, 1) := dq_at zd_dL_law_1250 14 rfl
theorem dL_law_1269 : decode cL_law 1269 = .ok (.iaload, 1) := dq_at zd_dL_law_1250 15 rfl
theorem dL_law_1270 : decode cL_law 1270 = .ok (.aload_n 0, 1) := dq_at zd_dL_law_1250 16 rfl
theorem dL_law_1271 : decode cL_law 1271 = .ok (.iload 4, 2) := dq_at zd_dL_law_1250 17 rfl
theorem dL_law_1273 : decode cL_law 1273 = .ok (.iconst 2, 1) := dq_at zd_dL_law_1250 18 rfl
theorem dL_law_1274 : decode cL_law 1274 = .ok (.iadd, 1) := dq_at zd_dL_law_1250 19 rfl
theorem dL_law_1275 : decode cL_law 1275 = .ok (.iaload, 1) := dq_at zd_dL_law_1250 20 rfl
theorem dL_law_1276 : decode cL_law 1276 = .ok (.aload_n 0, 1) := dq_at zd_dL_law_1250 21 rfl
theorem dL_law_1277 : decode cL_law 1277 = .ok (.iload 4, 2) := dq_at zd_dL_law_1250 22 rfl
theorem dL_law_1279 : decode cL_law 1279 = .ok (.iconst 3, 1) := dq_at zd_dL_law_1250 23 rfl
theorem zd_dL_law_1280 : dq cL_law [(1280, .iadd, 1), (1281, .iaload, 1), (1282, .invokevirtual 148, 3), (1285, .pop, 1), (1286, .goto 240, 3), (1289, .aload_n 1, 1), (1290, .aload_n 0, 1), (1291, .iload 4, 2), (1293, .iconst 1, 1), (1294, .iadd, 1), (1295, .iaload, 1), (1296, .invokevirtual 149, 3), (1299, .pop, 1), (1300, .aload_n 2, 1), (1301, .aload_n 0, 1), (1302, .iload 4, 2), (1304, .iconst 1, 1), (1305, .iadd, 1), (1306, .iaload, 1), (1307, .invokevirtual 152, 3), (1310, .pop, 1), (1311, .goto 215, 3), (1314, .aload_n 1, 1), (1315, .aload_n 0, 1)] = true := by decide +kernel
theorem dL_law_1280 : decode cL_law 1280 = .ok (.iadd, 1) := dq_at zd_dL_law_1280 0 rfl
theorem dL_law_1281 : decode cL_law 1281 = .ok (.iaload, 1) := dq_at zd_dL_law_1280 1 rfl
theorem dL_law_1282 : decode cL_law 1282 = .ok (.invokevirtual 148, 3) := dq_at zd_dL_law_1280 2 rfl
theorem dL_law_1285 : decode cL_law 1285 = .ok (.pop, 1) := dq_at zd_dL_law_1280 3 rfl
theorem dL_law_1286 : decode cL_law 1286 = .ok (.goto 240, 3) := dq_at zd_dL_law_1280 4 rfl
theorem dL_law_1289 : decode cL_law 1289 = .ok (.aload_n 1, 1) := dq_at zd_dL_law_1280 5 rfl
theorem dL_law_1290 : decode cL_law 1290 = .ok (.aload_n 0, 1) := dq_at zd_dL_law_1280 6 rfl
theorem dL_law_1291 : decode cL_law 1291 = .ok (.iload 4, 2) := dq_at zd_dL_law_1280 7 rfl
theorem dL_law_1293 : decode cL_law 1293 = .ok (.iconst 1, 1) := dq_at zd_dL_law_1280 8 rfl
theorem dL_law_1294 : decode cL_law 1294 = .ok (.iadd, 1) := dq_at zd_dL_law_1280 9 rfl
theorem dL_law_1295 : decode cL_law 1295 = .ok (.iaload, 1) := dq_at zd_dL_law_1280 10 rfl
theorem dL_law_1296 : decode cL_law 1296 = .ok (.invokevirtual 149, 3) := dq_at zd_dL_law_1280 11 rfl
theorem dL_law_1299 : decode cL_law 1299 = .ok (.pop, 1) := dq_at zd_dL_law_1280 12 rfl
theorem dL_law_1300 : decode cL_law 1300 = .ok (.aload_n 2, 1) := dq_at zd_dL_law_1280 13 rfl
theorem dL_law_1301 : decode cL_law 1301 = .ok (.aload_n 0, 1) := dq_at zd_dL_law_1280 14 rfl
theorem dL_law_1302 : decode cL_law 1302 = .ok (.iload 4, 2) := dq_at zd_dL_law_1280 15 rfl
theorem dL_law_1304 : decode cL_law 1304 = .ok (.iconst 1, 1) := dq_at zd_dL_law_1280 16 rfl
theorem dL_law_1305 : decode cL_law 1305 = .ok (.iadd, 1) := dq_at zd_dL_law_1280 17 rfl
theorem dL_law_1306 : decode cL_law 1306 = .ok (.iaload, 1) := dq_at zd_dL_law_1280 18 rfl
theorem dL_law_1307 : decode cL_law 1307 = .ok (.invokevirtual 152, 3) := dq_at zd_dL_law_1280 19 rfl
theorem dL_law_1310 : decode cL_law 1310 = .ok (.pop, 1) := dq_at zd_dL_law_1280 20 rfl
theorem dL_law_1311 : decode cL_law 1311 = .ok (.goto 215, 3) := dq_at zd_dL_law_1280 21 rfl
theorem dL_law_1314 : decode cL_law 1314 = .ok (.aload_n 1, 1) := dq_at zd_dL_law_1280 22 rfl
theorem dL_law_1315 : decode cL_law 1315 = .ok (.aload_n 0, 1) := dq_at zd_dL_law_1280 23 rfl
theorem zd_dL_law_1316 : dq cL_law [(1316, .iload 4, 2), (1318, .iconst 1, 1), (1319, .iadd, 1), (1320, .iaload, 1), (1321, .invokevirtual 153, 3), (1324, .pop, 1), (1325, .aload_n 2, 1), (1326, .aload_n 0, 1), (1327, .iload 4, 2), (1329, .iconst 1, 1), (1330, .iadd, 1), (1331, .iaload, 1), (1332, .invokevirtual 156, 3), (1335, .pop, 1), (1336, .goto 190, 3), (1339, .aload_n 1, 1), (1340, .aload_n 0, 1), (1341, .iload 4, 2), (1343, .iconst 1, 1), (1344, .iadd, 1), (1345, .iaload, 1), (1346, .invokevirtual 157, 3), (1349, .pop, 1), (1350, .aload_n 2, 1)] = true := by decide +kernel
theorem dL_law_1316 : decode cL_law 1316 = .ok (.iload 4, 2) := dq_at zd_dL_law_1316 0 rfl
theorem dL_law_1318 : decode cL_law 1318 = .ok (.iconst 1, 1) := dq_at zd_dL_law_1316 1 rfl
theorem dL_law_1319 : decode cL_law 1319 = .ok (.iadd, 1) := dq_at zd_dL_law_1316 2 rfl
theorem dL_law_1320 : decode cL_law 1320 = .ok (.iaload, 1) := dq_at zd_dL_law_1316 3 rfl
theorem dL_law_1321 : decode cL_law 1321 = .ok (.invokevirtual 153, 3) := dq_at zd_dL_law_1316 4 rfl
theorem dL_law_1324 : decode cL_law 1324 = .ok (.pop, 1) := dq_at zd_dL_law_1316 5 rfl
theorem dL_law_1325 : decode cL_law 1325 = .ok (.aload_n 2, 1) := dq_at zd_dL_law_1316 6 rfl
theorem dL_law_1326 : decode cL_law 1326 = .ok (.aload_n 0, 1) := dq_at zd_dL_law_1316 7 rfl
theorem dL_law_1327 : decode cL_law 1327 = .ok (.iload 4, 2) := dq_at zd_dL_law_1316 8 rfl
theorem dL_law_1329 : decode cL_law 1329 = .ok (.iconst 1, 1) := dq_at zd_dL_law_1316 9 rfl
theorem dL_law_1330 : decode cL_law 1330 = .ok (.iadd, 1) := dq_at zd_dL_law_1316 10 rfl
theorem dL_law_1331 : decode cL_law 1331 = .ok (.iaload, 1) := dq_at zd_dL_law_1316 11 rfl
theorem dL_law_1332 : decode cL_law 1332 = .ok (.invokevirtual 156, 3) := dq_at zd_dL_law_1316 12 rfl
theorem dL_law_1335 : decode cL_law 1335 = .ok (.pop, 1) := dq_at zd_dL_law_1316 13 rfl
theorem dL_law_1336 : decode cL_law 1336 = .ok (.goto 190, 3) := dq_at zd_dL_law_1316 14 rfl
theorem dL_law_1339 : decode cL_law 1339 = .ok (.aload_n 1, 1) := dq_at zd_dL_law_1316 15 rfl
theorem dL_law_1340 : decode cL_law 1340 = .ok (.aload_n 0, 1) := dq_at zd_dL_law_1316 16 rfl
theorem dL_law_1341 : decode cL_law 1341 = .ok (.iload 4, 2) := dq_at zd_dL_law_1316 17 rfl
theorem dL_law_1343 : decode cL_law 1343 = .ok (.iconst 1, 1) := dq_at zd_dL_law_1316 18 rfl
theorem dL_law_1344 : decode cL_law 1344 = .ok (.iadd, 1) := dq_at zd_dL_law_1316 19 rfl
theorem dL_law_1345 : decode cL_law 1345 = .ok (.iaload, 1) := dq_at zd_dL_law_1316 20 rfl
theorem dL_law_1346 : decode cL_law 1346 = .ok (.invokevirtual 157, 3) := dq_at zd_dL_law_1316 21 rfl
theorem dL_law_1349 : decode cL_law 1349 = .ok (.pop, 1) := dq_at zd_dL_law_1316 22 rfl
theorem dL_law_1350 : decode cL_law 1350 = .ok (.aload_n 2, 1) := dq_at zd_dL_law_1316 23 rfl
theorem zd_dL_law_1351 : dq cL_law [(1351, .aload_n 0, 1), (1352, .iload 4, 2), (1354, .iconst 1, 1), (1355, .iadd, 1), (1356, .iaload, 1), (1357, .invokevirtual 160, 3), (1360, .pop, 1), (1361, .goto 165, 3), (1364, .aload_n 1, 1), (1365, .aload_n 0, 1), (1366, .iload 4, 2), (1368, .iconst 1, 1), (1369, .iadd, 1), (1370, .iaload, 1), (1371, .aload_n 0, 1), (1372, .iload 4, 2), (1374, .iconst 2, 1), (1375, .iadd, 1), (1376, .iaload, 1), (1377, .aload_n 0, 1), (1378, .iload 4, 2)] = true := by decide +kernel
theorem dL_law_1351 : decode cL_law 1351 = .ok (.aload_n 0, 1) := dq_at zd_dL_law_1351 0 rfl
theorem dL_law_1352 : decode cL_law 1352 = .ok (.iload 4, 2) := dq_at zd_dL_law_1351 1 rfl
theorem dL_law_1354 : decode cL_law 1354 = .ok (.iconst 1, 1) := dq_at zd_dL_law_1351 2 rfl
theorem dL_law_1355 : decode cL_law 1355 = .ok (.iadd, 1) := dq_at zd_dL_law_1351 3 rfl
theorem dL_law_1356 : decode cL_law 1356 = .ok (.iaload, 1) := dq_at zd_dL_law_1351 4 rfl
theorem dL_law_1357 : decode cL_law 1357 = .ok (.invokevirtual 160, 3) := dq_at zd_dL_law_1351 5 rfl
theorem dL_law_1360 : decode cL_law 1360 = .ok (.pop, 1) := dq_at zd_dL_law_1351 6 rfl
theorem dL_law_1361 : decode cL_law 1361 = .ok (.goto 165, 3) := dq_at zd_dL_law_1351 7 rfl
theorem dL_law_1364 : decode cL_law 1364 = .ok (.aload_n 1, 1) := dq_at zd_dL_law_1351 8 rfl
theorem dL_law_1365 : decode cL_law 1365 = .ok (.aload_n 0, 1) := dq_at zd_dL_law_1351 9 rfl
theorem dL_law_1366 : decode cL_law 1366 = .ok (.iload 4, 2) := dq_at zd_dL_law_1351 10 rfl
theorem dL_law_1368 : decode cL_law 1368 = .ok (.iconst 1, 1) := dq_at zd_dL_law_1351 11 rfl
theorem dL_law_1369 : decode cL_law 1369 = .ok (.iadd, 1) := dq_at zd_dL_law_1351 12 rfl
theorem dL_law_1370 : decode cL_law 1370 = .ok (.iaload, 1) := dq_at zd_dL_law_1351 13 rfl
theorem dL_law_1371 : decode cL_law 1371 = .ok (.aload_n 0, 1) := dq_at zd_dL_law_1351 14 rfl
theorem dL_law_1372 : decode cL_law 1372 = .ok (.iload 4, 2) := dq_at zd_dL_law_1351 15 rfl
theorem dL_law_1374 : decode cL_law 1374 = .ok (.iconst 2, 1) := dq_at zd_dL_law_1351 16 rfl
theorem dL_law_1375 : decode cL_law 1375 = .ok (.iadd, 1) := dq_at zd_dL_law_1351 17 rfl
theorem dL_law_1376 : decode cL_law 1376 = .ok (.iaload, 1) := dq_at zd_dL_law_1351 18 rfl
theorem dL_law_1377 : decode cL_law 1377 = .ok (.aload_n 0, 1) := dq_at zd_dL_law_1351 19 rfl
theorem dL_law_1378 : decode cL_law 1378 = .ok (.iload 4, 2) := dq_at zd_dL_law_1351 20 rfl
