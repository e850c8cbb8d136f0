theorem dL_law_1216 : decode cL_law 1216 = .ok (.aload_n 0, 1) := zd_dL_law_1205.1.2.1.1.2
theorem dL_law_1217 : decode cL_law 1217 = .ok (.iload 4, 2) := zd_dL_law_1205.1.2.1.2
theorem dL_law_1219 : decode cL_law 1219 = .ok (.iconst 1, 1) := zd_dL_law_1205.1.2.2.1.1
theorem dL_law_1220 : decode cL_law 1220 = .ok (.iadd, 1) := zd_dL_law_1205.1.2.2.1.2
theorem dL_law_1221 : decode cL_law 1221 = .ok (.iaload, 1) := zd_dL_law_1205.1.2.2.2
theorem dL_law_1222 : decode cL_law 1222 = .ok (.invokevirtual 141, 3) := zd_dL_law_1205.2.1.1.1.1
theorem dL_law_1225 : decode cL_law 1225 = .ok (.pop, 1) := zd_dL_law_1205.2.1.1.1.2
theorem dL_law_1226 : decode cL_law 1226 = .ok (.aload_n 2, 1) := zd_dL_law_1205.2.1.1.2
theorem dL_law_1227 : decode cL_law 1227 = .ok (.aload_n 0, 1) := zd_dL_law_1205.2.1.2.1.1
theorem dL_law_1228 : decode cL_law 1228 = .ok (.iload 4, 2) := zd_dL_law_1205.2.1.2.1.2
theorem dL_law_1230 : decode cL_law 1230 = .ok (.iconst 1, 1) := zd_dL_law_1205.2.1.2.2
theorem dL_law_1231 : decode cL_law 1231 = .ok (.iadd, 1) := zd_dL_law_1205.2.2.1.1.1
theorem dL_law_1232 : decode cL_law 1232 = .ok (.iaload, 1) := zd_dL_law_1205.2.2.1.1.2
theorem dL_law_1233 : decode cL_law 1233 = .ok (.invokevirtual 144, 3) := zd_dL_law_1205.2.2.1.2
theorem dL_law_1236 : decode cL_law 1236 = .ok (.pop, 1) := zd_dL_law_1205.2.2.2.1.1
theorem dL_law_1237 : decode cL_law 1237 = .ok (.goto 289, 3) := zd_dL_law_1205.2.2.2.1.2
theorem dL_law_1240 : decode cL_law 1240 = .ok (.aload_n 1, 1) := zd_dL_law_1205.2.2.2.2
theorem zd_dL_law_1241 : ((((((decode cL_law 1241 = .ok (.aload_n 0, 1)) ∧ (decode cL_law 1242 = .ok (.iload 4, 2))) ∧ (decode cL_law 1244 = .ok (.iconst 1, 1))) ∧ (((decode cL_law 1245 = .ok (.iadd, 1)) ∧ (decode cL_law 1246 = .ok (.iaload, 1))) ∧ (decode cL_law 1247 = .ok (.aload_n 0, 1)))) ∧ ((((decode cL_law 1248 = .ok (.iload 4, 2)) ∧ (decode cL_law 1250 = .ok (.iconst 2, 1))) ∧ (decode cL_law 1251 = .ok (.iadd, 1))) ∧ (((decode cL_law 1252 = .ok (.iaload, 1)) ∧ (decode cL_law 1253 = .ok (.aload_n 0, 1))) ∧ (decode cL_law 1254 = .ok (.iload 4, 2))))) ∧ (((((decode cL_law 1256 = .ok (.iconst 3, 1)) ∧ (decode cL_law 1257 = .ok (.iadd, 1))) ∧ (decode cL_law 1258 = .ok (.iaload, 1))) ∧ (((decode cL_law 1259 = .ok (.invokevirtual 145, 3)) ∧ (decode cL_law 1262 = .ok (.pop, 1))) ∧ (decode cL_law 1263 = .ok (.aload_n 2, 1)))) ∧ ((((decode cL_law 1264 = .ok (.aload_n 0, 1)) ∧ (decode cL_law 1265 = .ok (.iload 4, 2))) ∧ (decode cL_law 1267 = .ok (.iconst 1, 1))) ∧ (((decode cL_law 1268 = .ok (.iadd, 1)) ∧ (decode cL_law 1269 = .ok (.iaload, 1))) ∧ (decode cL_law 1270 = .ok (.aload_n 0, 1)))))) := by decide +kernel
theorem dL_law_1241 : decode cL_law 1241 = .ok (.aload_n 0, 1) := zd_dL_law_1241.1.1.1.1.1
theorem dL_law_1242 : decode cL_law 1242 = .ok (.iload 4, 2) := zd_dL_law_1241.1.1.1.1.2
theorem dL_law_1244 : decode cL_law 1244 = .ok (.iconst 1, 1) := zd_dL_law_1241.1.1.1.2
theorem dL_law_1245 : decode cL_law 1245 = .ok (.iadd, 1) := zd_dL_law_1241.1.1.2.1.1
theorem dL_law_1246 : decode cL_law 1246 = .ok (.iaload, 1) := zd_dL_law_1241.1.1.2.1.2
theorem dL_law_1247 : decode cL_law 1247 = .ok (.aload_n 0, 1) := zd_dL_law_1241.1.1.2.2
theorem dL_law_1248 : decode cL_law 1248 = .ok (.iload 4, 2) := zd_dL_law_1241.1.2.1.1.1
theorem dL_law_1250 : decode cL_law 1250 = .ok (.iconst 2, 1) := zd_dL_law_1241.1.2.1.1.2
theorem dL_law_1251 : decode cL_law 1251 = .ok (.iadd, 1) := zd_dL_law_1241.1.2.1.2
theorem dL_law_1252 : decode cL_law 1252 = .ok (.iaload, 1) := zd_dL_law_1241.1.2.2.1.1
theorem dL_law_1253 : decode cL_law 1253 = .ok (.aload_n 0, 1) := zd_dL_law_1241.1.2.2.1.2
theorem dL_law_1254 : decode cL_law 1254 = .ok (.iload 4, 2) := zd_dL_law_1241.1.2.2.2
theorem dL_law_1256 : decode cL_law 1256 = .ok (.iconst 3, 1) := zd_dL_law_1241.2.1.1.1.1
theorem dL_law_1257 : decode cL_law 1257 = .ok (.iadd, 1) := zd_dL_law_1241.2.1.1.1.2
theorem dL_law_1258 : decode cL_law 1258 = .ok (.iaload, 1) := zd_dL_law_1241.2.1.1.2
theorem dL_law_1259 : decode cL_law 1259 = .ok (.invokevirtual 145, 3) := zd_dL_law_1241.2.1.2.1.1
theorem dL_law_1262 : decode cL_law 1262 = .ok (.pop, 1) := zd_dL_law_1241.2.1.2.1.2
theorem dL_law_1263 : decode cL_law 1263 = .ok (.aload_n 2, 1) := zd_dL_law_1241.2.1.2.2
theorem dL_law_1264 : decode cL_law 1264 = .ok (.aload_n 0, 1) := zd_dL_law_1241.2.2.1.1.1
theorem dL_law_1265 : decode cL_law 1265 = .ok (.iload 4, 2) := zd_dL_law_1241.2.2.1.1.2
theorem dL_law_1267 : decode cL_law 1267 = .ok (.iconst 1, 1) := zd_dL_law_1241.2.2.1.2
theorem dL_law_1268 : decode cL_law 1268 = .ok (.iadd, 1) := zd_dL_law_1241.2.2.2.1.1
theorem dL_law_1269 : decode cL_law 1269 = .ok (.iaload, 1) := zd_dL_law_1241.2.2.2.1.2
theorem dL_law_1270 : decode cL_law 1270 = .ok (.aload_n 0, 1) := zd_dL_law_1241.2.2.2.2
theorem zd_dL_law_1271 : ((((((decode cL_law 1271 = .ok (.iload 4, 2)) ∧ (decode cL_law 1273 = .ok (.iconst 2, 1))) ∧ (decode cL_law 1274 = .ok (.iadd, 1))) ∧ (((decode cL_law 1275 = .ok (.iaload, 1)) ∧ (decode cL_law 1276 = .ok (.aload_n 0, 1))) ∧ (decode cL_law 1277 = .ok (.iload 4, 2)))) ∧ ((((decode cL_law 1279 = .ok (.iconst 3, 1)) ∧ (decode cL_law 1280 = .ok (.iadd, 1))) ∧ (decode cL_law 1281 = .ok (.iaload, 1))) ∧ (((decode cL_law 1282 = .ok (.invokevirtual 148, 3)) ∧ (decode cL_law 1285 = .ok (.pop, 1))) ∧ (decode cL_law 1286 = .ok (.goto 240, 3))))) ∧ (((((decode cL_law 1289 = .ok (.aload_n 1, 1)) ∧ (decode cL_law 1290 = .ok (.aload_n 0, 1))) ∧ (decode cL_law 1291 = .ok (.iload 4, 2))) ∧ (((decode cL_law 1293 = .ok (.iconst 1, 1)) ∧ (decode cL_law 1294 = .ok (.iadd, 1))) ∧ (decode cL_law 1295 = .ok (.iaload, 1)))) ∧ ((((decode cL_law 1296 = .ok (.invokevirtual 149, 3)) ∧ (decode cL_law 1299 = .ok (.pop, 1))) ∧ (decode cL_law 1300 = .ok (.aload_n 2, 1))) ∧ (((decode cL_law 1301 = .ok (.aload_n 0, 1)) ∧ (decode cL_law 1302 = .ok (.iload 4, 2))) ∧ (decode cL_law 1304 = .ok (.iconst 1, 1)))))) := by decide +kernel
theorem dL_law_1271 : decode cL_law 1271 = .ok (.iload 4, 2) := zd_dL_law_1271.1.1.1.1.1
theorem dL_law_1273 : decode cL_law 1273 = .ok (.iconst 2, 1) := zd_dL_law_1271.1.1.1.1.2
theorem dL_law_1274 : decode cL_law 1274 = .ok (.iadd, 1) := zd_dL_law_1271.1.1.1.2
theorem dL_law_1275 : decode cL_law 1275 = .ok (.iaload, 1) := zd_dL_law_1271.1.1.2.1.1
theorem dL_law_1276 : decode cL_law 1276 = .ok (.aload_n 0, 1) := zd_dL_law_1271.1.1.2.1.2
theorem dL_law_1277 : decode cL_law 1277 = .ok (.iload 4, 2) := zd_dL_law_1271.1.1.2.2
theorem dL_law_1279 : decode cL_law 1279 = .ok (.iconst 3, 1) := zd_dL_law_1271.1.2.1.1.1
theorem dL_law_1280 : decode cL_law 1280 = .ok (.iadd, 1) := zd_dL_law_1271.1.2.1.1.2
theorem dL_law_1281 : decode cL_law 1281 = .ok (.iaload, 1) := zd_dL_law_1271.1.2.1.2
theorem dL_law_1282 : decode cL_law 1282 = .ok (.invokevirtual 148, 3) := zd_dL_law_1271.1.2.2.1.1
theorem dL_law_1285 : decode cL_law 1285 = .ok (.pop, 1) := zd_dL_law_1271.1.2.2.1.2
theorem dL_law_1286 : decode cL_law 1286 = .ok (.goto 240, 3) := zd_dL_law_1271.1.2.2.2
theorem dL_law_1289 : decode cL_law 1289 = .ok (.aload_n 1, 1) := zd_dL_law_1271.2.1.1.1.1
theorem dL_law_1290 : decode cL_law 1290 = .ok (.aload_n 0, 1) := zd_dL_law_1271.2.1.1.1.2
theorem dL_law_1291 : decode cL_law 1291 = .ok (.iload 4, 2) := zd_dL_law_1271.2.1.1.2
theorem dL_law_1293 : decode cL_law 1293 = .ok (.iconst 1, 1) := zd_dL_law_1271.2.1.2.1.1
theorem dL_law_1294 : decode cL_law 1294 = .ok (.iadd, 1) := zd_dL_law_1271.2.1.2.1.2
theorem dL_law_1295 : decode cL_law 1295 = .ok (.iaload, 1) := zd_dL_law_1271.2.1.2.2
theorem dL_law_1296 : decode cL_law 1296 = .ok (.invokevirtual 149, 3) := zd_dL_law_1271.2.2.1.1.1
theorem dL_law_1299 : decode cL_law 1299 = .ok (.pop, 1) := zd_dL_law_1271.2.2.1.1.2
theorem dL_law_1300 : decode cL_law 1300 = .ok (.aload_n 2, 1) := zd_dL_law_1271.2.2.1.2
theorem dL_law_1301 : decode cL_law 1301 = .ok (.aload_n 0, 1) := zd_dL_law_1271.2.2.2.1.1
theorem dL_law_1302 : decode cL_law 1302 = .ok (.iload 4, 2) := zd_dL_law_1271.2.2.2.1.2
theorem dL_law_1304 : decode cL_law 1304 = .ok (.iconst 1, 1) := zd_dL_law_1271.2.2.2.2
theorem zd_dL_law_1305 : ((((((decode cL_law 1305 = .ok (.iadd, 1)) ∧ (decode cL_law 1306 = .ok (.iaload, 1))) ∧ (decode cL_law 1307 = .ok (.invokevirtual 152, 3))) ∧ (((decode cL_law 1310 = .ok (.pop, 1)) ∧ (decode cL_law 1311 = .ok (.goto 215, 3))) ∧ (decode cL_law 1314 = .ok (.aload_n 1, 1)))) ∧ ((((decode cL_law 1315 = .ok (.aload_n 0, 1)) ∧ (decode cL_law 1316 = .ok (.iload 4, 2))) ∧ (decode cL_law 1318 = .ok (.iconst 1, 1))) ∧ (((decode cL_law 1319 = .ok (.iadd, 1)) ∧ (decode cL_law 1320 = .ok (.iaload, 1))) ∧ (decode cL_law 1321 = .ok (.invokevirtual 153, 3))))) ∧ (((((decode cL_law 1324 = .ok (.pop, 1)) ∧ (decode cL_law 1325 = .ok (.aload_n 2, 1))) ∧ (decode cL_law 1326 = .ok (.aload_n 0, 1))) ∧ (((decode cL_law 1327 = .ok (.iload 4, 2)) ∧ (decode cL_law 1329 = .ok (.iconst 1, 1))) ∧ (decode cL_law 1330 = .ok (.iadd, 1)))) ∧ ((((decode cL_law 1331 = .ok (.iaload, 1)) ∧ (decode cL_law 1332 = .ok (.invokevirtual 156, 3))) ∧ (decode cL_law 1335 = .ok (.pop, 1))) ∧ (((decode cL_law 1336 = .ok (.goto 190, 3)) ∧ (decode cL_law 1339 = .ok (.aload_n 1, 1))) ∧ (decode cL_law 1340 = .ok (.aload_n 0, 1)))))) := by decide +kernel
theorem dL_law_1305 : decode cL_law 1305 = .ok (.iadd, 1) := zd_dL_law_1305.1.1.1.1.1
theorem dL_law_1306 : decode cL_law 1306 = .ok (.iaload, 1) := zd_dL_law_1305.1.1.1.1.2
theorem dL_law_1307 : decode cL_law 1307 = .ok (.invokevirtual 152, 3) := zd_dL_law_1305.1.1.1.2
theorem dL_law_1310 : decode cL_law 1310 = .ok (.pop, 1) := zd_dL_law_1305.1.1.2.1.1
theorem dL_law_1311 : decode cL_law 1311 = .ok (.goto 215, 3) := zd_dL_law_1305.1.1.2.1.2
theorem dL_law_1314 : decode cL_law 1314 = .ok (.aload_n 1, 1) := zd_dL_law_1305.1.1.2.2
theorem dL_law_1315 : decode cL_law 1315 = .ok (.aload_n 0, 1) := zd_dL_law_1305.1.2.1.1.1
theorem dL_law_1316 : decode cL_law 1316 = .ok (.iload 4, 2) := zd_dL_law_1305.1.2.1.1.2
theorem dL_law_1318 : decode cL_law 1318 = .ok (.iconst 1, 1) := zd_dL_law_1305.1.2.1.2
theorem dL_law_1319 : decode cL_law 1319 = .ok (.iadd, 1) := zd_dL_law_1305.1.2.2.1.1
theorem dL_law_1320 : decode cL_law 1320 = .ok (.iaload, 1) := zd_dL_law_1305.1.2.2.1.2
theorem dL_law_1321 : decode cL_law 1321 = .ok (.invokevirtual 153, 3) := zd_dL_law_1305.1.2.2.2
theorem dL_law_1324 : decode cL_law 1324 = .ok (.pop, 1) := zd_dL_law_1305.2.1.1.1.1
theorem dL_law_1325 : decode cL_law 1325 = .ok (.aload_n 2, 1) := zd_dL_law_1305.2.1.1.1.2
theorem dL_law_1326 : decode cL_law 1326 = .ok (.aload_n 0, 1) := zd_dL_law_1305.2.1.1.2
theorem dL_law_1327 : decode cL_law 1327 = .ok (.iload 4, 2) := zd_dL_law_1305.2.1.2.1.1
theorem dL_law_1329 : decode cL_law 1329 = .ok (.iconst 1, 1) := zd_dL_law_1305.2.1.2.1.2
theorem dL_law_1330 : decode cL_law 1330 = .ok (.iadd, 1) := zd_dL_law_1305.2.1.2.2
theorem dL_law_1331 : decode cL_law 1331 = .ok (.iaload, 1) := zd_dL_law_1305.2.2.1.1.1
theorem dL_law_1332 : decode cL_law 1332 = .ok (.invokevirtual 156, 3) := zd_dL_law_1305.2.2.1.1.2
theorem dL_law_1335 : decode cL_law 1335 = .ok (.pop, 1) := zd_dL_law_1305.2.2.1.2
theorem dL_law_1336 : decode cL_law 1336 = .ok (.goto 190, 3) := zd_dL_law_1305.2.2.2.1.1
theorem dL_law_1339 : decode cL_law 1339 = .ok (.aload_n 1, 1) := zd_dL_law_1305.2.2.2.1.2
theorem dL_law_1340 : decode cL_law 1340 = .ok (.aload_n 0, 1) := zd_dL_law_1305.2.2.2.2
theorem zd_dL_law_1341 : ((((((decode cL_law 1341 = .ok (.iload 4, 2)) ∧ (decode cL_law 1343 = .ok (.iconst 1, 1))) ∧ (decode cL_law 1344 = .ok (.iadd, 1))) ∧ (((decode cL_law 1345 = .ok (.iaload, 1)) ∧ (decode cL_law 1346 = .ok (.invokevirtual 157, 3))) ∧ (decode cL_law 1349 = .ok (.pop, 1)))) ∧ ((((decode cL_law 1350 = .ok (.aload_n 2, 1)) ∧ (decode cL_law 1351 = .ok (.aload_n 0, 1))) ∧ (decode cL_law 1352 = .ok (.iload 4, 2))) ∧ (((decode cL_law 1354 = .ok (.iconst 1, 1)) ∧ (decode cL_law 1355 = .ok (.iadd, 1))) ∧ (decode cL_law 1356 = .ok (.iaload, 1))))) ∧ (((((decode cL_law 1357 = .ok (.invokevirtual 160, 3)) ∧ (decode cL_law 1360 = .ok (.pop, 1))) ∧ (decode cL_law 1361 = .ok (.goto 165, 3))) ∧ (((decode cL_law 1364 = .ok (.aload_n 1, 1)) ∧ (decode cL_law 1365 = .ok (.aload_n 0, 1))) ∧ (decode cL_law 1366 = .ok (.iload 4, 2)))) ∧ ((((decode cL_law 1368 = .ok (.iconst 1, 1)) ∧ (decode cL_law 1369 = .ok (.iadd, 1))) ∧ (decode cL_law 1370 = .ok (.iaload, 1))) ∧ (((decode cL_law 1371 = .ok (.aload_n 0, 1)) ∧ (decode cL_law 1372 = .ok (.iload 4, 2))) ∧ (decode cL_law 1374 = .ok (.iconst 2, 1)))))) := by decide +kernel
theorem dL_law_1341 : decode cL_law 1341 = .ok (.iload 4, 2) := zd_dL_law_1341.1.1.1.1.1
theorem dL_law_1343 : decode cL_law 1343 = .ok (.iconst 1, 1) := zd_dL_law_1341.1.1.1.1.2
theorem dL_law_1344 : decode cL_law 1344 = .ok (.iadd, 1) := zd_dL_law_1341.1.1.1.2
theorem dL_law_1345 : decode cL_law 1345 = .ok (.iaload, 1) := zd_dL_law_1341.1.1.2.1.1
theorem dL_law_1346 : decode cL_law 1346 = .ok (.invokevirtual 157, 3) := zd_dL_law_1341.1.1.2.1.2
theorem dL_law_1349 : decode cL_law 1349 = .ok (.pop, 1) := zd_dL_law_1341.1.1.2.2
theorem dL_law_1350 : decode cL_law 1350 = .ok (.aload_n 2, 1) := zd_dL_law_1341.1.2.1.1.1
theorem dL_law_1351 : decode cL_law 1351 = .ok (.aload_n 0, 1) := zd_dL_law_1341.1.2.1.1.2
theorem dL_law_1352 : decode cL_law 1352 = .ok (.iload 4, 2) := zd_dL_law_1341.1.2.1.2
theorem dL_law_1354 : decode cL_law 1354 = .ok (.iconst 1, 1) := zd_dL_law_1341.1.2.2.1.1
theorem dL_law_1355 : decode cL_law 1355 = .ok (.iadd, 1) := zd_dL_law_1341.1.2.2.1.2
theorem dL_law_1356 : decode cL_law 1356 = .ok (.iaload, 1) := zd_dL_law_1341.1.2.2.2
theorem dL_law_1357 : decode cL_law 1357 = .ok (.invokevirtual 160, 3) := zd_dL_law_1341.2.1.1.1.1
theorem dL_law_1360 : decode cL_law 1360 = .ok (.pop, 1) := zd_dL_law_1341.2.1.1.1.2
theorem dL_law_1361 : decode cL_law 1361 = .ok (.goto 165, 3) := zd_dL_law_1341.2.1.1.2
theorem dL_law_1364 : decode cL_law 1364 = .ok (.aload_n 1, 1) := zd_dL_law_1341.2.1.2.1.1
theorem dL_law_1365 : decode cL_law 1365 = .ok (.aload_n 0, 1) := zd_dL_law_1341.2.1.2.1.2
theorem dL_law_1366 : decode cL_law 1366 = .ok (.iload 4, 2) := zd_dL_law_1341.2.1.2.2
theorem dL_law_1368 : decode cL_law 1368 = .ok (.iconst 1, 1) := zd_dL_law_1341.2.2.1.1.1
theorem dL_law_1369 : decode cL_law 1369 = .ok (.iadd, 1) := zd_dL_law_1341.2.2.1.1.2
theorem dL_law_1370 : decode cL_law 1370 = .ok (.iaload, 1) := zd_dL_law_1341.2.2.1.2
theorem dL_law_1371 : decode cL_law 1371 = .ok (.aload_n 0, 1) := zd_dL_law_1341.2.2.2.1.1
theorem dL_law_1372 : decode cL_law 1372 = .ok (.iload 4, 2) := zd_dL_law_1341.2.2.2.1.2
theorem dL_law_1374 : decode cL_law 1374 = .ok (.iconst 2, 1) := zd_dL_law_1341.2.2.2.2
theorem zd_dL_law_1375 : ((((((decode cL_law 1375 = .ok (.iadd, 1)) ∧ (decode cL_law 1376 = .ok (.iaload, 1))) ∧ (decode cL_law 1377 = .ok (.aload_n 0, 1))) ∧ (((decode cL_law 1378 = .ok (.iload 4, 2)) ∧ (decode cL_law 1380 = .ok (.iconst 3, 1))) ∧ (decode cL_law 1381 = .ok (.iadd, 1)))) ∧ ((((decode cL_law 1382 = .ok (.iaload, 1)) ∧ (decode cL_law 1383 = .ok (.invokevirtual 161, 3))) ∧ (decode cL_law 1386 = .ok (.pop, 1))) ∧ (((decode cL_law 1387 = .ok (.aload_n 2, 1)) ∧ (decode cL_law 1388 = .ok (.aload_n 0, 1))) ∧ (decode cL_law 1389 = .ok (.iload 4, 2))))) ∧ (((((decode cL_law 1391 = .ok (.iconst 1, 1)) ∧ (decode cL_law 1392 = .ok (.iadd, 1))) ∧ (decode cL_law 1393 = .ok (.iaload, 1))) ∧ (((decode cL_law 1394 = .ok (.aload_n 0, 1)) ∧ (decode cL_law 1395 = .ok (.iload 4, 2))) ∧ (decode cL_law 1397 = .ok (.iconst 2, 1)))) ∧ ((((decode cL_law 1398 = .ok (.iadd, 1)) ∧ (decode cL_law 1399 = .ok (.iaload, 1))) ∧ (decode cL_law 1400 = .ok (.aload_n 0, 1))) ∧ (((decode cL_law 1401 = .ok (.iload 4, 2)) ∧ (decode cL_law 1403 = .ok (.iconst 3, 1))) ∧ (decode cL_law 1404 = .ok (.iadd, 1)))))) := by decide +kernel
theorem dL_law_1375 : decode cL_law 1375 = .ok (.iadd, 1) := zd_dL_law_1375.1.1.1.1.1
theorem dL_law_1376 : decode cL_law 1376 = .ok (.iaload, 1) := zd_dL_law_1375.1.1.1.1.2
theorem dL_law_1377 : decode cL_law 1377 = .ok (.aload_n 0, 1) := zd_dL_law_1375.1.1.1.2
theorem dL_law_1378 : decode cL_law 1378 = .ok (.iload 4, 2) := zd_dL_law_1375.1.1.2.1.1
