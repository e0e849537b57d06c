theorem d_W_law_1213 : decode b_W_law 1213 = .ok (.iconst 0, 1) := by decide +kernel
theorem d_W_law_1214 : decode b_W_law 1214 = .ok (.ireturn, 1) := by decide +kernel
theorem d_W_law_1215 : decode b_W_law 1215 = .ok (.goto 216, 3) := by decide +kernel
theorem d_W_law_1218 : decode b_W_law 1218 = .ok (.aload_n 1, 1) := by decide +kernel
theorem d_W_law_1219 : decode b_W_law 1219 = .ok (.aload_n 0, 1) := by decide +kernel
theorem d_W_law_1220 : decode b_W_law 1220 = .ok (.iload 5, 2) := by decide +kernel
theorem d_W_law_1222 : decode b_W_law 1222 = .ok (.iconst 1, 1) := by decide +kernel
theorem d_W_law_1223 : decode b_W_law 1223 = .ok (.iadd, 1) := by decide +kernel
theorem d_W_law_1224 : decode b_W_law 1224 = .ok (.iaload, 1) := by decide +kernel
theorem d_W_law_1225 : decode b_W_law 1225 = .ok (.aload_n 0, 1) := by decide +kernel
theorem d_W_law_1226 : decode b_W_law 1226 = .ok (.iload 5, 2) := by decide +kernel
theorem d_W_law_1228 : decode b_W_law 1228 = .ok (.iconst 2, 1) := by decide +kernel
theorem d_W_law_1229 : decode b_W_law 1229 = .ok (.iadd, 1) := by decide +kernel
theorem d_W_law_1230 : decode b_W_law 1230 = .ok (.iaload, 1) := by decide +kernel
theorem d_W_law_1231 : decode b_W_law 1231 = .ok (.aload 4, 2) := by decide +kernel
theorem d_W_law_1233 : decode b_W_law 1233 = .ok (.invokestatic 133, 3) := by decide +kernel
theorem d_W_law_1236 : decode b_W_law 1236 = .ok (.istore 6, 2) := by decide +kernel
theorem d_W_law_1238 : decode b_W_law 1238 = .ok (.aload_n 2, 1) := by decide +kernel
theorem d_W_law_1239 : decode b_W_law 1239 = .ok (.aload_n 0, 1) := by decide +kernel
theorem d_W_law_1240 : decode b_W_law 1240 = .ok (.iload 5, 2) := by decide +kernel
theorem d_W_law_1242 : decode b_W_law 1242 = .ok (.iconst 1, 1) := by decide +kernel
theorem d_W_law_1243 : decode b_W_law 1243 = .ok (.iadd, 1) := by decide +kernel
theorem d_W_law_1244 : decode b_W_law 1244 = .ok (.iaload, 1) := by decide +kernel
theorem d_W_law_1245 : decode b_W_law 1245 = .ok (.aload_n 0, 1) := by decide +kernel
theorem d_W_law_1246 : decode b_W_law 1246 = .ok (.iload 5, 2) := by decide +kernel
theorem d_W_law_1248 : decode b_W_law 1248 = .ok (.iconst 2, 1) := by decide +kernel
theorem d_W_law_1249 : decode b_W_law 1249 = .ok (.iadd, 1) := by decide +kernel
theorem d_W_law_1250 : decode b_W_law 1250 = .ok (.iaload, 1) := by decide +kernel
theorem d_W_law_1251 : decode b_W_law 1251 = .ok (.invokevirtual 136, 3) := by decide +kernel
theorem d_W_law_1254 : decode b_W_law 1254 = .ok (.dstore 7, 2) := by decide +kernel
theorem d_W_law_1256 : decode b_W_law 1256 = .ok (.aload_n 2, 1) := by decide +kernel
theorem d_W_law_1257 : decode b_W_law 1257 = .ok (.invokevirtual 85, 3) := by decide +kernel
theorem d_W_law_1260 : decode b_W_law 1260 = .ok (.iload 6, 2) := by decide +kernel
theorem d_W_law_1262 : decode b_W_law 1262 = .ok (.if_icmp .eq 5, 3) := by decide +kernel
theorem d_W_law_1265 : decode b_W_law 1265 = .ok (.iconst 0, 1) := by decide +kernel
theorem d_W_law_1266 : decode b_W_law 1266 = .ok (.ireturn, 1) := by decide +kernel
theorem d_W_law_1267 : decode b_W_law 1267 = .ok (.iload 6, 2) := by decide +kernel
theorem d_W_law_1269 : decode b_W_law 1269 = .ok (.ifCond .ne 35, 3) := by decide +kernel
theorem d_W_law_1272 : decode b_W_law 1272 = .ok (.aload 4, 2) := by decide +kernel
theorem d_W_law_1274 : decode b_W_law 1274 = .ok (.iconst 0, 1) := by decide +kernel
theorem d_W_law_1275 : decode b_W_law 1275 = .ok (.daload, 1) := by decide +kernel
theorem d_W_law_1276 : decode b_W_law 1276 = .ok (.dload 7, 2) := by decide +kernel
theorem d_W_law_1278 : decode b_W_law 1278 = .ok (.dcmp .l, 1) := by decide +kernel
theorem d_W_law_1279 : decode b_W_law 1279 = .ok (.ifCond .eq 25, 3) := by decide +kernel
theorem d_W_law_1282 : decode b_W_law 1282 = .ok (.aload 4, 2) := by decide +kernel
theorem d_W_law_1284 : decode b_W_law 1284 = .ok (.iconst 0, 1) := by decide +kernel
theorem d_W_law_1285 : decode b_W_law 1285 = .ok (.daload, 1) := by decide +kernel
theorem d_W_law_1286 : decode b_W_law 1286 = .ok (.aload 4, 2) := by decide +kernel
theorem d_W_law_1288 : decode b_W_law 1288 = .ok (.iconst 0, 1) := by decide +kernel
theorem d_W_law_1289 : decode b_W_law 1289 = .ok (.daload, 1) := by decide +kernel
theorem d_W_law_1290 : decode b_W_law 1290 = .ok (.dcmp .l, 1) := by decide +kernel
theorem d_W_law_1291 : decode b_W_law 1291 = .ok (.ifCond .eq 11, 3) := by decide +kernel
theorem d_W_law_1294 : decode b_W_law 1294 = .ok (.dload 7, 2) := by decide +kernel
theorem d_W_law_1296 : decode b_W_law 1296 = .ok (.dload 7, 2) := by decide +kernel
theorem d_W_law_1298 : decode b_W_law 1298 = .ok (.dcmp .l, 1) := by decide +kernel
theorem d_W_law_1299 : decode b_W_law 1299 = .ok (.ifCond .ne 5, 3) := by decide +kernel
theorem d_W_law_1302 : decode b_W_law 1302 = .ok (.iconst 0, 1) := by decide +kernel
theorem d_W_law_1303 : decode b_W_law 1303 = .ok (.ireturn, 1) := by decide +kernel
theorem d_W_law_1304 : decode b_W_law 1304 = .ok (.goto 127, 3) := by decide +kernel
theorem d_W_law_1307 : decode b_W_law 1307 = .ok (.aload_n 1, 1) := by decide +kernel
theorem d_W_law_1308 : decode b_W_law 1308 = .ok (.aload_n 0, 1) := by decide +kernel
theorem d_W_law_1309 : decode b_W_law 1309 = .ok (.iload 5, 2) := by decide +kernel
theorem d_W_law_1311 : decode b_W_law 1311 = .ok (.iconst 1, 1) := by decide +kernel
theorem d_W_law_1312 : decode b_W_law 1312 = .ok (.iadd, 1) := by decide +kernel
theorem d_W_law_1313 : decode b_W_law 1313 = .ok (.iaload, 1) := by decide +kernel
theorem d_W_law_1314 : decode b_W_law 1314 = .ok (.aload_n 0, 1) := by decide +kernel
theorem d_W_law_1315 : decode b_W_law 1315 = .ok (.iload 5, 2) := by decide +kernel
theorem d_W_law_1317 : decode b_W_law 1317 = .ok (.iconst 2, 1) := by decide +kernel
theorem d_W_law_1318 : decode b_W_law 1318 = .ok (.iadd, 1) := by decide +kernel
theorem d_W_law_1319 : decode b_W_law 1319 = .ok (.iaload, 1) := by decide +kernel
theorem d_W_law_1320 : decode b_W_law 1320 = .ok (.aload_n 3, 1) := by decide +kernel
theorem d_W_law_1321 : decode b_W_law 1321 = .ok (.invokestatic 137, 3) := by decide +kernel
theorem d_W_law_1324 : decode b_W_law 1324 = .ok (.istore 6, 2) := by decide +kernel
theorem d_W_law_1326 : decode b_W_law 1326 = .ok (.aload_n 2, 1) := by decide +kernel
theorem d_W_law_1327 : decode b_W_law 1327 = .ok (.aload_n 0, 1) := by decide +kernel
theorem d_W_law_1328 : decode b_W_law 1328 = .ok (.iload 5, 2) := by decide +kernel
theorem d_W_law_1330 : decode b_W_law 1330 = .ok (.iconst 1, 1) := by decide +kernel
theorem d_W_law_1331 : decode b_W_law 1331 = .ok (.iadd, 1) := by decide +kernel
theorem d_W_law_1332 : decode b_W_law 1332 = .ok (.iaload, 1) := by decide +kernel
theorem d_W_law_1333 : decode b_W_law 1333 = .ok (.aload_n 0, 1) := by decide +kernel
theorem d_W_law_1334 : decode b_W_law 1334 = .ok (.iload 5, 2) := by decide +kernel
theorem d_W_law_1336 : decode b_W_law 1336 = .ok (.iconst 2, 1) := by decide +kernel
theorem d_W_law_1337 : decode b_W_law 1337 = .ok (.iadd, 1) := by decide +kernel
theorem d_W_law_1338 : decode b_W_law 1338 = .ok (.iaload, 1) := by decide +kernel
theorem d_W_law_1339 : decode b_W_law 1339 = .ok (.invokevirtual 139, 3) := by decide +kernel
theorem d_W_law_1342 : decode b_W_law 1342 = .ok (.istore 7, 2) := by decide +kernel
theorem d_W_law_1344 : decode b_W_law 1344 = .ok (.aload_n 2, 1) := by decide +kernel
theorem d_W_law_1345 : decode b_W_law 1345 = .ok (.invokevirtual 85, 3) := by decide +kernel
theorem d_W_law_1348 : decode b_W_law 1348 = .ok (.iload 6, 2) := by decide +kernel
theorem d_W_law_1350 : decode b_W_law 1350 = .ok (.if_icmp .eq 5, 3) := by decide +kernel
theorem d_W_law_1353 : decode b_W_law 1353 = .ok (.iconst 0, 1) := by decide +kernel
theorem d_W_law_1354 : decode b_W_law 1354 = .ok (.ireturn, 1) := by decide +kernel
theorem d_W_law_1355 : decode b_W_law 1355 = .ok (.iload 6, 2) := by decide +kernel
theorem d_W_law_1357 : decode b_W_law 1357 = .ok (.ifCond .ne 15, 3) := by decide +kernel
theorem d_W_law_1360 : decode b_W_law 1360 = .ok (.aload_n 3, 1) := by decide +kernel
theorem d_W_law_1361 : decode b_W_law 1361 = .ok (.iconst 0, 1) := by decide +kernel
theorem d_W_law_1362 : decode b_W_law 1362 = .ok (.laload, 1) := by decide +kernel
theorem d_W_law_1363 : decode b_W_law 1363 = .ok (.iload 7, 2) := by decide +kernel
theorem d_W_law_1365 : decode b_W_law 1365 = .ok (.i2l, 1) := by decide +kernel
theorem d_W_law_1366 : decode b_W_law 1366 = .ok (.lcmp, 1) := by decide +kernel
theorem d_W_law_1367 : decode b_W_law 1367 = .ok (.ifCond .eq 5, 3) := by decide +kernel
theorem d_W_law_1370 : decode b_W_law 1370 = .ok (.iconst 0, 1) := by decide +kernel
theorem d_W_law_1371 : decode b_W_law 1371 = .ok (.ireturn, 1) := by decide +kernel
theorem d_W_law_1372 : decode b_W_law 1372 = .ok (.goto 59, 3) := by decide +kernel
theorem d_W_law_1375 : decode b_W_law 1375 = .ok (.aload_n 1, 1) := by decide +kernel
theorem d_W_law_1376 : decode b_W_law 1376 = .ok (.aload_n 0, 1) := by decide +kernel
theorem d_W_law_1377 : decode b_W_law 1377 = .ok (.iload 5, 2) := by decide +kernel
theorem d_W_law_1379 : decode b_W_law 1379 = .ok (.iconst 1, 1) := by decide +kernel
theorem d_W_law_1380 : decode b_W_law 1380 = .ok (.iadd, 1) := by decide +kernel
theorem d_W_law_1381 : decode b_W_law 1381 = .ok (.iaload, 1) := by decide +kernel
theorem d_W_law_1382 : decode b_W_law 1382 = .ok (.aload_n 3, 1) := by decide +kernel
theorem d_W_law_1383 : decode b_W_law 1383 = .ok (.invokestatic 140, 3) := by decide +kernel
theorem d_W_law_1386 : decode b_W_law 1386 = .ok (.istore 6, 2) := by decide +kernel
theorem d_W_law_1388 : decode b_W_law 1388 = .ok (.aload_n 2, 1) := by decide +kernel
theorem d_W_law_1389 : decode b_W_law 1389 = .ok (.aload_n 0, 1) := by decide +kernel
theorem d_W_law_1390 : decode b_W_law 1390 = .ok (.iload 5, 2) := by decide +kernel
theorem d_W_law_1392 : decode b_W_law 1392 = .ok (.iconst 1, 1) := by decide +kernel
theorem d_W_law_1393 : decode b_W_law 1393 = .ok (.iadd, 1) := by decide +kernel
theorem d_W_law_1394 : decode b_W_law 1394 = .ok (.iaload, 1) := by decide +kernel
theorem d_W_law_1395 : decode b_W_law 1395 = .ok (.invokevirtual 142, 3) := by decide +kernel
theorem d_W_law_1398 : decode b_W_law 1398 = .ok (.istore 7, 2) := by decide +kernel
theorem d_W_law_1400 : decode b_W_law 1400 = .ok (.aload_n 2, 1) := by decide +kernel
theorem d_W_law_1401 : decode b_W_law 1401 = .ok (.invokevirtual 85, 3) := by decide +kernel
theorem d_W_law_1404 : decode b_W_law 1404 = .ok (.iload 6, 2) := by decide +kernel
theorem d_W_law_1406 : decode b_W_law 1406 = .ok (.if_icmp .eq 5, 3) := by decide +kernel
theorem d_W_law_1409 : decode b_W_law 1409 = .ok (.iconst 0, 1) := by decide +kernel
theorem d_W_law_1410 : decode b_W_law 1410 = .ok (.ireturn, 1) := by decide +kernel
theorem d_W_law_1411 : decode b_W_law 1411 = .ok (.iload 6, 2) := by decide +kernel
theorem d_W_law_1413 : decode b_W_law 1413 = .ok (.ifCond .ne 15, 3) := by decide +kernel
theorem d_W_law_1416 : decode b_W_law 1416 = .ok (.aload_n 3, 1) := by decide +kernel
theorem d_W_law_1417 : decode b_W_law 1417 = .ok (.iconst 0, 1) := by decide +kernel
theorem d_W_law_1418 : decode b_W_law 1418 = .ok (.laload, 1) := by decide +kernel
theorem d_W_law_1419 : decode b_W_law 1419 = .ok (.iload 7, 2) := by decide +kernel
theorem d_W_law_1421 : decode b_W_law 1421 = .ok (.i2l, 1) := by decide +kernel
theorem d_W_law_1422 : decode b_W_law 1422 = .ok (.lcmp, 1) := by decide +kernel
theorem d_W_law_1423 : decode b_W_law 1423 = .ok (.ifCond .eq 5, 3) := by decide +kernel
theorem d_W_law_1426 : decode b_W_law 1426 = .ok (.iconst 0, 1) := by decide +kernel
theorem d_W_law_1427 : decode b_W_law 1427 = .ok (.ireturn, 1) := by decide +kernel
theorem d_W_law_1428 : decode b_W_law 1428 = .ok (.goto 3, 3) := by decide +kernel
theorem d_W_law_1431 : decode b_W_law 1431 = .ok (.iinc 5 5, 3) := by decide +kernel
theorem d_W_law_1434 : decode b_W_law 1434 = .ok (.goto (-1406), 3) := by decide +kernel
theorem d_W_law_1437 : decode b_W_law 1437 = .ok (.iconst 1, 1) := by decide +kernel
theorem d_W_law_1438 : decode b_W_law 1438 = .ok (.ireturn, 1) := by decide +kernel
