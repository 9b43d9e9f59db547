/-! ===== what stands at each place: the law, 3 ===== -/
theorem dL_law__1197 : decode cL_law_ 1197 = .ok (.aload_n 2, 1) := by decide +kernel
theorem dL_law__1198 : decode cL_law_ 1198 = .ok (.invokevirtual 152, 3) := by decide +kernel
theorem dL_law__1201 : decode cL_law_ 1201 = .ok (.iload 5, 2) := by decide +kernel
theorem dL_law__1203 : decode cL_law_ 1203 = .ok (.if_icmp .eq 5, 3) := by decide +kernel
theorem dL_law__1206 : decode cL_law_ 1206 = .ok (.iconst 0, 1) := by decide +kernel
theorem dL_law__1207 : decode cL_law_ 1207 = .ok (.ireturn, 1) := by decide +kernel
theorem dL_law__1208 : decode cL_law_ 1208 = .ok (.iload 5, 2) := by decide +kernel
theorem dL_law__1210 : decode cL_law_ 1210 = .ok (.ifCond .ne 15, 3) := by decide +kernel
theorem dL_law__1213 : decode cL_law_ 1213 = .ok (.aload_n 3, 1) := by decide +kernel
theorem dL_law__1214 : decode cL_law_ 1214 = .ok (.iconst 0, 1) := by decide +kernel
theorem dL_law__1215 : decode cL_law_ 1215 = .ok (.laload, 1) := by decide +kernel
theorem dL_law__1216 : decode cL_law_ 1216 = .ok (.iload 6, 2) := by decide +kernel
theorem dL_law__1218 : decode cL_law_ 1218 = .ok (.i2l, 1) := by decide +kernel
theorem dL_law__1219 : decode cL_law_ 1219 = .ok (.lcmp, 1) := by decide +kernel
theorem dL_law__1220 : decode cL_law_ 1220 = .ok (.ifCond .eq 5, 3) := by decide +kernel
theorem dL_law__1223 : decode cL_law_ 1223 = .ok (.iconst 0, 1) := by decide +kernel
theorem dL_law__1224 : decode cL_law_ 1224 = .ok (.ireturn, 1) := by decide +kernel
theorem dL_law__1225 : decode cL_law_ 1225 = .ok (.goto 1725, 3) := by decide +kernel
theorem dL_law__1228 : decode cL_law_ 1228 = .ok (.aload_n 1, 1) := by decide +kernel
theorem dL_law__1229 : decode cL_law_ 1229 = .ok (.aload_n 0, 1) := by decide +kernel
theorem dL_law__1230 : decode cL_law_ 1230 = .ok (.iload 4, 2) := by decide +kernel
theorem dL_law__1232 : decode cL_law_ 1232 = .ok (.iconst 1, 1) := by decide +kernel
theorem dL_law__1233 : decode cL_law_ 1233 = .ok (.iadd, 1) := by decide +kernel
theorem dL_law__1234 : decode cL_law_ 1234 = .ok (.iaload, 1) := by decide +kernel
theorem dL_law__1235 : decode cL_law_ 1235 = .ok (.aload_n 0, 1) := by decide +kernel
theorem dL_law__1236 : decode cL_law_ 1236 = .ok (.iload 4, 2) := by decide +kernel
theorem dL_law__1238 : decode cL_law_ 1238 = .ok (.iconst 2, 1) := by decide +kernel
theorem dL_law__1239 : decode cL_law_ 1239 = .ok (.iadd, 1) := by decide +kernel
theorem dL_law__1240 : decode cL_law_ 1240 = .ok (.iaload, 1) := by decide +kernel
theorem dL_law__1241 : decode cL_law_ 1241 = .ok (.aload_n 3, 1) := by decide +kernel
theorem dL_law__1242 : decode cL_law_ 1242 = .ok (.invokestatic 206, 3) := by decide +kernel
theorem dL_law__1245 : decode cL_law_ 1245 = .ok (.istore 5, 2) := by decide +kernel
theorem dL_law__1247 : decode cL_law_ 1247 = .ok (.aload_n 2, 1) := by decide +kernel
theorem dL_law__1248 : decode cL_law_ 1248 = .ok (.aload_n 0, 1) := by decide +kernel
theorem dL_law__1249 : decode cL_law_ 1249 = .ok (.iload 4, 2) := by decide +kernel
theorem dL_law__1251 : decode cL_law_ 1251 = .ok (.iconst 1, 1) := by decide +kernel
theorem dL_law__1252 : decode cL_law_ 1252 = .ok (.iadd, 1) := by decide +kernel
theorem dL_law__1253 : decode cL_law_ 1253 = .ok (.iaload, 1) := by decide +kernel
theorem dL_law__1254 : decode cL_law_ 1254 = .ok (.aload_n 0, 1) := by decide +kernel
theorem dL_law__1255 : decode cL_law_ 1255 = .ok (.iload 4, 2) := by decide +kernel
theorem dL_law__1257 : decode cL_law_ 1257 = .ok (.iconst 2, 1) := by decide +kernel
theorem dL_law__1258 : decode cL_law_ 1258 = .ok (.iadd, 1) := by decide +kernel
theorem dL_law__1259 : decode cL_law_ 1259 = .ok (.iaload, 1) := by decide +kernel
theorem dL_law__1260 : decode cL_law_ 1260 = .ok (.invokevirtual 208, 3) := by decide +kernel
theorem dL_law__1263 : decode cL_law_ 1263 = .ok (.istore 6, 2) := by decide +kernel
theorem dL_law__1265 : decode cL_law_ 1265 = .ok (.aload_n 2, 1) := by decide +kernel
theorem dL_law__1266 : decode cL_law_ 1266 = .ok (.invokevirtual 152, 3) := by decide +kernel
theorem dL_law__1269 : decode cL_law_ 1269 = .ok (.iload 5, 2) := by decide +kernel
theorem dL_law__1271 : decode cL_law_ 1271 = .ok (.if_icmp .eq 5, 3) := by decide +kernel
theorem dL_law__1274 : decode cL_law_ 1274 = .ok (.iconst 0, 1) := by decide +kernel
theorem dL_law__1275 : decode cL_law_ 1275 = .ok (.ireturn, 1) := by decide +kernel
theorem dL_law__1276 : decode cL_law_ 1276 = .ok (.iload 5, 2) := by decide +kernel
theorem dL_law__1278 : decode cL_law_ 1278 = .ok (.ifCond .ne 15, 3) := by decide +kernel
theorem dL_law__1281 : decode cL_law_ 1281 = .ok (.aload_n 3, 1) := by decide +kernel
theorem dL_law__1282 : decode cL_law_ 1282 = .ok (.iconst 0, 1) := by decide +kernel
theorem dL_law__1283 : decode cL_law_ 1283 = .ok (.laload, 1) := by decide +kernel
theorem dL_law__1284 : decode cL_law_ 1284 = .ok (.iload 6, 2) := by decide +kernel
theorem dL_law__1286 : decode cL_law_ 1286 = .ok (.i2l, 1) := by decide +kernel
theorem dL_law__1287 : decode cL_law_ 1287 = .ok (.lcmp, 1) := by decide +kernel
theorem dL_law__1288 : decode cL_law_ 1288 = .ok (.ifCond .eq 5, 3) := by decide +kernel
theorem dL_law__1291 : decode cL_law_ 1291 = .ok (.iconst 0, 1) := by decide +kernel
theorem dL_law__1292 : decode cL_law_ 1292 = .ok (.ireturn, 1) := by decide +kernel
theorem dL_law__1293 : decode cL_law_ 1293 = .ok (.goto 1657, 3) := by decide +kernel
theorem dL_law__1296 : decode cL_law_ 1296 = .ok (.aload_n 1, 1) := by decide +kernel
theorem dL_law__1297 : decode cL_law_ 1297 = .ok (.aload_n 0, 1) := by decide +kernel
theorem dL_law__1298 : decode cL_law_ 1298 = .ok (.iload 4, 2) := by decide +kernel
theorem dL_law__1300 : decode cL_law_ 1300 = .ok (.iconst 1, 1) := by decide +kernel
theorem dL_law__1301 : decode cL_law_ 1301 = .ok (.iadd, 1) := by decide +kernel
theorem dL_law__1302 : decode cL_law_ 1302 = .ok (.iaload, 1) := by decide +kernel
theorem dL_law__1303 : decode cL_law_ 1303 = .ok (.aload_n 0, 1) := by decide +kernel
theorem dL_law__1304 : decode cL_law_ 1304 = .ok (.iload 4, 2) := by decide +kernel
theorem dL_law__1306 : decode cL_law_ 1306 = .ok (.iconst 2, 1) := by decide +kernel
theorem dL_law__1307 : decode cL_law_ 1307 = .ok (.iadd, 1) := by decide +kernel
theorem dL_law__1308 : decode cL_law_ 1308 = .ok (.iaload, 1) := by decide +kernel
theorem dL_law__1309 : decode cL_law_ 1309 = .ok (.aload_n 3, 1) := by decide +kernel
theorem dL_law__1310 : decode cL_law_ 1310 = .ok (.invokestatic 209, 3) := by decide +kernel
theorem dL_law__1313 : decode cL_law_ 1313 = .ok (.istore 5, 2) := by decide +kernel
theorem dL_law__1315 : decode cL_law_ 1315 = .ok (.aload_n 2, 1) := by decide +kernel
theorem dL_law__1316 : decode cL_law_ 1316 = .ok (.aload_n 0, 1) := by decide +kernel
theorem dL_law__1317 : decode cL_law_ 1317 = .ok (.iload 4, 2) := by decide +kernel
theorem dL_law__1319 : decode cL_law_ 1319 = .ok (.iconst 1, 1) := by decide +kernel
theorem dL_law__1320 : decode cL_law_ 1320 = .ok (.iadd, 1) := by decide +kernel
theorem dL_law__1321 : decode cL_law_ 1321 = .ok (.iaload, 1) := by decide +kernel
theorem dL_law__1322 : decode cL_law_ 1322 = .ok (.aload_n 0, 1) := by decide +kernel
theorem dL_law__1323 : decode cL_law_ 1323 = .ok (.iload 4, 2) := by decide +kernel
theorem dL_law__1325 : decode cL_law_ 1325 = .ok (.iconst 2, 1) := by decide +kernel
theorem dL_law__1326 : decode cL_law_ 1326 = .ok (.iadd, 1) := by decide +kernel
theorem dL_law__1327 : decode cL_law_ 1327 = .ok (.iaload, 1) := by decide +kernel
theorem dL_law__1328 : decode cL_law_ 1328 = .ok (.invokevirtual 211, 3) := by decide +kernel
theorem dL_law__1331 : decode cL_law_ 1331 = .ok (.istore 6, 2) := by decide +kernel
theorem dL_law__1333 : decode cL_law_ 1333 = .ok (.aload_n 2, 1) := by decide +kernel
theorem dL_law__1334 : decode cL_law_ 1334 = .ok (.invokevirtual 152, 3) := by decide +kernel
theorem dL_law__1337 : decode cL_law_ 1337 = .ok (.iload 5, 2) := by decide +kernel
theorem dL_law__1339 : decode cL_law_ 1339 = .ok (.if_icmp .eq 5, 3) := by decide +kernel
theorem dL_law__1342 : decode cL_law_ 1342 = .ok (.iconst 0, 1) := by decide +kernel
theorem dL_law__1343 : decode cL_law_ 1343 = .ok (.ireturn, 1) := by decide +kernel
theorem dL_law__1344 : decode cL_law_ 1344 = .ok (.iload 5, 2) := by decide +kernel
theorem dL_law__1346 : decode cL_law_ 1346 = .ok (.ifCond .ne 15, 3) := by decide +kernel
theorem dL_law__1349 : decode cL_law_ 1349 = .ok (.aload_n 3, 1) := by decide +kernel
theorem dL_law__1350 : decode cL_law_ 1350 = .ok (.iconst 0, 1) := by decide +kernel
theorem dL_law__1351 : decode cL_law_ 1351 = .ok (.laload, 1) := by decide +kernel
theorem dL_law__1352 : decode cL_law_ 1352 = .ok (.iload 6, 2) := by decide +kernel
theorem dL_law__1354 : decode cL_law_ 1354 = .ok (.i2l, 1) := by decide +kernel
theorem dL_law__1355 : decode cL_law_ 1355 = .ok (.lcmp, 1) := by decide +kernel
theorem dL_law__1356 : decode cL_law_ 1356 = .ok (.ifCond .eq 5, 3) := by decide +kernel
theorem dL_law__1359 : decode cL_law_ 1359 = .ok (.iconst 0, 1) := by decide +kernel
theorem dL_law__1360 : decode cL_law_ 1360 = .ok (.ireturn, 1) := by decide +kernel
theorem dL_law__1361 : decode cL_law_ 1361 = .ok (.goto 1589, 3) := by decide +kernel
theorem dL_law__1364 : decode cL_law_ 1364 = .ok (.aload_n 1, 1) := by decide +kernel
theorem dL_law__1365 : decode cL_law_ 1365 = .ok (.aload_n 0, 1) := by decide +kernel
theorem dL_law__1366 : decode cL_law_ 1366 = .ok (.iload 4, 2) := by decide +kernel
theorem dL_law__1368 : decode cL_law_ 1368 = .ok (.iconst 1, 1) := by decide +kernel
theorem dL_law__1369 : decode cL_law_ 1369 = .ok (.iadd, 1) := by decide +kernel
theorem dL_law__1370 : decode cL_law_ 1370 = .ok (.iaload, 1) := by decide +kernel
theorem dL_law__1371 : decode cL_law_ 1371 = .ok (.aload_n 0, 1) := by decide +kernel
theorem dL_law__1372 : decode cL_law_ 1372 = .ok (.iload 4, 2) := by decide +kernel
theorem dL_law__1374 : decode cL_law_ 1374 = .ok (.iconst 2, 1) := by decide +kernel
theorem dL_law__1375 : decode cL_law_ 1375 = .ok (.iadd, 1) := by decide +kernel
theorem dL_law__1376 : decode cL_law_ 1376 = .ok (.iaload, 1) := by decide +kernel
theorem dL_law__1377 : decode cL_law_ 1377 = .ok (.aload_n 3, 1) := by decide +kernel
theorem dL_law__1378 : decode cL_law_ 1378 = .ok (.invokestatic 212, 3) := by decide +kernel
theorem dL_law__1381 : decode cL_law_ 1381 = .ok (.istore 5, 2) := by decide +kernel
theorem dL_law__1383 : decode cL_law_ 1383 = .ok (.aload_n 2, 1) := by decide +kernel
theorem dL_law__1384 : decode cL_law_ 1384 = .ok (.aload_n 0, 1) := by decide +kernel
theorem dL_law__1385 : decode cL_law_ 1385 = .ok (.iload 4, 2) := by decide +kernel
theorem dL_law__1387 : decode cL_law_ 1387 = .ok (.iconst 1, 1) := by decide +kernel
theorem dL_law__1388 : decode cL_law_ 1388 = .ok (.iadd, 1) := by decide +kernel
theorem dL_law__1389 : decode cL_law_ 1389 = .ok (.iaload, 1) := by decide +kernel
theorem dL_law__1390 : decode cL_law_ 1390 = .ok (.aload_n 0, 1) := by decide +kernel
theorem dL_law__1391 : decode cL_law_ 1391 = .ok (.iload 4, 2) := by decide +kernel
theorem dL_law__1393 : decode cL_law_ 1393 = .ok (.iconst 2, 1) := by decide +kernel
theorem dL_law__1394 : decode cL_law_ 1394 = .ok (.iadd, 1) := by decide +kernel
theorem dL_law__1395 : decode cL_law_ 1395 = .ok (.iaload, 1) := by decide +kernel
theorem dL_law__1396 : decode cL_law_ 1396 = .ok (.invokevirtual 214, 3) := by decide +kernel
theorem dL_law__1399 : decode cL_law_ 1399 = .ok (.istore 6, 2) := by decide +kernel
theorem dL_law__1401 : decode cL_law_ 1401 = .ok (.aload_n 2, 1) := by decide +kernel
theorem dL_law__1402 : decode cL_law_ 1402 = .ok (.invokevirtual 152, 3) := by decide +kernel
theorem dL_law__1405 : decode cL_law_ 1405 = .ok (.iload 5, 2) := by decide +kernel
theorem dL_law__1407 : decode cL_law_ 1407 = .ok (.if_icmp .eq 5, 3) := by decide +kernel
theorem dL_law__1410 : decode cL_law_ 1410 = .ok (.iconst 0, 1) := by decide +kernel
theorem dL_law__1411 : decode cL_law_ 1411 = .ok (.ireturn, 1) := by decide +kernel
theorem dL_law__1412 : decode cL_law_ 1412 = .ok (.iload 5, 2) := by decide +kernel
theorem dL_law__1414 : decode cL_law_ 1414 = .ok (.ifCond .ne 15, 3) := by decide +kernel
theorem dL_law__1417 : decode cL_law_ 1417 = .ok (.aload_n 3, 1) := by decide +kernel
theorem dL_law__1418 : decode cL_law_ 1418 = .ok (.iconst 0, 1) := by decide +kernel
theorem dL_law__1419 : decode cL_law_ 1419 = .ok (.laload, 1) := by decide +kernel
theorem dL_law__1420 : decode cL_law_ 1420 = .ok (.iload 6, 2) := by decide +kernel
theorem dL_law__1422 : decode cL_law_ 1422 = .ok (.i2l, 1) := by decide +kernel
theorem dL_law__1423 : decode cL_law_ 1423 = .ok (.lcmp, 1) := by decide +kernel
theorem dL_law__1424 : decode cL_law_ 1424 = .ok (.ifCond .eq 5, 3) := by decide +kernel
theorem dL_law__1427 : decode cL_law_ 1427 = .ok (.iconst 0, 1) := by decide +kernel
theorem dL_law__1428 : decode cL_law_ 1428 = .ok (.ireturn, 1) := by decide +kernel
theorem dL_law__1429 : decode cL_law_ 1429 = .ok (.goto 1521, 3) := by decide +kernel
theorem dL_law__1432 : decode cL_law_ 1432 = .ok (.aload_n 1, 1) := by decide +kernel
theorem dL_law__1433 : decode cL_law_ 1433 = .ok (.aload_n 0, 1) := by decide +kernel
theorem dL_law__1434 : decode cL_law_ 1434 = .ok (.iload 4, 2) := by decide +kernel
theorem dL_law__1436 : decode cL_law_ 1436 = .ok (.iconst 1, 1) := by decide +kernel
theorem dL_law__1437 : decode cL_law_ 1437 = .ok (.iadd, 1) := by decide +kernel
theorem dL_law__1438 : decode cL_law_ 1438 = .ok (.iaload, 1) := by decide +kernel
theorem dL_law__1439 : decode cL_law_ 1439 = .ok (.aload_n 0, 1) := by decide +kernel
theorem dL_law__1440 : decode cL_law_ 1440 = .ok (.iload 4, 2) := by decide +kernel
theorem dL_law__1442 : decode cL_law_ 1442 = .ok (.iconst 2, 1) := by decide +kernel
theorem dL_law__1443 : decode cL_law_ 1443 = .ok (.iadd, 1) := by decide +kernel
theorem dL_law__1444 : decode cL_law_ 1444 = .ok (.iaload, 1) := by decide +kernel
theorem dL_law__1445 : decode cL_law_ 1445 = .ok (.aload_n 3, 1) := by decide +kernel
theorem dL_law__1446 : decode cL_law_ 1446 = .ok (.invokestatic 215, 3) := by decide +kernel
theorem dL_law__1449 : decode cL_law_ 1449 = .ok (.istore 5, 2) := by decide +kernel
theorem dL_law__1451 : decode cL_law_ 1451 = .ok (.aload_n 2, 1) := by decide +kernel
theorem dL_law__1452 : decode cL_law_ 1452 = .ok (.aload_n 0, 1) := by decide +kernel
theorem dL_law__1453 : decode cL_law_ 1453 = .ok (.iload 4, 2) := by decide +kernel
theorem dL_law__1455 : decode cL_law_ 1455 = .ok (.iconst 1, 1) := by decide +kernel
theorem dL_law__1456 : decode cL_law_ 1456 = .ok (.iadd, 1) := by decide +kernel
theorem dL_law__1457 : decode cL_law_ 1457 = .ok (.iaload, 1) := by decide +kernel
theorem dL_law__1458 : decode cL_law_ 1458 = .ok (.aload_n 0, 1) := by decide +kernel
theorem dL_law__1459 : decode cL_law_ 1459 = .ok (.iload 4, 2) := by decide +kernel
theorem dL_law__1461 : decode cL_law_ 1461 = .ok (.iconst 2, 1) := by decide +kernel
theorem dL_law__1462 : decode cL_law_ 1462 = .ok (.iadd, 1) := by decide +kernel
theorem dL_law__1463 : decode cL_law_ 1463 = .ok (.iaload, 1) := by decide +kernel
theorem dL_law__1464 : decode cL_law_ 1464 = .ok (.invokevirtual 217, 3) := by decide +kernel
theorem dL_law__1467 : decode cL_law_ 1467 = .ok (.istore 6, 2) := by decide +kernel
theorem dL_law__1469 : decode cL_law_ 1469 = .ok (.aload_n 2, 1) := by decide +kernel
theorem dL_law__1470 : decode cL_law_ 1470 = .ok (.invokevirtual 152, 3) := by decide +kernel
theorem dL_law__1473 : decode cL_law_ 1473 = .ok (.iload 5, 2) := by decide +kernel
theorem dL_law__1475 : decode cL_law_ 1475 = .ok (.if_icmp .eq 5, 3) := by decide +kernel
theorem dL_law__1478 : decode cL_law_ 1478 = .ok (.iconst 0, 1) := by decide +kernel
theorem dL_law__1479 : decode cL_law_ 1479 = .ok (.ireturn, 1) := by decide +kernel
theorem dL_law__1480 : decode cL_law_ 1480 = .ok (.iload 5, 2) := by decide +kernel
theorem dL_law__1482 : decode cL_law_ 1482 = .ok (.ifCond .ne 15, 3) := by decide +kernel
theorem dL_law__1485 : decode cL_law_ 1485 = .ok (.aload_n 3, 1) := by decide +kernel
theorem dL_law__1486 : decode cL_law_ 1486 = .ok (.iconst 0, 1) := by decide +kernel
theorem dL_law__1487 : decode cL_law_ 1487 = .ok (.laload, 1) := by decide +kernel
theorem dL_law__1488 : decode cL_law_ 1488 = .ok (.iload 6, 2) := by decide +kernel
theorem dL_law__1490 : decode cL_law_ 1490 = .ok (.i2l, 1) := by decide +kernel
theorem dL_law__1491 : decode cL_law_ 1491 = .ok (.lcmp, 1) := by decide +kernel
theorem dL_law__1492 : decode cL_law_ 1492 = .ok (.ifCond .eq 5, 3) := by decide +kernel
theorem dL_law__1495 : decode cL_law_ 1495 = .ok (.iconst 0, 1) := by decide +kernel
theorem dL_law__1496 : decode cL_law_ 1496 = .ok (.ireturn, 1) := by decide +kernel
theorem dL_law__1497 : decode cL_law_ 1497 = .ok (.goto 1453, 3) := by decide +kernel
theorem dL_law__1500 : decode cL_law_ 1500 = .ok (.aload_n 1, 1) := by decide +kernel
theorem dL_law__1501 : decode cL_law_ 1501 = .ok (.aload_n 0, 1) := by decide +kernel
theorem dL_law__1502 : decode cL_law_ 1502 = .ok (.iload 4, 2) := by decide +kernel
theorem dL_law__1504 : decode cL_law_ 1504 = .ok (.iconst 1, 1) := by decide +kernel
theorem dL_law__1505 : decode cL_law_ 1505 = .ok (.iadd, 1) := by decide +kernel
theorem dL_law__1506 : decode cL_law_ 1506 = .ok (.iaload, 1) := by decide +kernel
theorem dL_law__1507 : decode cL_law_ 1507 = .ok (.aload_n 0, 1) := by decide +kernel
theorem dL_law__1508 : decode cL_law_ 1508 = .ok (.iload 4, 2) := by decide +kernel
theorem dL_law__1510 : decode cL_law_ 1510 = .ok (.iconst 2, 1) := by decide +kernel
theorem dL_law__1511 : decode cL_law_ 1511 = .ok (.iadd, 1) := by decide +kernel
theorem dL_law__1512 : decode cL_law_ 1512 = .ok (.iaload, 1) := by decide +kernel
theorem dL_law__1513 : decode cL_law_ 1513 = .ok (.aload_n 0, 1) := by decide +kernel
theorem dL_law__1514 : decode cL_law_ 1514 = .ok (.iload 4, 2) := by decide +kernel
theorem dL_law__1516 : decode cL_law_ 1516 = .ok (.iconst 3, 1) := by decide +kernel
theorem dL_law__1517 : decode cL_law_ 1517 = .ok (.iadd, 1) := by decide +kernel
theorem dL_law__1518 : decode cL_law_ 1518 = .ok (.iaload, 1) := by decide +kernel
theorem dL_law__1519 : decode cL_law_ 1519 = .ok (.aload_n 0, 1) := by decide +kernel
theorem dL_law__1520 : decode cL_law_ 1520 = .ok (.iload 4, 2) := by decide +kernel
theorem dL_law__1522 : decode cL_law_ 1522 = .ok (.iconst 4, 1) := by decide +kernel
theorem dL_law__1523 : decode cL_law_ 1523 = .ok (.iadd, 1) := by decide +kernel
theorem dL_law__1524 : decode cL_law_ 1524 = .ok (.iaload, 1) := by decide +kernel
theorem dL_law__1525 : decode cL_law_ 1525 = .ok (.aload_n 3, 1) := by decide +kernel

