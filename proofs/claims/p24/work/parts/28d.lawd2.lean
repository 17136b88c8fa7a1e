theorem d_lw_1203 : decode code 1203 = .ok (.iload 4, 2) := by decide +kernel
theorem d_lw_1205 : decode code 1205 = .ok (.iconst 1, 1) := by decide +kernel
theorem d_lw_1206 : decode code 1206 = .ok (.iadd, 1) := by decide +kernel
theorem d_lw_1207 : decode code 1207 = .ok (.iaload, 1) := by decide +kernel
theorem d_lw_1208 : decode code 1208 = .ok (.aload_n 0, 1) := by decide +kernel
theorem d_lw_1209 : decode code 1209 = .ok (.iload 4, 2) := by decide +kernel
theorem d_lw_1211 : decode code 1211 = .ok (.iconst 2, 1) := by decide +kernel
theorem d_lw_1212 : decode code 1212 = .ok (.iadd, 1) := by decide +kernel
theorem d_lw_1213 : decode code 1213 = .ok (.iaload, 1) := by decide +kernel
theorem d_lw_1214 : decode code 1214 = .ok (.invokevirtual 136, 3) := by decide +kernel
theorem d_lw_1217 : decode code 1217 = .ok (.pop2, 1) := by decide +kernel
theorem d_lw_1218 : decode code 1218 = .ok (.aload_n 2, 1) := by decide +kernel
theorem d_lw_1219 : decode code 1219 = .ok (.aload_n 0, 1) := by decide +kernel
theorem d_lw_1220 : decode code 1220 = .ok (.iload 4, 2) := by decide +kernel
theorem d_lw_1222 : decode code 1222 = .ok (.iconst 1, 1) := by decide +kernel
theorem d_lw_1223 : decode code 1223 = .ok (.iadd, 1) := by decide +kernel
theorem d_lw_1224 : decode code 1224 = .ok (.iaload, 1) := by decide +kernel
theorem d_lw_1225 : decode code 1225 = .ok (.aload_n 0, 1) := by decide +kernel
theorem d_lw_1226 : decode code 1226 = .ok (.iload 4, 2) := by decide +kernel
theorem d_lw_1228 : decode code 1228 = .ok (.iconst 2, 1) := by decide +kernel
theorem d_lw_1229 : decode code 1229 = .ok (.iadd, 1) := by decide +kernel
theorem d_lw_1230 : decode code 1230 = .ok (.iaload, 1) := by decide +kernel
theorem d_lw_1231 : decode code 1231 = .ok (.invokevirtual 140, 3) := by decide +kernel
theorem d_lw_1234 : decode code 1234 = .ok (.pop2, 1) := by decide +kernel
theorem d_lw_1235 : decode code 1235 = .ok (.goto 957, 3) := by decide +kernel
theorem d_lw_1238 : decode code 1238 = .ok (.aload_n 1, 1) := by decide +kernel
theorem d_lw_1239 : decode code 1239 = .ok (.aload_n 0, 1) := by decide +kernel
theorem d_lw_1240 : decode code 1240 = .ok (.iload 4, 2) := by decide +kernel
theorem d_lw_1242 : decode code 1242 = .ok (.iconst 1, 1) := by decide +kernel
theorem d_lw_1243 : decode code 1243 = .ok (.iadd, 1) := by decide +kernel
theorem d_lw_1244 : decode code 1244 = .ok (.iaload, 1) := by decide +kernel
theorem d_lw_1245 : decode code 1245 = .ok (.aload_n 0, 1) := by decide +kernel
theorem d_lw_1246 : decode code 1246 = .ok (.iload 4, 2) := by decide +kernel
theorem d_lw_1248 : decode code 1248 = .ok (.iconst 2, 1) := by decide +kernel
theorem d_lw_1249 : decode code 1249 = .ok (.iadd, 1) := by decide +kernel
theorem d_lw_1250 : decode code 1250 = .ok (.iaload, 1) := by decide +kernel
theorem d_lw_1251 : decode code 1251 = .ok (.invokevirtual 141, 3) := by decide +kernel
theorem d_lw_1254 : decode code 1254 = .ok (.pop2, 1) := by decide +kernel
theorem d_lw_1255 : decode code 1255 = .ok (.aload_n 2, 1) := by decide +kernel
theorem d_lw_1256 : decode code 1256 = .ok (.aload_n 0, 1) := by decide +kernel
theorem d_lw_1257 : decode code 1257 = .ok (.iload 4, 2) := by decide +kernel
theorem d_lw_1259 : decode code 1259 = .ok (.iconst 1, 1) := by decide +kernel
theorem d_lw_1260 : decode code 1260 = .ok (.iadd, 1) := by decide +kernel
theorem d_lw_1261 : decode code 1261 = .ok (.iaload, 1) := by decide +kernel
theorem d_lw_1262 : decode code 1262 = .ok (.aload_n 0, 1) := by decide +kernel
theorem d_lw_1263 : decode code 1263 = .ok (.iload 4, 2) := by decide +kernel
theorem d_lw_1265 : decode code 1265 = .ok (.iconst 2, 1) := by decide +kernel
theorem d_lw_1266 : decode code 1266 = .ok (.iadd, 1) := by decide +kernel
theorem d_lw_1267 : decode code 1267 = .ok (.iaload, 1) := by decide +kernel
theorem d_lw_1268 : decode code 1268 = .ok (.invokevirtual 144, 3) := by decide +kernel
theorem d_lw_1271 : decode code 1271 = .ok (.pop2, 1) := by decide +kernel
theorem d_lw_1272 : decode code 1272 = .ok (.goto 920, 3) := by decide +kernel
theorem d_lw_1275 : decode code 1275 = .ok (.aload_n 1, 1) := by decide +kernel
theorem d_lw_1276 : decode code 1276 = .ok (.aload_n 0, 1) := by decide +kernel
theorem d_lw_1277 : decode code 1277 = .ok (.iload 4, 2) := by decide +kernel
theorem d_lw_1279 : decode code 1279 = .ok (.iconst 1, 1) := by decide +kernel
theorem d_lw_1280 : decode code 1280 = .ok (.iadd, 1) := by decide +kernel
theorem d_lw_1281 : decode code 1281 = .ok (.iaload, 1) := by decide +kernel
theorem d_lw_1282 : decode code 1282 = .ok (.aload_n 0, 1) := by decide +kernel
theorem d_lw_1283 : decode code 1283 = .ok (.iload 4, 2) := by decide +kernel
theorem d_lw_1285 : decode code 1285 = .ok (.iconst 2, 1) := by decide +kernel
theorem d_lw_1286 : decode code 1286 = .ok (.iadd, 1) := by decide +kernel
theorem d_lw_1287 : decode code 1287 = .ok (.iaload, 1) := by decide +kernel
theorem d_lw_1288 : decode code 1288 = .ok (.invokevirtual 145, 3) := by decide +kernel
theorem d_lw_1291 : decode code 1291 = .ok (.pop2, 1) := by decide +kernel
theorem d_lw_1292 : decode code 1292 = .ok (.aload_n 2, 1) := by decide +kernel
theorem d_lw_1293 : decode code 1293 = .ok (.aload_n 0, 1) := by decide +kernel
theorem d_lw_1294 : decode code 1294 = .ok (.iload 4, 2) := by decide +kernel
theorem d_lw_1296 : decode code 1296 = .ok (.iconst 1, 1) := by decide +kernel
theorem d_lw_1297 : decode code 1297 = .ok (.iadd, 1) := by decide +kernel
theorem d_lw_1298 : decode code 1298 = .ok (.iaload, 1) := by decide +kernel
theorem d_lw_1299 : decode code 1299 = .ok (.aload_n 0, 1) := by decide +kernel
theorem d_lw_1300 : decode code 1300 = .ok (.iload 4, 2) := by decide +kernel
theorem d_lw_1302 : decode code 1302 = .ok (.iconst 2, 1) := by decide +kernel
theorem d_lw_1303 : decode code 1303 = .ok (.iadd, 1) := by decide +kernel
theorem d_lw_1304 : decode code 1304 = .ok (.iaload, 1) := by decide +kernel
theorem d_lw_1305 : decode code 1305 = .ok (.invokevirtual 148, 3) := by decide +kernel
theorem d_lw_1308 : decode code 1308 = .ok (.pop2, 1) := by decide +kernel
theorem d_lw_1309 : decode code 1309 = .ok (.goto 883, 3) := by decide +kernel
theorem d_lw_1312 : decode code 1312 = .ok (.aload_n 1, 1) := by decide +kernel
theorem d_lw_1313 : decode code 1313 = .ok (.aload_n 0, 1) := by decide +kernel
theorem d_lw_1314 : decode code 1314 = .ok (.iload 4, 2) := by decide +kernel
theorem d_lw_1316 : decode code 1316 = .ok (.iconst 1, 1) := by decide +kernel
theorem d_lw_1317 : decode code 1317 = .ok (.iadd, 1) := by decide +kernel
theorem d_lw_1318 : decode code 1318 = .ok (.iaload, 1) := by decide +kernel
theorem d_lw_1319 : decode code 1319 = .ok (.aload_n 0, 1) := by decide +kernel
theorem d_lw_1320 : decode code 1320 = .ok (.iload 4, 2) := by decide +kernel
theorem d_lw_1322 : decode code 1322 = .ok (.iconst 2, 1) := by decide +kernel
theorem d_lw_1323 : decode code 1323 = .ok (.iadd, 1) := by decide +kernel
theorem d_lw_1324 : decode code 1324 = .ok (.iaload, 1) := by decide +kernel
theorem d_lw_1325 : decode code 1325 = .ok (.i2l, 1) := by decide +kernel
theorem d_lw_1326 : decode code 1326 = .ok (.bipush 32, 2) := by decide +kernel
theorem d_lw_1328 : decode code 1328 = .ok (.lshl, 1) := by decide +kernel
theorem d_lw_1329 : decode code 1329 = .ok (.aload_n 0, 1) := by decide +kernel
theorem d_lw_1330 : decode code 1330 = .ok (.iload 4, 2) := by decide +kernel
theorem d_lw_1332 : decode code 1332 = .ok (.iconst 3, 1) := by decide +kernel
theorem d_lw_1333 : decode code 1333 = .ok (.iadd, 1) := by decide +kernel
theorem d_lw_1334 : decode code 1334 = .ok (.iaload, 1) := by decide +kernel
theorem d_lw_1335 : decode code 1335 = .ok (.i2l, 1) := by decide +kernel
theorem d_lw_1336 : decode code 1336 = .ok (.ldc2_w 149, 3) := by decide +kernel
theorem d_lw_1339 : decode code 1339 = .ok (.land, 1) := by decide +kernel
theorem d_lw_1340 : decode code 1340 = .ok (.lor, 1) := by decide +kernel
theorem d_lw_1341 : decode code 1341 = .ok (.invokevirtual 151, 3) := by decide +kernel
theorem d_lw_1344 : decode code 1344 = .ok (.pop, 1) := by decide +kernel
theorem d_lw_1345 : decode code 1345 = .ok (.aload_n 2, 1) := by decide +kernel
theorem d_lw_1346 : decode code 1346 = .ok (.aload_n 0, 1) := by decide +kernel
theorem d_lw_1347 : decode code 1347 = .ok (.iload 4, 2) := by decide +kernel
theorem d_lw_1349 : decode code 1349 = .ok (.iconst 1, 1) := by decide +kernel
theorem d_lw_1350 : decode code 1350 = .ok (.iadd, 1) := by decide +kernel
theorem d_lw_1351 : decode code 1351 = .ok (.iaload, 1) := by decide +kernel
theorem d_lw_1352 : decode code 1352 = .ok (.aload_n 0, 1) := by decide +kernel
theorem d_lw_1353 : decode code 1353 = .ok (.iload 4, 2) := by decide +kernel
theorem d_lw_1355 : decode code 1355 = .ok (.iconst 2, 1) := by decide +kernel
theorem d_lw_1356 : decode code 1356 = .ok (.iadd, 1) := by decide +kernel
theorem d_lw_1357 : decode code 1357 = .ok (.iaload, 1) := by decide +kernel
theorem d_lw_1358 : decode code 1358 = .ok (.i2l, 1) := by decide +kernel
theorem d_lw_1359 : decode code 1359 = .ok (.bipush 32, 2) := by decide +kernel
theorem d_lw_1361 : decode code 1361 = .ok (.lshl, 1) := by decide +kernel
theorem d_lw_1362 : decode code 1362 = .ok (.aload_n 0, 1) := by decide +kernel
theorem d_lw_1363 : decode code 1363 = .ok (.iload 4, 2) := by decide +kernel
theorem d_lw_1365 : decode code 1365 = .ok (.iconst 3, 1) := by decide +kernel
theorem d_lw_1366 : decode code 1366 = .ok (.iadd, 1) := by decide +kernel
theorem d_lw_1367 : decode code 1367 = .ok (.iaload, 1) := by decide +kernel
theorem d_lw_1368 : decode code 1368 = .ok (.i2l, 1) := by decide +kernel
theorem d_lw_1369 : decode code 1369 = .ok (.ldc2_w 149, 3) := by decide +kernel
theorem d_lw_1372 : decode code 1372 = .ok (.land, 1) := by decide +kernel
theorem d_lw_1373 : decode code 1373 = .ok (.lor, 1) := by decide +kernel
theorem d_lw_1374 : decode code 1374 = .ok (.invokevirtual 155, 3) := by decide +kernel
theorem d_lw_1377 : decode code 1377 = .ok (.pop, 1) := by decide +kernel
theorem d_lw_1378 : decode code 1378 = .ok (.goto 814, 3) := by decide +kernel
theorem d_lw_1381 : decode code 1381 = .ok (.aload_n 1, 1) := by decide +kernel
theorem d_lw_1382 : decode code 1382 = .ok (.aload_n 0, 1) := by decide +kernel
theorem d_lw_1383 : decode code 1383 = .ok (.iload 4, 2) := by decide +kernel
theorem d_lw_1385 : decode code 1385 = .ok (.iconst 1, 1) := by decide +kernel
theorem d_lw_1386 : decode code 1386 = .ok (.iadd, 1) := by decide +kernel
theorem d_lw_1387 : decode code 1387 = .ok (.iaload, 1) := by decide +kernel
theorem d_lw_1388 : decode code 1388 = .ok (.aload_n 0, 1) := by decide +kernel
theorem d_lw_1389 : decode code 1389 = .ok (.iload 4, 2) := by decide +kernel
theorem d_lw_1391 : decode code 1391 = .ok (.iconst 2, 1) := by decide +kernel
theorem d_lw_1392 : decode code 1392 = .ok (.iadd, 1) := by decide +kernel
theorem d_lw_1393 : decode code 1393 = .ok (.iaload, 1) := by decide +kernel
theorem d_lw_1394 : decode code 1394 = .ok (.invokevirtual 156, 3) := by decide +kernel
theorem d_lw_1397 : decode code 1397 = .ok (.pop2, 1) := by decide +kernel
theorem d_lw_1398 : decode code 1398 = .ok (.aload_n 2, 1) := by decide +kernel
theorem d_lw_1399 : decode code 1399 = .ok (.aload_n 0, 1) := by decide +kernel
theorem d_lw_1400 : decode code 1400 = .ok (.iload 4, 2) := by decide +kernel
theorem d_lw_1402 : decode code 1402 = .ok (.iconst 1, 1) := by decide +kernel
theorem d_lw_1403 : decode code 1403 = .ok (.iadd, 1) := by decide +kernel
theorem d_lw_1404 : decode code 1404 = .ok (.iaload, 1) := by decide +kernel
theorem d_lw_1405 : decode code 1405 = .ok (.aload_n 0, 1) := by decide +kernel
theorem d_lw_1406 : decode code 1406 = .ok (.iload 4, 2) := by decide +kernel
theorem d_lw_1408 : decode code 1408 = .ok (.iconst 2, 1) := by decide +kernel
theorem d_lw_1409 : decode code 1409 = .ok (.iadd, 1) := by decide +kernel
theorem d_lw_1410 : decode code 1410 = .ok (.iaload, 1) := by decide +kernel
theorem d_lw_1411 : decode code 1411 = .ok (.invokevirtual 159, 3) := by decide +kernel
theorem d_lw_1414 : decode code 1414 = .ok (.pop2, 1) := by decide +kernel
theorem d_lw_1415 : decode code 1415 = .ok (.goto 777, 3) := by decide +kernel
theorem d_lw_1418 : decode code 1418 = .ok (.aload_n 1, 1) := by decide +kernel
theorem d_lw_1419 : decode code 1419 = .ok (.aload_n 0, 1) := by decide +kernel
theorem d_lw_1420 : decode code 1420 = .ok (.iload 4, 2) := by decide +kernel
theorem d_lw_1422 : decode code 1422 = .ok (.iconst 1, 1) := by decide +kernel
theorem d_lw_1423 : decode code 1423 = .ok (.iadd, 1) := by decide +kernel
theorem d_lw_1424 : decode code 1424 = .ok (.iaload, 1) := by decide +kernel
theorem d_lw_1425 : decode code 1425 = .ok (.aload_n 0, 1) := by decide +kernel
theorem d_lw_1426 : decode code 1426 = .ok (.iload 4, 2) := by decide +kernel
theorem d_lw_1428 : decode code 1428 = .ok (.iconst 2, 1) := by decide +kernel
theorem d_lw_1429 : decode code 1429 = .ok (.iadd, 1) := by decide +kernel
theorem d_lw_1430 : decode code 1430 = .ok (.iaload, 1) := by decide +kernel
theorem d_lw_1431 : decode code 1431 = .ok (.invokevirtual 160, 3) := by decide +kernel
theorem d_lw_1434 : decode code 1434 = .ok (.pop, 1) := by decide +kernel
theorem d_lw_1435 : decode code 1435 = .ok (.aload_n 2, 1) := by decide +kernel
theorem d_lw_1436 : decode code 1436 = .ok (.aload_n 0, 1) := by decide +kernel
theorem d_lw_1437 : decode code 1437 = .ok (.iload 4, 2) := by decide +kernel
theorem d_lw_1439 : decode code 1439 = .ok (.iconst 1, 1) := by decide +kernel
theorem d_lw_1440 : decode code 1440 = .ok (.iadd, 1) := by decide +kernel
theorem d_lw_1441 : decode code 1441 = .ok (.iaload, 1) := by decide +kernel
theorem d_lw_1442 : decode code 1442 = .ok (.aload_n 0, 1) := by decide +kernel
theorem d_lw_1443 : decode code 1443 = .ok (.iload 4, 2) := by decide +kernel
theorem d_lw_1445 : decode code 1445 = .ok (.iconst 2, 1) := by decide +kernel
theorem d_lw_1446 : decode code 1446 = .ok (.iadd, 1) := by decide +kernel
theorem d_lw_1447 : decode code 1447 = .ok (.iaload, 1) := by decide +kernel
theorem d_lw_1448 : decode code 1448 = .ok (.invokevirtual 163, 3) := by decide +kernel
theorem d_lw_1451 : decode code 1451 = .ok (.pop, 1) := by decide +kernel
theorem d_lw_1452 : decode code 1452 = .ok (.goto 740, 3) := by decide +kernel
theorem d_lw_1455 : decode code 1455 = .ok (.aload_n 1, 1) := by decide +kernel
theorem d_lw_1456 : decode code 1456 = .ok (.aload_n 0, 1) := by decide +kernel
theorem d_lw_1457 : decode code 1457 = .ok (.iload 4, 2) := by decide +kernel
theorem d_lw_1459 : decode code 1459 = .ok (.iconst 1, 1) := by decide +kernel
theorem d_lw_1460 : decode code 1460 = .ok (.iadd, 1) := by decide +kernel
theorem d_lw_1461 : decode code 1461 = .ok (.iaload, 1) := by decide +kernel
theorem d_lw_1462 : decode code 1462 = .ok (.invokevirtual 164, 3) := by decide +kernel
theorem d_lw_1465 : decode code 1465 = .ok (.pop, 1) := by decide +kernel
theorem d_lw_1466 : decode code 1466 = .ok (.aload_n 2, 1) := by decide +kernel
theorem d_lw_1467 : decode code 1467 = .ok (.aload_n 0, 1) := by decide +kernel
theorem d_lw_1468 : decode code 1468 = .ok (.iload 4, 2) := by decide +kernel
theorem d_lw_1470 : decode code 1470 = .ok (.iconst 1, 1) := by decide +kernel
theorem d_lw_1471 : decode code 1471 = .ok (.iadd, 1) := by decide +kernel
theorem d_lw_1472 : decode code 1472 = .ok (.iaload, 1) := by decide +kernel
theorem d_lw_1473 : decode code 1473 = .ok (.invokevirtual 167, 3) := by decide +kernel
theorem d_lw_1476 : decode code 1476 = .ok (.pop, 1) := by decide +kernel
theorem d_lw_1477 : decode code 1477 = .ok (.goto 715, 3) := by decide +kernel
theorem d_lw_1480 : decode code 1480 = .ok (.aload_n 1, 1) := by decide +kernel
theorem d_lw_1481 : decode code 1481 = .ok (.aload_n 0, 1) := by decide +kernel
theorem d_lw_1482 : decode code 1482 = .ok (.iload 4, 2) := by decide +kernel
theorem d_lw_1484 : decode code 1484 = .ok (.iconst 1, 1) := by decide +kernel
theorem d_lw_1485 : decode code 1485 = .ok (.iadd, 1) := by decide +kernel
theorem d_lw_1486 : decode code 1486 = .ok (.iaload, 1) := by decide +kernel
theorem d_lw_1487 : decode code 1487 = .ok (.aload_n 0, 1) := by decide +kernel
theorem d_lw_1488 : decode code 1488 = .ok (.iload 4, 2) := by decide +kernel
theorem d_lw_1490 : decode code 1490 = .ok (.iconst 2, 1) := by decide +kernel
theorem d_lw_1491 : decode code 1491 = .ok (.iadd, 1) := by decide +kernel
theorem d_lw_1492 : decode code 1492 = .ok (.iaload, 1) := by decide +kernel
theorem d_lw_1493 : decode code 1493 = .ok (.aload_n 0, 1) := by decide +kernel
theorem d_lw_1494 : decode code 1494 = .ok (.iload 4, 2) := by decide +kernel
theorem d_lw_1496 : decode code 1496 = .ok (.iconst 3, 1) := by decide +kernel
theorem d_lw_1497 : decode code 1497 = .ok (.iadd, 1) := by decide +kernel
theorem d_lw_1498 : decode code 1498 = .ok (.iaload, 1) := by decide +kernel
theorem d_lw_1499 : decode code 1499 = .ok (.aload_n 0, 1) := by decide +kernel
theorem d_lw_1500 : decode code 1500 = .ok (.iload 4, 2) := by decide +kernel
theorem d_lw_1502 : decode code 1502 = .ok (.iconst 4, 1) := by decide +kernel
theorem d_lw_1503 : decode code 1503 = .ok (.iadd, 1) := by decide +kernel
theorem d_lw_1504 : decode code 1504 = .ok (.iaload, 1) := by decide +kernel
theorem d_lw_1505 : decode code 1505 = .ok (.aload_n 0, 1) := by decide +kernel
theorem d_lw_1506 : decode code 1506 = .ok (.iload 4, 2) := by decide +kernel
theorem d_lw_1508 : decode code 1508 = .ok (.iconst 5, 1) := by decide +kernel
theorem d_lw_1509 : decode code 1509 = .ok (.iadd, 1) := by decide +kernel
theorem d_lw_1510 : decode code 1510 = .ok (.iaload, 1) := by decide +kernel
theorem d_lw_1511 : decode code 1511 = .ok (.invokevirtual 168, 3) := by decide +kernel
theorem d_lw_1514 : decode code 1514 = .ok (.pop, 1) := by decide +kernel
theorem d_lw_1515 : decode code 1515 = .ok (.aload_n 2, 1) := by decide +kernel
theorem d_lw_1516 : decode code 1516 = .ok (.aload_n 0, 1) := by decide +kernel
theorem d_lw_1517 : decode code 1517 = .ok (.iload 4, 2) := by decide +kernel
theorem d_lw_1519 : decode code 1519 = .ok (.iconst 1, 1) := by decide +kernel
theorem d_lw_1520 : decode code 1520 = .ok (.iadd, 1) := by decide +kernel
theorem d_lw_1521 : decode code 1521 = .ok (.iaload, 1) := by decide +kernel
theorem d_lw_1522 : decode code 1522 = .ok (.aload_n 0, 1) := by decide +kernel
theorem d_lw_1523 : decode code 1523 = .ok (.iload 4, 2) := by decide +kernel
theorem d_lw_1525 : decode code 1525 = .ok (.iconst 2, 1) := by decide +kernel
theorem d_lw_1526 : decode code 1526 = .ok (.iadd, 1) := by decide +kernel
theorem d_lw_1527 : decode code 1527 = .ok (.iaload, 1) := by decide +kernel
theorem d_lw_1528 : decode code 1528 = .ok (.aload_n 0, 1) := by decide +kernel
theorem d_lw_1529 : decode code 1529 = .ok (.iload 4, 2) := by decide +kernel
theorem d_lw_1531 : decode code 1531 = .ok (.iconst 3, 1) := by decide +kernel
theorem d_lw_1532 : decode code 1532 = .ok (.iadd, 1) := by decide +kernel
theorem d_lw_1533 : decode code 1533 = .ok (.iaload, 1) := by decide +kernel
theorem d_lw_1534 : decode code 1534 = .ok (.aload_n 0, 1) := by decide +kernel
theorem d_lw_1535 : decode code 1535 = .ok (.iload 4, 2) := by decide +kernel
theorem d_lw_1537 : decode code 1537 = .ok (.iconst 4, 1) := by decide +kernel
theorem d_lw_1538 : decode code 1538 = .ok (.iadd, 1) := by decide +kernel
theorem d_lw_1539 : decode code 1539 = .ok (.iaload, 1) := by decide +kernel
theorem d_lw_1540 : decode code 1540 = .ok (.aload_n 0, 1) := by decide +kernel
theorem d_lw_1541 : decode code 1541 = .ok (.iload 4, 2) := by decide +kernel
theorem d_lw_1543 : decode code 1543 = .ok (.iconst 5, 1) := by decide +kernel
theorem d_lw_1544 : decode code 1544 = .ok (.iadd, 1) := by decide +kernel
theorem d_lw_1545 : decode code 1545 = .ok (.iaload, 1) := by decide +kernel
theorem d_lw_1546 : decode code 1546 = .ok (.invokevirtual 172, 3) := by decide +kernel
theorem d_lw_1549 : decode code 1549 = .ok (.pop, 1) := by decide +kernel
theorem d_lw_1550 : decode code 1550 = .ok (.goto 642, 3) := by decide +kernel
theorem d_lw_1553 : decode code 1553 = .ok (.aload_n 1, 1) := by decide +kernel
theorem d_lw_1554 : decode code 1554 = .ok (.aload_n 0, 1) := by decide +kernel
theorem d_lw_1555 : decode code 1555 = .ok (.iload 4, 2) := by decide +kernel
theorem d_lw_1557 : decode code 1557 = .ok (.iconst 1, 1) := by decide +kernel
theorem d_lw_1558 : decode code 1558 = .ok (.iadd, 1) := by decide +kernel
theorem d_lw_1559 : decode code 1559 = .ok (.iaload, 1) := by decide +kernel
theorem d_lw_1560 : decode code 1560 = .ok (.invokevirtual 173, 3) := by decide +kernel
theorem d_lw_1563 : decode code 1563 = .ok (.pop2, 1) := by decide +kernel
theorem d_lw_1564 : decode code 1564 = .ok (.aload_n 2, 1) := by decide +kernel
theorem d_lw_1565 : decode code 1565 = .ok (.aload_n 0, 1) := by decide +kernel
theorem d_lw_1566 : decode code 1566 = .ok (.iload 4, 2) := by decide +kernel
theorem d_lw_1568 : decode code 1568 = .ok (.iconst 1, 1) := by decide +kernel
theorem d_lw_1569 : decode code 1569 = .ok (.iadd, 1) := by decide +kernel
theorem d_lw_1570 : decode code 1570 = .ok (.iaload, 1) := by decide +kernel
theorem d_lw_1571 : decode code 1571 = .ok (.invokevirtual 176, 3) := by decide +kernel
theorem d_lw_1574 : decode code 1574 = .ok (.pop2, 1) := by decide +kernel
theorem d_lw_1575 : decode code 1575 = .ok (.goto 617, 3) := by decide +kernel
theorem d_lw_1578 : decode code 1578 = .ok (.aload_n 1, 1) := by decide +kernel
theorem d_lw_1579 : decode code 1579 = .ok (.aload_n 0, 1) := by decide +kernel
theorem d_lw_1580 : decode code 1580 = .ok (.iload 4, 2) := by decide +kernel
theorem d_lw_1582 : decode code 1582 = .ok (.iconst 1, 1) := by decide +kernel
theorem d_lw_1583 : decode code 1583 = .ok (.iadd, 1) := by decide +kernel
theorem d_lw_1584 : decode code 1584 = .ok (.iaload, 1) := by decide +kernel
theorem d_lw_1585 : decode code 1585 = .ok (.aload_n 0, 1) := by decide +kernel
theorem d_lw_1586 : decode code 1586 = .ok (.iload 4, 2) := by decide +kernel
theorem d_lw_1588 : decode code 1588 = .ok (.iconst 2, 1) := by decide +kernel
theorem d_lw_1589 : decode code 1589 = .ok (.iadd, 1) := by decide +kernel
theorem d_lw_1590 : decode code 1590 = .ok (.iaload, 1) := by decide +kernel
theorem d_lw_1591 : decode code 1591 = .ok (.aload_n 0, 1) := by decide +kernel
theorem d_lw_1592 : decode code 1592 = .ok (.iload 4, 2) := by decide +kernel
theorem d_lw_1594 : decode code 1594 = .ok (.iconst 3, 1) := by decide +kernel
theorem d_lw_1595 : decode code 1595 = .ok (.iadd, 1) := by decide +kernel
theorem d_lw_1596 : decode code 1596 = .ok (.iaload, 1) := by decide +kernel
theorem d_lw_1597 : decode code 1597 = .ok (.invokevirtual 177, 3) := by decide +kernel
theorem d_lw_1600 : decode code 1600 = .ok (.pop, 1) := by decide +kernel
theorem d_lw_1601 : decode code 1601 = .ok (.aload_n 2, 1) := by decide +kernel
theorem d_lw_1602 : decode code 1602 = .ok (.aload_n 0, 1) := by decide +kernel
theorem d_lw_1603 : decode code 1603 = .ok (.iload 4, 2) := by decide +kernel
theorem d_lw_1605 : decode code 1605 = .ok (.iconst 1, 1) := by decide +kernel
theorem d_lw_1606 : decode code 1606 = .ok (.iadd, 1) := by decide +kernel
theorem d_lw_1607 : decode code 1607 = .ok (.iaload, 1) := by decide +kernel
theorem d_lw_1608 : decode code 1608 = .ok (.aload_n 0, 1) := by decide +kernel
theorem d_lw_1609 : decode code 1609 = .ok (.iload 4, 2) := by decide +kernel
theorem d_lw_1611 : decode code 1611 = .ok (.iconst 2, 1) := by decide +kernel
theorem d_lw_1612 : decode code 1612 = .ok (.iadd, 1) := by decide +kernel
theorem d_lw_1613 : decode code 1613 = .ok (.iaload, 1) := by decide +kernel
theorem d_lw_1614 : decode code 1614 = .ok (.aload_n 0, 1) := by decide +kernel
theorem d_lw_1615 : decode code 1615 = .ok (.iload 4, 2) := by decide +kernel
theorem d_lw_1617 : decode code 1617 = .ok (.iconst 3, 1) := by decide +kernel
theorem d_lw_1618 : decode code 1618 = .ok (.iadd, 1) := by decide +kernel
theorem d_lw_1619 : decode code 1619 = .ok (.iaload, 1) := by decide +kernel
theorem d_lw_1620 : decode code 1620 = .ok (.invokevirtual 180, 3) := by decide +kernel
theorem d_lw_1623 : decode code 1623 = .ok (.pop, 1) := by decide +kernel
theorem d_lw_1624 : decode code 1624 = .ok (.goto 568, 3) := by decide +kernel
theorem d_lw_1627 : decode code 1627 = .ok (.aload_n 1, 1) := by decide +kernel
theorem d_lw_1628 : decode code 1628 = .ok (.invokevirtual 181, 3) := by decide +kernel
theorem d_lw_1631 : decode code 1631 = .ok (.pop2, 1) := by decide +kernel
theorem d_lw_1632 : decode code 1632 = .ok (.aload_n 2, 1) := by decide +kernel
theorem d_lw_1633 : decode code 1633 = .ok (.invokevirtual 185, 3) := by decide +kernel
theorem d_lw_1636 : decode code 1636 = .ok (.pop2, 1) := by decide +kernel
theorem d_lw_1637 : decode code 1637 = .ok (.goto 555, 3) := by decide +kernel
theorem d_lw_1640 : decode code 1640 = .ok (.aload_n 1, 1) := by decide +kernel
theorem d_lw_1641 : decode code 1641 = .ok (.aload_n 0, 1) := by decide +kernel
theorem d_lw_1642 : decode code 1642 = .ok (.iload 4, 2) := by decide +kernel
theorem d_lw_1644 : decode code 1644 = .ok (.iconst 1, 1) := by decide +kernel
theorem d_lw_1645 : decode code 1645 = .ok (.iadd, 1) := by decide +kernel
theorem d_lw_1646 : decode code 1646 = .ok (.iaload, 1) := by decide +kernel
theorem d_lw_1647 : decode code 1647 = .ok (.aload_n 0, 1) := by decide +kernel
theorem d_lw_1648 : decode code 1648 = .ok (.iload 4, 2) := by decide +kernel
theorem d_lw_1650 : decode code 1650 = .ok (.iconst 2, 1) := by decide +kernel
theorem d_lw_1651 : decode code 1651 = .ok (.iadd, 1) := by decide +kernel
theorem d_lw_1652 : decode code 1652 = .ok (.iaload, 1) := by decide +kernel
theorem d_lw_1653 : decode code 1653 = .ok (.i2l, 1) := by decide +kernel
theorem d_lw_1654 : decode code 1654 = .ok (.bipush 32, 2) := by decide +kernel
theorem d_lw_1656 : decode code 1656 = .ok (.lshl, 1) := by decide +kernel
theorem d_lw_1657 : decode code 1657 = .ok (.aload_n 0, 1) := by decide +kernel
theorem d_lw_1658 : decode code 1658 = .ok (.iload 4, 2) := by decide +kernel
theorem d_lw_1660 : decode code 1660 = .ok (.iconst 3, 1) := by decide +kernel
theorem d_lw_1661 : decode code 1661 = .ok (.iadd, 1) := by decide +kernel
theorem d_lw_1662 : decode code 1662 = .ok (.iaload, 1) := by decide +kernel
theorem d_lw_1663 : decode code 1663 = .ok (.i2l, 1) := by decide +kernel
theorem d_lw_1664 : decode code 1664 = .ok (.ldc2_w 149, 3) := by decide +kernel
theorem d_lw_1667 : decode code 1667 = .ok (.land, 1) := by decide +kernel
theorem d_lw_1668 : decode code 1668 = .ok (.lor, 1) := by decide +kernel
theorem d_lw_1669 : decode code 1669 = .ok (.aload_n 0, 1) := by decide +kernel
theorem d_lw_1670 : decode code 1670 = .ok (.iload 4, 2) := by decide +kernel
theorem d_lw_1672 : decode code 1672 = .ok (.iconst 4, 1) := by decide +kernel
theorem d_lw_1673 : decode code 1673 = .ok (.iadd, 1) := by decide +kernel
theorem d_lw_1674 : decode code 1674 = .ok (.iaload, 1) := by decide +kernel
theorem d_lw_1675 : decode code 1675 = .ok (.aload_n 0, 1) := by decide +kernel
theorem d_lw_1676 : decode code 1676 = .ok (.iload 4, 2) := by decide +kernel
theorem d_lw_1678 : decode code 1678 = .ok (.iconst 5, 1) := by decide +kernel
theorem d_lw_1679 : decode code 1679 = .ok (.iadd, 1) := by decide +kernel
theorem d_lw_1680 : decode code 1680 = .ok (.iaload, 1) := by decide +kernel
theorem d_lw_1681 : decode code 1681 = .ok (.i2l, 1) := by decide +kernel
theorem d_lw_1682 : decode code 1682 = .ok (.bipush 32, 2) := by decide +kernel
theorem d_lw_1684 : decode code 1684 = .ok (.lshl, 1) := by decide +kernel
theorem d_lw_1685 : decode code 1685 = .ok (.aload_n 0, 1) := by decide +kernel
theorem d_lw_1686 : decode code 1686 = .ok (.iload 4, 2) := by decide +kernel
theorem d_lw_1688 : decode code 1688 = .ok (.bipush 6, 2) := by decide +kernel
theorem d_lw_1690 : decode code 1690 = .ok (.iadd, 1) := by decide +kernel
theorem d_lw_1691 : decode code 1691 = .ok (.iaload, 1) := by decide +kernel
