theorem dL_law_1380 : decode cL_law 1380 = .ok (.iconst 3, 1) := zd_dL_law_1375.1.1.2.1.2
theorem dL_law_1381 : decode cL_law 1381 = .ok (.iadd, 1) := zd_dL_law_1375.1.1.2.2
theorem dL_law_1382 : decode cL_law 1382 = .ok (.iaload, 1) := zd_dL_law_1375.1.2.1.1.1
theorem dL_law_1383 : decode cL_law 1383 = .ok (.invokevirtual 161, 3) := zd_dL_law_1375.1.2.1.1.2
theorem dL_law_1386 : decode cL_law 1386 = .ok (.pop, 1) := zd_dL_law_1375.1.2.1.2
theorem dL_law_1387 : decode cL_law 1387 = .ok (.aload_n 2, 1) := zd_dL_law_1375.1.2.2.1.1
theorem dL_law_1388 : decode cL_law 1388 = .ok (.aload_n 0, 1) := zd_dL_law_1375.1.2.2.1.2
theorem dL_law_1389 : decode cL_law 1389 = .ok (.iload 4, 2) := zd_dL_law_1375.1.2.2.2
theorem dL_law_1391 : decode cL_law 1391 = .ok (.iconst 1, 1) := zd_dL_law_1375.2.1.1.1.1
theorem dL_law_1392 : decode cL_law 1392 = .ok (.iadd, 1) := zd_dL_law_1375.2.1.1.1.2
theorem dL_law_1393 : decode cL_law 1393 = .ok (.iaload, 1) := zd_dL_law_1375.2.1.1.2
theorem dL_law_1394 : decode cL_law 1394 = .ok (.aload_n 0, 1) := zd_dL_law_1375.2.1.2.1.1
theorem dL_law_1395 : decode cL_law 1395 = .ok (.iload 4, 2) := zd_dL_law_1375.2.1.2.1.2
theorem dL_law_1397 : decode cL_law 1397 = .ok (.iconst 2, 1) := zd_dL_law_1375.2.1.2.2
theorem dL_law_1398 : decode cL_law 1398 = .ok (.iadd, 1) := zd_dL_law_1375.2.2.1.1.1
theorem dL_law_1399 : decode cL_law 1399 = .ok (.iaload, 1) := zd_dL_law_1375.2.2.1.1.2
theorem dL_law_1400 : decode cL_law 1400 = .ok (.aload_n 0, 1) := zd_dL_law_1375.2.2.1.2
theorem dL_law_1401 : decode cL_law 1401 = .ok (.iload 4, 2) := zd_dL_law_1375.2.2.2.1.1
theorem dL_law_1403 : decode cL_law 1403 = .ok (.iconst 3, 1) := zd_dL_law_1375.2.2.2.1.2
theorem dL_law_1404 : decode cL_law 1404 = .ok (.iadd, 1) := zd_dL_law_1375.2.2.2.2
theorem zd_dL_law_1405 : ((((((decode cL_law 1405 = .ok (.iaload, 1)) ∧ (decode cL_law 1406 = .ok (.invokevirtual 164, 3))) ∧ (decode cL_law 1409 = .ok (.pop, 1))) ∧ (((decode cL_law 1410 = .ok (.goto 116, 3)) ∧ (decode cL_law 1413 = .ok (.aload_n 1, 1))) ∧ (decode cL_law 1414 = .ok (.aload_n 0, 1)))) ∧ ((((decode cL_law 1415 = .ok (.iload 4, 2)) ∧ (decode cL_law 1417 = .ok (.iconst 1, 1))) ∧ (decode cL_law 1418 = .ok (.iadd, 1))) ∧ (((decode cL_law 1419 = .ok (.iaload, 1)) ∧ (decode cL_law 1420 = .ok (.aload_n 0, 1))) ∧ (decode cL_law 1421 = .ok (.iload 4, 2))))) ∧ (((((decode cL_law 1423 = .ok (.iconst 2, 1)) ∧ (decode cL_law 1424 = .ok (.iadd, 1))) ∧ (decode cL_law 1425 = .ok (.iaload, 1))) ∧ (((decode cL_law 1426 = .ok (.aload_n 0, 1)) ∧ (decode cL_law 1427 = .ok (.iload 4, 2))) ∧ (decode cL_law 1429 = .ok (.iconst 3, 1)))) ∧ ((((decode cL_law 1430 = .ok (.iadd, 1)) ∧ (decode cL_law 1431 = .ok (.iaload, 1))) ∧ (decode cL_law 1432 = .ok (.invokevirtual 165, 3))) ∧ (((decode cL_law 1435 = .ok (.pop, 1)) ∧ (decode cL_law 1436 = .ok (.aload_n 2, 1))) ∧ (decode cL_law 1437 = .ok (.aload_n 0, 1)))))) := by decide +kernel
theorem dL_law_1405 : decode cL_law 1405 = .ok (.iaload, 1) := zd_dL_law_1405.1.1.1.1.1
theorem dL_law_1406 : decode cL_law 1406 = .ok (.invokevirtual 164, 3) := zd_dL_law_1405.1.1.1.1.2
theorem dL_law_1409 : decode cL_law 1409 = .ok (.pop, 1) := zd_dL_law_1405.1.1.1.2
theorem dL_law_1410 : decode cL_law 1410 = .ok (.goto 116, 3) := zd_dL_law_1405.1.1.2.1.1
theorem dL_law_1413 : decode cL_law 1413 = .ok (.aload_n 1, 1) := zd_dL_law_1405.1.1.2.1.2
theorem dL_law_1414 : decode cL_law 1414 = .ok (.aload_n 0, 1) := zd_dL_law_1405.1.1.2.2
theorem dL_law_1415 : decode cL_law 1415 = .ok (.iload 4, 2) := zd_dL_law_1405.1.2.1.1.1
theorem dL_law_1417 : decode cL_law 1417 = .ok (.iconst 1, 1) := zd_dL_law_1405.1.2.1.1.2
theorem dL_law_1418 : decode cL_law 1418 = .ok (.iadd, 1) := zd_dL_law_1405.1.2.1.2
theorem dL_law_1419 : decode cL_law 1419 = .ok (.iaload, 1) := zd_dL_law_1405.1.2.2.1.1
theorem dL_law_1420 : decode cL_law 1420 = .ok (.aload_n 0, 1) := zd_dL_law_1405.1.2.2.1.2
theorem dL_law_1421 : decode cL_law 1421 = .ok (.iload 4, 2) := zd_dL_law_1405.1.2.2.2
theorem dL_law_1423 : decode cL_law 1423 = .ok (.iconst 2, 1) := zd_dL_law_1405.2.1.1.1.1
theorem dL_law_1424 : decode cL_law 1424 = .ok (.iadd, 1) := zd_dL_law_1405.2.1.1.1.2
theorem dL_law_1425 : decode cL_law 1425 = .ok (.iaload, 1) := zd_dL_law_1405.2.1.1.2
theorem dL_law_1426 : decode cL_law 1426 = .ok (.aload_n 0, 1) := zd_dL_law_1405.2.1.2.1.1
theorem dL_law_1427 : decode cL_law 1427 = .ok (.iload 4, 2) := zd_dL_law_1405.2.1.2.1.2
theorem dL_law_1429 : decode cL_law 1429 = .ok (.iconst 3, 1) := zd_dL_law_1405.2.1.2.2
theorem dL_law_1430 : decode cL_law 1430 = .ok (.iadd, 1) := zd_dL_law_1405.2.2.1.1.1
theorem dL_law_1431 : decode cL_law 1431 = .ok (.iaload, 1) := zd_dL_law_1405.2.2.1.1.2
theorem dL_law_1432 : decode cL_law 1432 = .ok (.invokevirtual 165, 3) := zd_dL_law_1405.2.2.1.2
theorem dL_law_1435 : decode cL_law 1435 = .ok (.pop, 1) := zd_dL_law_1405.2.2.2.1.1
theorem dL_law_1436 : decode cL_law 1436 = .ok (.aload_n 2, 1) := zd_dL_law_1405.2.2.2.1.2
theorem dL_law_1437 : decode cL_law 1437 = .ok (.aload_n 0, 1) := zd_dL_law_1405.2.2.2.2
theorem zd_dL_law_1438 : ((((((decode cL_law 1438 = .ok (.iload 4, 2)) ∧ (decode cL_law 1440 = .ok (.iconst 1, 1))) ∧ (decode cL_law 1441 = .ok (.iadd, 1))) ∧ (((decode cL_law 1442 = .ok (.iaload, 1)) ∧ (decode cL_law 1443 = .ok (.aload_n 0, 1))) ∧ (decode cL_law 1444 = .ok (.iload 4, 2)))) ∧ ((((decode cL_law 1446 = .ok (.iconst 2, 1)) ∧ (decode cL_law 1447 = .ok (.iadd, 1))) ∧ (decode cL_law 1448 = .ok (.iaload, 1))) ∧ (((decode cL_law 1449 = .ok (.aload_n 0, 1)) ∧ (decode cL_law 1450 = .ok (.iload 4, 2))) ∧ (decode cL_law 1452 = .ok (.iconst 3, 1))))) ∧ (((((decode cL_law 1453 = .ok (.iadd, 1)) ∧ (decode cL_law 1454 = .ok (.iaload, 1))) ∧ (decode cL_law 1455 = .ok (.invokevirtual 168, 3))) ∧ (((decode cL_law 1458 = .ok (.pop, 1)) ∧ (decode cL_law 1459 = .ok (.goto 67, 3))) ∧ (decode cL_law 1462 = .ok (.aload_n 1, 1)))) ∧ ((((decode cL_law 1463 = .ok (.invokevirtual 169, 3)) ∧ (decode cL_law 1466 = .ok (.pop, 1))) ∧ (decode cL_law 1467 = .ok (.aload_n 2, 1))) ∧ (((decode cL_law 1468 = .ok (.invokevirtual 172, 3)) ∧ (decode cL_law 1471 = .ok (.pop, 1))) ∧ (decode cL_law 1472 = .ok (.goto 54, 3)))))) := by decide +kernel
theorem dL_law_1438 : decode cL_law 1438 = .ok (.iload 4, 2) := zd_dL_law_1438.1.1.1.1.1
theorem dL_law_1440 : decode cL_law 1440 = .ok (.iconst 1, 1) := zd_dL_law_1438.1.1.1.1.2
theorem dL_law_1441 : decode cL_law 1441 = .ok (.iadd, 1) := zd_dL_law_1438.1.1.1.2
theorem dL_law_1442 : decode cL_law 1442 = .ok (.iaload, 1) := zd_dL_law_1438.1.1.2.1.1
theorem dL_law_1443 : decode cL_law 1443 = .ok (.aload_n 0, 1) := zd_dL_law_1438.1.1.2.1.2
theorem dL_law_1444 : decode cL_law 1444 = .ok (.iload 4, 2) := zd_dL_law_1438.1.1.2.2
theorem dL_law_1446 : decode cL_law 1446 = .ok (.iconst 2, 1) := zd_dL_law_1438.1.2.1.1.1
theorem dL_law_1447 : decode cL_law 1447 = .ok (.iadd, 1) := zd_dL_law_1438.1.2.1.1.2
theorem dL_law_1448 : decode cL_law 1448 = .ok (.iaload, 1) := zd_dL_law_1438.1.2.1.2
theorem dL_law_1449 : decode cL_law 1449 = .ok (.aload_n 0, 1) := zd_dL_law_1438.1.2.2.1.1
theorem dL_law_1450 : decode cL_law 1450 = .ok (.iload 4, 2) := zd_dL_law_1438.1.2.2.1.2
theorem dL_law_1452 : decode cL_law 1452 = .ok (.iconst 3, 1) := zd_dL_law_1438.1.2.2.2
theorem dL_law_1453 : decode cL_law 1453 = .ok (.iadd, 1) := zd_dL_law_1438.2.1.1.1.1
theorem dL_law_1454 : decode cL_law 1454 = .ok (.iaload, 1) := zd_dL_law_1438.2.1.1.1.2
theorem dL_law_1455 : decode cL_law 1455 = .ok (.invokevirtual 168, 3) := zd_dL_law_1438.2.1.1.2
theorem dL_law_1458 : decode cL_law 1458 = .ok (.pop, 1) := zd_dL_law_1438.2.1.2.1.1
theorem dL_law_1459 : decode cL_law 1459 = .ok (.goto 67, 3) := zd_dL_law_1438.2.1.2.1.2
theorem dL_law_1462 : decode cL_law 1462 = .ok (.aload_n 1, 1) := zd_dL_law_1438.2.1.2.2
theorem dL_law_1463 : decode cL_law 1463 = .ok (.invokevirtual 169, 3) := zd_dL_law_1438.2.2.1.1.1
theorem dL_law_1466 : decode cL_law 1466 = .ok (.pop, 1) := zd_dL_law_1438.2.2.1.1.2
theorem dL_law_1467 : decode cL_law 1467 = .ok (.aload_n 2, 1) := zd_dL_law_1438.2.2.1.2
theorem dL_law_1468 : decode cL_law 1468 = .ok (.invokevirtual 172, 3) := zd_dL_law_1438.2.2.2.1.1
theorem dL_law_1471 : decode cL_law 1471 = .ok (.pop, 1) := zd_dL_law_1438.2.2.2.1.2
theorem dL_law_1472 : decode cL_law 1472 = .ok (.goto 54, 3) := zd_dL_law_1438.2.2.2.2
theorem zd_dL_law_1475 : ((((((decode cL_law 1475 = .ok (.aload_n 1, 1)) ∧ (decode cL_law 1476 = .ok (.invokevirtual 173, 3))) ∧ (decode cL_law 1479 = .ok (.pop, 1))) ∧ (((decode cL_law 1480 = .ok (.aload_n 2, 1)) ∧ (decode cL_law 1481 = .ok (.invokevirtual 176, 3))) ∧ (decode cL_law 1484 = .ok (.pop, 1)))) ∧ ((((decode cL_law 1485 = .ok (.goto 41, 3)) ∧ (decode cL_law 1488 = .ok (.aload_n 1, 1))) ∧ (decode cL_law 1489 = .ok (.invokevirtual 177, 3))) ∧ (((decode cL_law 1492 = .ok (.pop, 1)) ∧ (decode cL_law 1493 = .ok (.aload_n 2, 1))) ∧ (decode cL_law 1494 = .ok (.invokevirtual 180, 3))))) ∧ (((((decode cL_law 1497 = .ok (.pop, 1)) ∧ (decode cL_law 1498 = .ok (.goto 28, 3))) ∧ (decode cL_law 1501 = .ok (.aload_n 1, 1))) ∧ (((decode cL_law 1502 = .ok (.aload_n 0, 1)) ∧ (decode cL_law 1503 = .ok (.iload 4, 2))) ∧ (decode cL_law 1505 = .ok (.iconst 1, 1)))) ∧ ((((decode cL_law 1506 = .ok (.iadd, 1)) ∧ (decode cL_law 1507 = .ok (.iaload, 1))) ∧ (decode cL_law 1508 = .ok (.invokevirtual 181, 3))) ∧ (((decode cL_law 1511 = .ok (.pop, 1)) ∧ (decode cL_law 1512 = .ok (.aload_n 2, 1))) ∧ (decode cL_law 1513 = .ok (.aload_n 0, 1)))))) := by decide +kernel
theorem dL_law_1475 : decode cL_law 1475 = .ok (.aload_n 1, 1) := zd_dL_law_1475.1.1.1.1.1
theorem dL_law_1476 : decode cL_law 1476 = .ok (.invokevirtual 173, 3) := zd_dL_law_1475.1.1.1.1.2
theorem dL_law_1479 : decode cL_law 1479 = .ok (.pop, 1) := zd_dL_law_1475.1.1.1.2
theorem dL_law_1480 : decode cL_law 1480 = .ok (.aload_n 2, 1) := zd_dL_law_1475.1.1.2.1.1
theorem dL_law_1481 : decode cL_law 1481 = .ok (.invokevirtual 176, 3) := zd_dL_law_1475.1.1.2.1.2
theorem dL_law_1484 : decode cL_law 1484 = .ok (.pop, 1) := zd_dL_law_1475.1.1.2.2
theorem dL_law_1485 : decode cL_law 1485 = .ok (.goto 41, 3) := zd_dL_law_1475.1.2.1.1.1
theorem dL_law_1488 : decode cL_law 1488 = .ok (.aload_n 1, 1) := zd_dL_law_1475.1.2.1.1.2
theorem dL_law_1489 : decode cL_law 1489 = .ok (.invokevirtual 177, 3) := zd_dL_law_1475.1.2.1.2
theorem dL_law_1492 : decode cL_law 1492 = .ok (.pop, 1) := zd_dL_law_1475.1.2.2.1.1
theorem dL_law_1493 : decode cL_law 1493 = .ok (.aload_n 2, 1) := zd_dL_law_1475.1.2.2.1.2
theorem dL_law_1494 : decode cL_law 1494 = .ok (.invokevirtual 180, 3) := zd_dL_law_1475.1.2.2.2
theorem dL_law_1497 : decode cL_law 1497 = .ok (.pop, 1) := zd_dL_law_1475.2.1.1.1.1
theorem dL_law_1498 : decode cL_law 1498 = .ok (.goto 28, 3) := zd_dL_law_1475.2.1.1.1.2
theorem dL_law_1501 : decode cL_law 1501 = .ok (.aload_n 1, 1) := zd_dL_law_1475.2.1.1.2
theorem dL_law_1502 : decode cL_law 1502 = .ok (.aload_n 0, 1) := zd_dL_law_1475.2.1.2.1.1
theorem dL_law_1503 : decode cL_law 1503 = .ok (.iload 4, 2) := zd_dL_law_1475.2.1.2.1.2
theorem dL_law_1505 : decode cL_law 1505 = .ok (.iconst 1, 1) := zd_dL_law_1475.2.1.2.2
theorem dL_law_1506 : decode cL_law 1506 = .ok (.iadd, 1) := zd_dL_law_1475.2.2.1.1.1
theorem dL_law_1507 : decode cL_law 1507 = .ok (.iaload, 1) := zd_dL_law_1475.2.2.1.1.2
theorem dL_law_1508 : decode cL_law 1508 = .ok (.invokevirtual 181, 3) := zd_dL_law_1475.2.2.1.2
theorem dL_law_1511 : decode cL_law 1511 = .ok (.pop, 1) := zd_dL_law_1475.2.2.2.1.1
theorem dL_law_1512 : decode cL_law 1512 = .ok (.aload_n 2, 1) := zd_dL_law_1475.2.2.2.1.2
theorem dL_law_1513 : decode cL_law 1513 = .ok (.aload_n 0, 1) := zd_dL_law_1475.2.2.2.2
theorem zd_dL_law_1514 : (((((decode cL_law 1514 = .ok (.iload 4, 2)) ∧ (decode cL_law 1516 = .ok (.iconst 1, 1))) ∧ (decode cL_law 1517 = .ok (.iadd, 1))) ∧ (((decode cL_law 1518 = .ok (.iaload, 1)) ∧ (decode cL_law 1519 = .ok (.invokevirtual 184, 3))) ∧ (decode cL_law 1522 = .ok (.pop, 1)))) ∧ ((((decode cL_law 1523 = .ok (.goto 3, 3)) ∧ (decode cL_law 1526 = .ok (.iinc 4 6, 3))) ∧ (decode cL_law 1529 = .ok (.goto (-1506), 3))) ∧ ((decode cL_law 1532 = .ok (.iconst 1, 1)) ∧ (decode cL_law 1533 = .ok (.ireturn, 1))))) := by decide +kernel
theorem dL_law_1514 : decode cL_law 1514 = .ok (.iload 4, 2) := zd_dL_law_1514.1.1.1.1
theorem dL_law_1516 : decode cL_law 1516 = .ok (.iconst 1, 1) := zd_dL_law_1514.1.1.1.2
theorem dL_law_1517 : decode cL_law 1517 = .ok (.iadd, 1) := zd_dL_law_1514.1.1.2
theorem dL_law_1518 : decode cL_law 1518 = .ok (.iaload, 1) := zd_dL_law_1514.1.2.1.1
theorem dL_law_1519 : decode cL_law 1519 = .ok (.invokevirtual 184, 3) := zd_dL_law_1514.1.2.1.2
theorem dL_law_1522 : decode cL_law 1522 = .ok (.pop, 1) := zd_dL_law_1514.1.2.2
theorem dL_law_1523 : decode cL_law 1523 = .ok (.goto 3, 3) := zd_dL_law_1514.2.1.1.1
theorem dL_law_1526 : decode cL_law 1526 = .ok (.iinc 4 6, 3) := zd_dL_law_1514.2.1.1.2
theorem dL_law_1529 : decode cL_law 1529 = .ok (.goto (-1506), 3) := zd_dL_law_1514.2.1.2
theorem dL_law_1532 : decode cL_law 1532 = .ok (.iconst 1, 1) := zd_dL_law_1514.2.2.1
theorem dL_law_1533 : decode cL_law 1533 = .ok (.ireturn, 1) := zd_dL_law_1514.2.2.2
/-! The cases of the law, but look. -/
/-- the place of out -/
def wO (f : Nat → Int64) : PH := [.inl (3, 1, .inr (.inl f))]
/-- the three worlds between two calls -/
def LW (D : va_G) (cy : Nat → ClassId) (hx hm : PH) (f : Nat → Int64) (s : State) (H : Heap) (locs : List Loc) : Prop := LM D cy s.heap.size 110 hx s H locs ∧ LM D cy (s.heap.size + 110) 43 hm s H locs ∧ LM D cy (s.heap.size + 153) 1 (wO f) s H locs ∧ LRl hx hm
/-- the locals between two calls -/
def LV (b : Nat) (s : State) (i : Int32) : List (Nat × Value) := [(0, .ref b), (1, .ref (s.heap.size + 0)), (2, .ref (s.heap.size + 110 + 0)), (3, .ref (s.heap.size + 153 + 0)), (4, .int i)]
def IN (i : Int32) (L : Nat) : Prop := vp_in i L ∧ vp_in (i + 1) L ∧ vp_in (i + 2) L ∧ vp_in (i + 3) L ∧ vp_in (i + 4) L ∧ vp_in (i + 5) L
theorem gL_11_feed : GoodIn lw_tbl (wsV RL 21 RX11 yX11_feed vX11_feed) := gV_law wT_13_4 wT_13_5 wT_13_6 wT_1_2 wT_13_7
theorem cdL_11_feed : Cd yX11_feed 5 := ⟨by decide, by decide, by decide +kernel⟩
theorem gL_12_feed : GoodIn lw_tbl (wsV RL 25 RX12 yX12_feed vX12_feed) := gV_law wT_13_13 wT_13_14 wT_13_15 wT_1_5 wT_13_16
theorem cdL_12_feed : Cd yX12_feed 5 := ⟨by decide, by decide, by decide +kernel⟩
theorem gL_11_text : GoodIn lw_tbl (wsV RL 26 RX11 yX11_text vX11_text) := gV_law wT_13_19 wT_13_20 wT_13_21 wT_1_2 wT_13_22
theorem cdL_11_text : Cd yX11_text 1 := ⟨by decide, by decide, by decide +kernel⟩
theorem gL_12_text : GoodIn lw_tbl (wsV RL 30 RX12 yX12_text vX12_text) := gV_law wT_26_13 wT_26_14 wT_26_15 wT_1_5 wT_26_16
theorem cdL_12_text : Cd yX12_text 1 := ⟨by decide, by decide, by decide +kernel⟩
theorem gL_11_fault : GoodIn lw_tbl (wsV RL 31 RX11 yX11_fault vX11_fault) := gV_law wT_32_0 wT_32_1 wT_32_2 wT_1_2 wT_32_3
theorem cdL_11_fault : Cd yX11_fault 1 := ⟨by decide, by decide, by decide +kernel⟩
theorem gL_12_fault : GoodIn lw_tbl (wsV RL 34 RX12 yX12_fault vX12_fault) := gV_law wT_32_6 wT_32_7 wT_32_8 wT_1_5 wT_32_9
theorem cdL_12_fault : Cd yX12_fault 1 := ⟨by decide, by decide, by decide +kernel⟩
theorem gL_11_named : GoodIn lw_tbl (wsV RL 35 RX11 yX11_named vX11_named) := gV_law wT_32_10 wT_32_11 wT_32_12 wT_1_2 wT_32_13
theorem cdL_11_named : Cd yX11_named 1 := ⟨by decide, by decide, by decide +kernel⟩
theorem gL_12_named : GoodIn lw_tbl (wsV RL 38 RX12 yX12_named vX12_named) := gV_law wT_32_17 wT_32_18 wT_32_19 wT_1_5 wT_32_20
theorem cdL_12_named : Cd yX12_named 1 := ⟨by decide, by decide, by decide +kernel⟩
theorem gL_11_wave : GoodIn lw_tbl (wsV RL 45 RX11 yX11_wave vX11_wave) := gV_law wT_36_12 wT_36_13 wT_36_14 wT_1_2 wT_36_15
theorem cdL_11_wave : Cd yX11_wave 2 := ⟨by decide, by decide, by decide +kernel⟩
theorem gL_12_wave : GoodIn lw_tbl (wsV RL 48 RX12 yX12_wave vX12_wave) := gV_law wT_37_3 wT_37_4 wT_37_5 wT_1_5 wT_37_6
theorem cdL_12_wave : Cd yX12_wave 2 := ⟨by decide, by decide, by decide +kernel⟩
