theorem zd_dL_law_1380 : dq cL_law [(1380, .iconst 3, 1), (1381, .iadd, 1), (1382, .iaload, 1), (1383, .invokevirtual 161, 3), (1386, .pop, 1), (1387, .aload_n 2, 1), (1388, .aload_n 0, 1), (1389, .iload 4, 2), (1391, .iconst 1, 1), (1392, .iadd, 1), (1393, .iaload, 1), (1394, .aload_n 0, 1), (1395, .iload 4, 2), (1397, .iconst 2, 1), (1398, .iadd, 1), (1399, .iaload, 1), (1400, .aload_n 0, 1), (1401, .iload 4, 2), (1403, .iconst 3, 1), (1404, .iadd, 1), (1405, .iaload, 1)] = true := by decide +kernel
theorem dL_law_1380 : decode cL_law 1380 = .ok (.iconst 3, 1) := dq_at zd_dL_law_1380 0 rfl
theorem dL_law_1381 : decode cL_law 1381 = .ok (.iadd, 1) := dq_at zd_dL_law_1380 1 rfl
theorem dL_law_1382 : decode cL_law 1382 = .ok (.iaload, 1) := dq_at zd_dL_law_1380 2 rfl
theorem dL_law_1383 : decode cL_law 1383 = .ok (.invokevirtual 161, 3) := dq_at zd_dL_law_1380 3 rfl
theorem dL_law_1386 : decode cL_law 1386 = .ok (.pop, 1) := dq_at zd_dL_law_1380 4 rfl
theorem dL_law_1387 : decode cL_law 1387 = .ok (.aload_n 2, 1) := dq_at zd_dL_law_1380 5 rfl
theorem dL_law_1388 : decode cL_law 1388 = .ok (.aload_n 0, 1) := dq_at zd_dL_law_1380 6 rfl
theorem dL_law_1389 : decode cL_law 1389 = .ok (.iload 4, 2) := dq_at zd_dL_law_1380 7 rfl
theorem dL_law_1391 : decode cL_law 1391 = .ok (.iconst 1, 1) := dq_at zd_dL_law_1380 8 rfl
theorem dL_law_1392 : decode cL_law 1392 = .ok (.iadd, 1) := dq_at zd_dL_law_1380 9 rfl
theorem dL_law_1393 : decode cL_law 1393 = .ok (.iaload, 1) := dq_at zd_dL_law_1380 10 rfl
theorem dL_law_1394 : decode cL_law 1394 = .ok (.aload_n 0, 1) := dq_at zd_dL_law_1380 11 rfl
theorem dL_law_1395 : decode cL_law 1395 = .ok (.iload 4, 2) := dq_at zd_dL_law_1380 12 rfl
theorem dL_law_1397 : decode cL_law 1397 = .ok (.iconst 2, 1) := dq_at zd_dL_law_1380 13 rfl
theorem dL_law_1398 : decode cL_law 1398 = .ok (.iadd, 1) := dq_at zd_dL_law_1380 14 rfl
theorem dL_law_1399 : decode cL_law 1399 = .ok (.iaload, 1) := dq_at zd_dL_law_1380 15 rfl
theorem dL_law_1400 : decode cL_law 1400 = .ok (.aload_n 0, 1) := dq_at zd_dL_law_1380 16 rfl
theorem dL_law_1401 : decode cL_law 1401 = .ok (.iload 4, 2) := dq_at zd_dL_law_1380 17 rfl
theorem dL_law_1403 : decode cL_law 1403 = .ok (.iconst 3, 1) := dq_at zd_dL_law_1380 18 rfl
theorem dL_law_1404 : decode cL_law 1404 = .ok (.iadd, 1) := dq_at zd_dL_law_1380 19 rfl
theorem dL_law_1405 : decode cL_law 1405 = .ok (.iaload, 1) := dq_at zd_dL_law_1380 20 rfl
theorem zd_dL_law_1406 : dq cL_law [(1406, .invokevirtual 164, 3), (1409, .pop, 1), (1410, .goto 116, 3), (1413, .aload_n 1, 1), (1414, .aload_n 0, 1), (1415, .iload 4, 2), (1417, .iconst 1, 1), (1418, .iadd, 1), (1419, .iaload, 1), (1420, .aload_n 0, 1), (1421, .iload 4, 2), (1423, .iconst 2, 1), (1424, .iadd, 1), (1425, .iaload, 1), (1426, .aload_n 0, 1), (1427, .iload 4, 2), (1429, .iconst 3, 1), (1430, .iadd, 1), (1431, .iaload, 1), (1432, .invokevirtual 165, 3), (1435, .pop, 1)] = true := by decide +kernel
theorem dL_law_1406 : decode cL_law 1406 = .ok (.invokevirtual 164, 3) := dq_at zd_dL_law_1406 0 rfl
theorem dL_law_1409 : decode cL_law 1409 = .ok (.pop, 1) := dq_at zd_dL_law_1406 1 rfl
theorem dL_law_1410 : decode cL_law 1410 = .ok (.goto 116, 3) := dq_at zd_dL_law_1406 2 rfl
theorem dL_law_1413 : decode cL_law 1413 = .ok (.aload_n 1, 1) := dq_at zd_dL_law_1406 3 rfl
theorem dL_law_1414 : decode cL_law 1414 = .ok (.aload_n 0, 1) := dq_at zd_dL_law_1406 4 rfl
theorem dL_law_1415 : decode cL_law 1415 = .ok (.iload 4, 2) := dq_at zd_dL_law_1406 5 rfl
theorem dL_law_1417 : decode cL_law 1417 = .ok (.iconst 1, 1) := dq_at zd_dL_law_1406 6 rfl
theorem dL_law_1418 : decode cL_law 1418 = .ok (.iadd, 1) := dq_at zd_dL_law_1406 7 rfl
theorem dL_law_1419 : decode cL_law 1419 = .ok (.iaload, 1) := dq_at zd_dL_law_1406 8 rfl
theorem dL_law_1420 : decode cL_law 1420 = .ok (.aload_n 0, 1) := dq_at zd_dL_law_1406 9 rfl
theorem dL_law_1421 : decode cL_law 1421 = .ok (.iload 4, 2) := dq_at zd_dL_law_1406 10 rfl
theorem dL_law_1423 : decode cL_law 1423 = .ok (.iconst 2, 1) := dq_at zd_dL_law_1406 11 rfl
theorem dL_law_1424 : decode cL_law 1424 = .ok (.iadd, 1) := dq_at zd_dL_law_1406 12 rfl
theorem dL_law_1425 : decode cL_law 1425 = .ok (.iaload, 1) := dq_at zd_dL_law_1406 13 rfl
theorem dL_law_1426 : decode cL_law 1426 = .ok (.aload_n 0, 1) := dq_at zd_dL_law_1406 14 rfl
theorem dL_law_1427 : decode cL_law 1427 = .ok (.iload 4, 2) := dq_at zd_dL_law_1406 15 rfl
theorem dL_law_1429 : decode cL_law 1429 = .ok (.iconst 3, 1) := dq_at zd_dL_law_1406 16 rfl
theorem dL_law_1430 : decode cL_law 1430 = .ok (.iadd, 1) := dq_at zd_dL_law_1406 17 rfl
theorem dL_law_1431 : decode cL_law 1431 = .ok (.iaload, 1) := dq_at zd_dL_law_1406 18 rfl
theorem dL_law_1432 : decode cL_law 1432 = .ok (.invokevirtual 165, 3) := dq_at zd_dL_law_1406 19 rfl
theorem dL_law_1435 : decode cL_law 1435 = .ok (.pop, 1) := dq_at zd_dL_law_1406 20 rfl
theorem zd_dL_law_1436 : dq cL_law [(1436, .aload_n 2, 1), (1437, .aload_n 0, 1), (1438, .iload 4, 2), (1440, .iconst 1, 1), (1441, .iadd, 1), (1442, .iaload, 1), (1443, .aload_n 0, 1), (1444, .iload 4, 2), (1446, .iconst 2, 1), (1447, .iadd, 1), (1448, .iaload, 1), (1449, .aload_n 0, 1), (1450, .iload 4, 2), (1452, .iconst 3, 1), (1453, .iadd, 1), (1454, .iaload, 1), (1455, .invokevirtual 168, 3), (1458, .pop, 1), (1459, .goto 67, 3), (1462, .aload_n 1, 1), (1463, .invokevirtual 169, 3)] = true := by decide +kernel
theorem dL_law_1436 : decode cL_law 1436 = .ok (.aload_n 2, 1) := dq_at zd_dL_law_1436 0 rfl
theorem dL_law_1437 : decode cL_law 1437 = .ok (.aload_n 0, 1) := dq_at zd_dL_law_1436 1 rfl
theorem dL_law_1438 : decode cL_law 1438 = .ok (.iload 4, 2) := dq_at zd_dL_law_1436 2 rfl
theorem dL_law_1440 : decode cL_law 1440 = .ok (.iconst 1, 1) := dq_at zd_dL_law_1436 3 rfl
theorem dL_law_1441 : decode cL_law 1441 = .ok (.iadd, 1) := dq_at zd_dL_law_1436 4 rfl
theorem dL_law_1442 : decode cL_law 1442 = .ok (.iaload, 1) := dq_at zd_dL_law_1436 5 rfl
theorem dL_law_1443 : decode cL_law 1443 = .ok (.aload_n 0, 1) := dq_at zd_dL_law_1436 6 rfl
theorem dL_law_1444 : decode cL_law 1444 = .ok (.iload 4, 2) := dq_at zd_dL_law_1436 7 rfl
theorem dL_law_1446 : decode cL_law 1446 = .ok (.iconst 2, 1) := dq_at zd_dL_law_1436 8 rfl
theorem dL_law_1447 : decode cL_law 1447 = .ok (.iadd, 1) := dq_at zd_dL_law_1436 9 rfl
theorem dL_law_1448 : decode cL_law 1448 = .ok (.iaload, 1) := dq_at zd_dL_law_1436 10 rfl
theorem dL_law_1449 : decode cL_law 1449 = .ok (.aload_n 0, 1) := dq_at zd_dL_law_1436 11 rfl
theorem dL_law_1450 : decode cL_law 1450 = .ok (.iload 4, 2) := dq_at zd_dL_law_1436 12 rfl
theorem dL_law_1452 : decode cL_law 1452 = .ok (.iconst 3, 1) := dq_at zd_dL_law_1436 13 rfl
theorem dL_law_1453 : decode cL_law 1453 = .ok (.iadd, 1) := dq_at zd_dL_law_1436 14 rfl
theorem dL_law_1454 : decode cL_law 1454 = .ok (.iaload, 1) := dq_at zd_dL_law_1436 15 rfl
theorem dL_law_1455 : decode cL_law 1455 = .ok (.invokevirtual 168, 3) := dq_at zd_dL_law_1436 16 rfl
theorem dL_law_1458 : decode cL_law 1458 = .ok (.pop, 1) := dq_at zd_dL_law_1436 17 rfl
theorem dL_law_1459 : decode cL_law 1459 = .ok (.goto 67, 3) := dq_at zd_dL_law_1436 18 rfl
theorem dL_law_1462 : decode cL_law 1462 = .ok (.aload_n 1, 1) := dq_at zd_dL_law_1436 19 rfl
theorem dL_law_1463 : decode cL_law 1463 = .ok (.invokevirtual 169, 3) := dq_at zd_dL_law_1436 20 rfl
theorem zd_dL_law_1466 : dq cL_law [(1466, .pop, 1), (1467, .aload_n 2, 1), (1468, .invokevirtual 172, 3), (1471, .pop, 1), (1472, .goto 54, 3), (1475, .aload_n 1, 1), (1476, .invokevirtual 173, 3), (1479, .pop, 1), (1480, .aload_n 2, 1), (1481, .invokevirtual 176, 3), (1484, .pop, 1), (1485, .goto 41, 3), (1488, .aload_n 1, 1), (1489, .invokevirtual 177, 3), (1492, .pop, 1), (1493, .aload_n 2, 1), (1494, .invokevirtual 180, 3), (1497, .pop, 1), (1498, .goto 28, 3), (1501, .aload_n 1, 1), (1502, .aload_n 0, 1)] = true := by decide +kernel
theorem dL_law_1466 : decode cL_law 1466 = .ok (.pop, 1) := dq_at zd_dL_law_1466 0 rfl
theorem dL_law_1467 : decode cL_law 1467 = .ok (.aload_n 2, 1) := dq_at zd_dL_law_1466 1 rfl
theorem dL_law_1468 : decode cL_law 1468 = .ok (.invokevirtual 172, 3) := dq_at zd_dL_law_1466 2 rfl
theorem dL_law_1471 : decode cL_law 1471 = .ok (.pop, 1) := dq_at zd_dL_law_1466 3 rfl
theorem dL_law_1472 : decode cL_law 1472 = .ok (.goto 54, 3) := dq_at zd_dL_law_1466 4 rfl
theorem dL_law_1475 : decode cL_law 1475 = .ok (.aload_n 1, 1) := dq_at zd_dL_law_1466 5 rfl
theorem dL_law_1476 : decode cL_law 1476 = .ok (.invokevirtual 173, 3) := dq_at zd_dL_law_1466 6 rfl
theorem dL_law_1479 : decode cL_law 1479 = .ok (.pop, 1) := dq_at zd_dL_law_1466 7 rfl
theorem dL_law_1480 : decode cL_law 1480 = .ok (.aload_n 2, 1) := dq_at zd_dL_law_1466 8 rfl
theorem dL_law_1481 : decode cL_law 1481 = .ok (.invokevirtual 176, 3) := dq_at zd_dL_law_1466 9 rfl
theorem dL_law_1484 : decode cL_law 1484 = .ok (.pop, 1) := dq_at zd_dL_law_1466 10 rfl
theorem dL_law_1485 : decode cL_law 1485 = .ok (.goto 41, 3) := dq_at zd_dL_law_1466 11 rfl
theorem dL_law_1488 : decode cL_law 1488 = .ok (.aload_n 1, 1) := dq_at zd_dL_law_1466 12 rfl
theorem dL_law_1489 : decode cL_law 1489 = .ok (.invokevirtual 177, 3) := dq_at zd_dL_law_1466 13 rfl
theorem dL_law_1492 : decode cL_law 1492 = .ok (.pop, 1) := dq_at zd_dL_law_1466 14 rfl
theorem dL_law_1493 : decode cL_law 1493 = .ok (.aload_n 2, 1) := dq_at zd_dL_law_1466 15 rfl
theorem dL_law_1494 : decode cL_law 1494 = .ok (.invokevirtual 180, 3) := dq_at zd_dL_law_1466 16 rfl
theorem dL_law_1497 : decode cL_law 1497 = .ok (.pop, 1) := dq_at zd_dL_law_1466 17 rfl
theorem dL_law_1498 : decode cL_law 1498 = .ok (.goto 28, 3) := dq_at zd_dL_law_1466 18 rfl
theorem dL_law_1501 : decode cL_law 1501 = .ok (.aload_n 1, 1) := dq_at zd_dL_law_1466 19 rfl
theorem dL_law_1502 : decode cL_law 1502 = .ok (.aload_n 0, 1) := dq_at zd_dL_law_1466 20 rfl
theorem zd_dL_law_1503 : dq cL_law [(1503, .iload 4, 2), (1505, .iconst 1, 1), (1506, .iadd, 1), (1507, .iaload, 1), (1508, .invokevirtual 181, 3), (1511, .pop, 1), (1512, .aload_n 2, 1), (1513, .aload_n 0, 1), (1514, .iload 4, 2), (1516, .iconst 1, 1), (1517, .iadd, 1), (1518, .iaload, 1), (1519, .invokevirtual 184, 3), (1522, .pop, 1), (1523, .goto 3, 3), (1526, .iinc 4 6, 3), (1529, .goto (-1506), 3), (1532, .iconst 1, 1), (1533, .ireturn, 1)] = true := by decide +kernel
theorem dL_law_1503 : decode cL_law 1503 = .ok (.iload 4, 2) := dq_at zd_dL_law_1503 0 rfl
theorem dL_law_1505 : decode cL_law 1505 = .ok (.iconst 1, 1) := dq_at zd_dL_law_1503 1 rfl
theorem dL_law_1506 : decode cL_law 1506 = .ok (.iadd, 1) := dq_at zd_dL_law_1503 2 rfl
theorem dL_law_1507 : decode cL_law 1507 = .ok (.iaload, 1) := dq_at zd_dL_law_1503 3 rfl
theorem dL_law_1508 : decode cL_law 1508 = .ok (.invokevirtual 181, 3) := dq_at zd_dL_law_1503 4 rfl
theorem dL_law_1511 : decode cL_law 1511 = .ok (.pop, 1) := dq_at zd_dL_law_1503 5 rfl
theorem dL_law_1512 : decode cL_law 1512 = .ok (.aload_n 2, 1) := dq_at zd_dL_law_1503 6 rfl
theorem dL_law_1513 : decode cL_law 1513 = .ok (.aload_n 0, 1) := dq_at zd_dL_law_1503 7 rfl
theorem dL_law_1514 : decode cL_law 1514 = .ok (.iload 4, 2) := dq_at zd_dL_law_1503 8 rfl
theorem dL_law_1516 : decode cL_law 1516 = .ok (.iconst 1, 1) := dq_at zd_dL_law_1503 9 rfl
theorem dL_law_1517 : decode cL_law 1517 = .ok (.iadd, 1) := dq_at zd_dL_law_1503 10 rfl
theorem dL_law_1518 : decode cL_law 1518 = .ok (.iaload, 1) := dq_at zd_dL_law_1503 11 rfl
theorem dL_law_1519 : decode cL_law 1519 = .ok (.invokevirtual 184, 3) := dq_at zd_dL_law_1503 12 rfl
theorem dL_law_1522 : decode cL_law 1522 = .ok (.pop, 1) := dq_at zd_dL_law_1503 13 rfl
theorem dL_law_1523 : decode cL_law 1523 = .ok (.goto 3, 3) := dq_at zd_dL_law_1503 14 rfl
theorem dL_law_1526 : decode cL_law 1526 = .ok (.iinc 4 6, 3) := dq_at zd_dL_law_1503 15 rfl
theorem dL_law_1529 : decode cL_law 1529 = .ok (.goto (-1506), 3) := dq_at zd_dL_law_1503 16 rfl
theorem dL_law_1532 : decode cL_law 1532 = .ok (.iconst 1, 1) := dq_at zd_dL_law_1503 17 rfl
theorem dL_law_1533 : decode cL_law 1533 = .ok (.ireturn, 1) := dq_at zd_dL_law_1503 18 rfl
/-! The cases of the law, but look. -/
/-- the place of out -/
def wO (f : Nat → Int64) : PH := [.inl (3, 1, .inr (.inl f))]
/-- the three worlds between two calls -/
def LW (D : va_G) (cy : Nat → ClassId) (hx hm : PH) (f : Nat → Int64) (s : State) (H : Heap) (locs : List Loc) : Prop := LM D cy s.heap.size 110 hx s H locs ∧ LM D cy (s.heap.size + 110) 43 hm s H locs ∧ LM D cy (s.heap.size + 153) 1 (wO f) s H locs ∧ LRl hx hm
/-- the locals between two calls -/
def LV (b : Nat) (s : State) (i : Int32) : List (Nat × Value) := [(0, .ref b), (1, .ref (s.heap.size + 0)), (2, .ref (s.heap.size + 110 + 0)), (3, .ref (s.heap.size + 153 + 0)), (4, .int i)]
def IN (i : Int32) (L : Nat) : Prop := vp_in i L ∧ vp_in (i + 1) L ∧ vp_in (i + 2) L ∧ vp_in (i + 3) L ∧ vp_in (i + 4) L ∧ vp_in (i + 5) L
theorem gL_11_feed : GoodIn lw_tbl (wsV RL 21 RX11 yX11_feed vX11_feed) := gV_law wT_13_4 wT_13_5 wT_13_6 wT_1_2 wT_13_7
theorem cdL_11_feed : Cd yX11_feed 5 := ⟨by decide, by decide, by decide +kernel⟩
theorem gL_12_feed : GoodIn lw_tbl (wsV RL 25 RX12 yX12_feed vX12_feed) := gV_law wT_13_13 wT_13_14 wT_13_15 wT_1_5 wT_13_16
theorem cdL_12_feed : Cd yX12_feed 5 := ⟨by decide, by decide, by decide +kernel⟩
theorem gL_11_text : GoodIn lw_tbl (wsV RL 26 RX11 yX11_text vX11_text) := gV_law wT_13_19 wT_13_20 wT_13_21 wT_1_2 wT_13_22
theorem cdL_11_text : Cd yX11_text 1 := ⟨by decide, by decide, by decide +kernel⟩
theorem gL_12_text : GoodIn lw_tbl (wsV RL 30 RX12 yX12_text vX12_text) := gV_law wT_26_13 wT_26_14 wT_26_15 wT_1_5 wT_26_16
theorem cdL_12_text : Cd yX12_text 1 := ⟨by decide, by decide, by decide +kernel⟩
theorem gL_11_fault : GoodIn lw_tbl (wsV RL 31 RX11 yX11_fault vX11_fault) := gV_law wT_32_0 wT_32_1 wT_32_2 wT_1_2 wT_32_3
theorem cdL_11_fault : Cd yX11_fault 1 := ⟨by decide, by decide, by decide +kernel⟩
theorem gL_12_fault : GoodIn lw_tbl (wsV RL 34 RX12 yX12_fault vX12_fault) := gV_law wT_32_6 wT_32_7 wT_32_8 wT_1_5 wT_32_9
theorem cdL_12_fault : Cd yX12_fault 1 := ⟨by decide, by decide, by decide +kernel⟩
theorem gL_11_named : GoodIn lw_tbl (wsV RL 35 RX11 yX11_named vX11_named) := gV_law wT_32_10 wT_32_11 wT_32_12 wT_1_2 wT_32_13
theorem cdL_11_named : Cd yX11_named 1 := ⟨by decide, by decide, by decide +kernel⟩
theorem gL_12_named : GoodIn lw_tbl (wsV RL 38 RX12 yX12_named vX12_named) := gV_law wT_32_17 wT_32_18 wT_32_19 wT_1_5 wT_32_20
theorem cdL_12_named : Cd yX12_named 1 := ⟨by decide, by decide, by decide +kernel⟩
theorem gL_11_wave : GoodIn lw_tbl (wsV RL 45 RX11 yX11_wave vX11_wave) := gV_law wT_36_12 wT_36_13 wT_36_14 wT_1_2 wT_36_15
theorem cdL_11_wave : Cd yX11_wave 2 := ⟨by decide, by decide, by decide +kernel⟩
theorem gL_12_wave : GoodIn lw_tbl (wsV RL 48 RX12 yX12_wave vX12_wave) := gV_law wT_37_3 wT_37_4 wT_37_5 wT_1_5 wT_37_6
theorem cdL_12_wave : Cd yX12_wave 2 := ⟨by decide, by decide, by decide +kernel⟩
