/-! THE LAW, ROW BY ROW, ON -/
theorem R361_20 {X : (Nat → Int32) × Nat} {d i : Nat} {I I1 I2 : Nat → Nat → Int32} {J J1 : Nat → Nat → Int64} {z5 z6 z7 : Value} {ν : pm_M} {P : Nat → Nat → Value} {e : Nat} {v : Int32} (hX : X.2 < 2147483648) (hi : i + 6 < X.2) (hc : pm_Fn X (d + 59) 166 1 [.ref 0] (I, J, P, pm_T0, e) (.inl (some (.int v))) (I1, J1, P, pm_T0, e)) (hm : pm_Fn X (d + 59) 295 1 [.ref 127] (I1, J1, P, pm_T0, e) (.inl (some (.int v))) (I2, J1, P, pm_T0, e)) (kk : pm_Fx X (d + 60) 361 2576 [.retAddr 0, .ref 0, .ref 127, .ref 157, .int (nI i), z5, z6, z7] [] (I2, J1, P, pm_T0, e) (.inl (some (.int 1))) ν) : pm_Fx X (d + 60) 361 1362 [.retAddr 0, .ref 0, .ref 127, .ref 157, .int (nI i), z5, z6, z7] [] (I, J, P, pm_T0, e) (.inl (some (.int 1))) ν := by
  refine al1 c361_1362 ?_
  refine cv1 q361_1363 (v := .int v) (μ1 := (I1, J1, P, pm_T0, e)) hc rfl ?_
  refine al2 c361_1366 ?_
  refine cv1 q361_1367 (v := .int v) (μ1 := (I2, J1, P, pm_T0, e)) hm rfl ?_
  exact r_iceq (t := 2576) c361_1370 rfl (fun _ => kk) (fun h => absurd rfl h)
theorem R361_21 {X : (Nat → Int32) × Nat} {d i : Nat} {I I1 I2 : Nat → Nat → Int32} {J J1 : Nat → Nat → Int64} {z5 z6 z7 : Value} {ν : pm_M} {P P1 : Nat → Nat → Value} {e e1 c : Nat} {b : Int32} (hX : X.2 < 2147483648) (hi : i + 6 < X.2) (hf : pm_Fn X (d + 59) 346 0 [.ref 0, .int (X.1 (i + 1)), .ref 157] (I, J, P, pm_T0, e) (.inl (some (.int (nI c)))) (I1, J1, P1, pm_T0, e1)) (hm : pm_Fn X (d + 59) 296 1 [.ref 127, .int (X.1 (i + 1))] (I1, J1, P1, pm_T0, e1) (.inl (some (.int b))) (I2, J1, P1, pm_T0, e1)) (ht : I2 127 0 = nI c) (hcc : c ≤ 2) (hb : c = 0 → J1 157 0 = b.toInt64) (kk : pm_Fx X (d + 60) 361 2576 [.retAddr 0, .ref 0, .ref 127, .ref 157, .int (nI i), .int (nI c), .int b, z7] [] (I2, J1, P1, pm_T0, e1) (.inl (some (.int 1))) ν) : pm_Fx X (d + 60) 361 1375 [.retAddr 0, .ref 0, .ref 127, .ref 157, .int (nI i), z5, z6, z7] [] (I, J, P, pm_T0, e) (.inl (some (.int 1))) ν := by
  refine al1 c361_1375 ?_
  refine lw_x (j := 1) c361_1376 c361_1377 c361_1379 (by decide) c361_1380 c361_1381 hX (by omega) ?_
  refine al3 c361_1382 ?_
  refine cv3 q361_1383 (v := .int (nI c)) (μ1 := (I1, J1, P1, pm_T0, e1)) hf rfl ?_
  refine is5 c361_1386 rfl ?_
  refine al2 c361_1388 ?_
  refine lw_x (j := 1) c361_1389 c361_1390 c361_1392 (by decide) c361_1393 c361_1394 hX (by omega) ?_
  refine cv2 q361_1395 (v := .int b) (μ1 := (I2, J1, P1, pm_T0, e1)) hm rfl ?_
  refine is6 c361_1398 rfl ?_
  refine al2 c361_1400 ?_
  refine cv1 q361_1401 (s214 rfl) rfl ?_
  refine il5 c361_1404 ?_
  refine r_iceq (t := 1411) c361_1406 rfl (fun _ => ?_) (fun h => absurd ht h)
  refine il5 c361_1411 ?_
  refine r_ifne (t := 1428) c361_1413 rfl (fun _ => r_go (t := 2576) c361_1428 rfl kk) (fun h => ?_)
  have h0 := hb (by
    rcases Nat.lt_or_ge c 1 with y | y
    · omega
    · exact absurd h (by rw [show (0 : Int32) = nI 0 from rfl, zt_eq (by omega) (by omega)]; omega))
  refine al3 c361_1416 ?_
  refine r_ic c361_1417 kI0 ?_
  refine w_la c361_1418 rfl (by decide) ?_
  refine il6 c361_1419 ?_
  refine r_i2l c361_1421 ?_
  refine r_lcmp c361_1422 ?_
  exact r_ifeq (t := 1428) c361_1423 rfl (fun _ => r_go (t := 2576) c361_1428 rfl kk) (fun h2 => absurd (by rw [show (0 : Int32).toNatClampNeg = 0 from rfl, h0]; exact lg_eq _) h2)
theorem R361_22 {X : (Nat → Int32) × Nat} {d i : Nat} {I I1 I2 : Nat → Nat → Int32} {J J1 : Nat → Nat → Int64} {z5 z6 z7 : Value} {ν : pm_M} {P P1 : Nat → Nat → Value} {e e1 c : Nat} {b : Int32} (hX : X.2 < 2147483648) (hi : i + 6 < X.2) (hf : pm_Fn X (d + 59) 347 0 [.ref 0, .int (X.1 (i + 1)), .ref 157] (I, J, P, pm_T0, e) (.inl (some (.int (nI c)))) (I1, J1, P1, pm_T0, e1)) (hm : pm_Fn X (d + 59) 297 1 [.ref 127, .int (X.1 (i + 1))] (I1, J1, P1, pm_T0, e1) (.inl (some (.int b))) (I2, J1, P1, pm_T0, e1)) (ht : I2 127 0 = nI c) (hcc : c ≤ 2) (hb : c = 0 → J1 157 0 = b.toInt64) (kk : pm_Fx X (d + 60) 361 2576 [.retAddr 0, .ref 0, .ref 127, .ref 157, .int (nI i), .int (nI c), .int b, z7] [] (I2, J1, P1, pm_T0, e1) (.inl (some (.int 1))) ν) : pm_Fx X (d + 60) 361 1431 [.retAddr 0, .ref 0, .ref 127, .ref 157, .int (nI i), z5, z6, z7] [] (I, J, P, pm_T0, e) (.inl (some (.int 1))) ν := by
  refine al1 c361_1431 ?_
  refine lw_x (j := 1) c361_1432 c361_1433 c361_1435 (by decide) c361_1436 c361_1437 hX (by omega) ?_
  refine al3 c361_1438 ?_
  refine cv3 q361_1439 (v := .int (nI c)) (μ1 := (I1, J1, P1, pm_T0, e1)) hf rfl ?_
  refine is5 c361_1442 rfl ?_
  refine al2 c361_1444 ?_
  refine lw_x (j := 1) c361_1445 c361_1446 c361_1448 (by decide) c361_1449 c361_1450 hX (by omega) ?_
  refine cv2 q361_1451 (v := .int b) (μ1 := (I2, J1, P1, pm_T0, e1)) hm rfl ?_
  refine is6 c361_1454 rfl ?_
  refine al2 c361_1456 ?_
  refine cv1 q361_1457 (s214 rfl) rfl ?_
  refine il5 c361_1460 ?_
  refine r_iceq (t := 1467) c361_1462 rfl (fun _ => ?_) (fun h => absurd ht h)
  refine il5 c361_1467 ?_
  refine r_ifne (t := 1484) c361_1469 rfl (fun _ => r_go (t := 2576) c361_1484 rfl kk) (fun h => ?_)
  have h0 := hb (by
    rcases Nat.lt_or_ge c 1 with y | y
    · omega
    · exact absurd h (by rw [show (0 : Int32) = nI 0 from rfl, zt_eq (by omega) (by omega)]; omega))
  refine al3 c361_1472 ?_
  refine r_ic c361_1473 kI0 ?_
  refine w_la c361_1474 rfl (by decide) ?_
  refine il6 c361_1475 ?_
  refine r_i2l c361_1477 ?_
  refine r_lcmp c361_1478 ?_
  exact r_ifeq (t := 1484) c361_1479 rfl (fun _ => r_go (t := 2576) c361_1484 rfl kk) (fun h2 => absurd (by rw [show (0 : Int32).toNatClampNeg = 0 from rfl, h0]; exact lg_eq _) h2)
theorem R361_23 {X : (Nat → Int32) × Nat} {d i : Nat} {I I1 I2 : Nat → Nat → Int32} {J J1 : Nat → Nat → Int64} {z5 z6 z7 : Value} {ν : pm_M} {P P1 : Nat → Nat → Value} {e e1 c : Nat} {b : Int32} (hX : X.2 < 2147483648) (hi : i + 6 < X.2) (hf : pm_Fn X (d + 59) 348 0 [.ref 0, .int (X.1 (i + 1)), .ref 157] (I, J, P, pm_T0, e) (.inl (some (.int (nI c)))) (I1, J1, P1, pm_T0, e1)) (hm : pm_Fn X (d + 59) 298 1 [.ref 127, .int (X.1 (i + 1))] (I1, J1, P1, pm_T0, e1) (.inl (some (.int b))) (I2, J1, P1, pm_T0, e1)) (ht : I2 127 0 = nI c) (hcc : c ≤ 2) (hb : c = 0 → J1 157 0 = (if b = 0 then 0 else 1)) (kk : pm_Fx X (d + 60) 361 2576 [.retAddr 0, .ref 0, .ref 127, .ref 157, .int (nI i), .int (nI c), .int b, z7] [] (I2, J1, P1, pm_T0, e1) (.inl (some (.int 1))) ν) : pm_Fx X (d + 60) 361 1487 [.retAddr 0, .ref 0, .ref 127, .ref 157, .int (nI i), z5, z6, z7] [] (I, J, P, pm_T0, e) (.inl (some (.int 1))) ν := by
  refine al1 c361_1487 ?_
  refine lw_x (j := 1) c361_1488 c361_1489 c361_1491 (by decide) c361_1492 c361_1493 hX (by omega) ?_
  refine al3 c361_1494 ?_
  refine cv3 q361_1495 (v := .int (nI c)) (μ1 := (I1, J1, P1, pm_T0, e1)) hf rfl ?_
  refine is5 c361_1498 rfl ?_
  refine al2 c361_1500 ?_
  refine lw_x (j := 1) c361_1501 c361_1502 c361_1504 (by decide) c361_1505 c361_1506 hX (by omega) ?_
  refine cv2 q361_1507 (v := .int b) (μ1 := (I2, J1, P1, pm_T0, e1)) hm rfl ?_
  refine is6 c361_1510 rfl ?_
  refine al2 c361_1512 ?_
  refine cv1 q361_1513 (s214 rfl) rfl ?_
  refine il5 c361_1516 ?_
  refine r_iceq (t := 1523) c361_1518 rfl (fun _ => ?_) (fun h => absurd ht h)
  refine il5 c361_1523 ?_
  refine r_ifne (t := 1547) c361_1525 rfl (fun _ => r_go (t := 2576) c361_1547 rfl kk) (fun h => ?_)
  have h0 := hb (by
    rcases Nat.lt_or_ge c 1 with y | y
    · omega
    · exact absurd h (by rw [show (0 : Int32) = nI 0 from rfl, zt_eq (by omega) (by omega)]; omega))
  refine al3 c361_1528 ?_
  refine r_ic c361_1529 kI0 ?_
  refine w_la c361_1530 rfl (by decide) ?_
  refine il6 c361_1531 ?_
  refine r_ifeq (t := 1540) c361_1533 rfl (fun hz => ?_) (fun hz => ?_)
  · rw [show J1 157 (0 : Int32).toNatClampNeg = 0 by rw [show (0 : Int32).toNatClampNeg = 0 from rfl, h0, if_pos hz]]
    refine r_lc c361_1540 kL0 ?_
    refine r_lcmp c361_1541 ?_
    exact r_ifeq (t := 1547) c361_1542 rfl (fun _ => r_go (t := 2576) c361_1547 rfl kk) (fun h2 => absurd (lg_eq _) h2)
  · rw [show J1 157 (0 : Int32).toNatClampNeg = 1 by rw [show (0 : Int32).toNatClampNeg = 0 from rfl, h0, if_neg hz]]
    refine r_lc c361_1536 kL1 ?_
    refine r_go (t := 1541) c361_1537 rfl ?_
    refine r_lcmp c361_1541 ?_
    exact r_ifeq (t := 1547) c361_1542 rfl (fun _ => r_go (t := 2576) c361_1547 rfl kk) (fun h2 => absurd (lg_eq _) h2)
theorem R361_24 {X : (Nat → Int32) × Nat} {d i : Nat} {I I1 I2 : Nat → Nat → Int32} {J J1 : Nat → Nat → Int64} {z5 z6 z7 : Value} {ν : pm_M} {P P1 : Nat → Nat → Value} {e e1 c : Nat} {b : Int32} (hX : X.2 < 2147483648) (hi : i + 6 < X.2) (hf : pm_Fn X (d + 59) 349 0 [.ref 0, .int (X.1 (i + 1)), .ref 157] (I, J, P, pm_T0, e) (.inl (some (.int (nI c)))) (I1, J1, P1, pm_T0, e1)) (hm : pm_Fn X (d + 59) 299 1 [.ref 127, .int (X.1 (i + 1))] (I1, J1, P1, pm_T0, e1) (.inl (some (.int b))) (I2, J1, P1, pm_T0, e1)) (ht : I2 127 0 = nI c) (hcc : c ≤ 2) (hb : c = 0 → J1 157 0 = b.toInt64) (kk : pm_Fx X (d + 60) 361 2576 [.retAddr 0, .ref 0, .ref 127, .ref 157, .int (nI i), .int (nI c), .int b, z7] [] (I2, J1, P1, pm_T0, e1) (.inl (some (.int 1))) ν) : pm_Fx X (d + 60) 361 1550 [.retAddr 0, .ref 0, .ref 127, .ref 157, .int (nI i), z5, z6, z7] [] (I, J, P, pm_T0, e) (.inl (some (.int 1))) ν := by
  refine al1 c361_1550 ?_
  refine lw_x (j := 1) c361_1551 c361_1552 c361_1554 (by decide) c361_1555 c361_1556 hX (by omega) ?_
  refine al3 c361_1557 ?_
  refine cv3 q361_1558 (v := .int (nI c)) (μ1 := (I1, J1, P1, pm_T0, e1)) hf rfl ?_
  refine is5 c361_1561 rfl ?_
  refine al2 c361_1563 ?_
  refine lw_x (j := 1) c361_1564 c361_1565 c361_1567 (by decide) c361_1568 c361_1569 hX (by omega) ?_
  refine cv2 q361_1570 (v := .int b) (μ1 := (I2, J1, P1, pm_T0, e1)) hm rfl ?_
  refine is6 c361_1573 rfl ?_
  refine al2 c361_1575 ?_
  refine cv1 q361_1576 (s214 rfl) rfl ?_
  refine il5 c361_1579 ?_
  refine r_iceq (t := 1586) c361_1581 rfl (fun _ => ?_) (fun h => absurd ht h)
  refine il5 c361_1586 ?_
  refine r_ifne (t := 1603) c361_1588 rfl (fun _ => r_go (t := 2576) c361_1603 rfl kk) (fun h => ?_)
  have h0 := hb (by
    rcases Nat.lt_or_ge c 1 with y | y
    · omega
    · exact absurd h (by rw [show (0 : Int32) = nI 0 from rfl, zt_eq (by omega) (by omega)]; omega))
  refine al3 c361_1591 ?_
  refine r_ic c361_1592 kI0 ?_
  refine w_la c361_1593 rfl (by decide) ?_
  refine il6 c361_1594 ?_
  refine r_i2l c361_1596 ?_
  refine r_lcmp c361_1597 ?_
  exact r_ifeq (t := 1603) c361_1598 rfl (fun _ => r_go (t := 2576) c361_1603 rfl kk) (fun h2 => absurd (by rw [show (0 : Int32).toNatClampNeg = 0 from rfl, h0]; exact lg_eq _) h2)
theorem R361_25 {X : (Nat → Int32) × Nat} {d i : Nat} {I I1 I2 : Nat → Nat → Int32} {J J1 : Nat → Nat → Int64} {z5 z6 z7 : Value} {ν : pm_M} {P P1 : Nat → Nat → Value} {e e1 c : Nat} {b : Int32} (hX : X.2 < 2147483648) (hi : i + 6 < X.2) (hf : pm_Fn X (d + 59) 350 0 [.ref 0, .int (X.1 (i + 1)), .ref 157] (I, J, P, pm_T0, e) (.inl (some (.int (nI c)))) (I1, J1, P1, pm_T0, e1)) (hm : pm_Fn X (d + 59) 300 1 [.ref 127, .int (X.1 (i + 1))] (I1, J1, P1, pm_T0, e1) (.inl (some (.int b))) (I2, J1, P1, pm_T0, e1)) (ht : I2 127 0 = nI c) (hcc : c ≤ 2) (hb : c = 0 → J1 157 0 = b.toInt64) (kk : pm_Fx X (d + 60) 361 2576 [.retAddr 0, .ref 0, .ref 127, .ref 157, .int (nI i), .int (nI c), .int b, z7] [] (I2, J1, P1, pm_T0, e1) (.inl (some (.int 1))) ν) : pm_Fx X (d + 60) 361 1606 [.retAddr 0, .ref 0, .ref 127, .ref 157, .int (nI i), z5, z6, z7] [] (I, J, P, pm_T0, e) (.inl (some (.int 1))) ν := by
  refine al1 c361_1606 ?_
  refine lw_x (j := 1) c361_1607 c361_1608 c361_1610 (by decide) c361_1611 c361_1612 hX (by omega) ?_
  refine al3 c361_1613 ?_
  refine cv3 q361_1614 (v := .int (nI c)) (μ1 := (I1, J1, P1, pm_T0, e1)) hf rfl ?_
  refine is5 c361_1617 rfl ?_
  refine al2 c361_1619 ?_
  refine lw_x (j := 1) c361_1620 c361_1621 c361_1623 (by decide) c361_1624 c361_1625 hX (by omega) ?_
  refine cv2 q361_1626 (v := .int b) (μ1 := (I2, J1, P1, pm_T0, e1)) hm rfl ?_
  refine is6 c361_1629 rfl ?_
  refine al2 c361_1631 ?_
  refine cv1 q361_1632 (s214 rfl) rfl ?_
  refine il5 c361_1635 ?_
  refine r_iceq (t := 1642) c361_1637 rfl (fun _ => ?_) (fun h => absurd ht h)
  refine il5 c361_1642 ?_
  refine r_ifne (t := 1659) c361_1644 rfl (fun _ => r_go (t := 2576) c361_1659 rfl kk) (fun h => ?_)
  have h0 := hb (by
    rcases Nat.lt_or_ge c 1 with y | y
    · omega
    · exact absurd h (by rw [show (0 : Int32) = nI 0 from rfl, zt_eq (by omega) (by omega)]; omega))
  refine al3 c361_1647 ?_
  refine r_ic c361_1648 kI0 ?_
  refine w_la c361_1649 rfl (by decide) ?_
  refine il6 c361_1650 ?_
  refine r_i2l c361_1652 ?_
  refine r_lcmp c361_1653 ?_
  exact r_ifeq (t := 1659) c361_1654 rfl (fun _ => r_go (t := 2576) c361_1659 rfl kk) (fun h2 => absurd (by rw [show (0 : Int32).toNatClampNeg = 0 from rfl, h0]; exact lg_eq _) h2)
theorem R361_26 {X : (Nat → Int32) × Nat} {d i : Nat} {I I1 I2 : Nat → Nat → Int32} {J J1 : Nat → Nat → Int64} {z5 z6 z7 : Value} {ν : pm_M} {P : Nat → Nat → Value} {e : Nat} {v : Int32} (hX : X.2 < 2147483648) (hi : i + 6 < X.2) (hc : pm_Fn X (d + 59) 167 1 [.ref 0] (I, J, P, pm_T0, e) (.inl (some (.int v))) (I1, J1, P, pm_T0, e)) (hm : pm_Fn X (d + 59) 301 1 [.ref 127] (I1, J1, P, pm_T0, e) (.inl (some (.int v))) (I2, J1, P, pm_T0, e)) (kk : pm_Fx X (d + 60) 361 2576 [.retAddr 0, .ref 0, .ref 127, .ref 157, .int (nI i), z5, z6, z7] [] (I2, J1, P, pm_T0, e) (.inl (some (.int 1))) ν) : pm_Fx X (d + 60) 361 1662 [.retAddr 0, .ref 0, .ref 127, .ref 157, .int (nI i), z5, z6, z7] [] (I, J, P, pm_T0, e) (.inl (some (.int 1))) ν := by
  refine al1 c361_1662 ?_
  refine cv1 q361_1663 (v := .int v) (μ1 := (I1, J1, P, pm_T0, e)) hc rfl ?_
  refine al2 c361_1666 ?_
  refine cv1 q361_1667 (v := .int v) (μ1 := (I2, J1, P, pm_T0, e)) hm rfl ?_
  exact r_iceq (t := 2576) c361_1670 rfl (fun _ => kk) (fun h => absurd rfl h)
theorem R361_27 {X : (Nat → Int32) × Nat} {d i : Nat} {I I1 I2 : Nat → Nat → Int32} {J J1 : Nat → Nat → Int64} {z5 z6 z7 : Value} {ν : pm_M} {P P1 : Nat → Nat → Value} {e e1 c : Nat} {b : Int32} (hX : X.2 < 2147483648) (hi : i + 6 < X.2) (hf : pm_Fn X (d + 59) 351 0 [.ref 0, .int (X.1 (i + 1)), .int (X.1 (i + 2)), .ref 157] (I, J, P, pm_T0, e) (.inl (some (.int (nI c)))) (I1, J1, P1, pm_T0, e1)) (hm : pm_Fn X (d + 59) 302 1 [.ref 127, .int (X.1 (i + 1)), .int (X.1 (i + 2))] (I1, J1, P1, pm_T0, e1) (.inl (some (.int b))) (I2, J1, P1, pm_T0, e1)) (ht : I2 127 0 = nI c) (hcc : c ≤ 2) (hb : c = 0 → J1 157 0 = b.toInt64) (kk : pm_Fx X (d + 60) 361 2576 [.retAddr 0, .ref 0, .ref 127, .ref 157, .int (nI i), .int (nI c), .int b, z7] [] (I2, J1, P1, pm_T0, e1) (.inl (some (.int 1))) ν) : pm_Fx X (d + 60) 361 1675 [.retAddr 0, .ref 0, .ref 127, .ref 157, .int (nI i), z5, z6, z7] [] (I, J, P, pm_T0, e) (.inl (some (.int 1))) ν := by
  refine al1 c361_1675 ?_
  refine lw_x (j := 1) c361_1676 c361_1677 c361_1679 (by decide) c361_1680 c361_1681 hX (by omega) ?_
  refine lw_x (j := 2) c361_1682 c361_1683 c361_1685 (by decide) c361_1686 c361_1687 hX (by omega) ?_
  refine al3 c361_1688 ?_
  refine cv4 q361_1689 (v := .int (nI c)) (μ1 := (I1, J1, P1, pm_T0, e1)) hf rfl ?_
  refine is5 c361_1692 rfl ?_
  refine al2 c361_1694 ?_
  refine lw_x (j := 1) c361_1695 c361_1696 c361_1698 (by decide) c361_1699 c361_1700 hX (by omega) ?_
  refine lw_x (j := 2) c361_1701 c361_1702 c361_1704 (by decide) c361_1705 c361_1706 hX (by omega) ?_
  refine cv3 q361_1707 (v := .int b) (μ1 := (I2, J1, P1, pm_T0, e1)) hm rfl ?_
  refine is6 c361_1710 rfl ?_
  refine al2 c361_1712 ?_
  refine cv1 q361_1713 (s214 rfl) rfl ?_
  refine il5 c361_1716 ?_
  refine r_iceq (t := 1723) c361_1718 rfl (fun _ => ?_) (fun h => absurd ht h)
  refine il5 c361_1723 ?_
  refine r_ifne (t := 1740) c361_1725 rfl (fun _ => r_go (t := 2576) c361_1740 rfl kk) (fun h => ?_)
  have h0 := hb (by
    rcases Nat.lt_or_ge c 1 with y | y
    · omega
    · exact absurd h (by rw [show (0 : Int32) = nI 0 from rfl, zt_eq (by omega) (by omega)]; omega))
  refine al3 c361_1728 ?_
  refine r_ic c361_1729 kI0 ?_
  refine w_la c361_1730 rfl (by decide) ?_
  refine il6 c361_1731 ?_
  refine r_i2l c361_1733 ?_
  refine r_lcmp c361_1734 ?_
  exact r_ifeq (t := 1740) c361_1735 rfl (fun _ => r_go (t := 2576) c361_1740 rfl kk) (fun h2 => absurd (by rw [show (0 : Int32).toNatClampNeg = 0 from rfl, h0]; exact lg_eq _) h2)
theorem R361_28 {X : (Nat → Int32) × Nat} {d i : Nat} {I I1 I2 : Nat → Nat → Int32} {J J1 : Nat → Nat → Int64} {z5 z6 z7 : Value} {ν : pm_M} {P P1 : Nat → Nat → Value} {e e1 c : Nat} {b : Int32} (hX : X.2 < 2147483648) (hi : i + 6 < X.2) (hf : pm_Fn X (d + 59) 352 0 [.ref 0, .int (X.1 (i + 1)), .int (X.1 (i + 2)), .ref 157] (I, J, P, pm_T0, e) (.inl (some (.int (nI c)))) (I1, J1, P1, pm_T0, e1)) (hm : pm_Fn X (d + 59) 305 1 [.ref 127, .int (X.1 (i + 1)), .int (X.1 (i + 2))] (I1, J1, P1, pm_T0, e1) (.inl (some (.int b))) (I2, J1, P1, pm_T0, e1)) (ht : I2 127 0 = nI c) (hcc : c ≤ 2) (hb : c = 0 → J1 157 0 = b.toInt64) (kk : pm_Fx X (d + 60) 361 2576 [.retAddr 0, .ref 0, .ref 127, .ref 157, .int (nI i), .int (nI c), .int b, z7] [] (I2, J1, P1, pm_T0, e1) (.inl (some (.int 1))) ν) : pm_Fx X (d + 60) 361 1743 [.retAddr 0, .ref 0, .ref 127, .ref 157, .int (nI i), z5, z6, z7] [] (I, J, P, pm_T0, e) (.inl (some (.int 1))) ν := by
  refine al1 c361_1743 ?_
  refine lw_x (j := 1) c361_1744 c361_1745 c361_1747 (by decide) c361_1748 c361_1749 hX (by omega) ?_
  refine lw_x (j := 2) c361_1750 c361_1751 c361_1753 (by decide) c361_1754 c361_1755 hX (by omega) ?_
  refine al3 c361_1756 ?_
  refine cv4 q361_1757 (v := .int (nI c)) (μ1 := (I1, J1, P1, pm_T0, e1)) hf rfl ?_
  refine is5 c361_1760 rfl ?_
  refine al2 c361_1762 ?_
  refine lw_x (j := 1) c361_1763 c361_1764 c361_1766 (by decide) c361_1767 c361_1768 hX (by omega) ?_
  refine lw_x (j := 2) c361_1769 c361_1770 c361_1772 (by decide) c361_1773 c361_1774 hX (by omega) ?_
  refine cv3 q361_1775 (v := .int b) (μ1 := (I2, J1, P1, pm_T0, e1)) hm rfl ?_
  refine is6 c361_1778 rfl ?_
  refine al2 c361_1780 ?_
  refine cv1 q361_1781 (s214 rfl) rfl ?_
  refine il5 c361_1784 ?_
  refine r_iceq (t := 1791) c361_1786 rfl (fun _ => ?_) (fun h => absurd ht h)
  refine il5 c361_1791 ?_
  refine r_ifne (t := 1808) c361_1793 rfl (fun _ => r_go (t := 2576) c361_1808 rfl kk) (fun h => ?_)
  have h0 := hb (by
    rcases Nat.lt_or_ge c 1 with y | y
    · omega
    · exact absurd h (by rw [show (0 : Int32) = nI 0 from rfl, zt_eq (by omega) (by omega)]; omega))
  refine al3 c361_1796 ?_
  refine r_ic c361_1797 kI0 ?_
  refine w_la c361_1798 rfl (by decide) ?_
  refine il6 c361_1799 ?_
  refine r_i2l c361_1801 ?_
  refine r_lcmp c361_1802 ?_
  exact r_ifeq (t := 1808) c361_1803 rfl (fun _ => r_go (t := 2576) c361_1808 rfl kk) (fun h2 => absurd (by rw [show (0 : Int32).toNatClampNeg = 0 from rfl, h0]; exact lg_eq _) h2)
theorem R361_29 {X : (Nat → Int32) × Nat} {d i : Nat} {I I1 I2 : Nat → Nat → Int32} {J J1 : Nat → Nat → Int64} {z5 z6 z7 : Value} {ν : pm_M} {P P1 : Nat → Nat → Value} {e e1 c : Nat} {b : Int64} (hX : X.2 < 2147483648) (hi : i + 6 < X.2) (hf : pm_Fn X (d + 59) 353 0 [.ref 0, .int (X.1 (i + 1)), .int (X.1 (i + 2)), .int (X.1 (i + 3)), .ref 157] (I, J, P, pm_T0, e) (.inl (some (.int (nI c)))) (I1, J1, P1, pm_T0, e1)) (hm : pm_Fn X (d + 59) 308 1 [.ref 127, .int (X.1 (i + 1)), .int (X.1 (i + 2)), .int (X.1 (i + 3))] (I1, J1, P1, pm_T0, e1) (.inl (some (.long b))) (I2, J1, P1, pm_T0, e1)) (ht : I2 127 0 = nI c) (hcc : c ≤ 2) (hb : c = 0 → J1 157 0 = b) (kk : pm_Fx X (d + 60) 361 2576 [.retAddr 0, .ref 0, .ref 127, .ref 157, .int (nI i), .int (nI c), .long b, pm_jk] [] (I2, J1, P1, pm_T0, e1) (.inl (some (.int 1))) ν) : pm_Fx X (d + 60) 361 1811 [.retAddr 0, .ref 0, .ref 127, .ref 157, .int (nI i), z5, z6, z7] [] (I, J, P, pm_T0, e) (.inl (some (.int 1))) ν := by
  refine al1 c361_1811 ?_
  refine lw_x (j := 1) c361_1812 c361_1813 c361_1815 (by decide) c361_1816 c361_1817 hX (by omega) ?_
  refine lw_x (j := 2) c361_1818 c361_1819 c361_1821 (by decide) c361_1822 c361_1823 hX (by omega) ?_
  refine lw_x (j := 3) c361_1824 c361_1825 c361_1827 (by decide) c361_1828 c361_1829 hX (by omega) ?_
  refine al3 c361_1830 ?_
  refine cv5 q361_1831 (v := .int (nI c)) (μ1 := (I1, J1, P1, pm_T0, e1)) hf rfl ?_
  refine is5 c361_1834 rfl ?_
  refine al2 c361_1836 ?_
  refine lw_x (j := 1) c361_1837 c361_1838 c361_1840 (by decide) c361_1841 c361_1842 hX (by omega) ?_
  refine lw_x (j := 2) c361_1843 c361_1844 c361_1846 (by decide) c361_1847 c361_1848 hX (by omega) ?_
  refine lw_x (j := 3) c361_1849 c361_1850 c361_1852 (by decide) c361_1853 c361_1854 hX (by omega) ?_
  refine cv4 q361_1855 (v := .long b) (μ1 := (I2, J1, P1, pm_T0, e1)) hm rfl ?_
  refine ls6 c361_1858 rfl ?_
  refine al2 c361_1860 ?_
  refine cv1 q361_1861 (s214 rfl) rfl ?_
  refine il5 c361_1864 ?_
  refine r_iceq (t := 1871) c361_1866 rfl (fun _ => ?_) (fun h => absurd ht h)
  refine il5 c361_1871 ?_
  refine r_ifne (t := 1887) c361_1873 rfl (fun _ => r_go (t := 2576) c361_1887 rfl kk) (fun h => ?_)
  have h0 := hb (by
    rcases Nat.lt_or_ge c 1 with y | y
    · omega
    · exact absurd h (by rw [show (0 : Int32) = nI 0 from rfl, zt_eq (by omega) (by omega)]; omega))
  refine al3 c361_1876 ?_
  refine r_ic c361_1877 kI0 ?_
  refine w_la c361_1878 rfl (by decide) ?_
  refine ll6 c361_1879 ?_
  refine r_lcmp c361_1881 ?_
  exact r_ifeq (t := 1887) c361_1882 rfl (fun _ => r_go (t := 2576) c361_1887 rfl kk) (fun h2 => absurd (by rw [show (0 : Int32).toNatClampNeg = 0 from rfl, h0]; exact lg_eq _) h2)
theorem R361_30 {X : (Nat → Int32) × Nat} {d i : Nat} {I I1 I2 : Nat → Nat → Int32} {J J1 : Nat → Nat → Int64} {z5 z6 z7 : Value} {ν : pm_M} {P P1 : Nat → Nat → Value} {e e1 c : Nat} {b : Int32} (hX : X.2 < 2147483648) (hi : i + 6 < X.2) (hf : pm_Fn X (d + 59) 354 0 [.ref 0, .int (X.1 (i + 1)), .int (X.1 (i + 2)), .ref 157] (I, J, P, pm_T0, e) (.inl (some (.int (nI c)))) (I1, J1, P1, pm_T0, e1)) (hm : pm_Fn X (d + 59) 312 1 [.ref 127, .int (X.1 (i + 1)), .int (X.1 (i + 2))] (I1, J1, P1, pm_T0, e1) (.inl (some (.int b))) (I2, J1, P1, pm_T0, e1)) (ht : I2 127 0 = nI c) (hcc : c ≤ 2) (hb : c = 0 → J1 157 0 = b.toInt64) (kk : pm_Fx X (d + 60) 361 2576 [.retAddr 0, .ref 0, .ref 127, .ref 157, .int (nI i), .int (nI c), .int b, z7] [] (I2, J1, P1, pm_T0, e1) (.inl (some (.int 1))) ν) : pm_Fx X (d + 60) 361 1890 [.retAddr 0, .ref 0, .ref 127, .ref 157, .int (nI i), z5, z6, z7] [] (I, J, P, pm_T0, e) (.inl (some (.int 1))) ν := by
  refine al1 c361_1890 ?_
  refine lw_x (j := 1) c361_1891 c361_1892 c361_1894 (by decide) c361_1895 c361_1896 hX (by omega) ?_
  refine lw_x (j := 2) c361_1897 c361_1898 c361_1900 (by decide) c361_1901 c361_1902 hX (by omega) ?_
  refine al3 c361_1903 ?_
  refine cv4 q361_1904 (v := .int (nI c)) (μ1 := (I1, J1, P1, pm_T0, e1)) hf rfl ?_
  refine is5 c361_1907 rfl ?_
  refine al2 c361_1909 ?_
  refine lw_x (j := 1) c361_1910 c361_1911 c361_1913 (by decide) c361_1914 c361_1915 hX (by omega) ?_
  refine lw_x (j := 2) c361_1916 c361_1917 c361_1919 (by decide) c361_1920 c361_1921 hX (by omega) ?_
  refine cv3 q361_1922 (v := .int b) (μ1 := (I2, J1, P1, pm_T0, e1)) hm rfl ?_
  refine is6 c361_1925 rfl ?_
  refine al2 c361_1927 ?_
  refine cv1 q361_1928 (s214 rfl) rfl ?_
  refine il5 c361_1931 ?_
  refine r_iceq (t := 1938) c361_1933 rfl (fun _ => ?_) (fun h => absurd ht h)
  refine il5 c361_1938 ?_
  refine r_ifne (t := 1955) c361_1940 rfl (fun _ => r_go (t := 2576) c361_1955 rfl kk) (fun h => ?_)
  have h0 := hb (by
    rcases Nat.lt_or_ge c 1 with y | y
    · omega
    · exact absurd h (by rw [show (0 : Int32) = nI 0 from rfl, zt_eq (by omega) (by omega)]; omega))
  refine al3 c361_1943 ?_
  refine r_ic c361_1944 kI0 ?_
  refine w_la c361_1945 rfl (by decide) ?_
  refine il6 c361_1946 ?_
  refine r_i2l c361_1948 ?_
  refine r_lcmp c361_1949 ?_
  exact r_ifeq (t := 1955) c361_1950 rfl (fun _ => r_go (t := 2576) c361_1955 rfl kk) (fun h2 => absurd (by rw [show (0 : Int32).toNatClampNeg = 0 from rfl, h0]; exact lg_eq _) h2)
theorem R361_31 {X : (Nat → Int32) × Nat} {d i : Nat} {I I1 I2 : Nat → Nat → Int32} {J J1 : Nat → Nat → Int64} {z5 z6 z7 : Value} {ν : pm_M} {P P1 : Nat → Nat → Value} {e e1 c : Nat} {b : Int32} (hX : X.2 < 2147483648) (hi : i + 6 < X.2) (hf : pm_Fn X (d + 59) 355 0 [.ref 0, .int (X.1 (i + 1)), .int (X.1 (i + 2)), .int (X.1 (i + 3)), .ref 157] (I, J, P, pm_T0, e) (.inl (some (.int (nI c)))) (I1, J1, P1, pm_T0, e1)) (hm : pm_Fn X (d + 59) 313 1 [.ref 127, .int (X.1 (i + 1)), .int (X.1 (i + 2)), .int (X.1 (i + 3))] (I1, J1, P1, pm_T0, e1) (.inl (some (.int b))) (I2, J1, P1, pm_T0, e1)) (ht : I2 127 0 = nI c) (hcc : c ≤ 2) (hb : c = 0 → J1 157 0 = b.toInt64) (kk : pm_Fx X (d + 60) 361 2576 [.retAddr 0, .ref 0, .ref 127, .ref 157, .int (nI i), .int (nI c), .int b, z7] [] (I2, J1, P1, pm_T0, e1) (.inl (some (.int 1))) ν) : pm_Fx X (d + 60) 361 1958 [.retAddr 0, .ref 0, .ref 127, .ref 157, .int (nI i), z5, z6, z7] [] (I, J, P, pm_T0, e) (.inl (some (.int 1))) ν := by
  refine al1 c361_1958 ?_
  refine lw_x (j := 1) c361_1959 c361_1960 c361_1962 (by decide) c361_1963 c361_1964 hX (by omega) ?_
  refine lw_x (j := 2) c361_1965 c361_1966 c361_1968 (by decide) c361_1969 c361_1970 hX (by omega) ?_
  refine lw_x (j := 3) c361_1971 c361_1972 c361_1974 (by decide) c361_1975 c361_1976 hX (by omega) ?_
  refine al3 c361_1977 ?_
  refine cv5 q361_1978 (v := .int (nI c)) (μ1 := (I1, J1, P1, pm_T0, e1)) hf rfl ?_
  refine is5 c361_1981 rfl ?_
  refine al2 c361_1983 ?_
  refine lw_x (j := 1) c361_1984 c361_1985 c361_1987 (by decide) c361_1988 c361_1989 hX (by omega) ?_
  refine lw_x (j := 2) c361_1990 c361_1991 c361_1993 (by decide) c361_1994 c361_1995 hX (by omega) ?_
  refine lw_x (j := 3) c361_1996 c361_1997 c361_1999 (by decide) c361_2000 c361_2001 hX (by omega) ?_
  refine cv4 q361_2002 (v := .int b) (μ1 := (I2, J1, P1, pm_T0, e1)) hm rfl ?_
  refine is6 c361_2005 rfl ?_
  refine al2 c361_2007 ?_
  refine cv1 q361_2008 (s214 rfl) rfl ?_
  refine il5 c361_2011 ?_
  refine r_iceq (t := 2018) c361_2013 rfl (fun _ => ?_) (fun h => absurd ht h)
  refine il5 c361_2018 ?_
  refine r_ifne (t := 2035) c361_2020 rfl (fun _ => r_go (t := 2576) c361_2035 rfl kk) (fun h => ?_)
  have h0 := hb (by
    rcases Nat.lt_or_ge c 1 with y | y
    · omega
    · exact absurd h (by rw [show (0 : Int32) = nI 0 from rfl, zt_eq (by omega) (by omega)]; omega))
  refine al3 c361_2023 ?_
  refine r_ic c361_2024 kI0 ?_
  refine w_la c361_2025 rfl (by decide) ?_
  refine il6 c361_2026 ?_
  refine r_i2l c361_2028 ?_
  refine r_lcmp c361_2029 ?_
  exact r_ifeq (t := 2035) c361_2030 rfl (fun _ => r_go (t := 2576) c361_2035 rfl kk) (fun h2 => absurd (by rw [show (0 : Int32).toNatClampNeg = 0 from rfl, h0]; exact lg_eq _) h2)
theorem R361_32 {X : (Nat → Int32) × Nat} {d i : Nat} {I I1 I2 : Nat → Nat → Int32} {J J1 : Nat → Nat → Int64} {z5 z6 z7 : Value} {ν : pm_M} {P P1 : Nat → Nat → Value} {e e1 c : Nat} {b : Int32} (hX : X.2 < 2147483648) (hi : i + 6 < X.2) (hf : pm_Fn X (d + 59) 356 0 [.ref 0, .int (X.1 (i + 1)), .int (X.1 (i + 2)), .ref 157] (I, J, P, pm_T0, e) (.inl (some (.int (nI c)))) (I1, J1, P1, pm_T0, e1)) (hm : pm_Fn X (d + 59) 314 1 [.ref 127, .int (X.1 (i + 1)), .int (X.1 (i + 2))] (I1, J1, P1, pm_T0, e1) (.inl (some (.int b))) (I2, J1, P1, pm_T0, e1)) (ht : I2 127 0 = nI c) (hcc : c ≤ 2) (hb : c = 0 → J1 157 0 = b.toInt64) (kk : pm_Fx X (d + 60) 361 2576 [.retAddr 0, .ref 0, .ref 127, .ref 157, .int (nI i), .int (nI c), .int b, z7] [] (I2, J1, P1, pm_T0, e1) (.inl (some (.int 1))) ν) : pm_Fx X (d + 60) 361 2038 [.retAddr 0, .ref 0, .ref 127, .ref 157, .int (nI i), z5, z6, z7] [] (I, J, P, pm_T0, e) (.inl (some (.int 1))) ν := by
  refine al1 c361_2038 ?_
  refine lw_x (j := 1) c361_2039 c361_2040 c361_2042 (by decide) c361_2043 c361_2044 hX (by omega) ?_
  refine lw_x (j := 2) c361_2045 c361_2046 c361_2048 (by decide) c361_2049 c361_2050 hX (by omega) ?_
  refine al3 c361_2051 ?_
  refine cv4 q361_2052 (v := .int (nI c)) (μ1 := (I1, J1, P1, pm_T0, e1)) hf rfl ?_
  refine is5 c361_2055 rfl ?_
  refine al2 c361_2057 ?_
  refine lw_x (j := 1) c361_2058 c361_2059 c361_2061 (by decide) c361_2062 c361_2063 hX (by omega) ?_
  refine lw_x (j := 2) c361_2064 c361_2065 c361_2067 (by decide) c361_2068 c361_2069 hX (by omega) ?_
  refine cv3 q361_2070 (v := .int b) (μ1 := (I2, J1, P1, pm_T0, e1)) hm rfl ?_
  refine is6 c361_2073 rfl ?_
  refine al2 c361_2075 ?_
  refine cv1 q361_2076 (s214 rfl) rfl ?_
  refine il5 c361_2079 ?_
  refine r_iceq (t := 2086) c361_2081 rfl (fun _ => ?_) (fun h => absurd ht h)
  refine il5 c361_2086 ?_
  refine r_ifne (t := 2103) c361_2088 rfl (fun _ => r_go (t := 2576) c361_2103 rfl kk) (fun h => ?_)
  have h0 := hb (by
    rcases Nat.lt_or_ge c 1 with y | y
    · omega
    · exact absurd h (by rw [show (0 : Int32) = nI 0 from rfl, zt_eq (by omega) (by omega)]; omega))
  refine al3 c361_2091 ?_
  refine r_ic c361_2092 kI0 ?_
  refine w_la c361_2093 rfl (by decide) ?_
  refine il6 c361_2094 ?_
  refine r_i2l c361_2096 ?_
  refine r_lcmp c361_2097 ?_
  exact r_ifeq (t := 2103) c361_2098 rfl (fun _ => r_go (t := 2576) c361_2103 rfl kk) (fun h2 => absurd (by rw [show (0 : Int32).toNatClampNeg = 0 from rfl, h0]; exact lg_eq _) h2)
theorem R361_33 {X : (Nat → Int32) × Nat} {d i : Nat} {I I1 I2 : Nat → Nat → Int32} {J J1 : Nat → Nat → Int64} {z5 z6 z7 : Value} {ν : pm_M} {P P1 : Nat → Nat → Value} {e e1 c : Nat} {b : Int32} (hX : X.2 < 2147483648) (hi : i + 6 < X.2) (hf : pm_Fn X (d + 59) 357 0 [.ref 0, .int (X.1 (i + 1)), .int (X.1 (i + 2)), .int (X.1 (i + 3)), .int (X.1 (i + 4)), .ref 157] (I, J, P, pm_T0, e) (.inl (some (.int (nI c)))) (I1, J1, P1, pm_T0, e1)) (hm : pm_Fn X (d + 59) 315 1 [.ref 127, .int (X.1 (i + 1)), .int (X.1 (i + 2)), .int (X.1 (i + 3)), .int (X.1 (i + 4))] (I1, J1, P1, pm_T0, e1) (.inl (some (.int b))) (I2, J1, P1, pm_T0, e1)) (ht : I2 127 0 = nI c) (hcc : c ≤ 2) (hb : c = 0 → J1 157 0 = b.toInt64) (kk : pm_Fx X (d + 60) 361 2576 [.retAddr 0, .ref 0, .ref 127, .ref 157, .int (nI i), .int (nI c), .int b, z7] [] (I2, J1, P1, pm_T0, e1) (.inl (some (.int 1))) ν) : pm_Fx X (d + 60) 361 2106 [.retAddr 0, .ref 0, .ref 127, .ref 157, .int (nI i), z5, z6, z7] [] (I, J, P, pm_T0, e) (.inl (some (.int 1))) ν := by
  refine al1 c361_2106 ?_
  refine lw_x (j := 1) c361_2107 c361_2108 c361_2110 (by decide) c361_2111 c361_2112 hX (by omega) ?_
  refine lw_x (j := 2) c361_2113 c361_2114 c361_2116 (by decide) c361_2117 c361_2118 hX (by omega) ?_
  refine lw_x (j := 3) c361_2119 c361_2120 c361_2122 (by decide) c361_2123 c361_2124 hX (by omega) ?_
  refine lw_x (j := 4) c361_2125 c361_2126 c361_2128 (by decide) c361_2129 c361_2130 hX (by omega) ?_
  refine al3 c361_2131 ?_
  refine cv6 q361_2132 (v := .int (nI c)) (μ1 := (I1, J1, P1, pm_T0, e1)) hf rfl ?_
  refine is5 c361_2135 rfl ?_
  refine al2 c361_2137 ?_
  refine lw_x (j := 1) c361_2138 c361_2139 c361_2141 (by decide) c361_2142 c361_2143 hX (by omega) ?_
  refine lw_x (j := 2) c361_2144 c361_2145 c361_2147 (by decide) c361_2148 c361_2149 hX (by omega) ?_
  refine lw_x (j := 3) c361_2150 c361_2151 c361_2153 (by decide) c361_2154 c361_2155 hX (by omega) ?_
  refine lw_x (j := 4) c361_2156 c361_2157 c361_2159 (by decide) c361_2160 c361_2161 hX (by omega) ?_
  refine cv5 q361_2162 (v := .int b) (μ1 := (I2, J1, P1, pm_T0, e1)) hm rfl ?_
  refine is6 c361_2165 rfl ?_
  refine al2 c361_2167 ?_
  refine cv1 q361_2168 (s214 rfl) rfl ?_
  refine il5 c361_2171 ?_
  refine r_iceq (t := 2178) c361_2173 rfl (fun _ => ?_) (fun h => absurd ht h)
  refine il5 c361_2178 ?_
  refine r_ifne (t := 2195) c361_2180 rfl (fun _ => r_go (t := 2576) c361_2195 rfl kk) (fun h => ?_)
  have h0 := hb (by
    rcases Nat.lt_or_ge c 1 with y | y
    · omega
    · exact absurd h (by rw [show (0 : Int32) = nI 0 from rfl, zt_eq (by omega) (by omega)]; omega))
  refine al3 c361_2183 ?_
  refine r_ic c361_2184 kI0 ?_
  refine w_la c361_2185 rfl (by decide) ?_
  refine il6 c361_2186 ?_
  refine r_i2l c361_2188 ?_
  refine r_lcmp c361_2189 ?_
  exact r_ifeq (t := 2195) c361_2190 rfl (fun _ => r_go (t := 2576) c361_2195 rfl kk) (fun h2 => absurd (by rw [show (0 : Int32).toNatClampNeg = 0 from rfl, h0]; exact lg_eq _) h2)
theorem R361_34 {X : (Nat → Int32) × Nat} {d i : Nat} {I I1 I2 : Nat → Nat → Int32} {J J1 : Nat → Nat → Int64} {z5 z6 z7 : Value} {ν : pm_M} {P P1 : Nat → Nat → Value} {e e1 c : Nat} {b : Int32} (hX : X.2 < 2147483648) (hi : i + 6 < X.2) (hf : pm_Fn X (d + 59) 358 0 [.ref 0, .int (X.1 (i + 1)), .int (X.1 (i + 2)), .int (X.1 (i + 3)), .ref 157] (I, J, P, pm_T0, e) (.inl (some (.int (nI c)))) (I1, J1, P1, pm_T0, e1)) (hm : pm_Fn X (d + 59) 318 1 [.ref 127, .int (X.1 (i + 1)), .int (X.1 (i + 2)), .int (X.1 (i + 3))] (I1, J1, P1, pm_T0, e1) (.inl (some (.int b))) (I2, J1, P1, pm_T0, e1)) (ht : I2 127 0 = nI c) (hcc : c ≤ 2) (hb : c = 0 → J1 157 0 = b.toInt64) (kk : pm_Fx X (d + 60) 361 2576 [.retAddr 0, .ref 0, .ref 127, .ref 157, .int (nI i), .int (nI c), .int b, z7] [] (I2, J1, P1, pm_T0, e1) (.inl (some (.int 1))) ν) : pm_Fx X (d + 60) 361 2198 [.retAddr 0, .ref 0, .ref 127, .ref 157, .int (nI i), z5, z6, z7] [] (I, J, P, pm_T0, e) (.inl (some (.int 1))) ν := by
  refine al1 c361_2198 ?_
  refine lw_x (j := 1) c361_2199 c361_2200 c361_2202 (by decide) c361_2203 c361_2204 hX (by omega) ?_
  refine lw_x (j := 2) c361_2205 c361_2206 c361_2208 (by decide) c361_2209 c361_2210 hX (by omega) ?_
  refine lw_x (j := 3) c361_2211 c361_2212 c361_2214 (by decide) c361_2215 c361_2216 hX (by omega) ?_
  refine al3 c361_2217 ?_
  refine cv5 q361_2218 (v := .int (nI c)) (μ1 := (I1, J1, P1, pm_T0, e1)) hf rfl ?_
  refine is5 c361_2221 rfl ?_
  refine al2 c361_2223 ?_
  refine lw_x (j := 1) c361_2224 c361_2225 c361_2227 (by decide) c361_2228 c361_2229 hX (by omega) ?_
  refine lw_x (j := 2) c361_2230 c361_2231 c361_2233 (by decide) c361_2234 c361_2235 hX (by omega) ?_
  refine lw_x (j := 3) c361_2236 c361_2237 c361_2239 (by decide) c361_2240 c361_2241 hX (by omega) ?_
  refine cv4 q361_2242 (v := .int b) (μ1 := (I2, J1, P1, pm_T0, e1)) hm rfl ?_
  refine is6 c361_2245 rfl ?_
  refine al2 c361_2247 ?_
  refine cv1 q361_2248 (s214 rfl) rfl ?_
  refine il5 c361_2251 ?_
  refine r_iceq (t := 2258) c361_2253 rfl (fun _ => ?_) (fun h => absurd ht h)
  refine il5 c361_2258 ?_
  refine r_ifne (t := 2275) c361_2260 rfl (fun _ => r_go (t := 2576) c361_2275 rfl kk) (fun h => ?_)
  have h0 := hb (by
    rcases Nat.lt_or_ge c 1 with y | y
    · omega
    · exact absurd h (by rw [show (0 : Int32) = nI 0 from rfl, zt_eq (by omega) (by omega)]; omega))
  refine al3 c361_2263 ?_
  refine r_ic c361_2264 kI0 ?_
  refine w_la c361_2265 rfl (by decide) ?_
  refine il6 c361_2266 ?_
  refine r_i2l c361_2268 ?_
  refine r_lcmp c361_2269 ?_
  exact r_ifeq (t := 2275) c361_2270 rfl (fun _ => r_go (t := 2576) c361_2275 rfl kk) (fun h2 => absurd (by rw [show (0 : Int32).toNatClampNeg = 0 from rfl, h0]; exact lg_eq _) h2)
theorem R361_35 {X : (Nat → Int32) × Nat} {d i : Nat} {I I1 I2 : Nat → Nat → Int32} {J J1 : Nat → Nat → Int64} {z5 z6 z7 : Value} {ν : pm_M} {P P1 : Nat → Nat → Value} {e e1 c : Nat} {b : Int32} (hX : X.2 < 2147483648) (hi : i + 6 < X.2) (hf : pm_Fn X (d + 59) 359 0 [.ref 0, .int (X.1 (i + 1)), .int (X.1 (i + 2)), .int (X.1 (i + 3)), .int (X.1 (i + 4)), .int (X.1 (i + 5)), .ref 157] (I, J, P, pm_T0, e) (.inl (some (.int (nI c)))) (I1, J1, P1, pm_T0, e1)) (hm : pm_Fn X (d + 59) 319 1 [.ref 127, .int (X.1 (i + 1)), .int (X.1 (i + 2)), .int (X.1 (i + 3)), .int (X.1 (i + 4)), .int (X.1 (i + 5))] (I1, J1, P1, pm_T0, e1) (.inl (some (.int b))) (I2, J1, P1, pm_T0, e1)) (ht : I2 127 0 = nI c) (hcc : c ≤ 2) (hb : c = 0 → J1 157 0 = b.toInt64) (kk : pm_Fx X (d + 60) 361 2576 [.retAddr 0, .ref 0, .ref 127, .ref 157, .int (nI i), .int (nI c), .int b, z7] [] (I2, J1, P1, pm_T0, e1) (.inl (some (.int 1))) ν) : pm_Fx X (d + 60) 361 2278 [.retAddr 0, .ref 0, .ref 127, .ref 157, .int (nI i), z5, z6, z7] [] (I, J, P, pm_T0, e) (.inl (some (.int 1))) ν := by
  refine al1 c361_2278 ?_
  refine lw_x (j := 1) c361_2279 c361_2280 c361_2282 (by decide) c361_2283 c361_2284 hX (by omega) ?_
  refine lw_x (j := 2) c361_2285 c361_2286 c361_2288 (by decide) c361_2289 c361_2290 hX (by omega) ?_
  refine lw_x (j := 3) c361_2291 c361_2292 c361_2294 (by decide) c361_2295 c361_2296 hX (by omega) ?_
  refine lw_x (j := 4) c361_2297 c361_2298 c361_2300 (by decide) c361_2301 c361_2302 hX (by omega) ?_
  refine lw_x (j := 5) c361_2303 c361_2304 c361_2306 (by decide) c361_2307 c361_2308 hX (by omega) ?_
  refine al3 c361_2309 ?_
  refine cv7 q361_2310 (v := .int (nI c)) (μ1 := (I1, J1, P1, pm_T0, e1)) hf rfl ?_
  refine is5 c361_2313 rfl ?_
  refine al2 c361_2315 ?_
  refine lw_x (j := 1) c361_2316 c361_2317 c361_2319 (by decide) c361_2320 c361_2321 hX (by omega) ?_
  refine lw_x (j := 2) c361_2322 c361_2323 c361_2325 (by decide) c361_2326 c361_2327 hX (by omega) ?_
  refine lw_x (j := 3) c361_2328 c361_2329 c361_2331 (by decide) c361_2332 c361_2333 hX (by omega) ?_
  refine lw_x (j := 4) c361_2334 c361_2335 c361_2337 (by decide) c361_2338 c361_2339 hX (by omega) ?_
  refine lw_x (j := 5) c361_2340 c361_2341 c361_2343 (by decide) c361_2344 c361_2345 hX (by omega) ?_
  refine cv6 q361_2346 (v := .int b) (μ1 := (I2, J1, P1, pm_T0, e1)) hm rfl ?_
  refine is6 c361_2349 rfl ?_
  refine al2 c361_2351 ?_
  refine cv1 q361_2352 (s214 rfl) rfl ?_
  refine il5 c361_2355 ?_
  refine r_iceq (t := 2362) c361_2357 rfl (fun _ => ?_) (fun h => absurd ht h)
  refine il5 c361_2362 ?_
  refine r_ifne (t := 2379) c361_2364 rfl (fun _ => r_go (t := 2576) c361_2379 rfl kk) (fun h => ?_)
  have h0 := hb (by
    rcases Nat.lt_or_ge c 1 with y | y
    · omega
    · exact absurd h (by rw [show (0 : Int32) = nI 0 from rfl, zt_eq (by omega) (by omega)]; omega))
  refine al3 c361_2367 ?_
  refine r_ic c361_2368 kI0 ?_
  refine w_la c361_2369 rfl (by decide) ?_
  refine il6 c361_2370 ?_
  refine r_i2l c361_2372 ?_
  refine r_lcmp c361_2373 ?_
  exact r_ifeq (t := 2379) c361_2374 rfl (fun _ => r_go (t := 2576) c361_2379 rfl kk) (fun h2 => absurd (by rw [show (0 : Int32).toNatClampNeg = 0 from rfl, h0]; exact lg_eq _) h2)
theorem R361_36 {X : (Nat → Int32) × Nat} {d i : Nat} {I I1 I2 : Nat → Nat → Int32} {J J1 : Nat → Nat → Int64} {z5 z6 z7 : Value} {ν : pm_M} {P P1 : Nat → Nat → Value} {e e1 c : Nat} {b : Int32} (hX : X.2 < 2147483648) (hi : i + 6 < X.2) (hf : pm_Fn X (d + 59) 360 0 [.ref 0, .int (X.1 (i + 1)), .int (X.1 (i + 2)), .int (X.1 (i + 3)), .int (X.1 (i + 4)), .int (X.1 (i + 5)), .int (X.1 (i + 6)), .ref 157] (I, J, P, pm_T0, e) (.inl (some (.int (nI c)))) (I1, J1, P1, pm_T0, e1)) (hm : pm_Fn X (d + 59) 323 1 [.ref 127, .int (X.1 (i + 1)), .int (X.1 (i + 2)), .int (X.1 (i + 3)), .int (X.1 (i + 4)), .int (X.1 (i + 5)), .int (X.1 (i + 6))] (I1, J1, P1, pm_T0, e1) (.inl (some (.int b))) (I2, J1, P1, pm_T0, e1)) (ht : I2 127 0 = nI c) (hcc : c ≤ 2) (hb : c = 0 → J1 157 0 = b.toInt64) (kk : pm_Fx X (d + 60) 361 2576 [.retAddr 0, .ref 0, .ref 127, .ref 157, .int (nI i), .int (nI c), .int b, z7] [] (I2, J1, P1, pm_T0, e1) (.inl (some (.int 1))) ν) : pm_Fx X (d + 60) 361 2382 [.retAddr 0, .ref 0, .ref 127, .ref 157, .int (nI i), z5, z6, z7] [] (I, J, P, pm_T0, e) (.inl (some (.int 1))) ν := by
  refine al1 c361_2382 ?_
  refine lw_x (j := 1) c361_2383 c361_2384 c361_2386 (by decide) c361_2387 c361_2388 hX (by omega) ?_
  refine lw_x (j := 2) c361_2389 c361_2390 c361_2392 (by decide) c361_2393 c361_2394 hX (by omega) ?_
  refine lw_x (j := 3) c361_2395 c361_2396 c361_2398 (by decide) c361_2399 c361_2400 hX (by omega) ?_
  refine lw_x (j := 4) c361_2401 c361_2402 c361_2404 (by decide) c361_2405 c361_2406 hX (by omega) ?_
  refine lw_x (j := 5) c361_2407 c361_2408 c361_2410 (by decide) c361_2411 c361_2412 hX (by omega) ?_
  refine lw_b (j := 6) c361_2413 c361_2414 c361_2416 (by decide) c361_2418 c361_2419 hX (by omega) ?_
  refine al3 c361_2420 ?_
  refine cv8 q361_2421 (v := .int (nI c)) (μ1 := (I1, J1, P1, pm_T0, e1)) hf rfl ?_
  refine is5 c361_2424 rfl ?_
  refine al2 c361_2426 ?_
  refine lw_x (j := 1) c361_2427 c361_2428 c361_2430 (by decide) c361_2431 c361_2432 hX (by omega) ?_
  refine lw_x (j := 2) c361_2433 c361_2434 c361_2436 (by decide) c361_2437 c361_2438 hX (by omega) ?_
  refine lw_x (j := 3) c361_2439 c361_2440 c361_2442 (by decide) c361_2443 c361_2444 hX (by omega) ?_
  refine lw_x (j := 4) c361_2445 c361_2446 c361_2448 (by decide) c361_2449 c361_2450 hX (by omega) ?_
  refine lw_x (j := 5) c361_2451 c361_2452 c361_2454 (by decide) c361_2455 c361_2456 hX (by omega) ?_
  refine lw_b (j := 6) c361_2457 c361_2458 c361_2460 (by decide) c361_2462 c361_2463 hX (by omega) ?_
  refine cv7 q361_2464 (v := .int b) (μ1 := (I2, J1, P1, pm_T0, e1)) hm rfl ?_
  refine is6 c361_2467 rfl ?_
  refine al2 c361_2469 ?_
  refine cv1 q361_2470 (s214 rfl) rfl ?_
  refine il5 c361_2473 ?_
  refine r_iceq (t := 2480) c361_2475 rfl (fun _ => ?_) (fun h => absurd ht h)
  refine il5 c361_2480 ?_
  refine r_ifne (t := 2497) c361_2482 rfl (fun _ => r_go (t := 2576) c361_2497 rfl kk) (fun h => ?_)
  have h0 := hb (by
    rcases Nat.lt_or_ge c 1 with y | y
    · omega
    · exact absurd h (by rw [show (0 : Int32) = nI 0 from rfl, zt_eq (by omega) (by omega)]; omega))
  refine al3 c361_2485 ?_
  refine r_ic c361_2486 kI0 ?_
  refine w_la c361_2487 rfl (by decide) ?_
  refine il6 c361_2488 ?_
  refine r_i2l c361_2490 ?_
  refine r_lcmp c361_2491 ?_
  exact r_ifeq (t := 2497) c361_2492 rfl (fun _ => r_go (t := 2576) c361_2497 rfl kk) (fun h2 => absurd (by rw [show (0 : Int32).toNatClampNeg = 0 from rfl, h0]; exact lg_eq _) h2)
theorem R361_37 {X : (Nat → Int32) × Nat} {d i : Nat} {I I1 I2 : Nat → Nat → Int32} {J J1 : Nat → Nat → Int64} {z5 z6 z7 : Value} {ν : pm_M} {P : Nat → Nat → Value} {e : Nat} {v : Int32} (hX : X.2 < 2147483648) (hi : i + 6 < X.2) (hc : pm_Fn X (d + 59) 168 1 [.ref 0] (I, J, P, pm_T0, e) (.inl (some (.int v))) (I1, J1, P, pm_T0, e)) (hm : pm_Fn X (d + 59) 324 1 [.ref 127] (I1, J1, P, pm_T0, e) (.inl (some (.int v))) (I2, J1, P, pm_T0, e)) (kk : pm_Fx X (d + 60) 361 2576 [.retAddr 0, .ref 0, .ref 127, .ref 157, .int (nI i), z5, z6, z7] [] (I2, J1, P, pm_T0, e) (.inl (some (.int 1))) ν) : pm_Fx X (d + 60) 361 2500 [.retAddr 0, .ref 0, .ref 127, .ref 157, .int (nI i), z5, z6, z7] [] (I, J, P, pm_T0, e) (.inl (some (.int 1))) ν := by
  refine al1 c361_2500 ?_
  refine cv1 q361_2501 (v := .int v) (μ1 := (I1, J1, P, pm_T0, e)) hc rfl ?_
  refine al2 c361_2504 ?_
  refine cv1 q361_2505 (v := .int v) (μ1 := (I2, J1, P, pm_T0, e)) hm rfl ?_
  exact r_iceq (t := 2576) c361_2508 rfl (fun _ => kk) (fun h => absurd rfl h)
theorem R361_38 {X : (Nat → Int32) × Nat} {d i : Nat} {I I1 I2 : Nat → Nat → Int32} {J J1 : Nat → Nat → Int64} {z5 z6 z7 : Value} {ν : pm_M} {P : Nat → Nat → Value} {e : Nat} {v : Int32} (hX : X.2 < 2147483648) (hi : i + 6 < X.2) (hc : pm_Fn X (d + 59) 169 1 [.ref 0] (I, J, P, pm_T0, e) (.inl (some (.int v))) (I1, J1, P, pm_T0, e)) (hm : pm_Fn X (d + 59) 327 1 [.ref 127] (I1, J1, P, pm_T0, e) (.inl (some (.int v))) (I2, J1, P, pm_T0, e)) (kk : pm_Fx X (d + 60) 361 2576 [.retAddr 0, .ref 0, .ref 127, .ref 157, .int (nI i), z5, z6, z7] [] (I2, J1, P, pm_T0, e) (.inl (some (.int 1))) ν) : pm_Fx X (d + 60) 361 2513 [.retAddr 0, .ref 0, .ref 127, .ref 157, .int (nI i), z5, z6, z7] [] (I, J, P, pm_T0, e) (.inl (some (.int 1))) ν := by
  refine al1 c361_2513 ?_
  refine cv1 q361_2514 (v := .int v) (μ1 := (I1, J1, P, pm_T0, e)) hc rfl ?_
  refine al2 c361_2517 ?_
  refine cv1 q361_2518 (v := .int v) (μ1 := (I2, J1, P, pm_T0, e)) hm rfl ?_
  exact r_iceq (t := 2576) c361_2521 rfl (fun _ => kk) (fun h => absurd rfl h)
theorem R361_39 {X : (Nat → Int32) × Nat} {d i : Nat} {I I1 I2 : Nat → Nat → Int32} {J J1 : Nat → Nat → Int64} {z5 z6 z7 : Value} {ν : pm_M} {P : Nat → Nat → Value} {e : Nat} {v : Int32} (hX : X.2 < 2147483648) (hi : i + 6 < X.2) (hc : pm_Fn X (d + 59) 170 1 [.ref 0, .int (X.1 (i + 1))] (I, J, P, pm_T0, e) (.inl (some (.int v))) (I1, J1, P, pm_T0, e)) (hm : pm_Fn X (d + 59) 328 1 [.ref 127, .int (X.1 (i + 1))] (I1, J1, P, pm_T0, e) (.inl (some (.int v))) (I2, J1, P, pm_T0, e)) (kk : pm_Fx X (d + 60) 361 2576 [.retAddr 0, .ref 0, .ref 127, .ref 157, .int (nI i), z5, z6, z7] [] (I2, J1, P, pm_T0, e) (.inl (some (.int 1))) ν) : pm_Fx X (d + 60) 361 2526 [.retAddr 0, .ref 0, .ref 127, .ref 157, .int (nI i), z5, z6, z7] [] (I, J, P, pm_T0, e) (.inl (some (.int 1))) ν := by
  refine al1 c361_2526 ?_
  refine lw_x (j := 1) c361_2527 c361_2528 c361_2530 (by decide) c361_2531 c361_2532 hX (by omega) ?_
  refine cv2 q361_2533 (v := .int v) (μ1 := (I1, J1, P, pm_T0, e)) hc rfl ?_
  refine al2 c361_2536 ?_
  refine lw_x (j := 1) c361_2537 c361_2538 c361_2540 (by decide) c361_2541 c361_2542 hX (by omega) ?_
  refine cv2 q361_2543 (v := .int v) (μ1 := (I2, J1, P, pm_T0, e)) hm rfl ?_
  exact r_iceq (t := 2576) c361_2546 rfl (fun _ => kk) (fun h => absurd rfl h)
theorem R361_40 {X : (Nat → Int32) × Nat} {d i : Nat} {I I1 I2 : Nat → Nat → Int32} {J J1 : Nat → Nat → Int64} {z5 z6 z7 : Value} {ν : pm_M} {P : Nat → Nat → Value} {e : Nat} {v : Int32} (hX : X.2 < 2147483648) (hi : i + 6 < X.2) (hc : pm_Fn X (d + 59) 171 1 [.ref 0, .int (X.1 (i + 1))] (I, J, P, pm_T0, e) (.inl (some (.int v))) (I1, J1, P, pm_T0, e)) (hm : pm_Fn X (d + 59) 329 1 [.ref 127, .int (X.1 (i + 1))] (I1, J1, P, pm_T0, e) (.inl (some (.int v))) (I2, J1, P, pm_T0, e)) (kk : pm_Fx X (d + 60) 361 2576 [.retAddr 0, .ref 0, .ref 127, .ref 157, .int (nI i), z5, z6, z7] [] (I2, J1, P, pm_T0, e) (.inl (some (.int 1))) ν) : pm_Fx X (d + 60) 361 2551 [.retAddr 0, .ref 0, .ref 127, .ref 157, .int (nI i), z5, z6, z7] [] (I, J, P, pm_T0, e) (.inl (some (.int 1))) ν := by
  refine al1 c361_2551 ?_
  refine lw_x (j := 1) c361_2552 c361_2553 c361_2555 (by decide) c361_2556 c361_2557 hX (by omega) ?_
  refine cv2 q361_2558 (v := .int v) (μ1 := (I1, J1, P, pm_T0, e)) hc rfl ?_
  refine al2 c361_2561 ?_
  refine lw_x (j := 1) c361_2562 c361_2563 c361_2565 (by decide) c361_2566 c361_2567 hX (by omega) ?_
  refine cv2 q361_2568 (v := .int v) (μ1 := (I2, J1, P, pm_T0, e)) hm rfl ?_
  exact r_iceq (t := 2576) c361_2571 rfl (fun _ => kk) (fun h => absurd rfl h)
