/-! cases of the law *)-/
section LCA
variable {p : Program} {l : Launch} {e : Env} {s : State} {m : MethodId} {below : List Frame} {meth : Method} {c : Code} {Q : State → Prop} {D : va_G} {dA : Nat → ClassId} {sa : String → Nat → Nat} {cells slots pc : Nat} {w w2 : va_W} {lv lv' : List (Nat × Value)} {st st0 : List Value} {cw : Cond} {b L : Nat} {xs : Nat → Int32} {a a' : Nat → Nat} {ao od j : Nat}
variable {Zc Zc' Zr Zr' : ZZ} {g g1 : Nat → Int64} {gD gD1 : Nat → UInt64} {ws ws' : va_W} {q : Nat} {lw : LW} {W : Nat}
set_option maxRecDepth 100000 in
theorem lc_20 (C : lC p l s m b meth c D dA sa cw) (hl : l.stackTraces = false) (hX : va_X b L xs s s.heap) (hbl : b < s.heap.size) (hj : j + 4 ≤ L) (hL : L ≤ 2048) (hG : G lw W Zc Zr) (hs : sbT dA (a 300) lw ws) (hW : W + 13 ≤ 7000) (hc : cells + 40 ≤ 603072) (hq : slots + 6400 ≤ 7190634) (K : ∀ (lw' : LW) (W' : Nat) (Zc' Zr' : ZZ) (g' : Nat → Int64) (ws' : va_W) (gD' : Nat → UInt64), W' ≤ W + 13 → G lw' W' Zc' Zr' → sbT dA (a 300) lw' ws' → xL p l e s m b below meth c D Q (wLw dA a a' ao od Zc' g' Zr' ws' gD') (cells + 40) (slots + 6400) 2722 (lvL b a a' ao od j) []) : xL p l e s m b below meth c D Q (wLw dA a a' ao od Zc g Zr ws gD) cells slots 1361 (lvL b a a' ao od j) [] := by
  obtain ⟨rc, Zc', rr, Zr', h1, h2, hG', h4, h5⟩ := w_home (x := (xs (j + 1))) hG
  refine xv_aload_n (pc := 1361) C dW_1361 4 rfl rfl ?_
  refine xl_arg (q := 1362) C hX hbl hL hj 1 5 0 (by decide) rfl rfl (by decide) dW_1362 dW_1363 dW_1365 dW_1366 dW_1367 ?_
  refine xv_aload_n (pc := 1368) C dW_1368 2 rfl rfl ?_
  refine xl_wr (As := [.ref (a 0), .int (xs (j + 1)), .ref ao]) (pc := 1369) C (kW_home hl (kX7_home hl h1) h4 (rcv_7 dA a Zc)) fW_home wf_1238 rfl ⟨(Nat.le_of_ble_eq_true rfl), (Nat.le_of_ble_eq_true rfl)⟩ rfl (Nat.le_of_ble_eq_true rfl) dW_1369 ⟨(Nat.le_of_ble_eq_true rfl), (Nat.le_of_ble_eq_true rfl)⟩ hc hq (fun r g1 hr => ?_)
  refine xv_istore (pc := 1372) (lv' := (6, .int r) :: lvL b a a' ao od j) C dW_1372 (by decide) rfl ?_
  refine xv_aload_n (pc := 1374) C dW_1374 4 rfl rfl ?_
  refine xl_arg (q := 1375) C hX hbl hL hj 1 6 1 (by decide) rfl rfl (by decide) dW_1375 dW_1376 dW_1378 dW_1379 dW_1380 ?_
  refine xl_rf (As := [.int (xs (j + 1))]) (pc := 1381) (n := 1) C (kX8_home hl h2) rfl fV_X8_home wf_1891 rfl ⟨(Nat.le_of_ble_eq_true rfl), (Nat.le_of_ble_eq_true rfl)⟩ rfl (Nat.le_of_ble_eq_true rfl) dW_1381 ⟨rfl, rfl⟩ hc hq ?_
  exact tl_int (q := 1384) C hl dW_1384 dW_1386 dW_1387 dW_1390 dW_1392 dW_1397 dW_1399 dW_1402 dW_1403 dW_1404 dW_1405 dW_1407 dW_1408 dW_1409 dW_1414 (by decide) hc hq (res_of hr h4 h5 (by decide)) (K lw _ Zc' Zr' g1 ws gD (by omega) hG' hs)
set_option maxRecDepth 100000 in
theorem lc_21 (C : lC p l s m b meth c D dA sa cw) (hl : l.stackTraces = false) (hX : va_X b L xs s s.heap) (hbl : b < s.heap.size) (hj : j + 4 ≤ L) (hL : L ≤ 2048) (hG : G lw W Zc Zr) (hs : sbT dA (a 300) lw ws) (hW : W + 13 ≤ 7000) (hc : cells + 40 ≤ 603072) (hq : slots + 6400 ≤ 7190634) (K : ∀ (lw' : LW) (W' : Nat) (Zc' Zr' : ZZ) (g' : Nat → Int64) (ws' : va_W) (gD' : Nat → UInt64), W' ≤ W + 13 → G lw' W' Zc' Zr' → sbT dA (a 300) lw' ws' → xL p l e s m b below meth c D Q (wLw dA a a' ao od Zc' g' Zr' ws' gD') (cells + 40) (slots + 6400) 2722 (lvL b a a' ao od j) []) : xL p l e s m b below meth c D Q (wLw dA a a' ao od Zc g Zr ws gD) cells slots 1417 (lvL b a a' ao od j) [] := by
  obtain ⟨rc, Zc', rr, Zr', h1, h2, hG', h4, h5⟩ := w_tariff (x := (xs (j + 1))) hG
  refine xv_aload_n (pc := 1417) C dW_1417 4 rfl rfl ?_
  refine xl_arg (q := 1418) C hX hbl hL hj 1 5 0 (by decide) rfl rfl (by decide) dW_1418 dW_1419 dW_1421 dW_1422 dW_1423 ?_
  refine xv_aload_n (pc := 1424) C dW_1424 2 rfl rfl ?_
  refine xl_wr (As := [.ref (a 0), .int (xs (j + 1)), .ref ao]) (pc := 1425) C (kW_tariff hl (kX7_tariff hl h1) h4 (rcv_7 dA a Zc)) fW_tariff wf_1250 rfl ⟨(Nat.le_of_ble_eq_true rfl), (Nat.le_of_ble_eq_true rfl)⟩ rfl (Nat.le_of_ble_eq_true rfl) dW_1425 ⟨(Nat.le_of_ble_eq_true rfl), (Nat.le_of_ble_eq_true rfl)⟩ hc hq (fun r g1 hr => ?_)
  refine xv_istore (pc := 1428) (lv' := (6, .int r) :: lvL b a a' ao od j) C dW_1428 (by decide) rfl ?_
  refine xv_aload_n (pc := 1430) C dW_1430 4 rfl rfl ?_
  refine xl_arg (q := 1431) C hX hbl hL hj 1 6 1 (by decide) rfl rfl (by decide) dW_1431 dW_1432 dW_1434 dW_1435 dW_1436 ?_
  refine xl_rf (As := [.int (xs (j + 1))]) (pc := 1437) (n := 1) C (kX8_tariff hl h2) rfl fV_X8_tariff wf_1899 rfl ⟨(Nat.le_of_ble_eq_true rfl), (Nat.le_of_ble_eq_true rfl)⟩ rfl (Nat.le_of_ble_eq_true rfl) dW_1437 ⟨rfl, rfl⟩ hc hq ?_
  exact tl_int (q := 1440) C hl dW_1440 dW_1442 dW_1443 dW_1446 dW_1448 dW_1453 dW_1455 dW_1458 dW_1459 dW_1460 dW_1461 dW_1463 dW_1464 dW_1465 dW_1470 (by decide) hc hq (res_of hr h4 h5 (by decide)) (K lw _ Zc' Zr' g1 ws gD (by omega) hG' hs)
set_option maxRecDepth 100000 in
theorem lc_22 (C : lC p l s m b meth c D dA sa cw) (hl : l.stackTraces = false) (hX : va_X b L xs s s.heap) (hbl : b < s.heap.size) (hj : j + 4 ≤ L) (hL : L ≤ 2048) (hG : G lw W Zc Zr) (hs : sbT dA (a 300) lw ws) (hW : W + 13 ≤ 7000) (hc : cells + 40 ≤ 603072) (hq : slots + 6400 ≤ 7190634) (K : ∀ (lw' : LW) (W' : Nat) (Zc' Zr' : ZZ) (g' : Nat → Int64) (ws' : va_W) (gD' : Nat → UInt64), W' ≤ W + 13 → G lw' W' Zc' Zr' → sbT dA (a 300) lw' ws' → xL p l e s m b below meth c D Q (wLw dA a a' ao od Zc' g' Zr' ws' gD') (cells + 40) (slots + 6400) 2722 (lvL b a a' ao od j) []) : xL p l e s m b below meth c D Q (wLw dA a a' ao od Zc g Zr ws gD) cells slots 1473 (lvL b a a' ao od j) [] := by
  obtain ⟨rc, Zc', rr, Zr', h1, h2, hG', h4, h5⟩ := w_bill (x := (xs (j + 1))) hG
  refine xv_aload_n (pc := 1473) C dW_1473 4 rfl rfl ?_
  refine xl_arg (q := 1474) C hX hbl hL hj 1 5 0 (by decide) rfl rfl (by decide) dW_1474 dW_1475 dW_1477 dW_1478 dW_1479 ?_
  refine xv_aload_n (pc := 1480) C dW_1480 2 rfl rfl ?_
  refine xl_wr (As := [.ref (a 0), .int (xs (j + 1)), .ref ao]) (pc := 1481) C (kW_bill hl (kX7_bill hl h1) h4 (rcv_7 dA a Zc)) fW_bill wf_1257 rfl ⟨(Nat.le_of_ble_eq_true rfl), (Nat.le_of_ble_eq_true rfl)⟩ rfl (Nat.le_of_ble_eq_true rfl) dW_1481 ⟨(Nat.le_of_ble_eq_true rfl), (Nat.le_of_ble_eq_true rfl)⟩ hc hq (fun r g1 hr => ?_)
  refine xv_istore (pc := 1484) (lv' := (6, .int r) :: lvL b a a' ao od j) C dW_1484 (by decide) rfl ?_
  refine xv_aload_n (pc := 1486) C dW_1486 4 rfl rfl ?_
  refine xl_arg (q := 1487) C hX hbl hL hj 1 6 1 (by decide) rfl rfl (by decide) dW_1487 dW_1488 dW_1490 dW_1491 dW_1492 ?_
  refine xl_rf (As := [.int (xs (j + 1))]) (pc := 1493) (n := 1) C (kX8_bill hl h2) rfl fV_X8_bill wf_1903 rfl ⟨(Nat.le_of_ble_eq_true rfl), (Nat.le_of_ble_eq_true rfl)⟩ rfl (Nat.le_of_ble_eq_true rfl) dW_1493 ⟨rfl, rfl⟩ hc hq ?_
  exact tl_int (q := 1496) C hl dW_1496 dW_1498 dW_1499 dW_1502 dW_1504 dW_1509 dW_1511 dW_1514 dW_1515 dW_1516 dW_1517 dW_1519 dW_1520 dW_1521 dW_1526 (by decide) hc hq (res_of hr h4 h5 (by decide)) (K lw _ Zc' Zr' g1 ws gD (by omega) hG' hs)
set_option maxRecDepth 100000 in
theorem lc_23 (C : lC p l s m b meth c D dA sa cw) (hl : l.stackTraces = false) (hX : va_X b L xs s s.heap) (hbl : b < s.heap.size) (hj : j + 4 ≤ L) (hL : L ≤ 2048) (hG : G lw W Zc Zr) (hs : sbT dA (a 300) lw ws) (hW : W + 13 ≤ 7000) (hc : cells + 40 ≤ 603072) (hq : slots + 6400 ≤ 7190634) (K : ∀ (lw' : LW) (W' : Nat) (Zc' Zr' : ZZ) (g' : Nat → Int64) (ws' : va_W) (gD' : Nat → UInt64), W' ≤ W + 13 → G lw' W' Zc' Zr' → sbT dA (a 300) lw' ws' → xL p l e s m b below meth c D Q (wLw dA a a' ao od Zc' g' Zr' ws' gD') (cells + 40) (slots + 6400) 2722 (lvL b a a' ao od j) []) : xL p l e s m b below meth c D Q (wLw dA a a' ao od Zc g Zr ws gD) cells slots 1529 (lvL b a a' ao od j) [] := by
  obtain ⟨rc, Zc', rr, Zr', h1, h2, hG', h4, h5⟩ := w_isTalking (x := (xs (j + 1))) hG
  refine xv_aload_n (pc := 1529) C dW_1529 4 rfl rfl ?_
  refine xl_arg (q := 1530) C hX hbl hL hj 1 5 0 (by decide) rfl rfl (by decide) dW_1530 dW_1531 dW_1533 dW_1534 dW_1535 ?_
  refine xv_aload_n (pc := 1536) C dW_1536 2 rfl rfl ?_
  refine xl_wr (As := [.ref (a 0), .int (xs (j + 1)), .ref ao]) (pc := 1537) C (kW_isTalking hl (kX7_isTalking hl h1) h4 (rcv_7 dA a Zc)) fW_isTalking wf_1264 rfl ⟨(Nat.le_of_ble_eq_true rfl), (Nat.le_of_ble_eq_true rfl)⟩ rfl (Nat.le_of_ble_eq_true rfl) dW_1537 ⟨(Nat.le_of_ble_eq_true rfl), (Nat.le_of_ble_eq_true rfl)⟩ hc hq (fun r g1 hr => ?_)
  refine xv_istore (pc := 1540) (lv' := (6, .int r) :: lvL b a a' ao od j) C dW_1540 (by decide) rfl ?_
  refine xv_aload_n (pc := 1542) C dW_1542 4 rfl rfl ?_
  refine xl_arg (q := 1543) C hX hbl hL hj 1 6 1 (by decide) rfl rfl (by decide) dW_1543 dW_1544 dW_1546 dW_1547 dW_1548 ?_
  refine xl_rf (As := [.int (xs (j + 1))]) (pc := 1549) (n := 1) C (kX8_isTalking hl h2) rfl fV_X8_isTalking wf_1907 rfl ⟨(Nat.le_of_ble_eq_true rfl), (Nat.le_of_ble_eq_true rfl)⟩ rfl (Nat.le_of_ble_eq_true rfl) dW_1549 ⟨rfl, rfl⟩ hc hq ?_
  exact tl_bool (q := 1552) C hl dW_1552 dW_1554 dW_1555 dW_1558 dW_1560 dW_1565 dW_1567 dW_1570 dW_1571 dW_1572 dW_1573 dW_1575 dW_1578 dW_1579 dW_1582 dW_1583 dW_1584 dW_1589 (by decide) hc hq (res_of hr h4 h5 (by decide)) (K lw _ Zc' Zr' g1 ws gD (by omega) hG' hs)
set_option maxRecDepth 100000 in
theorem lc_24 (C : lC p l s m b meth c D dA sa cw) (hl : l.stackTraces = false) (hX : va_X b L xs s s.heap) (hbl : b < s.heap.size) (hj : j + 4 ≤ L) (hL : L ≤ 2048) (hG : G lw W Zc Zr) (hs : sbT dA (a 300) lw ws) (hW : W + 13 ≤ 7000) (hc : cells + 40 ≤ 603072) (hq : slots + 6400 ≤ 7190634) (K : ∀ (lw' : LW) (W' : Nat) (Zc' Zr' : ZZ) (g' : Nat → Int64) (ws' : va_W) (gD' : Nat → UInt64), W' ≤ W + 13 → G lw' W' Zc' Zr' → sbT dA (a 300) lw' ws' → xL p l e s m b below meth c D Q (wLw dA a a' ao od Zc' g' Zr' ws' gD') (cells + 40) (slots + 6400) 2722 (lvL b a a' ao od j) []) : xL p l e s m b below meth c D Q (wLw dA a a' ao od Zc g Zr ws gD) cells slots 1592 (lvL b a a' ao od j) [] := by
  obtain ⟨rc, Zc', rr, Zr', h1, h2, hG', h4, h5⟩ := w_partner (x := (xs (j + 1))) hG
  refine xv_aload_n (pc := 1592) C dW_1592 4 rfl rfl ?_
  refine xl_arg (q := 1593) C hX hbl hL hj 1 5 0 (by decide) rfl rfl (by decide) dW_1593 dW_1594 dW_1596 dW_1597 dW_1598 ?_
  refine xv_aload_n (pc := 1599) C dW_1599 2 rfl rfl ?_
  refine xl_wr (As := [.ref (a 0), .int (xs (j + 1)), .ref ao]) (pc := 1600) C (kW_partner hl (kX7_partner hl h1) h4 (rcv_7 dA a Zc)) fW_partner wf_1271 rfl ⟨(Nat.le_of_ble_eq_true rfl), (Nat.le_of_ble_eq_true rfl)⟩ rfl (Nat.le_of_ble_eq_true rfl) dW_1600 ⟨(Nat.le_of_ble_eq_true rfl), (Nat.le_of_ble_eq_true rfl)⟩ hc hq (fun r g1 hr => ?_)
  refine xv_istore (pc := 1603) (lv' := (6, .int r) :: lvL b a a' ao od j) C dW_1603 (by decide) rfl ?_
  refine xv_aload_n (pc := 1605) C dW_1605 4 rfl rfl ?_
  refine xl_arg (q := 1606) C hX hbl hL hj 1 6 1 (by decide) rfl rfl (by decide) dW_1606 dW_1607 dW_1609 dW_1610 dW_1611 ?_
  refine xl_rf (As := [.int (xs (j + 1))]) (pc := 1612) (n := 1) C (kX8_partner hl h2) rfl fV_X8_partner wf_1911 rfl ⟨(Nat.le_of_ble_eq_true rfl), (Nat.le_of_ble_eq_true rfl)⟩ rfl (Nat.le_of_ble_eq_true rfl) dW_1612 ⟨rfl, rfl⟩ hc hq ?_
  exact tl_int (q := 1615) C hl dW_1615 dW_1617 dW_1618 dW_1621 dW_1623 dW_1628 dW_1630 dW_1633 dW_1634 dW_1635 dW_1636 dW_1638 dW_1639 dW_1640 dW_1645 (by decide) hc hq (res_of hr h4 h5 (by decide)) (K lw _ Zc' Zr' g1 ws gD (by omega) hG' hs)
set_option maxRecDepth 100000 in
theorem lc_25 (C : lC p l s m b meth c D dA sa cw) (hl : l.stackTraces = false) (hX : va_X b L xs s s.heap) (hbl : b < s.heap.size) (hj : j + 4 ≤ L) (hL : L ≤ 2048) (hG : G lw W Zc Zr) (hs : sbT dA (a 300) lw ws) (hW : W + 13 ≤ 7000) (hc : cells + 40 ≤ 603072) (hq : slots + 6400 ≤ 7190634) (K : ∀ (lw' : LW) (W' : Nat) (Zc' Zr' : ZZ) (g' : Nat → Int64) (ws' : va_W) (gD' : Nat → UInt64), W' ≤ W + 13 → G lw' W' Zc' Zr' → sbT dA (a 300) lw' ws' → xL p l e s m b below meth c D Q (wLw dA a a' ao od Zc' g' Zr' ws' gD') (cells + 40) (slots + 6400) 2722 (lvL b a a' ao od j) []) : xL p l e s m b below meth c D Q (wLw dA a a' ao od Zc g Zr ws gD) cells slots 1648 (lvL b a a' ao od j) [] := by
  obtain ⟨rc, Zc', rr, Zr', h1, h2, hG', h4, h5⟩ := w_minutes (x := (xs (j + 1))) hG
  refine xv_aload_n (pc := 1648) C dW_1648 4 rfl rfl ?_
  refine xl_arg (q := 1649) C hX hbl hL hj 1 5 0 (by decide) rfl rfl (by decide) dW_1649 dW_1650 dW_1652 dW_1653 dW_1654 ?_
  refine xv_aload_n (pc := 1655) C dW_1655 2 rfl rfl ?_
  refine xl_wr (As := [.ref (a 0), .int (xs (j + 1)), .ref ao]) (pc := 1656) C (kW_minutes hl (kX7_minutes hl h1) h4 (rcv_7 dA a Zc)) fW_minutes wf_1283 rfl ⟨(Nat.le_of_ble_eq_true rfl), (Nat.le_of_ble_eq_true rfl)⟩ rfl (Nat.le_of_ble_eq_true rfl) dW_1656 ⟨(Nat.le_of_ble_eq_true rfl), (Nat.le_of_ble_eq_true rfl)⟩ hc hq (fun r g1 hr => ?_)
  refine xv_istore (pc := 1659) (lv' := (6, .int r) :: lvL b a a' ao od j) C dW_1659 (by decide) rfl ?_
  refine xv_aload_n (pc := 1661) C dW_1661 4 rfl rfl ?_
  refine xl_arg (q := 1662) C hX hbl hL hj 1 6 1 (by decide) rfl rfl (by decide) dW_1662 dW_1663 dW_1665 dW_1666 dW_1667 ?_
  refine xl_rf (As := [.int (xs (j + 1))]) (pc := 1668) (n := 1) C (kX8_minutes hl h2) rfl fV_X8_minutes wf_1919 rfl ⟨(Nat.le_of_ble_eq_true rfl), (Nat.le_of_ble_eq_true rfl)⟩ rfl (Nat.le_of_ble_eq_true rfl) dW_1668 ⟨rfl, rfl⟩ hc hq ?_
  exact tl_int (q := 1671) C hl dW_1671 dW_1673 dW_1674 dW_1677 dW_1679 dW_1684 dW_1686 dW_1689 dW_1690 dW_1691 dW_1692 dW_1694 dW_1695 dW_1696 dW_1701 (by decide) hc hq (res_of hr h4 h5 (by decide)) (K lw _ Zc' Zr' g1 ws gD (by omega) hG' hs)
set_option maxRecDepth 100000 in
theorem lc_26 (C : lC p l s m b meth c D dA sa cw) (hl : l.stackTraces = false) (hX : va_X b L xs s s.heap) (hbl : b < s.heap.size) (hj : j + 4 ≤ L) (hL : L ≤ 2048) (hG : G lw W Zc Zr) (hs : sbT dA (a 300) lw ws) (hW : W + 13 ≤ 7000) (hc : cells + 40 ≤ 603072) (hq : slots + 6400 ≤ 7190634) (K : ∀ (lw' : LW) (W' : Nat) (Zc' Zr' : ZZ) (g' : Nat → Int64) (ws' : va_W) (gD' : Nat → UInt64), W' ≤ W + 13 → G lw' W' Zc' Zr' → sbT dA (a 300) lw' ws' → xL p l e s m b below meth c D Q (wLw dA a a' ao od Zc' g' Zr' ws' gD') (cells + 40) (slots + 6400) 2722 (lvL b a a' ao od j) []) : xL p l e s m b below meth c D Q (wLw dA a a' ao od Zc g Zr ws gD) cells slots 1704 (lvL b a a' ao od j) [] := by
  obtain ⟨rc, Zc', rr, Zr', h1, h2, hG', h4, h5⟩ := w_routeSize (x := (xs (j + 1))) hG
  refine xv_aload_n (pc := 1704) C dW_1704 4 rfl rfl ?_
  refine xl_arg (q := 1705) C hX hbl hL hj 1 5 0 (by decide) rfl rfl (by decide) dW_1705 dW_1706 dW_1708 dW_1709 dW_1710 ?_
  refine xv_aload_n (pc := 1711) C dW_1711 2 rfl rfl ?_
  refine xl_wr (As := [.ref (a 0), .int (xs (j + 1)), .ref ao]) (pc := 1712) C (kW_routeSize hl (kX7_routeSize hl h1) h4 (rcv_7 dA a Zc)) fW_routeSize wf_1290 rfl ⟨(Nat.le_of_ble_eq_true rfl), (Nat.le_of_ble_eq_true rfl)⟩ rfl (Nat.le_of_ble_eq_true rfl) dW_1712 ⟨(Nat.le_of_ble_eq_true rfl), (Nat.le_of_ble_eq_true rfl)⟩ hc hq (fun r g1 hr => ?_)
  refine xv_istore (pc := 1715) (lv' := (6, .int r) :: lvL b a a' ao od j) C dW_1715 (by decide) rfl ?_
  refine xv_aload_n (pc := 1717) C dW_1717 4 rfl rfl ?_
  refine xl_arg (q := 1718) C hX hbl hL hj 1 6 1 (by decide) rfl rfl (by decide) dW_1718 dW_1719 dW_1721 dW_1722 dW_1723 ?_
  refine xl_rf (As := [.int (xs (j + 1))]) (pc := 1724) (n := 1) C (kX8_routeSize hl h2) rfl fV_X8_routeSize wf_1923 rfl ⟨(Nat.le_of_ble_eq_true rfl), (Nat.le_of_ble_eq_true rfl)⟩ rfl (Nat.le_of_ble_eq_true rfl) dW_1724 ⟨rfl, rfl⟩ hc hq ?_
  exact tl_int (q := 1727) C hl dW_1727 dW_1729 dW_1730 dW_1733 dW_1735 dW_1740 dW_1742 dW_1745 dW_1746 dW_1747 dW_1748 dW_1750 dW_1751 dW_1752 dW_1757 (by decide) hc hq (res_of hr h4 h5 (by decide)) (K lw _ Zc' Zr' g1 ws gD (by omega) hG' hs)
set_option maxRecDepth 100000 in
theorem lc_27 (C : lC p l s m b meth c D dA sa cw) (hl : l.stackTraces = false) (hX : va_X b L xs s s.heap) (hbl : b < s.heap.size) (hj : j + 4 ≤ L) (hL : L ≤ 2048) (hG : G lw W Zc Zr) (hs : sbT dA (a 300) lw ws) (hW : W + 13 ≤ 7000) (hc : cells + 40 ≤ 603072) (hq : slots + 6400 ≤ 7190634) (K : ∀ (lw' : LW) (W' : Nat) (Zc' Zr' : ZZ) (g' : Nat → Int64) (ws' : va_W) (gD' : Nat → UInt64), W' ≤ W + 13 → G lw' W' Zc' Zr' → sbT dA (a 300) lw' ws' → xL p l e s m b below meth c D Q (wLw dA a a' ao od Zc' g' Zr' ws' gD') (cells + 40) (slots + 6400) 2722 (lvL b a a' ao od j) []) : xL p l e s m b below meth c D Q (wLw dA a a' ao od Zc g Zr ws gD) cells slots 1760 (lvL b a a' ao od j) [] := by
  obtain ⟨rc, Zc', rr, Zr', h1, h2, hG', h4, h5⟩ := w_routeTrunk (x := (xs (j + 1))) (y := (xs (j + 2))) hG
  refine xv_aload_n (pc := 1760) C dW_1760 4 rfl rfl ?_
  refine xl_arg (q := 1761) C hX hbl hL hj 1 5 0 (by decide) rfl rfl (by decide) dW_1761 dW_1762 dW_1764 dW_1765 dW_1766 ?_
  refine xl_arg (q := 1767) C hX hbl hL hj 2 5 0 (by decide) rfl rfl (by decide) dW_1767 dW_1768 dW_1770 dW_1771 dW_1772 ?_
  refine xv_aload_n (pc := 1773) C dW_1773 2 rfl rfl ?_
  refine xl_wr (As := [.ref (a 0), .int (xs (j + 1)), .int (xs (j + 2)), .ref ao]) (pc := 1774) C (kW_routeTrunk hl (kX7_routeTrunk hl h1) h4 (rcv_7 dA a Zc)) fW_routeTrunk wf_1297 rfl ⟨(Nat.le_of_ble_eq_true rfl), (Nat.le_of_ble_eq_true rfl)⟩ rfl (Nat.le_of_ble_eq_true rfl) dW_1774 ⟨(Nat.le_of_ble_eq_true rfl), (Nat.le_of_ble_eq_true rfl)⟩ hc hq (fun r g1 hr => ?_)
  refine xv_istore (pc := 1777) (lv' := (6, .int r) :: lvL b a a' ao od j) C dW_1777 (by decide) rfl ?_
  refine xv_aload_n (pc := 1779) C dW_1779 4 rfl rfl ?_
  refine xl_arg (q := 1780) C hX hbl hL hj 1 6 1 (by decide) rfl rfl (by decide) dW_1780 dW_1781 dW_1783 dW_1784 dW_1785 ?_
  refine xl_arg (q := 1786) C hX hbl hL hj 2 6 1 (by decide) rfl rfl (by decide) dW_1786 dW_1787 dW_1789 dW_1790 dW_1791 ?_
  refine xl_rf (As := [.int (xs (j + 1)), .int (xs (j + 2))]) (pc := 1792) (n := 2) C (kX8_routeTrunk hl h2) rfl fV_X8_routeTrunk wf_1927 rfl ⟨(Nat.le_of_ble_eq_true rfl), (Nat.le_of_ble_eq_true rfl)⟩ rfl (Nat.le_of_ble_eq_true rfl) dW_1792 ⟨rfl, rfl⟩ hc hq ?_
  exact tl_int (q := 1795) C hl dW_1795 dW_1797 dW_1798 dW_1801 dW_1803 dW_1808 dW_1810 dW_1813 dW_1814 dW_1815 dW_1816 dW_1818 dW_1819 dW_1820 dW_1825 (by decide) hc hq (res_of hr h4 h5 (by decide)) (K lw _ Zc' Zr' g1 ws gD (by omega) hG' hs)
set_option maxRecDepth 100000 in
theorem lc_28 (C : lC p l s m b meth c D dA sa cw) (hl : l.stackTraces = false) (hX : va_X b L xs s s.heap) (hbl : b < s.heap.size) (hj : j + 4 ≤ L) (hL : L ≤ 2048) (hG : G lw W Zc Zr) (hs : sbT dA (a 300) lw ws) (hW : W + 13 ≤ 7000) (hc : cells + 40 ≤ 603072) (hq : slots + 6400 ≤ 7190634) (K : ∀ (lw' : LW) (W' : Nat) (Zc' Zr' : ZZ) (g' : Nat → Int64) (ws' : va_W) (gD' : Nat → UInt64), W' ≤ W + 13 → G lw' W' Zc' Zr' → sbT dA (a 300) lw' ws' → xL p l e s m b below meth c D Q (wLw dA a a' ao od Zc' g' Zr' ws' gD') (cells + 40) (slots + 6400) 2722 (lvL b a a' ao od j) []) : xL p l e s m b below meth c D Q (wLw dA a a' ao od Zc g Zr ws gD) cells slots 1828 (lvL b a a' ao od j) [] := by
  obtain ⟨rc, Zc', rr, Zr', h1, h2, hG', h4, h5⟩ := w_chargeNow (x := (xs (j + 1))) hG (by omega)
  refine xv_aload_n (pc := 1828) C dW_1828 4 rfl rfl ?_
  refine xl_arg (q := 1829) C hX hbl hL hj 1 5 0 (by decide) rfl rfl (by decide) dW_1829 dW_1830 dW_1832 dW_1833 dW_1834 ?_
  refine xv_aload_n (pc := 1835) C dW_1835 2 rfl rfl ?_
  refine xl_wr (As := [.ref (a 0), .int (xs (j + 1)), .ref ao]) (pc := 1836) C (kW_chargeNow hl (kX7_chargeNow hl h1) h4 (rcv_7 dA a Zc)) fW_chargeNow wf_1305 rfl ⟨(Nat.le_of_ble_eq_true rfl), (Nat.le_of_ble_eq_true rfl)⟩ rfl (Nat.le_of_ble_eq_true rfl) dW_1836 ⟨(Nat.le_of_ble_eq_true rfl), (Nat.le_of_ble_eq_true rfl)⟩ hc hq (fun r g1 hr => ?_)
  refine xv_istore (pc := 1839) (lv' := (6, .int r) :: lvL b a a' ao od j) C dW_1839 (by decide) rfl ?_
  refine xv_aload_n (pc := 1841) C dW_1841 4 rfl rfl ?_
  refine xl_arg (q := 1842) C hX hbl hL hj 1 6 1 (by decide) rfl rfl (by decide) dW_1842 dW_1843 dW_1845 dW_1846 dW_1847 ?_
  refine xl_rf (As := [.int (xs (j + 1))]) (pc := 1848) (n := 1) C (kX8_chargeNow hl h2) rfl fV_X8_chargeNow wf_1931 rfl ⟨(Nat.le_of_ble_eq_true rfl), (Nat.le_of_ble_eq_true rfl)⟩ rfl (Nat.le_of_ble_eq_true rfl) dW_1848 ⟨rfl, rfl⟩ hc hq ?_
  exact tl_int (q := 1851) C hl dW_1851 dW_1853 dW_1854 dW_1857 dW_1859 dW_1864 dW_1866 dW_1869 dW_1870 dW_1871 dW_1872 dW_1874 dW_1875 dW_1876 dW_1881 (by decide) hc hq (res_of hr h4 h5 (by decide)) (K lw _ Zc' Zr' g1 ws gD (by omega) hG' hs)
set_option maxRecDepth 100000 in
theorem lc_29 (C : lC p l s m b meth c D dA sa cw) (hl : l.stackTraces = false) (hX : va_X b L xs s s.heap) (hbl : b < s.heap.size) (hj : j + 4 ≤ L) (hL : L ≤ 2048) (hG : G lw W Zc Zr) (hs : sbT dA (a 300) lw ws) (hW : W + 13 ≤ 7000) (hc : cells + 40 ≤ 603072) (hq : slots + 6400 ≤ 7190634) (K : ∀ (lw' : LW) (W' : Nat) (Zc' Zr' : ZZ) (g' : Nat → Int64) (ws' : va_W) (gD' : Nat → UInt64), W' ≤ W + 13 → G lw' W' Zc' Zr' → sbT dA (a 300) lw' ws' → xL p l e s m b below meth c D Q (wLw dA a a' ao od Zc' g' Zr' ws' gD') (cells + 40) (slots + 6400) 2722 (lvL b a a' ao od j) []) : xL p l e s m b below meth c D Q (wLw dA a a' ao od Zc g Zr ws gD) cells slots 1884 (lvL b a a' ao od j) [] := by
  obtain ⟨r, Zc', Zr', h1, h2, hG'⟩ := o_calls hG
  refine xv_aload_n (pc := 1884) C dW_1884 4 rfl rfl ?_
  refine xl_cl (As := []) (pc := 1885) (n := 0) C (kX7_calls hl h1) rfl fV_X7_calls wf_356 rfl ⟨(Nat.le_of_ble_eq_true rfl), (Nat.le_of_ble_eq_true rfl)⟩ rfl (Nat.le_of_ble_eq_true rfl) dW_1885 ⟨(Nat.le_of_ble_eq_true rfl), (Nat.le_of_ble_eq_true rfl)⟩ hc hq ?_
  refine xv_aload_n (pc := 1888) C dW_1888 3 rfl rfl ?_
  refine xl_rf (As := []) (pc := 1889) (n := 0) C (kX8_calls hl h2) rfl fV_X8_calls wf_1935 rfl ⟨(Nat.le_of_ble_eq_true rfl), (Nat.le_of_ble_eq_true rfl)⟩ rfl (Nat.le_of_ble_eq_true rfl) dW_1889 ⟨rfl, rfl⟩ hc hq ?_
  exact xv_icmp_eq (tgt := 2722) (pc := 1892) C dW_1892 (by decide) (fun _ => K lw W Zc' Zr' g ws gD (by omega) hG' hs) (fun c9 => absurd rfl c9)
set_option maxRecDepth 100000 in
theorem lc_30 (C : lC p l s m b meth c D dA sa cw) (hl : l.stackTraces = false) (hX : va_X b L xs s s.heap) (hbl : b < s.heap.size) (hj : j + 4 ≤ L) (hL : L ≤ 2048) (hG : G lw W Zc Zr) (hs : sbT dA (a 300) lw ws) (hW : W + 13 ≤ 7000) (hc : cells + 40 ≤ 603072) (hq : slots + 6400 ≤ 7190634) (K : ∀ (lw' : LW) (W' : Nat) (Zc' Zr' : ZZ) (g' : Nat → Int64) (ws' : va_W) (gD' : Nat → UInt64), W' ≤ W + 13 → G lw' W' Zc' Zr' → sbT dA (a 300) lw' ws' → xL p l e s m b below meth c D Q (wLw dA a a' ao od Zc' g' Zr' ws' gD') (cells + 40) (slots + 6400) 2722 (lvL b a a' ao od j) []) : xL p l e s m b below meth c D Q (wLw dA a a' ao od Zc g Zr ws gD) cells slots 1897 (lvL b a a' ao od j) [] := by
  obtain ⟨r, Zc', Zr', h1, h2, hG'⟩ := o_blockedCalls hG
  refine xv_aload_n (pc := 1897) C dW_1897 4 rfl rfl ?_
  refine xl_cl (As := []) (pc := 1898) (n := 0) C (kX7_blockedCalls hl h1) rfl fV_X7_blockedCalls wf_360 rfl ⟨(Nat.le_of_ble_eq_true rfl), (Nat.le_of_ble_eq_true rfl)⟩ rfl (Nat.le_of_ble_eq_true rfl) dW_1898 ⟨(Nat.le_of_ble_eq_true rfl), (Nat.le_of_ble_eq_true rfl)⟩ hc hq ?_
  refine xv_aload_n (pc := 1901) C dW_1901 3 rfl rfl ?_
  refine xl_rf (As := []) (pc := 1902) (n := 0) C (kX8_blockedCalls hl h2) rfl fV_X8_blockedCalls wf_1939 rfl ⟨(Nat.le_of_ble_eq_true rfl), (Nat.le_of_ble_eq_true rfl)⟩ rfl (Nat.le_of_ble_eq_true rfl) dW_1902 ⟨rfl, rfl⟩ hc hq ?_
  exact xv_icmp_eq (tgt := 2722) (pc := 1905) C dW_1905 (by decide) (fun _ => K lw W Zc' Zr' g ws gD (by omega) hG' hs) (fun c9 => absurd rfl c9)
set_option maxRecDepth 100000 in
theorem lc_31 (C : lC p l s m b meth c D dA sa cw) (hl : l.stackTraces = false) (hX : va_X b L xs s s.heap) (hbl : b < s.heap.size) (hj : j + 4 ≤ L) (hL : L ≤ 2048) (hG : G lw W Zc Zr) (hs : sbT dA (a 300) lw ws) (hW : W + 13 ≤ 7000) (hc : cells + 40 ≤ 603072) (hq : slots + 6400 ≤ 7190634) (K : ∀ (lw' : LW) (W' : Nat) (Zc' Zr' : ZZ) (g' : Nat → Int64) (ws' : va_W) (gD' : Nat → UInt64), W' ≤ W + 13 → G lw' W' Zc' Zr' → sbT dA (a 300) lw' ws' → xL p l e s m b below meth c D Q (wLw dA a a' ao od Zc' g' Zr' ws' gD') (cells + 40) (slots + 6400) 2722 (lvL b a a' ao od j) []) : xL p l e s m b below meth c D Q (wLw dA a a' ao od Zc g Zr ws gD) cells slots 1910 (lvL b a a' ao od j) [] := by
  obtain ⟨rc, Zc', rr, Zr', h1, h2, hG', h4, h5⟩ := w_blockedCaller (x := (xs (j + 1))) hG
  refine xv_aload_n (pc := 1910) C dW_1910 4 rfl rfl ?_
  refine xl_arg (q := 1911) C hX hbl hL hj 1 5 0 (by decide) rfl rfl (by decide) dW_1911 dW_1912 dW_1914 dW_1915 dW_1916 ?_
  refine xv_aload_n (pc := 1917) C dW_1917 2 rfl rfl ?_
  refine xl_wr (As := [.ref (a 0), .int (xs (j + 1)), .ref ao]) (pc := 1918) C (kW_blockedCaller hl (kX7_blockedCaller hl h1) h4 (rcv_7 dA a Zc)) fW_blockedCaller wf_1313 rfl ⟨(Nat.le_of_ble_eq_true rfl), (Nat.le_of_ble_eq_true rfl)⟩ rfl (Nat.le_of_ble_eq_true rfl) dW_1918 ⟨(Nat.le_of_ble_eq_true rfl), (Nat.le_of_ble_eq_true rfl)⟩ hc hq (fun r g1 hr => ?_)
  refine xv_istore (pc := 1921) (lv' := (6, .int r) :: lvL b a a' ao od j) C dW_1921 (by decide) rfl ?_
  refine xv_aload_n (pc := 1923) C dW_1923 4 rfl rfl ?_
  refine xl_arg (q := 1924) C hX hbl hL hj 1 6 1 (by decide) rfl rfl (by decide) dW_1924 dW_1925 dW_1927 dW_1928 dW_1929 ?_
  refine xl_rf (As := [.int (xs (j + 1))]) (pc := 1930) (n := 1) C (kX8_blockedCaller hl h2) rfl fV_X8_blockedCaller wf_1943 rfl ⟨(Nat.le_of_ble_eq_true rfl), (Nat.le_of_ble_eq_true rfl)⟩ rfl (Nat.le_of_ble_eq_true rfl) dW_1930 ⟨rfl, rfl⟩ hc hq ?_
  exact tl_int (q := 1933) C hl dW_1933 dW_1935 dW_1936 dW_1939 dW_1941 dW_1946 dW_1948 dW_1951 dW_1952 dW_1953 dW_1954 dW_1956 dW_1957 dW_1958 dW_1963 (by decide) hc hq (res_of hr h4 h5 (by decide)) (K lw _ Zc' Zr' g1 ws gD (by omega) hG' hs)
set_option maxRecDepth 100000 in
theorem lc_32 (C : lC p l s m b meth c D dA sa cw) (hl : l.stackTraces = false) (hX : va_X b L xs s s.heap) (hbl : b < s.heap.size) (hj : j + 4 ≤ L) (hL : L ≤ 2048) (hG : G lw W Zc Zr) (hs : sbT dA (a 300) lw ws) (hW : W + 13 ≤ 7000) (hc : cells + 40 ≤ 603072) (hq : slots + 6400 ≤ 7190634) (K : ∀ (lw' : LW) (W' : Nat) (Zc' Zr' : ZZ) (g' : Nat → Int64) (ws' : va_W) (gD' : Nat → UInt64), W' ≤ W + 13 → G lw' W' Zc' Zr' → sbT dA (a 300) lw' ws' → xL p l e s m b below meth c D Q (wLw dA a a' ao od Zc' g' Zr' ws' gD') (cells + 40) (slots + 6400) 2722 (lvL b a a' ao od j) []) : xL p l e s m b below meth c D Q (wLw dA a a' ao od Zc g Zr ws gD) cells slots 1966 (lvL b a a' ao od j) [] := by
  obtain ⟨rc, Zc', rr, Zr', h1, h2, hG', h4, h5⟩ := w_blockedCallee (x := (xs (j + 1))) hG
  refine xv_aload_n (pc := 1966) C dW_1966 4 rfl rfl ?_
  refine xl_arg (q := 1967) C hX hbl hL hj 1 5 0 (by decide) rfl rfl (by decide) dW_1967 dW_1968 dW_1970 dW_1971 dW_1972 ?_
  refine xv_aload_n (pc := 1973) C dW_1973 2 rfl rfl ?_
  refine xl_wr (As := [.ref (a 0), .int (xs (j + 1)), .ref ao]) (pc := 1974) C (kW_blockedCallee hl (kX7_blockedCallee hl h1) h4 (rcv_7 dA a Zc)) fW_blockedCallee wf_1325 rfl ⟨(Nat.le_of_ble_eq_true rfl), (Nat.le_of_ble_eq_true rfl)⟩ rfl (Nat.le_of_ble_eq_true rfl) dW_1974 ⟨(Nat.le_of_ble_eq_true rfl), (Nat.le_of_ble_eq_true rfl)⟩ hc hq (fun r g1 hr => ?_)
  refine xv_istore (pc := 1977) (lv' := (6, .int r) :: lvL b a a' ao od j) C dW_1977 (by decide) rfl ?_
  refine xv_aload_n (pc := 1979) C dW_1979 4 rfl rfl ?_
  refine xl_arg (q := 1980) C hX hbl hL hj 1 6 1 (by decide) rfl rfl (by decide) dW_1980 dW_1981 dW_1983 dW_1984 dW_1985 ?_
  refine xl_rf (As := [.int (xs (j + 1))]) (pc := 1986) (n := 1) C (kX8_blockedCallee hl h2) rfl fV_X8_blockedCallee wf_1951 rfl ⟨(Nat.le_of_ble_eq_true rfl), (Nat.le_of_ble_eq_true rfl)⟩ rfl (Nat.le_of_ble_eq_true rfl) dW_1986 ⟨rfl, rfl⟩ hc hq ?_
  exact tl_int (q := 1989) C hl dW_1989 dW_1991 dW_1992 dW_1995 dW_1997 dW_2002 dW_2004 dW_2007 dW_2008 dW_2009 dW_2010 dW_2012 dW_2013 dW_2014 dW_2019 (by decide) hc hq (res_of hr h4 h5 (by decide)) (K lw _ Zc' Zr' g1 ws gD (by omega) hG' hs)
set_option maxRecDepth 100000 in
theorem lc_33 (C : lC p l s m b meth c D dA sa cw) (hl : l.stackTraces = false) (hX : va_X b L xs s s.heap) (hbl : b < s.heap.size) (hj : j + 4 ≤ L) (hL : L ≤ 2048) (hG : G lw W Zc Zr) (hs : sbT dA (a 300) lw ws) (hW : W + 13 ≤ 7000) (hc : cells + 40 ≤ 603072) (hq : slots + 6400 ≤ 7190634) (K : ∀ (lw' : LW) (W' : Nat) (Zc' Zr' : ZZ) (g' : Nat → Int64) (ws' : va_W) (gD' : Nat → UInt64), W' ≤ W + 13 → G lw' W' Zc' Zr' → sbT dA (a 300) lw' ws' → xL p l e s m b below meth c D Q (wLw dA a a' ao od Zc' g' Zr' ws' gD') (cells + 40) (slots + 6400) 2722 (lvL b a a' ao od j) []) : xL p l e s m b below meth c D Q (wLw dA a a' ao od Zc g Zr ws gD) cells slots 2022 (lvL b a a' ao od j) [] := by
  obtain ⟨rc, Zc', rr, Zr', h1, h2, hG', h4, h5⟩ := w_blockedReason (x := (xs (j + 1))) hG
  refine xv_aload_n (pc := 2022) C dW_2022 4 rfl rfl ?_
  refine xl_arg (q := 2023) C hX hbl hL hj 1 5 0 (by decide) rfl rfl (by decide) dW_2023 dW_2024 dW_2026 dW_2027 dW_2028 ?_
  refine xv_aload_n (pc := 2029) C dW_2029 2 rfl rfl ?_
  refine xl_wr (As := [.ref (a 0), .int (xs (j + 1)), .ref ao]) (pc := 2030) C (kW_blockedReason hl (kX7_blockedReason hl h1) h4 (rcv_7 dA a Zc)) fW_blockedReason wf_1332 rfl ⟨(Nat.le_of_ble_eq_true rfl), (Nat.le_of_ble_eq_true rfl)⟩ rfl (Nat.le_of_ble_eq_true rfl) dW_2030 ⟨(Nat.le_of_ble_eq_true rfl), (Nat.le_of_ble_eq_true rfl)⟩ hc hq (fun r g1 hr => ?_)
  refine xv_istore (pc := 2033) (lv' := (6, .int r) :: lvL b a a' ao od j) C dW_2033 (by decide) rfl ?_
  refine xv_aload_n (pc := 2035) C dW_2035 4 rfl rfl ?_
  refine xl_arg (q := 2036) C hX hbl hL hj 1 6 1 (by decide) rfl rfl (by decide) dW_2036 dW_2037 dW_2039 dW_2040 dW_2041 ?_
  refine xl_rf (As := [.int (xs (j + 1))]) (pc := 2042) (n := 1) C (kX8_blockedReason hl h2) rfl fV_X8_blockedReason wf_1955 rfl ⟨(Nat.le_of_ble_eq_true rfl), (Nat.le_of_ble_eq_true rfl)⟩ rfl (Nat.le_of_ble_eq_true rfl) dW_2042 ⟨rfl, rfl⟩ hc hq ?_
  exact tl_int (q := 2045) C hl dW_2045 dW_2047 dW_2048 dW_2051 dW_2053 dW_2058 dW_2060 dW_2063 dW_2064 dW_2065 dW_2066 dW_2068 dW_2069 dW_2070 dW_2075 (by decide) hc hq (res_of hr h4 h5 (by decide)) (K lw _ Zc' Zr' g1 ws gD (by omega) hG' hs)
set_option maxRecDepth 100000 in
theorem lc_34 (C : lC p l s m b meth c D dA sa cw) (hl : l.stackTraces = false) (hX : va_X b L xs s s.heap) (hbl : b < s.heap.size) (hj : j + 4 ≤ L) (hL : L ≤ 2048) (hG : G lw W Zc Zr) (hs : sbT dA (a 300) lw ws) (hW : W + 13 ≤ 7000) (hc : cells + 40 ≤ 603072) (hq : slots + 6400 ≤ 7190634) (K : ∀ (lw' : LW) (W' : Nat) (Zc' Zr' : ZZ) (g' : Nat → Int64) (ws' : va_W) (gD' : Nat → UInt64), W' ≤ W + 13 → G lw' W' Zc' Zr' → sbT dA (a 300) lw' ws' → xL p l e s m b below meth c D Q (wLw dA a a' ao od Zc' g' Zr' ws' gD') (cells + 40) (slots + 6400) 2722 (lvL b a a' ao od j) []) : xL p l e s m b below meth c D Q (wLw dA a a' ao od Zc g Zr ws gD) cells slots 2078 (lvL b a a' ao od j) [] := by
  obtain ⟨r, Zc', Zr', h1, h2, hG'⟩ := o_totalBills hG (by omega)
  refine xv_aload_n (pc := 2078) C dW_2078 4 rfl rfl ?_
  refine xl_cll (As := []) (pc := 2079) (n := 0) C (kX7_totalBills hl h1) rfl fV_X7_totalBills wf_364 rfl ⟨(Nat.le_of_ble_eq_true rfl), (Nat.le_of_ble_eq_true rfl)⟩ rfl (Nat.le_of_ble_eq_true rfl) dW_2079 ⟨(Nat.le_of_ble_eq_true rfl), (Nat.le_of_ble_eq_true rfl)⟩ hc hq ?_
  refine xv_aload_n (pc := 2082) C dW_2082 3 rfl rfl ?_
  refine xl_rl (As := []) (pc := 2083) (n := 0) C (kX8_totalBills hl h2) rfl fV_X8_totalBills wf_1959 rfl ⟨(Nat.le_of_ble_eq_true rfl), (Nat.le_of_ble_eq_true rfl)⟩ rfl (Nat.le_of_ble_eq_true rfl) dW_2083 ⟨rfl, rfl⟩ hc hq ?_
  refine xv_lcmp (pc := 2086) C dW_2086 ?_
  exact xv_if_eq (tgt := 2722) (pc := 2087) C dW_2087 (by decide) (fun _ => K lw W Zc' Zr' g ws gD (by omega) hG' hs) (fun c9 => absurd (lg_same rfl) c9)
set_option maxRecDepth 100000 in
theorem lc_35 (C : lC p l s m b meth c D dA sa cw) (hl : l.stackTraces = false) (hX : va_X b L xs s s.heap) (hbl : b < s.heap.size) (hj : j + 4 ≤ L) (hL : L ≤ 2048) (hG : G lw W Zc Zr) (hs : sbT dA (a 300) lw ws) (hW : W + 13 ≤ 7000) (hc : cells + 40 ≤ 603072) (hq : slots + 6400 ≤ 7190634) (K : ∀ (lw' : LW) (W' : Nat) (Zc' Zr' : ZZ) (g' : Nat → Int64) (ws' : va_W) (gD' : Nat → UInt64), W' ≤ W + 13 → G lw' W' Zc' Zr' → sbT dA (a 300) lw' ws' → xL p l e s m b below meth c D Q (wLw dA a a' ao od Zc' g' Zr' ws' gD') (cells + 40) (slots + 6400) 2722 (lvL b a a' ao od j) []) : xL p l e s m b below meth c D Q (wLw dA a a' ao od Zc g Zr ws gD) cells slots 2092 (lvL b a a' ao od j) [] := by
  obtain ⟨r, Zc', Zr', h1, h2, hG'⟩ := o_totalCharges hG (by omega)
  refine xv_aload_n (pc := 2092) C dW_2092 4 rfl rfl ?_
  refine xl_cll (As := []) (pc := 2093) (n := 0) C (kX7_totalCharges hl h1) rfl fV_X7_totalCharges wf_372 rfl ⟨(Nat.le_of_ble_eq_true rfl), (Nat.le_of_ble_eq_true rfl)⟩ rfl (Nat.le_of_ble_eq_true rfl) dW_2093 ⟨(Nat.le_of_ble_eq_true rfl), (Nat.le_of_ble_eq_true rfl)⟩ hc hq ?_
  refine xv_aload_n (pc := 2096) C dW_2096 3 rfl rfl ?_
  refine xl_rl (As := []) (pc := 2097) (n := 0) C (kX8_totalCharges hl h2) rfl fV_X8_totalCharges wf_1963 rfl ⟨(Nat.le_of_ble_eq_true rfl), (Nat.le_of_ble_eq_true rfl)⟩ rfl (Nat.le_of_ble_eq_true rfl) dW_2097 ⟨rfl, rfl⟩ hc hq ?_
  refine xv_lcmp (pc := 2100) C dW_2100 ?_
  exact xv_if_eq (tgt := 2722) (pc := 2101) C dW_2101 (by decide) (fun _ => K lw W Zc' Zr' g ws gD (by omega) hG' hs) (fun c9 => absurd (lg_same rfl) c9)
set_option maxRecDepth 100000 in
theorem lc_36 (C : lC p l s m b meth c D dA sa cw) (hl : l.stackTraces = false) (hX : va_X b L xs s s.heap) (hbl : b < s.heap.size) (hj : j + 4 ≤ L) (hL : L ≤ 2048) (hG : G lw W Zc Zr) (hs : sbT dA (a 300) lw ws) (hW : W + 13 ≤ 7000) (hc : cells + 40 ≤ 603072) (hq : slots + 6400 ≤ 7190634) (K : ∀ (lw' : LW) (W' : Nat) (Zc' Zr' : ZZ) (g' : Nat → Int64) (ws' : va_W) (gD' : Nat → UInt64), W' ≤ W + 13 → G lw' W' Zc' Zr' → sbT dA (a 300) lw' ws' → xL p l e s m b below meth c D Q (wLw dA a a' ao od Zc' g' Zr' ws' gD') (cells + 40) (slots + 6400) 2722 (lvL b a a' ao od j) []) : xL p l e s m b below meth c D Q (wLw dA a a' ao od Zc g Zr ws gD) cells slots 2106 (lvL b a a' ao od j) [] := by
  obtain ⟨rc, Zc', rr, Zr', h1, h2, hG', h4, h5⟩ := w_subscriberByBill (x := (xs (j + 1))) hG (by omega)
  refine xv_aload_n (pc := 2106) C dW_2106 4 rfl rfl ?_
  refine xl_arg (q := 2107) C hX hbl hL hj 1 5 0 (by decide) rfl rfl (by decide) dW_2107 dW_2108 dW_2110 dW_2111 dW_2112 ?_
  refine xv_aload_n (pc := 2113) C dW_2113 2 rfl rfl ?_
  refine xl_wr (As := [.ref (a 0), .int (xs (j + 1)), .ref ao]) (pc := 2114) C (kW_subscriberByBill hl (kX7_subscriberByBill hl h1) h4 (rcv_7 dA a Zc)) fW_subscriberByBill wf_1339 rfl ⟨(Nat.le_of_ble_eq_true rfl), (Nat.le_of_ble_eq_true rfl)⟩ rfl (Nat.le_of_ble_eq_true rfl) dW_2114 ⟨(Nat.le_of_ble_eq_true rfl), (Nat.le_of_ble_eq_true rfl)⟩ hc hq (fun r g1 hr => ?_)
  refine xv_istore (pc := 2117) (lv' := (6, .int r) :: lvL b a a' ao od j) C dW_2117 (by decide) rfl ?_
  refine xv_aload_n (pc := 2119) C dW_2119 4 rfl rfl ?_
  refine xl_arg (q := 2120) C hX hbl hL hj 1 6 1 (by decide) rfl rfl (by decide) dW_2120 dW_2121 dW_2123 dW_2124 dW_2125 ?_
  refine xl_rf (As := [.int (xs (j + 1))]) (pc := 2126) (n := 1) C (kX8_subscriberByBill hl h2) rfl fV_X8_subscriberByBill wf_1967 rfl ⟨(Nat.le_of_ble_eq_true rfl), (Nat.le_of_ble_eq_true rfl)⟩ rfl (Nat.le_of_ble_eq_true rfl) dW_2126 ⟨rfl, rfl⟩ hc hq ?_
  exact tl_int (q := 2129) C hl dW_2129 dW_2131 dW_2132 dW_2135 dW_2137 dW_2142 dW_2144 dW_2147 dW_2148 dW_2149 dW_2150 dW_2152 dW_2153 dW_2154 dW_2159 (by decide) hc hq (res_of hr h4 h5 (by decide)) (K lw _ Zc' Zr' g1 ws gD (by omega) hG' hs)
end LCA
