/-! the law, case by case -/
section LC
variable {l : Launch} {D : va_G} {ad : Nat → Nat} {tc : Nat → ClassId} {xs : Nat → Int32}
set_option maxRecDepth 20000 in
theorem la_17_no0 (hl : l.stackTraces = false)  (z4 : xs 4 = 0) : ∃ h' : j_H, (h'.1.length ≤ 400 ∧ h'.2 ≤ 20000) ∧ Rn l D ad tc 6 xs mL_law 200 6000 1453 [(5, .int 0), (4, .ref 93), (3, .ref 92), (2, .ref 85), (1, .ref 1), (0, .ref 0)] [] (wd s0 (mdl (j_a0 D) 0 0 0 ++ [ol 0, od 0]), 6544) (some (.int 1)) h' := by
  refine ⟨(wd s0 (mdl (j_a0 D) 1 0 0 ++ [ol 0, od 0, j_x 1]), 6544 + 6), ⟨by simp [wd_len, mdl, lkT], Nat.le_of_ble_eq_true rfl⟩, ?_⟩
  refine rn_aload_n dL_law_1453 rfl ?_
  refine rn_aload_n dL_law_1454 rfl ?_
  refine rn_iload dL_law_1455 rfl ?_
  refine rn_iconst (v := 1) dL_law_1457 rfl ?_
  refine rn_iadd dL_law_1458 ?_
  refine rn_topi (y := 1) (by decide) ?_
  refine rn_sld dL_law_1459 (by unfold vp_in; decide) ?_
  refine rn_topi (y := xs 1) rfl ?_
  refine rn_aload_n dL_law_1460 rfl ?_
  refine rn_iload dL_law_1461 rfl ?_
  refine rn_iconst (v := 2) dL_law_1463 rfl ?_
  refine rn_iadd dL_law_1464 ?_
  refine rn_topi (y := 2) (by decide) ?_
  refine rn_sld dL_law_1465 (by unfold vp_in; decide) ?_
  refine rn_topi (y := xs 2) rfl ?_
  refine rn_aload_n dL_law_1466 rfl ?_
  refine rn_iload dL_law_1467 rfl ?_
  refine rn_iconst (v := 3) dL_law_1469 rfl ?_
  refine rn_iadd dL_law_1470 ?_
  refine rn_topi (y := 3) (by decide) ?_
  refine rn_sld dL_law_1471 (by unfold vp_in; decide) ?_
  refine rn_topi (y := xs 3) rfl ?_
  refine rn_aload_n dL_law_1472 rfl ?_
  refine rn_iload dL_law_1473 rfl ?_
  refine rn_iconst (v := 4) dL_law_1475 rfl ?_
  refine rn_iadd dL_law_1476 ?_
  refine rn_topi (y := 4) (by decide) ?_
  refine rn_sld dL_law_1477 (by unfold vp_in; decide) ?_
  refine rn_topi (y := xs 4) rfl ?_
  refine rn_if_eq (tgt := 1485) dL_law_1478 rfl (fun _ => ?_) (fun q => absurd z4 q)
  refine rn_iconst (v := 0) dL_law_1485 rfl ?_
  refine rn_aload dL_law_1486 rfl ?_
  refine rn_callSW dL_law_1488 csw_L_165 (w_left_x1 (x_left hl Fr_0) (by decide) (by decide)) rfl (by decide) (by decide) rfl (Nat.le_of_ble_eq_true rfl) ?_
  refine rn_h (h2 := (wd s0 (mdl (j_a0 D) 0 0 0 ++ [ol 0, od 0, j_x 1]), 6544 + 6)) rfl ?_
  refine rn_istore dL_law_1491 (by decide) rfl ?_
  refine rn_aload_n dL_law_1493 rfl ?_
  refine rn_aload_n dL_law_1494 rfl ?_
  refine rn_iload dL_law_1495 rfl ?_
  refine rn_iconst (v := 1) dL_law_1497 rfl ?_
  refine rn_iadd dL_law_1498 ?_
  refine rn_topi (y := 1) (by decide) ?_
  refine rn_sld dL_law_1499 (by unfold vp_in; decide) ?_
  refine rn_topi (y := xs 1) rfl ?_
  refine rn_aload_n dL_law_1500 rfl ?_
  refine rn_iload dL_law_1501 rfl ?_
  refine rn_iconst (v := 2) dL_law_1503 rfl ?_
  refine rn_iadd dL_law_1504 ?_
  refine rn_topi (y := 2) (by decide) ?_
  refine rn_sld dL_law_1505 (by unfold vp_in; decide) ?_
  refine rn_topi (y := xs 2) rfl ?_
  refine rn_aload_n dL_law_1506 rfl ?_
  refine rn_iload dL_law_1507 rfl ?_
  refine rn_iconst (v := 3) dL_law_1509 rfl ?_
  refine rn_iadd dL_law_1510 ?_
  refine rn_topi (y := 3) (by decide) ?_
  refine rn_sld dL_law_1511 (by unfold vp_in; decide) ?_
  refine rn_topi (y := xs 3) rfl ?_
  refine rn_aload_n dL_law_1512 rfl ?_
  refine rn_iload dL_law_1513 rfl ?_
  refine rn_iconst (v := 4) dL_law_1515 rfl ?_
  refine rn_iadd dL_law_1516 ?_
  refine rn_topi (y := 4) (by decide) ?_
  refine rn_sld dL_law_1517 (by unfold vp_in; decide) ?_
  refine rn_topi (y := xs 4) rfl ?_
  refine rn_if_eq (tgt := 1525) dL_law_1518 rfl (fun _ => ?_) (fun q => absurd z4 q)
  refine rn_iconst (v := 0) dL_law_1525 rfl ?_
  refine rn_callV dL_law_1526 cv_L_168 (c_X11_left (G := gW s0) (U := [ol 0, od 0, j_x 1]) (u := 3) gW_len rfl) rfl (wd_E (i := 0) rfl) rfl rfl (by decide) (by decide) rfl (Nat.le_of_ble_eq_true rfl) ?_
  refine rn_h (h2 := (wd s0 (mdl (j_a0 D) 1 0 0 ++ [ol 0, od 0, j_x 1]), 6544 + 6)) rfl ?_
  refine rn_dstore dL_law_1529 (by decide) rfl ?_
  refine rn_aload_n dL_law_1531 rfl ?_
  refine rn_callV dL_law_1532 cv_L_105 (c_X11_thrown (i := 84) (t := 1) (wd_E (i := 0) rfl)) rfl (wd_E (i := 0) rfl) rfl rfl (by decide) (by decide) rfl (Nat.le_of_ble_eq_true rfl) ?_
  refine rn_iload dL_law_1535 rfl ?_
  refine rn_icmp_eq (tgt := 1542) dL_law_1537 rfl (fun _ => ?_) (fun q => absurd (by decide) q)
  refine rn_iload dL_law_1542 rfl ?_
  refine rn_if_ne (tgt := 1579) dL_law_1544 rfl (fun _ => ?_) (fun q => absurd q (by decide))
  refine rn_goto (tgt := 2228) dL_law_1579 rfl ?_
  exact law_tail rfl rfl
set_option maxRecDepth 20000 in
theorem la_17_no1 (hl : l.stackTraces = false)  (z4 : ¬ xs 4 = 0) : ∃ h' : j_H, (h'.1.length ≤ 400 ∧ h'.2 ≤ 20000) ∧ Rn l D ad tc 6 xs mL_law 200 6000 1453 [(5, .int 0), (4, .ref 93), (3, .ref 92), (2, .ref 85), (1, .ref 1), (0, .ref 0)] [] (wd s0 (mdl (j_a0 D) 0 0 0 ++ [ol 0, od 0]), 6544) (some (.int 1)) h' := by
  refine ⟨(wd s0 (mdl (j_a0 D) 1 0 0 ++ [ol 0, od 0, j_x 1]), 6544 + 6), ⟨by simp [wd_len, mdl, lkT], Nat.le_of_ble_eq_true rfl⟩, ?_⟩
  refine rn_aload_n dL_law_1453 rfl ?_
  refine rn_aload_n dL_law_1454 rfl ?_
  refine rn_iload dL_law_1455 rfl ?_
  refine rn_iconst (v := 1) dL_law_1457 rfl ?_
  refine rn_iadd dL_law_1458 ?_
  refine rn_topi (y := 1) (by decide) ?_
  refine rn_sld dL_law_1459 (by unfold vp_in; decide) ?_
  refine rn_topi (y := xs 1) rfl ?_
  refine rn_aload_n dL_law_1460 rfl ?_
  refine rn_iload dL_law_1461 rfl ?_
  refine rn_iconst (v := 2) dL_law_1463 rfl ?_
  refine rn_iadd dL_law_1464 ?_
  refine rn_topi (y := 2) (by decide) ?_
  refine rn_sld dL_law_1465 (by unfold vp_in; decide) ?_
  refine rn_topi (y := xs 2) rfl ?_
  refine rn_aload_n dL_law_1466 rfl ?_
  refine rn_iload dL_law_1467 rfl ?_
  refine rn_iconst (v := 3) dL_law_1469 rfl ?_
  refine rn_iadd dL_law_1470 ?_
  refine rn_topi (y := 3) (by decide) ?_
  refine rn_sld dL_law_1471 (by unfold vp_in; decide) ?_
  refine rn_topi (y := xs 3) rfl ?_
  refine rn_aload_n dL_law_1472 rfl ?_
  refine rn_iload dL_law_1473 rfl ?_
  refine rn_iconst (v := 4) dL_law_1475 rfl ?_
  refine rn_iadd dL_law_1476 ?_
  refine rn_topi (y := 4) (by decide) ?_
  refine rn_sld dL_law_1477 (by unfold vp_in; decide) ?_
  refine rn_topi (y := xs 4) rfl ?_
  refine rn_if_eq (tgt := 1485) dL_law_1478 rfl (fun q => absurd q z4) (fun _ => ?_)
  refine rn_iconst (v := 1) dL_law_1481 rfl ?_
  refine rn_goto (tgt := 1486) dL_law_1482 rfl ?_
  refine rn_aload dL_law_1486 rfl ?_
  refine rn_callSW dL_law_1488 csw_L_165 (w_left_x1 (x_left hl Fr_0) (by decide) (by decide)) rfl (by decide) (by decide) rfl (Nat.le_of_ble_eq_true rfl) ?_
  refine rn_h (h2 := (wd s0 (mdl (j_a0 D) 0 0 0 ++ [ol 0, od 0, j_x 1]), 6544 + 6)) rfl ?_
  refine rn_istore dL_law_1491 (by decide) rfl ?_
  refine rn_aload_n dL_law_1493 rfl ?_
  refine rn_aload_n dL_law_1494 rfl ?_
  refine rn_iload dL_law_1495 rfl ?_
  refine rn_iconst (v := 1) dL_law_1497 rfl ?_
  refine rn_iadd dL_law_1498 ?_
  refine rn_topi (y := 1) (by decide) ?_
  refine rn_sld dL_law_1499 (by unfold vp_in; decide) ?_
  refine rn_topi (y := xs 1) rfl ?_
  refine rn_aload_n dL_law_1500 rfl ?_
  refine rn_iload dL_law_1501 rfl ?_
  refine rn_iconst (v := 2) dL_law_1503 rfl ?_
  refine rn_iadd dL_law_1504 ?_
  refine rn_topi (y := 2) (by decide) ?_
  refine rn_sld dL_law_1505 (by unfold vp_in; decide) ?_
  refine rn_topi (y := xs 2) rfl ?_
  refine rn_aload_n dL_law_1506 rfl ?_
  refine rn_iload dL_law_1507 rfl ?_
  refine rn_iconst (v := 3) dL_law_1509 rfl ?_
  refine rn_iadd dL_law_1510 ?_
  refine rn_topi (y := 3) (by decide) ?_
  refine rn_sld dL_law_1511 (by unfold vp_in; decide) ?_
  refine rn_topi (y := xs 3) rfl ?_
  refine rn_aload_n dL_law_1512 rfl ?_
  refine rn_iload dL_law_1513 rfl ?_
  refine rn_iconst (v := 4) dL_law_1515 rfl ?_
  refine rn_iadd dL_law_1516 ?_
  refine rn_topi (y := 4) (by decide) ?_
  refine rn_sld dL_law_1517 (by unfold vp_in; decide) ?_
  refine rn_topi (y := xs 4) rfl ?_
  refine rn_if_eq (tgt := 1525) dL_law_1518 rfl (fun q => absurd q z4) (fun _ => ?_)
  refine rn_iconst (v := 1) dL_law_1521 rfl ?_
  refine rn_goto (tgt := 1526) dL_law_1522 rfl ?_
  refine rn_callV dL_law_1526 cv_L_168 (c_X11_left (G := gW s0) (U := [ol 0, od 0, j_x 1]) (u := 3) gW_len rfl) rfl (wd_E (i := 0) rfl) rfl rfl (by decide) (by decide) rfl (Nat.le_of_ble_eq_true rfl) ?_
  refine rn_h (h2 := (wd s0 (mdl (j_a0 D) 1 0 0 ++ [ol 0, od 0, j_x 1]), 6544 + 6)) rfl ?_
  refine rn_dstore dL_law_1529 (by decide) rfl ?_
  refine rn_aload_n dL_law_1531 rfl ?_
  refine rn_callV dL_law_1532 cv_L_105 (c_X11_thrown (i := 84) (t := 1) (wd_E (i := 0) rfl)) rfl (wd_E (i := 0) rfl) rfl rfl (by decide) (by decide) rfl (Nat.le_of_ble_eq_true rfl) ?_
  refine rn_iload dL_law_1535 rfl ?_
  refine rn_icmp_eq (tgt := 1542) dL_law_1537 rfl (fun _ => ?_) (fun q => absurd (by decide) q)
  refine rn_iload dL_law_1542 rfl ?_
  refine rn_if_ne (tgt := 1579) dL_law_1544 rfl (fun _ => ?_) (fun q => absurd q (by decide))
  refine rn_goto (tgt := 2228) dL_law_1579 rfl ?_
  exact law_tail rfl rfl
set_option maxRecDepth 20000 in
theorem la_18_no0 (hl : l.stackTraces = false)  (z3 : xs 3 = 0) : ∃ h' : j_H, (h'.1.length ≤ 400 ∧ h'.2 ≤ 20000) ∧ Rn l D ad tc 6 xs mL_law 200 6000 1582 [(5, .int 0), (4, .ref 93), (3, .ref 92), (2, .ref 85), (1, .ref 1), (0, .ref 0)] [] (wd s0 (mdl (j_a0 D) 0 0 0 ++ [ol 0, od 0]), 6544) (some (.int 1)) h' := by
  refine ⟨(wd s0 (mdl (j_a0 D) 1 0 0 ++ [ol 0, od 0, j_x 1]), 6544 + 6), ⟨by simp [wd_len, mdl, lkT], Nat.le_of_ble_eq_true rfl⟩, ?_⟩
  refine rn_aload_n dL_law_1582 rfl ?_
  refine rn_aload_n dL_law_1583 rfl ?_
  refine rn_iload dL_law_1584 rfl ?_
  refine rn_iconst (v := 1) dL_law_1586 rfl ?_
  refine rn_iadd dL_law_1587 ?_
  refine rn_topi (y := 1) (by decide) ?_
  refine rn_sld dL_law_1588 (by unfold vp_in; decide) ?_
  refine rn_topi (y := xs 1) rfl ?_
  refine rn_aload_n dL_law_1589 rfl ?_
  refine rn_iload dL_law_1590 rfl ?_
  refine rn_iconst (v := 2) dL_law_1592 rfl ?_
  refine rn_iadd dL_law_1593 ?_
  refine rn_topi (y := 2) (by decide) ?_
  refine rn_sld dL_law_1594 (by unfold vp_in; decide) ?_
  refine rn_topi (y := xs 2) rfl ?_
  refine rn_aload_n dL_law_1595 rfl ?_
  refine rn_iload dL_law_1596 rfl ?_
  refine rn_iconst (v := 3) dL_law_1598 rfl ?_
  refine rn_iadd dL_law_1599 ?_
  refine rn_topi (y := 3) (by decide) ?_
  refine rn_sld dL_law_1600 (by unfold vp_in; decide) ?_
  refine rn_topi (y := xs 3) rfl ?_
  refine rn_if_eq (tgt := 1608) dL_law_1601 rfl (fun _ => ?_) (fun q => absurd z3 q)
  refine rn_iconst (v := 0) dL_law_1608 rfl ?_
  refine rn_aload dL_law_1609 rfl ?_
  refine rn_callSW dL_law_1611 csw_L_169 (w_leftAt_x1 (x_leftAt hl Fr_0) (by decide) (by decide)) rfl (by decide) (by decide) rfl (Nat.le_of_ble_eq_true rfl) ?_
  refine rn_h (h2 := (wd s0 (mdl (j_a0 D) 0 0 0 ++ [ol 0, od 0, j_x 1]), 6544 + 6)) rfl ?_
  refine rn_istore dL_law_1614 (by decide) rfl ?_
  refine rn_aload_n dL_law_1616 rfl ?_
  refine rn_aload_n dL_law_1617 rfl ?_
  refine rn_iload dL_law_1618 rfl ?_
  refine rn_iconst (v := 1) dL_law_1620 rfl ?_
  refine rn_iadd dL_law_1621 ?_
  refine rn_topi (y := 1) (by decide) ?_
  refine rn_sld dL_law_1622 (by unfold vp_in; decide) ?_
  refine rn_topi (y := xs 1) rfl ?_
  refine rn_aload_n dL_law_1623 rfl ?_
  refine rn_iload dL_law_1624 rfl ?_
  refine rn_iconst (v := 2) dL_law_1626 rfl ?_
  refine rn_iadd dL_law_1627 ?_
  refine rn_topi (y := 2) (by decide) ?_
  refine rn_sld dL_law_1628 (by unfold vp_in; decide) ?_
  refine rn_topi (y := xs 2) rfl ?_
  refine rn_aload_n dL_law_1629 rfl ?_
  refine rn_iload dL_law_1630 rfl ?_
  refine rn_iconst (v := 3) dL_law_1632 rfl ?_
  refine rn_iadd dL_law_1633 ?_
  refine rn_topi (y := 3) (by decide) ?_
  refine rn_sld dL_law_1634 (by unfold vp_in; decide) ?_
  refine rn_topi (y := xs 3) rfl ?_
  refine rn_if_eq (tgt := 1642) dL_law_1635 rfl (fun _ => ?_) (fun q => absurd z3 q)
  refine rn_iconst (v := 0) dL_law_1642 rfl ?_
  refine rn_callV dL_law_1643 cv_L_172 (c_X11_leftAt (G := gW s0) (U := [ol 0, od 0, j_x 1]) (u := 3) gW_len rfl) rfl (wd_E (i := 0) rfl) rfl rfl (by decide) (by decide) rfl (Nat.le_of_ble_eq_true rfl) ?_
  refine rn_h (h2 := (wd s0 (mdl (j_a0 D) 1 0 0 ++ [ol 0, od 0, j_x 1]), 6544 + 6)) rfl ?_
  refine rn_dstore dL_law_1646 (by decide) rfl ?_
  refine rn_aload_n dL_law_1648 rfl ?_
  refine rn_callV dL_law_1649 cv_L_105 (c_X11_thrown (i := 84) (t := 1) (wd_E (i := 0) rfl)) rfl (wd_E (i := 0) rfl) rfl rfl (by decide) (by decide) rfl (Nat.le_of_ble_eq_true rfl) ?_
  refine rn_iload dL_law_1652 rfl ?_
  refine rn_icmp_eq (tgt := 1659) dL_law_1654 rfl (fun _ => ?_) (fun q => absurd (by decide) q)
  refine rn_iload dL_law_1659 rfl ?_
  refine rn_if_ne (tgt := 1696) dL_law_1661 rfl (fun _ => ?_) (fun q => absurd q (by decide))
  refine rn_goto (tgt := 2228) dL_law_1696 rfl ?_
  exact law_tail rfl rfl
set_option maxRecDepth 20000 in
theorem la_18_no1 (hl : l.stackTraces = false)  (z3 : ¬ xs 3 = 0) : ∃ h' : j_H, (h'.1.length ≤ 400 ∧ h'.2 ≤ 20000) ∧ Rn l D ad tc 6 xs mL_law 200 6000 1582 [(5, .int 0), (4, .ref 93), (3, .ref 92), (2, .ref 85), (1, .ref 1), (0, .ref 0)] [] (wd s0 (mdl (j_a0 D) 0 0 0 ++ [ol 0, od 0]), 6544) (some (.int 1)) h' := by
  refine ⟨(wd s0 (mdl (j_a0 D) 1 0 0 ++ [ol 0, od 0, j_x 1]), 6544 + 6), ⟨by simp [wd_len, mdl, lkT], Nat.le_of_ble_eq_true rfl⟩, ?_⟩
  refine rn_aload_n dL_law_1582 rfl ?_
  refine rn_aload_n dL_law_1583 rfl ?_
  refine rn_iload dL_law_1584 rfl ?_
  refine rn_iconst (v := 1) dL_law_1586 rfl ?_
  refine rn_iadd dL_law_1587 ?_
  refine rn_topi (y := 1) (by decide) ?_
  refine rn_sld dL_law_1588 (by unfold vp_in; decide) ?_
  refine rn_topi (y := xs 1) rfl ?_
  refine rn_aload_n dL_law_1589 rfl ?_
  refine rn_iload dL_law_1590 rfl ?_
  refine rn_iconst (v := 2) dL_law_1592 rfl ?_
  refine rn_iadd dL_law_1593 ?_
  refine rn_topi (y := 2) (by decide) ?_
  refine rn_sld dL_law_1594 (by unfold vp_in; decide) ?_
  refine rn_topi (y := xs 2) rfl ?_
  refine rn_aload_n dL_law_1595 rfl ?_
  refine rn_iload dL_law_1596 rfl ?_
  refine rn_iconst (v := 3) dL_law_1598 rfl ?_
  refine rn_iadd dL_law_1599 ?_
  refine rn_topi (y := 3) (by decide) ?_
  refine rn_sld dL_law_1600 (by unfold vp_in; decide) ?_
  refine rn_topi (y := xs 3) rfl ?_
  refine rn_if_eq (tgt := 1608) dL_law_1601 rfl (fun q => absurd q z3) (fun _ => ?_)
  refine rn_iconst (v := 1) dL_law_1604 rfl ?_
  refine rn_goto (tgt := 1609) dL_law_1605 rfl ?_
  refine rn_aload dL_law_1609 rfl ?_
  refine rn_callSW dL_law_1611 csw_L_169 (w_leftAt_x1 (x_leftAt hl Fr_0) (by decide) (by decide)) rfl (by decide) (by decide) rfl (Nat.le_of_ble_eq_true rfl) ?_
  refine rn_h (h2 := (wd s0 (mdl (j_a0 D) 0 0 0 ++ [ol 0, od 0, j_x 1]), 6544 + 6)) rfl ?_
  refine rn_istore dL_law_1614 (by decide) rfl ?_
  refine rn_aload_n dL_law_1616 rfl ?_
  refine rn_aload_n dL_law_1617 rfl ?_
  refine rn_iload dL_law_1618 rfl ?_
  refine rn_iconst (v := 1) dL_law_1620 rfl ?_
  refine rn_iadd dL_law_1621 ?_
  refine rn_topi (y := 1) (by decide) ?_
  refine rn_sld dL_law_1622 (by unfold vp_in; decide) ?_
  refine rn_topi (y := xs 1) rfl ?_
  refine rn_aload_n dL_law_1623 rfl ?_
  refine rn_iload dL_law_1624 rfl ?_
  refine rn_iconst (v := 2) dL_law_1626 rfl ?_
  refine rn_iadd dL_law_1627 ?_
  refine rn_topi (y := 2) (by decide) ?_
  refine rn_sld dL_law_1628 (by unfold vp_in; decide) ?_
  refine rn_topi (y := xs 2) rfl ?_
  refine rn_aload_n dL_law_1629 rfl ?_
  refine rn_iload dL_law_1630 rfl ?_
  refine rn_iconst (v := 3) dL_law_1632 rfl ?_
  refine rn_iadd dL_law_1633 ?_
  refine rn_topi (y := 3) (by decide) ?_
  refine rn_sld dL_law_1634 (by unfold vp_in; decide) ?_
  refine rn_topi (y := xs 3) rfl ?_
  refine rn_if_eq (tgt := 1642) dL_law_1635 rfl (fun q => absurd q z3) (fun _ => ?_)
  refine rn_iconst (v := 1) dL_law_1638 rfl ?_
  refine rn_goto (tgt := 1643) dL_law_1639 rfl ?_
  refine rn_callV dL_law_1643 cv_L_172 (c_X11_leftAt (G := gW s0) (U := [ol 0, od 0, j_x 1]) (u := 3) gW_len rfl) rfl (wd_E (i := 0) rfl) rfl rfl (by decide) (by decide) rfl (Nat.le_of_ble_eq_true rfl) ?_
  refine rn_h (h2 := (wd s0 (mdl (j_a0 D) 1 0 0 ++ [ol 0, od 0, j_x 1]), 6544 + 6)) rfl ?_
  refine rn_dstore dL_law_1646 (by decide) rfl ?_
  refine rn_aload_n dL_law_1648 rfl ?_
  refine rn_callV dL_law_1649 cv_L_105 (c_X11_thrown (i := 84) (t := 1) (wd_E (i := 0) rfl)) rfl (wd_E (i := 0) rfl) rfl rfl (by decide) (by decide) rfl (Nat.le_of_ble_eq_true rfl) ?_
  refine rn_iload dL_law_1652 rfl ?_
  refine rn_icmp_eq (tgt := 1659) dL_law_1654 rfl (fun _ => ?_) (fun q => absurd (by decide) q)
  refine rn_iload dL_law_1659 rfl ?_
  refine rn_if_ne (tgt := 1696) dL_law_1661 rfl (fun _ => ?_) (fun q => absurd q (by decide))
  refine rn_goto (tgt := 2228) dL_law_1696 rfl ?_
  exact law_tail rfl rfl
set_option maxRecDepth 20000 in
theorem la_19_no (hl : l.stackTraces = false)  : ∃ h' : j_H, (h'.1.length ≤ 400 ∧ h'.2 ≤ 20000) ∧ Rn l D ad tc 6 xs mL_law 200 6000 1699 [(5, .int 0), (4, .ref 93), (3, .ref 92), (2, .ref 85), (1, .ref 1), (0, .ref 0)] [] (wd s0 (mdl (j_a0 D) 0 0 0 ++ [ol 0, od 0]), 6544) (some (.int 1)) h' := by
  refine ⟨(wd s0 (mdl (j_a0 D) 1 0 0 ++ [ol 0, od 0, j_x 1]), 6544 + 6), ⟨by simp [wd_len, mdl, lkT], Nat.le_of_ble_eq_true rfl⟩, ?_⟩
  refine rn_aload_n dL_law_1699 rfl ?_
  refine rn_aload_n dL_law_1700 rfl ?_
  refine rn_iload dL_law_1701 rfl ?_
  refine rn_iconst (v := 1) dL_law_1703 rfl ?_
  refine rn_iadd dL_law_1704 ?_
  refine rn_topi (y := 1) (by decide) ?_
  refine rn_sld dL_law_1705 (by unfold vp_in; decide) ?_
  refine rn_topi (y := xs 1) rfl ?_
  refine rn_aload_n dL_law_1706 rfl ?_
  refine rn_iload dL_law_1707 rfl ?_
  refine rn_iconst (v := 2) dL_law_1709 rfl ?_
  refine rn_iadd dL_law_1710 ?_
  refine rn_topi (y := 2) (by decide) ?_
  refine rn_sld dL_law_1711 (by unfold vp_in; decide) ?_
  refine rn_topi (y := xs 2) rfl ?_
  refine rn_aload dL_law_1712 rfl ?_
  refine rn_callSW dL_law_1714 csw_L_173 (w_borrow_x1 (x_borrow hl Fr_0) (by decide) (by decide)) rfl (by decide) (by decide) rfl (Nat.le_of_ble_eq_true rfl) ?_
  refine rn_h (h2 := (wd s0 (mdl (j_a0 D) 0 0 0 ++ [ol 0, od 0, j_x 1]), 6544 + 6)) rfl ?_
  refine rn_istore dL_law_1717 (by decide) rfl ?_
  refine rn_aload_n dL_law_1719 rfl ?_
  refine rn_aload_n dL_law_1720 rfl ?_
  refine rn_iload dL_law_1721 rfl ?_
  refine rn_iconst (v := 1) dL_law_1723 rfl ?_
  refine rn_iadd dL_law_1724 ?_
  refine rn_topi (y := 1) (by decide) ?_
  refine rn_sld dL_law_1725 (by unfold vp_in; decide) ?_
  refine rn_topi (y := xs 1) rfl ?_
  refine rn_aload_n dL_law_1726 rfl ?_
  refine rn_iload dL_law_1727 rfl ?_
  refine rn_iconst (v := 2) dL_law_1729 rfl ?_
  refine rn_iadd dL_law_1730 ?_
  refine rn_topi (y := 2) (by decide) ?_
  refine rn_sld dL_law_1731 (by unfold vp_in; decide) ?_
  refine rn_topi (y := xs 2) rfl ?_
  refine rn_callV dL_law_1732 cv_L_176 (c_X11_borrow (G := gW s0) (U := [ol 0, od 0, j_x 1]) (u := 3) gW_len rfl) rfl (wd_E (i := 0) rfl) rfl rfl (by decide) (by decide) rfl (Nat.le_of_ble_eq_true rfl) ?_
  refine rn_h (h2 := (wd s0 (mdl (j_a0 D) 1 0 0 ++ [ol 0, od 0, j_x 1]), 6544 + 6)) rfl ?_
  refine rn_dstore dL_law_1735 (by decide) rfl ?_
  refine rn_aload_n dL_law_1737 rfl ?_
  refine rn_callV dL_law_1738 cv_L_105 (c_X11_thrown (i := 84) (t := 1) (wd_E (i := 0) rfl)) rfl (wd_E (i := 0) rfl) rfl rfl (by decide) (by decide) rfl (Nat.le_of_ble_eq_true rfl) ?_
  refine rn_iload dL_law_1741 rfl ?_
  refine rn_icmp_eq (tgt := 1748) dL_law_1743 rfl (fun _ => ?_) (fun q => absurd (by decide) q)
  refine rn_iload dL_law_1748 rfl ?_
  refine rn_if_ne (tgt := 1785) dL_law_1750 rfl (fun _ => ?_) (fun q => absurd q (by decide))
  refine rn_goto (tgt := 2228) dL_law_1785 rfl ?_
  exact law_tail rfl rfl
set_option maxRecDepth 20000 in
theorem la_20_no (hl : l.stackTraces = false)  : ∃ h' : j_H, (h'.1.length ≤ 400 ∧ h'.2 ≤ 20000) ∧ Rn l D ad tc 6 xs mL_law 200 6000 1788 [(5, .int 0), (4, .ref 93), (3, .ref 92), (2, .ref 85), (1, .ref 1), (0, .ref 0)] [] (wd s0 (mdl (j_a0 D) 0 0 0 ++ [ol 0, od 0]), 6544) (some (.int 1)) h' := by
  refine ⟨(wd s0 (mdl (j_a0 D) 1 0 0 ++ [ol 0, od 0, j_x 1]), 6544 + 6), ⟨by simp [wd_len, mdl, lkT], Nat.le_of_ble_eq_true rfl⟩, ?_⟩
  refine rn_aload_n dL_law_1788 rfl ?_
  refine rn_aload_n dL_law_1789 rfl ?_
  refine rn_iload dL_law_1790 rfl ?_
  refine rn_iconst (v := 1) dL_law_1792 rfl ?_
  refine rn_iadd dL_law_1793 ?_
  refine rn_topi (y := 1) (by decide) ?_
  refine rn_sld dL_law_1794 (by unfold vp_in; decide) ?_
  refine rn_topi (y := xs 1) rfl ?_
  refine rn_aload_n dL_law_1795 rfl ?_
  refine rn_iload dL_law_1796 rfl ?_
  refine rn_iconst (v := 2) dL_law_1798 rfl ?_
  refine rn_iadd dL_law_1799 ?_
  refine rn_topi (y := 2) (by decide) ?_
  refine rn_sld dL_law_1800 (by unfold vp_in; decide) ?_
  refine rn_topi (y := xs 2) rfl ?_
  refine rn_aload_n dL_law_1801 rfl ?_
  refine rn_callSW dL_law_1802 csw_L_177 (w_ways_x1 (x_ways hl Fr_0) (by decide) (by decide)) rfl (by decide) (by decide) rfl (Nat.le_of_ble_eq_true rfl) ?_
  refine rn_h (h2 := (wd s0 (mdl (j_a0 D) 0 0 0 ++ [ol 0, od 0, j_x 1]), 6544 + 6)) rfl ?_
  refine rn_istore dL_law_1805 (by decide) rfl ?_
  refine rn_aload_n dL_law_1807 rfl ?_
  refine rn_aload_n dL_law_1808 rfl ?_
  refine rn_iload dL_law_1809 rfl ?_
  refine rn_iconst (v := 1) dL_law_1811 rfl ?_
  refine rn_iadd dL_law_1812 ?_
  refine rn_topi (y := 1) (by decide) ?_
  refine rn_sld dL_law_1813 (by unfold vp_in; decide) ?_
  refine rn_topi (y := xs 1) rfl ?_
  refine rn_aload_n dL_law_1814 rfl ?_
  refine rn_iload dL_law_1815 rfl ?_
  refine rn_iconst (v := 2) dL_law_1817 rfl ?_
  refine rn_iadd dL_law_1818 ?_
  refine rn_topi (y := 2) (by decide) ?_
  refine rn_sld dL_law_1819 (by unfold vp_in; decide) ?_
  refine rn_topi (y := xs 2) rfl ?_
  refine rn_callV dL_law_1820 cv_L_179 (c_X11_ways (G := gW s0) (U := [ol 0, od 0, j_x 1]) (u := 3) gW_len rfl) rfl (wd_E (i := 0) rfl) rfl rfl (by decide) (by decide) rfl (Nat.le_of_ble_eq_true rfl) ?_
  refine rn_h (h2 := (wd s0 (mdl (j_a0 D) 1 0 0 ++ [ol 0, od 0, j_x 1]), 6544 + 6)) rfl ?_
  refine rn_istore dL_law_1823 (by decide) rfl ?_
  refine rn_aload_n dL_law_1825 rfl ?_
  refine rn_callV dL_law_1826 cv_L_105 (c_X11_thrown (i := 84) (t := 1) (wd_E (i := 0) rfl)) rfl (wd_E (i := 0) rfl) rfl rfl (by decide) (by decide) rfl (Nat.le_of_ble_eq_true rfl) ?_
  refine rn_iload dL_law_1829 rfl ?_
  refine rn_icmp_eq (tgt := 1836) dL_law_1831 rfl (fun _ => ?_) (fun q => absurd (by decide) q)
  refine rn_iload dL_law_1836 rfl ?_
  refine rn_if_ne (tgt := 1853) dL_law_1838 rfl (fun _ => ?_) (fun q => absurd q (by decide))
  refine rn_goto (tgt := 2228) dL_law_1853 rfl ?_
  exact law_tail rfl rfl
set_option maxRecDepth 20000 in
theorem la_21_no (hl : l.stackTraces = false)  : ∃ h' : j_H, (h'.1.length ≤ 400 ∧ h'.2 ≤ 20000) ∧ Rn l D ad tc 6 xs mL_law 200 6000 1856 [(5, .int 0), (4, .ref 93), (3, .ref 92), (2, .ref 85), (1, .ref 1), (0, .ref 0)] [] (wd s0 (mdl (j_a0 D) 0 0 0 ++ [ol 0, od 0]), 6544) (some (.int 1)) h' := by
  refine ⟨(wd s0 (mdl (j_a0 D) 1 0 0 ++ [ol 0, od 0, j_x 1]), 6544 + 6), ⟨by simp [wd_len, mdl, lkT], Nat.le_of_ble_eq_true rfl⟩, ?_⟩
  refine rn_aload_n dL_law_1856 rfl ?_
  refine rn_aload_n dL_law_1857 rfl ?_
  refine rn_iload dL_law_1858 rfl ?_
  refine rn_iconst (v := 1) dL_law_1860 rfl ?_
  refine rn_iadd dL_law_1861 ?_
  refine rn_topi (y := 1) (by decide) ?_
  refine rn_sld dL_law_1862 (by unfold vp_in; decide) ?_
  refine rn_topi (y := xs 1) rfl ?_
  refine rn_aload_n dL_law_1863 rfl ?_
  refine rn_iload dL_law_1864 rfl ?_
  refine rn_iconst (v := 2) dL_law_1866 rfl ?_
  refine rn_iadd dL_law_1867 ?_
  refine rn_topi (y := 2) (by decide) ?_
  refine rn_sld dL_law_1868 (by unfold vp_in; decide) ?_
  refine rn_topi (y := xs 2) rfl ?_
  refine rn_aload_n dL_law_1869 rfl ?_
  refine rn_callSW dL_law_1870 csw_L_180 (w_worst_x1 (x_worst hl Fr_0) (by decide) (by decide)) rfl (by decide) (by decide) rfl (Nat.le_of_ble_eq_true rfl) ?_
  refine rn_h (h2 := (wd s0 (mdl (j_a0 D) 0 0 0 ++ [ol 0, od 0, j_x 1]), 6544 + 6)) rfl ?_
  refine rn_istore dL_law_1873 (by decide) rfl ?_
  refine rn_aload_n dL_law_1875 rfl ?_
  refine rn_aload_n dL_law_1876 rfl ?_
  refine rn_iload dL_law_1877 rfl ?_
  refine rn_iconst (v := 1) dL_law_1879 rfl ?_
  refine rn_iadd dL_law_1880 ?_
  refine rn_topi (y := 1) (by decide) ?_
  refine rn_sld dL_law_1881 (by unfold vp_in; decide) ?_
  refine rn_topi (y := xs 1) rfl ?_
  refine rn_aload_n dL_law_1882 rfl ?_
  refine rn_iload dL_law_1883 rfl ?_
  refine rn_iconst (v := 2) dL_law_1885 rfl ?_
  refine rn_iadd dL_law_1886 ?_
  refine rn_topi (y := 2) (by decide) ?_
  refine rn_sld dL_law_1887 (by unfold vp_in; decide) ?_
  refine rn_topi (y := xs 2) rfl ?_
  refine rn_callV dL_law_1888 cv_L_182 (c_X11_worst (G := gW s0) (U := [ol 0, od 0, j_x 1]) (u := 3) gW_len rfl) rfl (wd_E (i := 0) rfl) rfl rfl (by decide) (by decide) rfl (Nat.le_of_ble_eq_true rfl) ?_
  refine rn_h (h2 := (wd s0 (mdl (j_a0 D) 1 0 0 ++ [ol 0, od 0, j_x 1]), 6544 + 6)) rfl ?_
  refine rn_istore dL_law_1891 (by decide) rfl ?_
  refine rn_aload_n dL_law_1893 rfl ?_
  refine rn_callV dL_law_1894 cv_L_105 (c_X11_thrown (i := 84) (t := 1) (wd_E (i := 0) rfl)) rfl (wd_E (i := 0) rfl) rfl rfl (by decide) (by decide) rfl (Nat.le_of_ble_eq_true rfl) ?_
  refine rn_iload dL_law_1897 rfl ?_
  refine rn_icmp_eq (tgt := 1904) dL_law_1899 rfl (fun _ => ?_) (fun q => absurd (by decide) q)
  refine rn_iload dL_law_1904 rfl ?_
  refine rn_if_ne (tgt := 1921) dL_law_1906 rfl (fun _ => ?_) (fun q => absurd q (by decide))
  refine rn_goto (tgt := 2228) dL_law_1921 rfl ?_
  exact law_tail rfl rfl
set_option maxRecDepth 20000 in
theorem la_22_no (hl : l.stackTraces = false) (hk : ¬ (0 ≤ xs 1 ∧ xs 1 ≤ 10)) : ∃ h' : j_H, (h'.1.length ≤ 400 ∧ h'.2 ≤ 20000) ∧ Rn l D ad tc 6 xs mL_law 200 6000 1924 [(5, .int 0), (4, .ref 93), (3, .ref 92), (2, .ref 85), (1, .ref 1), (0, .ref 0)] [] (wd s0 (mdl (j_a0 D) 0 0 0 ++ [ol 0, od 0]), 6544) (some (.int 1)) h' := by
  refine ⟨(wd s0 (mdl (j_a0 D) 1 0 0 ++ [ol 0, od 0, j_x 2]), 6544 + 6), ⟨by simp [wd_len, mdl, lkT], Nat.le_of_ble_eq_true rfl⟩, ?_⟩
  refine rn_aload_n dL_law_1924 rfl ?_
  refine rn_aload_n dL_law_1925 rfl ?_
  refine rn_iload dL_law_1926 rfl ?_
  refine rn_iconst (v := 1) dL_law_1928 rfl ?_
  refine rn_iadd dL_law_1929 ?_
  refine rn_topi (y := 1) (by decide) ?_
  refine rn_sld dL_law_1930 (by unfold vp_in; decide) ?_
  refine rn_topi (y := xs 1) rfl ?_
  refine rn_aload_n dL_law_1931 rfl ?_
  refine rn_callSW dL_law_1932 csw_L_183 (w_many_x2 (x_many hl Fr_0 hk) (by decide) (by decide)) rfl (by decide) (by decide) rfl (Nat.le_of_ble_eq_true rfl) ?_
  refine rn_h (h2 := (wd s0 (mdl (j_a0 D) 0 0 0 ++ [ol 0, od 0, j_x 2]), 6544 + 6)) rfl ?_
  refine rn_istore dL_law_1935 (by decide) rfl ?_
  refine rn_aload_n dL_law_1937 rfl ?_
  refine rn_aload_n dL_law_1938 rfl ?_
  refine rn_iload dL_law_1939 rfl ?_
  refine rn_iconst (v := 1) dL_law_1941 rfl ?_
  refine rn_iadd dL_law_1942 ?_
  refine rn_topi (y := 1) (by decide) ?_
  refine rn_sld dL_law_1943 (by unfold vp_in; decide) ?_
  refine rn_topi (y := xs 1) rfl ?_
  refine rn_callV dL_law_1944 cv_L_186 (c_X11_many_no (G := gW s0) (U := [ol 0, od 0, j_x 2]) gW_len hk) rfl (wd_E (i := 0) rfl) rfl rfl (by decide) (by decide) rfl (Nat.le_of_ble_eq_true rfl) ?_
  refine rn_h (h2 := (wd s0 (mdl (j_a0 D) 1 0 0 ++ [ol 0, od 0, j_x 2]), 6544 + 6)) rfl ?_
  refine rn_istore dL_law_1947 (by decide) rfl ?_
  refine rn_aload_n dL_law_1949 rfl ?_
  refine rn_callV dL_law_1950 cv_L_105 (c_X11_thrown (i := 84) (t := 1) (wd_E (i := 0) rfl)) rfl (wd_E (i := 0) rfl) rfl rfl (by decide) (by decide) rfl (Nat.le_of_ble_eq_true rfl) ?_
  refine rn_iload dL_law_1953 rfl ?_
  refine rn_icmp_eq (tgt := 1960) dL_law_1955 rfl (fun _ => ?_) (fun q => absurd (by decide) q)
  refine rn_iload dL_law_1960 rfl ?_
  refine rn_if_ne (tgt := 1977) dL_law_1962 rfl (fun _ => ?_) (fun q => absurd q (by decide))
  refine rn_goto (tgt := 2228) dL_law_1977 rfl ?_
  exact law_tail rfl rfl
set_option maxRecDepth 20000 in
theorem la_22_k0 (hl : l.stackTraces = false) (e1 : xs 1 = 0) : ∃ h' : j_H, (h'.1.length ≤ 400 ∧ h'.2 ≤ 20000) ∧ Rn l D ad tc 6 xs mL_law 200 6000 1924 [(5, .int 0), (4, .ref 93), (3, .ref 92), (2, .ref 85), (1, .ref 1), (0, .ref 0)] [] (wd s0 (mdl (j_a0 D) 0 0 0 ++ [ol 0, od 0]), 6544) (some (.int 1)) h' := by
  obtain ⟨S', hc⟩ : ∃ S' : jS, Cn l D ad tc 6 xs mX9_many 6 155 [.ref 1, .int (xs 1)] (wd s0 (mdl (j_a0 D) 0 0 0 ++ [ol 0, od 0]), 6544) (some (.int 0)) (wd S' (mdl (j_a0 D) 0 0 0 ++ [ol 0, od 0]), 6544) := by
    rw [e1]
    obtain ⟨S', -, hc⟩ := f_many_0 (l := l) (D := D) (ad := ad) (tc := tc) (L := 6) (xs := xs) (E := (mdl (j_a0 D) 0 0 0 ++ [ol 0, od 0])) (sl := 6544) Fr_0
    exact ⟨S', hc⟩
  refine ⟨(wd S' (mdl (j_a0 D) 0 0 0 ++ [ol ((0 : Int32).toInt64), od 0]), 6544), ⟨by simp [wd_len, mdl, lkT], Nat.le_of_ble_eq_true rfl⟩, ?_⟩
  refine rn_aload_n dL_law_1924 rfl ?_
  refine rn_aload_n dL_law_1925 rfl ?_
  refine rn_iload dL_law_1926 rfl ?_
  refine rn_iconst (v := 1) dL_law_1928 rfl ?_
  refine rn_iadd dL_law_1929 ?_
  refine rn_topi (y := 1) (by decide) ?_
  refine rn_sld dL_law_1930 (by unfold vp_in; decide) ?_
  refine rn_topi (y := xs 1) rfl ?_
  refine rn_aload_n dL_law_1931 rfl ?_
  refine rn_callSW dL_law_1932 csw_L_183 (w_many_ok (w := 0) rfl hc (by decide) (by decide)) rfl (by decide) (by decide) rfl (Nat.le_of_ble_eq_true rfl) ?_
  refine rn_h (h2 := (wd S' (mdl (j_a0 D) 0 0 0 ++ [ol ((0 : Int32).toInt64), od 0]), 6544)) rfl ?_
  refine rn_istore dL_law_1935 (by decide) rfl ?_
  refine rn_aload_n dL_law_1937 rfl ?_
  refine rn_aload_n dL_law_1938 rfl ?_
  refine rn_iload dL_law_1939 rfl ?_
  refine rn_iconst (v := 1) dL_law_1941 rfl ?_
  refine rn_iadd dL_law_1942 ?_
  refine rn_topi (y := 1) (by decide) ?_
  refine rn_sld dL_law_1943 (by unfold vp_in; decide) ?_
  refine rn_topi (y := xs 1) rfl ?_
  refine rn_callV dL_law_1944 cv_L_186 (c_X11_many_02 e1 (G := gW S') (U := [ol ((0 : Int32).toInt64), od 0]) gW_len) rfl (wd_E (i := 0) rfl) rfl rfl (by decide) (by decide) rfl (Nat.le_of_ble_eq_true rfl) ?_
  refine rn_h (h2 := (wd S' (mdl (j_a0 D) 0 0 0 ++ [ol ((0 : Int32).toInt64), od 0]), 6544)) rfl ?_
  refine rn_istore dL_law_1947 (by decide) rfl ?_
  refine rn_aload_n dL_law_1949 rfl ?_
  refine rn_callV dL_law_1950 cv_L_105 (c_X11_thrown (i := 84) (t := 0) (wd_E (i := 0) rfl)) rfl (wd_E (i := 0) rfl) rfl rfl (by decide) (by decide) rfl (Nat.le_of_ble_eq_true rfl) ?_
  refine rn_iload dL_law_1953 rfl ?_
  refine rn_icmp_eq (tgt := 1960) dL_law_1955 rfl (fun _ => ?_) (fun q => absurd (by decide) q)
  refine rn_iload dL_law_1960 rfl ?_
  refine rn_if_ne (tgt := 1977) dL_law_1962 rfl (fun q => absurd q (by decide)) (fun _ => ?_)
  refine rn_aload_n dL_law_1965 rfl ?_
  refine rn_iconst (v := 0) dL_law_1966 rfl ?_
  refine rn_laload (a := 84 + 7) dL_law_1967 (wd_E (c := ol ((0 : Int32).toInt64)) (i := 7) rfl) rfl (by unfold vp_in; decide) ?_
  refine rn_topl (y := ((0 : Int32).toInt64)) rfl ?_
  refine rn_iload dL_law_1968 rfl ?_
  refine rn_i2l dL_law_1970 rfl ?_
  refine rn_lcmp dL_law_1971 ?_
  refine rn_topi (y := 0) (by decide +kernel) ?_
  refine rn_if_eq (tgt := 1977) dL_law_1972 rfl (fun _ => ?_) (fun q => absurd (by decide) q)
  refine rn_goto (tgt := 2228) dL_law_1977 rfl ?_
  exact law_tail rfl rfl
set_option maxRecDepth 20000 in
theorem la_22_k1 (hl : l.stackTraces = false) (e1 : xs 1 = 1) : ∃ h' : j_H, (h'.1.length ≤ 400 ∧ h'.2 ≤ 20000) ∧ Rn l D ad tc 6 xs mL_law 200 6000 1924 [(5, .int 0), (4, .ref 93), (3, .ref 92), (2, .ref 85), (1, .ref 1), (0, .ref 0)] [] (wd s0 (mdl (j_a0 D) 0 0 0 ++ [ol 0, od 0]), 6544) (some (.int 1)) h' := by
  obtain ⟨S', hc⟩ : ∃ S' : jS, Cn l D ad tc 6 xs mX9_many 6 155 [.ref 1, .int (xs 1)] (wd s0 (mdl (j_a0 D) 0 0 0 ++ [ol 0, od 0]), 6544) (some (.int 1)) (wd S' (mdl (j_a0 D) 0 0 0 ++ [ol 0, od 0]), 6544) := by
    rw [e1]
    obtain ⟨S', -, hc⟩ := f_many_1 (l := l) (D := D) (ad := ad) (tc := tc) (L := 6) (xs := xs) (E := (mdl (j_a0 D) 0 0 0 ++ [ol 0, od 0])) (sl := 6544) Fr_0
    exact ⟨S', hc⟩
  refine ⟨(wd S' (mdl (j_a0 D) 0 0 0 ++ [ol ((1 : Int32).toInt64), od 0]), 6544), ⟨by simp [wd_len, mdl, lkT], Nat.le_of_ble_eq_true rfl⟩, ?_⟩
  refine rn_aload_n dL_law_1924 rfl ?_
  refine rn_aload_n dL_law_1925 rfl ?_
  refine rn_iload dL_law_1926 rfl ?_
  refine rn_iconst (v := 1) dL_law_1928 rfl ?_
  refine rn_iadd dL_law_1929 ?_
  refine rn_topi (y := 1) (by decide) ?_
  refine rn_sld dL_law_1930 (by unfold vp_in; decide) ?_
  refine rn_topi (y := xs 1) rfl ?_
  refine rn_aload_n dL_law_1931 rfl ?_
  refine rn_callSW dL_law_1932 csw_L_183 (w_many_ok (w := 0) rfl hc (by decide) (by decide)) rfl (by decide) (by decide) rfl (Nat.le_of_ble_eq_true rfl) ?_
  refine rn_h (h2 := (wd S' (mdl (j_a0 D) 0 0 0 ++ [ol ((1 : Int32).toInt64), od 0]), 6544)) rfl ?_
  refine rn_istore dL_law_1935 (by decide) rfl ?_
  refine rn_aload_n dL_law_1937 rfl ?_
  refine rn_aload_n dL_law_1938 rfl ?_
  refine rn_iload dL_law_1939 rfl ?_
  refine rn_iconst (v := 1) dL_law_1941 rfl ?_
  refine rn_iadd dL_law_1942 ?_
  refine rn_topi (y := 1) (by decide) ?_
  refine rn_sld dL_law_1943 (by unfold vp_in; decide) ?_
  refine rn_topi (y := xs 1) rfl ?_
  refine rn_callV dL_law_1944 cv_L_186 (c_X11_many_12 e1 (G := gW S') (U := [ol ((1 : Int32).toInt64), od 0]) gW_len) rfl (wd_E (i := 0) rfl) rfl rfl (by decide) (by decide) rfl (Nat.le_of_ble_eq_true rfl) ?_
  refine rn_h (h2 := (wd S' (mdl (j_a0 D) 0 0 0 ++ [ol ((1 : Int32).toInt64), od 0]), 6544)) rfl ?_
  refine rn_istore dL_law_1947 (by decide) rfl ?_
  refine rn_aload_n dL_law_1949 rfl ?_
  refine rn_callV dL_law_1950 cv_L_105 (c_X11_thrown (i := 84) (t := 0) (wd_E (i := 0) rfl)) rfl (wd_E (i := 0) rfl) rfl rfl (by decide) (by decide) rfl (Nat.le_of_ble_eq_true rfl) ?_
  refine rn_iload dL_law_1953 rfl ?_
  refine rn_icmp_eq (tgt := 1960) dL_law_1955 rfl (fun _ => ?_) (fun q => absurd (by decide) q)
  refine rn_iload dL_law_1960 rfl ?_
  refine rn_if_ne (tgt := 1977) dL_law_1962 rfl (fun q => absurd q (by decide)) (fun _ => ?_)
  refine rn_aload_n dL_law_1965 rfl ?_
  refine rn_iconst (v := 0) dL_law_1966 rfl ?_
  refine rn_laload (a := 84 + 7) dL_law_1967 (wd_E (c := ol ((1 : Int32).toInt64)) (i := 7) rfl) rfl (by unfold vp_in; decide) ?_
  refine rn_topl (y := ((1 : Int32).toInt64)) rfl ?_
  refine rn_iload dL_law_1968 rfl ?_
  refine rn_i2l dL_law_1970 rfl ?_
  refine rn_lcmp dL_law_1971 ?_
  refine rn_topi (y := 0) (by decide +kernel) ?_
  refine rn_if_eq (tgt := 1977) dL_law_1972 rfl (fun _ => ?_) (fun q => absurd (by decide) q)
  refine rn_goto (tgt := 2228) dL_law_1977 rfl ?_
  exact law_tail rfl rfl
set_option maxRecDepth 20000 in
theorem la_22_k2 (hl : l.stackTraces = false) (e1 : xs 1 = 2) : ∃ h' : j_H, (h'.1.length ≤ 400 ∧ h'.2 ≤ 20000) ∧ Rn l D ad tc 6 xs mL_law 200 6000 1924 [(5, .int 0), (4, .ref 93), (3, .ref 92), (2, .ref 85), (1, .ref 1), (0, .ref 0)] [] (wd s0 (mdl (j_a0 D) 0 0 0 ++ [ol 0, od 0]), 6544) (some (.int 1)) h' := by
  obtain ⟨S', hc⟩ : ∃ S' : jS, Cn l D ad tc 6 xs mX9_many 6 155 [.ref 1, .int (xs 1)] (wd s0 (mdl (j_a0 D) 0 0 0 ++ [ol 0, od 0]), 6544) (some (.int 0)) (wd S' (mdl (j_a0 D) 0 0 0 ++ [ol 0, od 0]), 6544) := by
    rw [e1]
    obtain ⟨S', -, hc⟩ := f_many_2 (l := l) (D := D) (ad := ad) (tc := tc) (L := 6) (xs := xs) (E := (mdl (j_a0 D) 0 0 0 ++ [ol 0, od 0])) (sl := 6544) Fr_0
    exact ⟨S', hc⟩
  refine ⟨(wd S' (mdl (j_a0 D) 0 0 0 ++ [ol ((0 : Int32).toInt64), od 0]), 6544), ⟨by simp [wd_len, mdl, lkT], Nat.le_of_ble_eq_true rfl⟩, ?_⟩
  refine rn_aload_n dL_law_1924 rfl ?_
  refine rn_aload_n dL_law_1925 rfl ?_
  refine rn_iload dL_law_1926 rfl ?_
  refine rn_iconst (v := 1) dL_law_1928 rfl ?_
  refine rn_iadd dL_law_1929 ?_
  refine rn_topi (y := 1) (by decide) ?_
  refine rn_sld dL_law_1930 (by unfold vp_in; decide) ?_
  refine rn_topi (y := xs 1) rfl ?_
  refine rn_aload_n dL_law_1931 rfl ?_
  refine rn_callSW dL_law_1932 csw_L_183 (w_many_ok (w := 0) rfl hc (by decide) (by decide)) rfl (by decide) (by decide) rfl (Nat.le_of_ble_eq_true rfl) ?_
  refine rn_h (h2 := (wd S' (mdl (j_a0 D) 0 0 0 ++ [ol ((0 : Int32).toInt64), od 0]), 6544)) rfl ?_
  refine rn_istore dL_law_1935 (by decide) rfl ?_
  refine rn_aload_n dL_law_1937 rfl ?_
  refine rn_aload_n dL_law_1938 rfl ?_
  refine rn_iload dL_law_1939 rfl ?_
  refine rn_iconst (v := 1) dL_law_1941 rfl ?_
  refine rn_iadd dL_law_1942 ?_
  refine rn_topi (y := 1) (by decide) ?_
  refine rn_sld dL_law_1943 (by unfold vp_in; decide) ?_
  refine rn_topi (y := xs 1) rfl ?_
  refine rn_callV dL_law_1944 cv_L_186 (c_X11_many_22 e1 (G := gW S') (U := [ol ((0 : Int32).toInt64), od 0]) gW_len) rfl (wd_E (i := 0) rfl) rfl rfl (by decide) (by decide) rfl (Nat.le_of_ble_eq_true rfl) ?_
  refine rn_h (h2 := (wd S' (mdl (j_a0 D) 0 0 0 ++ [ol ((0 : Int32).toInt64), od 0]), 6544)) rfl ?_
  refine rn_istore dL_law_1947 (by decide) rfl ?_
  refine rn_aload_n dL_law_1949 rfl ?_
  refine rn_callV dL_law_1950 cv_L_105 (c_X11_thrown (i := 84) (t := 0) (wd_E (i := 0) rfl)) rfl (wd_E (i := 0) rfl) rfl rfl (by decide) (by decide) rfl (Nat.le_of_ble_eq_true rfl) ?_
  refine rn_iload dL_law_1953 rfl ?_
  refine rn_icmp_eq (tgt := 1960) dL_law_1955 rfl (fun _ => ?_) (fun q => absurd (by decide) q)
  refine rn_iload dL_law_1960 rfl ?_
  refine rn_if_ne (tgt := 1977) dL_law_1962 rfl (fun q => absurd q (by decide)) (fun _ => ?_)
  refine rn_aload_n dL_law_1965 rfl ?_
  refine rn_iconst (v := 0) dL_law_1966 rfl ?_
  refine rn_laload (a := 84 + 7) dL_law_1967 (wd_E (c := ol ((0 : Int32).toInt64)) (i := 7) rfl) rfl (by unfold vp_in; decide) ?_
  refine rn_topl (y := ((0 : Int32).toInt64)) rfl ?_
  refine rn_iload dL_law_1968 rfl ?_
  refine rn_i2l dL_law_1970 rfl ?_
  refine rn_lcmp dL_law_1971 ?_
  refine rn_topi (y := 0) (by decide +kernel) ?_
  refine rn_if_eq (tgt := 1977) dL_law_1972 rfl (fun _ => ?_) (fun q => absurd (by decide) q)
  refine rn_goto (tgt := 2228) dL_law_1977 rfl ?_
  exact law_tail rfl rfl
set_option maxRecDepth 20000 in
theorem la_22_k3 (hl : l.stackTraces = false) (e1 : xs 1 = 3) : ∃ h' : j_H, (h'.1.length ≤ 400 ∧ h'.2 ≤ 20000) ∧ Rn l D ad tc 6 xs mL_law 200 6000 1924 [(5, .int 0), (4, .ref 93), (3, .ref 92), (2, .ref 85), (1, .ref 1), (0, .ref 0)] [] (wd s0 (mdl (j_a0 D) 0 0 0 ++ [ol 0, od 0]), 6544) (some (.int 1)) h' := by
  obtain ⟨S', hc⟩ : ∃ S' : jS, Cn l D ad tc 6 xs mX9_many 6 155 [.ref 1, .int (xs 1)] (wd s0 (mdl (j_a0 D) 0 0 0 ++ [ol 0, od 0]), 6544) (some (.int 0)) (wd S' (mdl (j_a0 D) 0 0 0 ++ [ol 0, od 0]), 6544) := by
    rw [e1]
    obtain ⟨S', -, hc⟩ := f_many_3 (l := l) (D := D) (ad := ad) (tc := tc) (L := 6) (xs := xs) (E := (mdl (j_a0 D) 0 0 0 ++ [ol 0, od 0])) (sl := 6544) Fr_0
    exact ⟨S', hc⟩
  refine ⟨(wd S' (mdl (j_a0 D) 0 0 0 ++ [ol ((0 : Int32).toInt64), od 0]), 6544), ⟨by simp [wd_len, mdl, lkT], Nat.le_of_ble_eq_true rfl⟩, ?_⟩
  refine rn_aload_n dL_law_1924 rfl ?_
  refine rn_aload_n dL_law_1925 rfl ?_
  refine rn_iload dL_law_1926 rfl ?_
  refine rn_iconst (v := 1) dL_law_1928 rfl ?_
  refine rn_iadd dL_law_1929 ?_
  refine rn_topi (y := 1) (by decide) ?_
  refine rn_sld dL_law_1930 (by unfold vp_in; decide) ?_
  refine rn_topi (y := xs 1) rfl ?_
  refine rn_aload_n dL_law_1931 rfl ?_
  refine rn_callSW dL_law_1932 csw_L_183 (w_many_ok (w := 0) rfl hc (by decide) (by decide)) rfl (by decide) (by decide) rfl (Nat.le_of_ble_eq_true rfl) ?_
  refine rn_h (h2 := (wd S' (mdl (j_a0 D) 0 0 0 ++ [ol ((0 : Int32).toInt64), od 0]), 6544)) rfl ?_
  refine rn_istore dL_law_1935 (by decide) rfl ?_
  refine rn_aload_n dL_law_1937 rfl ?_
  refine rn_aload_n dL_law_1938 rfl ?_
  refine rn_iload dL_law_1939 rfl ?_
  refine rn_iconst (v := 1) dL_law_1941 rfl ?_
  refine rn_iadd dL_law_1942 ?_
  refine rn_topi (y := 1) (by decide) ?_
  refine rn_sld dL_law_1943 (by unfold vp_in; decide) ?_
  refine rn_topi (y := xs 1) rfl ?_
  refine rn_callV dL_law_1944 cv_L_186 (c_X11_many_32 e1 (G := gW S') (U := [ol ((0 : Int32).toInt64), od 0]) gW_len) rfl (wd_E (i := 0) rfl) rfl rfl (by decide) (by decide) rfl (Nat.le_of_ble_eq_true rfl) ?_
  refine rn_h (h2 := (wd S' (mdl (j_a0 D) 0 0 0 ++ [ol ((0 : Int32).toInt64), od 0]), 6544)) rfl ?_
  refine rn_istore dL_law_1947 (by decide) rfl ?_
  refine rn_aload_n dL_law_1949 rfl ?_
  refine rn_callV dL_law_1950 cv_L_105 (c_X11_thrown (i := 84) (t := 0) (wd_E (i := 0) rfl)) rfl (wd_E (i := 0) rfl) rfl rfl (by decide) (by decide) rfl (Nat.le_of_ble_eq_true rfl) ?_
  refine rn_iload dL_law_1953 rfl ?_
  refine rn_icmp_eq (tgt := 1960) dL_law_1955 rfl (fun _ => ?_) (fun q => absurd (by decide) q)
  refine rn_iload dL_law_1960 rfl ?_
  refine rn_if_ne (tgt := 1977) dL_law_1962 rfl (fun q => absurd q (by decide)) (fun _ => ?_)
  refine rn_aload_n dL_law_1965 rfl ?_
  refine rn_iconst (v := 0) dL_law_1966 rfl ?_
  refine rn_laload (a := 84 + 7) dL_law_1967 (wd_E (c := ol ((0 : Int32).toInt64)) (i := 7) rfl) rfl (by unfold vp_in; decide) ?_
  refine rn_topl (y := ((0 : Int32).toInt64)) rfl ?_
  refine rn_iload dL_law_1968 rfl ?_
  refine rn_i2l dL_law_1970 rfl ?_
  refine rn_lcmp dL_law_1971 ?_
  refine rn_topi (y := 0) (by decide +kernel) ?_
  refine rn_if_eq (tgt := 1977) dL_law_1972 rfl (fun _ => ?_) (fun q => absurd (by decide) q)
  refine rn_goto (tgt := 2228) dL_law_1977 rfl ?_
  exact law_tail rfl rfl
set_option maxRecDepth 20000 in
theorem la_22_k4 (hl : l.stackTraces = false) (e1 : xs 1 = 4) : ∃ h' : j_H, (h'.1.length ≤ 400 ∧ h'.2 ≤ 20000) ∧ Rn l D ad tc 6 xs mL_law 200 6000 1924 [(5, .int 0), (4, .ref 93), (3, .ref 92), (2, .ref 85), (1, .ref 1), (0, .ref 0)] [] (wd s0 (mdl (j_a0 D) 0 0 0 ++ [ol 0, od 0]), 6544) (some (.int 1)) h' := by
  obtain ⟨S', hc⟩ : ∃ S' : jS, Cn l D ad tc 6 xs mX9_many 6 155 [.ref 1, .int (xs 1)] (wd s0 (mdl (j_a0 D) 0 0 0 ++ [ol 0, od 0]), 6544) (some (.int 0)) (wd S' (mdl (j_a0 D) 0 0 0 ++ [ol 0, od 0]), 6544) := by
    rw [e1]
    obtain ⟨S', -, hc⟩ := f_many_4 (l := l) (D := D) (ad := ad) (tc := tc) (L := 6) (xs := xs) (E := (mdl (j_a0 D) 0 0 0 ++ [ol 0, od 0])) (sl := 6544) Fr_0
    exact ⟨S', hc⟩
  refine ⟨(wd S' (mdl (j_a0 D) 0 0 0 ++ [ol ((0 : Int32).toInt64), od 0]), 6544), ⟨by simp [wd_len, mdl, lkT], Nat.le_of_ble_eq_true rfl⟩, ?_⟩
  refine rn_aload_n dL_law_1924 rfl ?_
  refine rn_aload_n dL_law_1925 rfl ?_
  refine rn_iload dL_law_1926 rfl ?_
  refine rn_iconst (v := 1) dL_law_1928 rfl ?_
  refine rn_iadd dL_law_1929 ?_
  refine rn_topi (y := 1) (by decide) ?_
  refine rn_sld dL_law_1930 (by unfold vp_in; decide) ?_
  refine rn_topi (y := xs 1) rfl ?_
  refine rn_aload_n dL_law_1931 rfl ?_
  refine rn_callSW dL_law_1932 csw_L_183 (w_many_ok (w := 0) rfl hc (by decide) (by decide)) rfl (by decide) (by decide) rfl (Nat.le_of_ble_eq_true rfl) ?_
  refine rn_h (h2 := (wd S' (mdl (j_a0 D) 0 0 0 ++ [ol ((0 : Int32).toInt64), od 0]), 6544)) rfl ?_
  refine rn_istore dL_law_1935 (by decide) rfl ?_
  refine rn_aload_n dL_law_1937 rfl ?_
  refine rn_aload_n dL_law_1938 rfl ?_
  refine rn_iload dL_law_1939 rfl ?_
  refine rn_iconst (v := 1) dL_law_1941 rfl ?_
  refine rn_iadd dL_law_1942 ?_
  refine rn_topi (y := 1) (by decide) ?_
  refine rn_sld dL_law_1943 (by unfold vp_in; decide) ?_
  refine rn_topi (y := xs 1) rfl ?_
  refine rn_callV dL_law_1944 cv_L_186 (c_X11_many_42 e1 (G := gW S') (U := [ol ((0 : Int32).toInt64), od 0]) gW_len) rfl (wd_E (i := 0) rfl) rfl rfl (by decide) (by decide) rfl (Nat.le_of_ble_eq_true rfl) ?_
  refine rn_h (h2 := (wd S' (mdl (j_a0 D) 0 0 0 ++ [ol ((0 : Int32).toInt64), od 0]), 6544)) rfl ?_
  refine rn_istore dL_law_1947 (by decide) rfl ?_
  refine rn_aload_n dL_law_1949 rfl ?_
  refine rn_callV dL_law_1950 cv_L_105 (c_X11_thrown (i := 84) (t := 0) (wd_E (i := 0) rfl)) rfl (wd_E (i := 0) rfl) rfl rfl (by decide) (by decide) rfl (Nat.le_of_ble_eq_true rfl) ?_
  refine rn_iload dL_law_1953 rfl ?_
  refine rn_icmp_eq (tgt := 1960) dL_law_1955 rfl (fun _ => ?_) (fun q => absurd (by decide) q)
  refine rn_iload dL_law_1960 rfl ?_
  refine rn_if_ne (tgt := 1977) dL_law_1962 rfl (fun q => absurd q (by decide)) (fun _ => ?_)
  refine rn_aload_n dL_law_1965 rfl ?_
  refine rn_iconst (v := 0) dL_law_1966 rfl ?_
  refine rn_laload (a := 84 + 7) dL_law_1967 (wd_E (c := ol ((0 : Int32).toInt64)) (i := 7) rfl) rfl (by unfold vp_in; decide) ?_
  refine rn_topl (y := ((0 : Int32).toInt64)) rfl ?_
  refine rn_iload dL_law_1968 rfl ?_
  refine rn_i2l dL_law_1970 rfl ?_
  refine rn_lcmp dL_law_1971 ?_
  refine rn_topi (y := 0) (by decide +kernel) ?_
  refine rn_if_eq (tgt := 1977) dL_law_1972 rfl (fun _ => ?_) (fun q => absurd (by decide) q)
  refine rn_goto (tgt := 2228) dL_law_1977 rfl ?_
  exact law_tail rfl rfl
set_option maxRecDepth 20000 in
theorem la_22_k5 (hl : l.stackTraces = false) (e1 : xs 1 = 5) : ∃ h' : j_H, (h'.1.length ≤ 400 ∧ h'.2 ≤ 20000) ∧ Rn l D ad tc 6 xs mL_law 200 6000 1924 [(5, .int 0), (4, .ref 93), (3, .ref 92), (2, .ref 85), (1, .ref 1), (0, .ref 0)] [] (wd s0 (mdl (j_a0 D) 0 0 0 ++ [ol 0, od 0]), 6544) (some (.int 1)) h' := by
  obtain ⟨S', hc⟩ : ∃ S' : jS, Cn l D ad tc 6 xs mX9_many 6 155 [.ref 1, .int (xs 1)] (wd s0 (mdl (j_a0 D) 0 0 0 ++ [ol 0, od 0]), 6544) (some (.int 0)) (wd S' (mdl (j_a0 D) 0 0 0 ++ [ol 0, od 0]), 6544) := by
    rw [e1]
    obtain ⟨S', -, hc⟩ := f_many_5 (l := l) (D := D) (ad := ad) (tc := tc) (L := 6) (xs := xs) (E := (mdl (j_a0 D) 0 0 0 ++ [ol 0, od 0])) (sl := 6544) Fr_0
    exact ⟨S', hc⟩
  refine ⟨(wd S' (mdl (j_a0 D) 0 0 0 ++ [ol ((0 : Int32).toInt64), od 0]), 6544), ⟨by simp [wd_len, mdl, lkT], Nat.le_of_ble_eq_true rfl⟩, ?_⟩
  refine rn_aload_n dL_law_1924 rfl ?_
  refine rn_aload_n dL_law_1925 rfl ?_
  refine rn_iload dL_law_1926 rfl ?_
  refine rn_iconst (v := 1) dL_law_1928 rfl ?_
  refine rn_iadd dL_law_1929 ?_
  refine rn_topi (y := 1) (by decide) ?_
  refine rn_sld dL_law_1930 (by unfold vp_in; decide) ?_
  refine rn_topi (y := xs 1) rfl ?_
  refine rn_aload_n dL_law_1931 rfl ?_
  refine rn_callSW dL_law_1932 csw_L_183 (w_many_ok (w := 0) rfl hc (by decide) (by decide)) rfl (by decide) (by decide) rfl (Nat.le_of_ble_eq_true rfl) ?_
  refine rn_h (h2 := (wd S' (mdl (j_a0 D) 0 0 0 ++ [ol ((0 : Int32).toInt64), od 0]), 6544)) rfl ?_
  refine rn_istore dL_law_1935 (by decide) rfl ?_
  refine rn_aload_n dL_law_1937 rfl ?_
  refine rn_aload_n dL_law_1938 rfl ?_
  refine rn_iload dL_law_1939 rfl ?_
  refine rn_iconst (v := 1) dL_law_1941 rfl ?_
  refine rn_iadd dL_law_1942 ?_
  refine rn_topi (y := 1) (by decide) ?_
  refine rn_sld dL_law_1943 (by unfold vp_in; decide) ?_
  refine rn_topi (y := xs 1) rfl ?_
  refine rn_callV dL_law_1944 cv_L_186 (c_X11_many_52 e1 (G := gW S') (U := [ol ((0 : Int32).toInt64), od 0]) gW_len) rfl (wd_E (i := 0) rfl) rfl rfl (by decide) (by decide) rfl (Nat.le_of_ble_eq_true rfl) ?_
  refine rn_h (h2 := (wd S' (mdl (j_a0 D) 0 0 0 ++ [ol ((0 : Int32).toInt64), od 0]), 6544)) rfl ?_
  refine rn_istore dL_law_1947 (by decide) rfl ?_
  refine rn_aload_n dL_law_1949 rfl ?_
  refine rn_callV dL_law_1950 cv_L_105 (c_X11_thrown (i := 84) (t := 0) (wd_E (i := 0) rfl)) rfl (wd_E (i := 0) rfl) rfl rfl (by decide) (by decide) rfl (Nat.le_of_ble_eq_true rfl) ?_
  refine rn_iload dL_law_1953 rfl ?_
  refine rn_icmp_eq (tgt := 1960) dL_law_1955 rfl (fun _ => ?_) (fun q => absurd (by decide) q)
  refine rn_iload dL_law_1960 rfl ?_
  refine rn_if_ne (tgt := 1977) dL_law_1962 rfl (fun q => absurd q (by decide)) (fun _ => ?_)
  refine rn_aload_n dL_law_1965 rfl ?_
  refine rn_iconst (v := 0) dL_law_1966 rfl ?_
  refine rn_laload (a := 84 + 7) dL_law_1967 (wd_E (c := ol ((0 : Int32).toInt64)) (i := 7) rfl) rfl (by unfold vp_in; decide) ?_
  refine rn_topl (y := ((0 : Int32).toInt64)) rfl ?_
  refine rn_iload dL_law_1968 rfl ?_
  refine rn_i2l dL_law_1970 rfl ?_
  refine rn_lcmp dL_law_1971 ?_
  refine rn_topi (y := 0) (by decide +kernel) ?_
  refine rn_if_eq (tgt := 1977) dL_law_1972 rfl (fun _ => ?_) (fun q => absurd (by decide) q)
  refine rn_goto (tgt := 2228) dL_law_1977 rfl ?_
  exact law_tail rfl rfl
set_option maxRecDepth 20000 in
theorem la_22_k6 (hl : l.stackTraces = false) (e1 : xs 1 = 6) : ∃ h' : j_H, (h'.1.length ≤ 400 ∧ h'.2 ≤ 20000) ∧ Rn l D ad tc 6 xs mL_law 200 6000 1924 [(5, .int 0), (4, .ref 93), (3, .ref 92), (2, .ref 85), (1, .ref 1), (0, .ref 0)] [] (wd s0 (mdl (j_a0 D) 0 0 0 ++ [ol 0, od 0]), 6544) (some (.int 1)) h' := by
  obtain ⟨S', hc⟩ : ∃ S' : jS, Cn l D ad tc 6 xs mX9_many 6 155 [.ref 1, .int (xs 1)] (wd s0 (mdl (j_a0 D) 0 0 0 ++ [ol 0, od 0]), 6544) (some (.int 0)) (wd S' (mdl (j_a0 D) 0 0 0 ++ [ol 0, od 0]), 6544) := by
    rw [e1]
    obtain ⟨S', -, hc⟩ := f_many_6 (l := l) (D := D) (ad := ad) (tc := tc) (L := 6) (xs := xs) (E := (mdl (j_a0 D) 0 0 0 ++ [ol 0, od 0])) (sl := 6544) Fr_0
    exact ⟨S', hc⟩
  refine ⟨(wd S' (mdl (j_a0 D) 0 0 0 ++ [ol ((0 : Int32).toInt64), od 0]), 6544), ⟨by simp [wd_len, mdl, lkT], Nat.le_of_ble_eq_true rfl⟩, ?_⟩
  refine rn_aload_n dL_law_1924 rfl ?_
  refine rn_aload_n dL_law_1925 rfl ?_
  refine rn_iload dL_law_1926 rfl ?_
  refine rn_iconst (v := 1) dL_law_1928 rfl ?_
  refine rn_iadd dL_law_1929 ?_
  refine rn_topi (y := 1) (by decide) ?_
  refine rn_sld dL_law_1930 (by unfold vp_in; decide) ?_
  refine rn_topi (y := xs 1) rfl ?_
  refine rn_aload_n dL_law_1931 rfl ?_
  refine rn_callSW dL_law_1932 csw_L_183 (w_many_ok (w := 0) rfl hc (by decide) (by decide)) rfl (by decide) (by decide) rfl (Nat.le_of_ble_eq_true rfl) ?_
  refine rn_h (h2 := (wd S' (mdl (j_a0 D) 0 0 0 ++ [ol ((0 : Int32).toInt64), od 0]), 6544)) rfl ?_
  refine rn_istore dL_law_1935 (by decide) rfl ?_
  refine rn_aload_n dL_law_1937 rfl ?_
  refine rn_aload_n dL_law_1938 rfl ?_
  refine rn_iload dL_law_1939 rfl ?_
  refine rn_iconst (v := 1) dL_law_1941 rfl ?_
  refine rn_iadd dL_law_1942 ?_
  refine rn_topi (y := 1) (by decide) ?_
  refine rn_sld dL_law_1943 (by unfold vp_in; decide) ?_
  refine rn_topi (y := xs 1) rfl ?_
  refine rn_callV dL_law_1944 cv_L_186 (c_X11_many_62 e1 (G := gW S') (U := [ol ((0 : Int32).toInt64), od 0]) gW_len) rfl (wd_E (i := 0) rfl) rfl rfl (by decide) (by decide) rfl (Nat.le_of_ble_eq_true rfl) ?_
  refine rn_h (h2 := (wd S' (mdl (j_a0 D) 0 0 0 ++ [ol ((0 : Int32).toInt64), od 0]), 6544)) rfl ?_
  refine rn_istore dL_law_1947 (by decide) rfl ?_
  refine rn_aload_n dL_law_1949 rfl ?_
  refine rn_callV dL_law_1950 cv_L_105 (c_X11_thrown (i := 84) (t := 0) (wd_E (i := 0) rfl)) rfl (wd_E (i := 0) rfl) rfl rfl (by decide) (by decide) rfl (Nat.le_of_ble_eq_true rfl) ?_
  refine rn_iload dL_law_1953 rfl ?_
  refine rn_icmp_eq (tgt := 1960) dL_law_1955 rfl (fun _ => ?_) (fun q => absurd (by decide) q)
  refine rn_iload dL_law_1960 rfl ?_
  refine rn_if_ne (tgt := 1977) dL_law_1962 rfl (fun q => absurd q (by decide)) (fun _ => ?_)
  refine rn_aload_n dL_law_1965 rfl ?_
  refine rn_iconst (v := 0) dL_law_1966 rfl ?_
  refine rn_laload (a := 84 + 7) dL_law_1967 (wd_E (c := ol ((0 : Int32).toInt64)) (i := 7) rfl) rfl (by unfold vp_in; decide) ?_
  refine rn_topl (y := ((0 : Int32).toInt64)) rfl ?_
  refine rn_iload dL_law_1968 rfl ?_
  refine rn_i2l dL_law_1970 rfl ?_
  refine rn_lcmp dL_law_1971 ?_
  refine rn_topi (y := 0) (by decide +kernel) ?_
  refine rn_if_eq (tgt := 1977) dL_law_1972 rfl (fun _ => ?_) (fun q => absurd (by decide) q)
  refine rn_goto (tgt := 2228) dL_law_1977 rfl ?_
  exact law_tail rfl rfl
set_option maxRecDepth 20000 in
theorem la_22_k7 (hl : l.stackTraces = false) (e1 : xs 1 = 7) : ∃ h' : j_H, (h'.1.length ≤ 400 ∧ h'.2 ≤ 20000) ∧ Rn l D ad tc 6 xs mL_law 200 6000 1924 [(5, .int 0), (4, .ref 93), (3, .ref 92), (2, .ref 85), (1, .ref 1), (0, .ref 0)] [] (wd s0 (mdl (j_a0 D) 0 0 0 ++ [ol 0, od 0]), 6544) (some (.int 1)) h' := by
  obtain ⟨S', hc⟩ : ∃ S' : jS, Cn l D ad tc 6 xs mX9_many 6 155 [.ref 1, .int (xs 1)] (wd s0 (mdl (j_a0 D) 0 0 0 ++ [ol 0, od 0]), 6544) (some (.int 0)) (wd S' (mdl (j_a0 D) 0 0 0 ++ [ol 0, od 0]), 6544) := by
    rw [e1]
    obtain ⟨S', -, hc⟩ := f_many_7 (l := l) (D := D) (ad := ad) (tc := tc) (L := 6) (xs := xs) (E := (mdl (j_a0 D) 0 0 0 ++ [ol 0, od 0])) (sl := 6544) Fr_0
    exact ⟨S', hc⟩
  refine ⟨(wd S' (mdl (j_a0 D) 0 0 0 ++ [ol ((0 : Int32).toInt64), od 0]), 6544), ⟨by simp [wd_len, mdl, lkT], Nat.le_of_ble_eq_true rfl⟩, ?_⟩
  refine rn_aload_n dL_law_1924 rfl ?_
  refine rn_aload_n dL_law_1925 rfl ?_
  refine rn_iload dL_law_1926 rfl ?_
  refine rn_iconst (v := 1) dL_law_1928 rfl ?_
  refine rn_iadd dL_law_1929 ?_
  refine rn_topi (y := 1) (by decide) ?_
  refine rn_sld dL_law_1930 (by unfold vp_in; decide) ?_
  refine rn_topi (y := xs 1) rfl ?_
  refine rn_aload_n dL_law_1931 rfl ?_
  refine rn_callSW dL_law_1932 csw_L_183 (w_many_ok (w := 0) rfl hc (by decide) (by decide)) rfl (by decide) (by decide) rfl (Nat.le_of_ble_eq_true rfl) ?_
  refine rn_h (h2 := (wd S' (mdl (j_a0 D) 0 0 0 ++ [ol ((0 : Int32).toInt64), od 0]), 6544)) rfl ?_
  refine rn_istore dL_law_1935 (by decide) rfl ?_
  refine rn_aload_n dL_law_1937 rfl ?_
  refine rn_aload_n dL_law_1938 rfl ?_
  refine rn_iload dL_law_1939 rfl ?_
  refine rn_iconst (v := 1) dL_law_1941 rfl ?_
  refine rn_iadd dL_law_1942 ?_
  refine rn_topi (y := 1) (by decide) ?_
  refine rn_sld dL_law_1943 (by unfold vp_in; decide) ?_
  refine rn_topi (y := xs 1) rfl ?_
  refine rn_callV dL_law_1944 cv_L_186 (c_X11_many_72 e1 (G := gW S') (U := [ol ((0 : Int32).toInt64), od 0]) gW_len) rfl (wd_E (i := 0) rfl) rfl rfl (by decide) (by decide) rfl (Nat.le_of_ble_eq_true rfl) ?_
  refine rn_h (h2 := (wd S' (mdl (j_a0 D) 0 0 0 ++ [ol ((0 : Int32).toInt64), od 0]), 6544)) rfl ?_
  refine rn_istore dL_law_1947 (by decide) rfl ?_
  refine rn_aload_n dL_law_1949 rfl ?_
  refine rn_callV dL_law_1950 cv_L_105 (c_X11_thrown (i := 84) (t := 0) (wd_E (i := 0) rfl)) rfl (wd_E (i := 0) rfl) rfl rfl (by decide) (by decide) rfl (Nat.le_of_ble_eq_true rfl) ?_
  refine rn_iload dL_law_1953 rfl ?_
  refine rn_icmp_eq (tgt := 1960) dL_law_1955 rfl (fun _ => ?_) (fun q => absurd (by decide) q)
  refine rn_iload dL_law_1960 rfl ?_
  refine rn_if_ne (tgt := 1977) dL_law_1962 rfl (fun q => absurd q (by decide)) (fun _ => ?_)
  refine rn_aload_n dL_law_1965 rfl ?_
  refine rn_iconst (v := 0) dL_law_1966 rfl ?_
  refine rn_laload (a := 84 + 7) dL_law_1967 (wd_E (c := ol ((0 : Int32).toInt64)) (i := 7) rfl) rfl (by unfold vp_in; decide) ?_
  refine rn_topl (y := ((0 : Int32).toInt64)) rfl ?_
  refine rn_iload dL_law_1968 rfl ?_
  refine rn_i2l dL_law_1970 rfl ?_
  refine rn_lcmp dL_law_1971 ?_
  refine rn_topi (y := 0) (by decide +kernel) ?_
  refine rn_if_eq (tgt := 1977) dL_law_1972 rfl (fun _ => ?_) (fun q => absurd (by decide) q)
  refine rn_goto (tgt := 2228) dL_law_1977 rfl ?_
  exact law_tail rfl rfl
set_option maxRecDepth 20000 in
theorem la_22_k8 (hl : l.stackTraces = false) (e1 : xs 1 = 8) : ∃ h' : j_H, (h'.1.length ≤ 400 ∧ h'.2 ≤ 20000) ∧ Rn l D ad tc 6 xs mL_law 200 6000 1924 [(5, .int 0), (4, .ref 93), (3, .ref 92), (2, .ref 85), (1, .ref 1), (0, .ref 0)] [] (wd s0 (mdl (j_a0 D) 0 0 0 ++ [ol 0, od 0]), 6544) (some (.int 1)) h' := by
  obtain ⟨S', hc⟩ : ∃ S' : jS, Cn l D ad tc 6 xs mX9_many 6 155 [.ref 1, .int (xs 1)] (wd s0 (mdl (j_a0 D) 0 0 0 ++ [ol 0, od 0]), 6544) (some (.int 0)) (wd S' (mdl (j_a0 D) 0 0 0 ++ [ol 0, od 0]), 6544) := by
    rw [e1]
    obtain ⟨S', -, hc⟩ := f_many_8 (l := l) (D := D) (ad := ad) (tc := tc) (L := 6) (xs := xs) (E := (mdl (j_a0 D) 0 0 0 ++ [ol 0, od 0])) (sl := 6544) Fr_0
    exact ⟨S', hc⟩
  refine ⟨(wd S' (mdl (j_a0 D) 0 0 0 ++ [ol ((0 : Int32).toInt64), od 0]), 6544), ⟨by simp [wd_len, mdl, lkT], Nat.le_of_ble_eq_true rfl⟩, ?_⟩
  refine rn_aload_n dL_law_1924 rfl ?_
  refine rn_aload_n dL_law_1925 rfl ?_
  refine rn_iload dL_law_1926 rfl ?_
  refine rn_iconst (v := 1) dL_law_1928 rfl ?_
  refine rn_iadd dL_law_1929 ?_
  refine rn_topi (y := 1) (by decide) ?_
  refine rn_sld dL_law_1930 (by unfold vp_in; decide) ?_
  refine rn_topi (y := xs 1) rfl ?_
  refine rn_aload_n dL_law_1931 rfl ?_
  refine rn_callSW dL_law_1932 csw_L_183 (w_many_ok (w := 0) rfl hc (by decide) (by decide)) rfl (by decide) (by decide) rfl (Nat.le_of_ble_eq_true rfl) ?_
  refine rn_h (h2 := (wd S' (mdl (j_a0 D) 0 0 0 ++ [ol ((0 : Int32).toInt64), od 0]), 6544)) rfl ?_
  refine rn_istore dL_law_1935 (by decide) rfl ?_
  refine rn_aload_n dL_law_1937 rfl ?_
  refine rn_aload_n dL_law_1938 rfl ?_
  refine rn_iload dL_law_1939 rfl ?_
  refine rn_iconst (v := 1) dL_law_1941 rfl ?_
  refine rn_iadd dL_law_1942 ?_
  refine rn_topi (y := 1) (by decide) ?_
  refine rn_sld dL_law_1943 (by unfold vp_in; decide) ?_
  refine rn_topi (y := xs 1) rfl ?_
  refine rn_callV dL_law_1944 cv_L_186 (c_X11_many_82 e1 (G := gW S') (U := [ol ((0 : Int32).toInt64), od 0]) gW_len) rfl (wd_E (i := 0) rfl) rfl rfl (by decide) (by decide) rfl (Nat.le_of_ble_eq_true rfl) ?_
  refine rn_h (h2 := (wd S' (mdl (j_a0 D) 0 0 0 ++ [ol ((0 : Int32).toInt64), od 0]), 6544)) rfl ?_
  refine rn_istore dL_law_1947 (by decide) rfl ?_
  refine rn_aload_n dL_law_1949 rfl ?_
  refine rn_callV dL_law_1950 cv_L_105 (c_X11_thrown (i := 84) (t := 0) (wd_E (i := 0) rfl)) rfl (wd_E (i := 0) rfl) rfl rfl (by decide) (by decide) rfl (Nat.le_of_ble_eq_true rfl) ?_
  refine rn_iload dL_law_1953 rfl ?_
  refine rn_icmp_eq (tgt := 1960) dL_law_1955 rfl (fun _ => ?_) (fun q => absurd (by decide) q)
  refine rn_iload dL_law_1960 rfl ?_
  refine rn_if_ne (tgt := 1977) dL_law_1962 rfl (fun q => absurd q (by decide)) (fun _ => ?_)
  refine rn_aload_n dL_law_1965 rfl ?_
  refine rn_iconst (v := 0) dL_law_1966 rfl ?_
  refine rn_laload (a := 84 + 7) dL_law_1967 (wd_E (c := ol ((0 : Int32).toInt64)) (i := 7) rfl) rfl (by unfold vp_in; decide) ?_
  refine rn_topl (y := ((0 : Int32).toInt64)) rfl ?_
  refine rn_iload dL_law_1968 rfl ?_
  refine rn_i2l dL_law_1970 rfl ?_
  refine rn_lcmp dL_law_1971 ?_
  refine rn_topi (y := 0) (by decide +kernel) ?_
  refine rn_if_eq (tgt := 1977) dL_law_1972 rfl (fun _ => ?_) (fun q => absurd (by decide) q)
  refine rn_goto (tgt := 2228) dL_law_1977 rfl ?_
  exact law_tail rfl rfl
set_option maxRecDepth 20000 in
theorem la_22_k9 (hl : l.stackTraces = false) (e1 : xs 1 = 9) : ∃ h' : j_H, (h'.1.length ≤ 400 ∧ h'.2 ≤ 20000) ∧ Rn l D ad tc 6 xs mL_law 200 6000 1924 [(5, .int 0), (4, .ref 93), (3, .ref 92), (2, .ref 85), (1, .ref 1), (0, .ref 0)] [] (wd s0 (mdl (j_a0 D) 0 0 0 ++ [ol 0, od 0]), 6544) (some (.int 1)) h' := by
  obtain ⟨S', hc⟩ : ∃ S' : jS, Cn l D ad tc 6 xs mX9_many 6 155 [.ref 1, .int (xs 1)] (wd s0 (mdl (j_a0 D) 0 0 0 ++ [ol 0, od 0]), 6544) (some (.int 0)) (wd S' (mdl (j_a0 D) 0 0 0 ++ [ol 0, od 0]), 6544) := by
    rw [e1]
    obtain ⟨S', -, hc⟩ := f_many_9 (l := l) (D := D) (ad := ad) (tc := tc) (L := 6) (xs := xs) (E := (mdl (j_a0 D) 0 0 0 ++ [ol 0, od 0])) (sl := 6544) Fr_0
    exact ⟨S', hc⟩
  refine ⟨(wd S' (mdl (j_a0 D) 0 0 0 ++ [ol ((0 : Int32).toInt64), od 0]), 6544), ⟨by simp [wd_len, mdl, lkT], Nat.le_of_ble_eq_true rfl⟩, ?_⟩
  refine rn_aload_n dL_law_1924 rfl ?_
  refine rn_aload_n dL_law_1925 rfl ?_
  refine rn_iload dL_law_1926 rfl ?_
  refine rn_iconst (v := 1) dL_law_1928 rfl ?_
  refine rn_iadd dL_law_1929 ?_
  refine rn_topi (y := 1) (by decide) ?_
  refine rn_sld dL_law_1930 (by unfold vp_in; decide) ?_
  refine rn_topi (y := xs 1) rfl ?_
  refine rn_aload_n dL_law_1931 rfl ?_
  refine rn_callSW dL_law_1932 csw_L_183 (w_many_ok (w := 0) rfl hc (by decide) (by decide)) rfl (by decide) (by decide) rfl (Nat.le_of_ble_eq_true rfl) ?_
  refine rn_h (h2 := (wd S' (mdl (j_a0 D) 0 0 0 ++ [ol ((0 : Int32).toInt64), od 0]), 6544)) rfl ?_
  refine rn_istore dL_law_1935 (by decide) rfl ?_
  refine rn_aload_n dL_law_1937 rfl ?_
  refine rn_aload_n dL_law_1938 rfl ?_
  refine rn_iload dL_law_1939 rfl ?_
  refine rn_iconst (v := 1) dL_law_1941 rfl ?_
  refine rn_iadd dL_law_1942 ?_
  refine rn_topi (y := 1) (by decide) ?_
  refine rn_sld dL_law_1943 (by unfold vp_in; decide) ?_
  refine rn_topi (y := xs 1) rfl ?_
  refine rn_callV dL_law_1944 cv_L_186 (c_X11_many_92 e1 (G := gW S') (U := [ol ((0 : Int32).toInt64), od 0]) gW_len) rfl (wd_E (i := 0) rfl) rfl rfl (by decide) (by decide) rfl (Nat.le_of_ble_eq_true rfl) ?_
  refine rn_h (h2 := (wd S' (mdl (j_a0 D) 0 0 0 ++ [ol ((0 : Int32).toInt64), od 0]), 6544)) rfl ?_
  refine rn_istore dL_law_1947 (by decide) rfl ?_
  refine rn_aload_n dL_law_1949 rfl ?_
  refine rn_callV dL_law_1950 cv_L_105 (c_X11_thrown (i := 84) (t := 0) (wd_E (i := 0) rfl)) rfl (wd_E (i := 0) rfl) rfl rfl (by decide) (by decide) rfl (Nat.le_of_ble_eq_true rfl) ?_
  refine rn_iload dL_law_1953 rfl ?_
  refine rn_icmp_eq (tgt := 1960) dL_law_1955 rfl (fun _ => ?_) (fun q => absurd (by decide) q)
  refine rn_iload dL_law_1960 rfl ?_
  refine rn_if_ne (tgt := 1977) dL_law_1962 rfl (fun q => absurd q (by decide)) (fun _ => ?_)
  refine rn_aload_n dL_law_1965 rfl ?_
  refine rn_iconst (v := 0) dL_law_1966 rfl ?_
  refine rn_laload (a := 84 + 7) dL_law_1967 (wd_E (c := ol ((0 : Int32).toInt64)) (i := 7) rfl) rfl (by unfold vp_in; decide) ?_
  refine rn_topl (y := ((0 : Int32).toInt64)) rfl ?_
  refine rn_iload dL_law_1968 rfl ?_
  refine rn_i2l dL_law_1970 rfl ?_
  refine rn_lcmp dL_law_1971 ?_
  refine rn_topi (y := 0) (by decide +kernel) ?_
  refine rn_if_eq (tgt := 1977) dL_law_1972 rfl (fun _ => ?_) (fun q => absurd (by decide) q)
  refine rn_goto (tgt := 2228) dL_law_1977 rfl ?_
  exact law_tail rfl rfl
set_option maxRecDepth 20000 in
theorem la_22_k10 (hl : l.stackTraces = false) (e1 : xs 1 = 10) : ∃ h' : j_H, (h'.1.length ≤ 400 ∧ h'.2 ≤ 20000) ∧ Rn l D ad tc 6 xs mL_law 200 6000 1924 [(5, .int 0), (4, .ref 93), (3, .ref 92), (2, .ref 85), (1, .ref 1), (0, .ref 0)] [] (wd s0 (mdl (j_a0 D) 0 0 0 ++ [ol 0, od 0]), 6544) (some (.int 1)) h' := by
  obtain ⟨S', hc⟩ : ∃ S' : jS, Cn l D ad tc 6 xs mX9_many 6 155 [.ref 1, .int (xs 1)] (wd s0 (mdl (j_a0 D) 0 0 0 ++ [ol 0, od 0]), 6544) (some (.int 0)) (wd S' (mdl (j_a0 D) 0 0 0 ++ [ol 0, od 0]), 6544) := by
    rw [e1]
    obtain ⟨S', -, hc⟩ := f_many_10 (l := l) (D := D) (ad := ad) (tc := tc) (L := 6) (xs := xs) (E := (mdl (j_a0 D) 0 0 0 ++ [ol 0, od 0])) (sl := 6544) Fr_0
    exact ⟨S', hc⟩
  refine ⟨(wd S' (mdl (j_a0 D) 0 0 0 ++ [ol ((0 : Int32).toInt64), od 0]), 6544), ⟨by simp [wd_len, mdl, lkT], Nat.le_of_ble_eq_true rfl⟩, ?_⟩
  refine rn_aload_n dL_law_1924 rfl ?_
  refine rn_aload_n dL_law_1925 rfl ?_
  refine rn_iload dL_law_1926 rfl ?_
  refine rn_iconst (v := 1) dL_law_1928 rfl ?_
  refine rn_iadd dL_law_1929 ?_
  refine rn_topi (y := 1) (by decide) ?_
  refine rn_sld dL_law_1930 (by unfold vp_in; decide) ?_
  refine rn_topi (y := xs 1) rfl ?_
  refine rn_aload_n dL_law_1931 rfl ?_
  refine rn_callSW dL_law_1932 csw_L_183 (w_many_ok (w := 0) rfl hc (by decide) (by decide)) rfl (by decide) (by decide) rfl (Nat.le_of_ble_eq_true rfl) ?_
  refine rn_h (h2 := (wd S' (mdl (j_a0 D) 0 0 0 ++ [ol ((0 : Int32).toInt64), od 0]), 6544)) rfl ?_
  refine rn_istore dL_law_1935 (by decide) rfl ?_
  refine rn_aload_n dL_law_1937 rfl ?_
  refine rn_aload_n dL_law_1938 rfl ?_
  refine rn_iload dL_law_1939 rfl ?_
  refine rn_iconst (v := 1) dL_law_1941 rfl ?_
  refine rn_iadd dL_law_1942 ?_
  refine rn_topi (y := 1) (by decide) ?_
  refine rn_sld dL_law_1943 (by unfold vp_in; decide) ?_
  refine rn_topi (y := xs 1) rfl ?_
  refine rn_callV dL_law_1944 cv_L_186 (c_X11_many_102 e1 (G := gW S') (U := [ol ((0 : Int32).toInt64), od 0]) gW_len) rfl (wd_E (i := 0) rfl) rfl rfl (by decide) (by decide) rfl (Nat.le_of_ble_eq_true rfl) ?_
  refine rn_h (h2 := (wd S' (mdl (j_a0 D) 0 0 0 ++ [ol ((0 : Int32).toInt64), od 0]), 6544)) rfl ?_
  refine rn_istore dL_law_1947 (by decide) rfl ?_
  refine rn_aload_n dL_law_1949 rfl ?_
  refine rn_callV dL_law_1950 cv_L_105 (c_X11_thrown (i := 84) (t := 0) (wd_E (i := 0) rfl)) rfl (wd_E (i := 0) rfl) rfl rfl (by decide) (by decide) rfl (Nat.le_of_ble_eq_true rfl) ?_
  refine rn_iload dL_law_1953 rfl ?_
  refine rn_icmp_eq (tgt := 1960) dL_law_1955 rfl (fun _ => ?_) (fun q => absurd (by decide) q)
  refine rn_iload dL_law_1960 rfl ?_
  refine rn_if_ne (tgt := 1977) dL_law_1962 rfl (fun q => absurd q (by decide)) (fun _ => ?_)
  refine rn_aload_n dL_law_1965 rfl ?_
  refine rn_iconst (v := 0) dL_law_1966 rfl ?_
  refine rn_laload (a := 84 + 7) dL_law_1967 (wd_E (c := ol ((0 : Int32).toInt64)) (i := 7) rfl) rfl (by unfold vp_in; decide) ?_
  refine rn_topl (y := ((0 : Int32).toInt64)) rfl ?_
  refine rn_iload dL_law_1968 rfl ?_
  refine rn_i2l dL_law_1970 rfl ?_
  refine rn_lcmp dL_law_1971 ?_
  refine rn_topi (y := 0) (by decide +kernel) ?_
  refine rn_if_eq (tgt := 1977) dL_law_1972 rfl (fun _ => ?_) (fun q => absurd (by decide) q)
  refine rn_goto (tgt := 2228) dL_law_1977 rfl ?_
  exact law_tail rfl rfl
set_option maxRecDepth 20000 in
theorem la_23_l0 (hl : l.stackTraces = false) (z1 : xs 1 = 0) : ∃ h' : j_H, (h'.1.length ≤ 400 ∧ h'.2 ≤ 20000) ∧ Rn l D ad tc 6 xs mL_law 200 6000 1980 [(5, .int 0), (4, .ref 93), (3, .ref 92), (2, .ref 85), (1, .ref 1), (0, .ref 0)] [] (wd s0 (mdl (j_a0 D) 0 0 0 ++ [ol 0, od 0]), 6544) (some (.int 1)) h' := by
  obtain ⟨S', hc⟩ : ∃ S' : jS, Cn l D ad tc 6 xs mX9_least 6 154 [.ref 1, .int 0] (wd s0 (mdl (j_a0 D) 0 0 0 ++ [ol 0, od 0]), 6544) (some (.double (dv 409595904))) (wd S' (mdl (j_a0 D) 0 0 0 ++ [ol 0, od 0]), 6544) := by
    obtain ⟨S', -, hc⟩ := f_least_0 (l := l) (D := D) (ad := ad) (tc := tc) (L := 6) (xs := xs) (E := (mdl (j_a0 D) 0 0 0 ++ [ol 0, od 0])) (sl := 6544) Fr_0
    exact ⟨S', hc⟩
  refine ⟨(wd S' (mdl (j_a0 D) 0 0 0 ++ [ol 0, od 0] ++ lkT (84 + (7 + 2))), 6544 + 6 + 2), ⟨by simp [wd_len, mdl, lkT], Nat.le_of_ble_eq_true rfl⟩, ?_⟩
  refine rn_aload_n dL_law_1980 rfl ?_
  refine rn_aload_n dL_law_1981 rfl ?_
  refine rn_iload dL_law_1982 rfl ?_
  refine rn_iconst (v := 1) dL_law_1984 rfl ?_
  refine rn_iadd dL_law_1985 ?_
  refine rn_topi (y := 1) (by decide) ?_
  refine rn_sld dL_law_1986 (by unfold vp_in; decide) ?_
  refine rn_topi (y := xs 1) rfl ?_
  refine rn_if_eq (tgt := 1994) dL_law_1987 rfl (fun _ => ?_) (fun q => absurd z1 q)
  refine rn_iconst (v := 0) dL_law_1994 rfl ?_
  refine rn_callV dL_law_1995 cv_L_187 hc rfl h_SH rfl rfl (by decide) (by decide) rfl (Nat.le_of_ble_eq_true rfl) ?_
  refine rn_h (h2 := (wd S' (mdl (j_a0 D) 0 0 0 ++ [ol 0, od 0]), 6544)) rfl ?_
  refine rn_dstore dL_law_1998 (by decide) rfl ?_
  refine rn_aload_n dL_law_2000 rfl ?_
  refine rn_aload_n dL_law_2001 rfl ?_
  refine rn_iload dL_law_2002 rfl ?_
  refine rn_iconst (v := 1) dL_law_2004 rfl ?_
  refine rn_iadd dL_law_2005 ?_
  refine rn_topi (y := 1) (by decide) ?_
  refine rn_sld dL_law_2006 (by unfold vp_in; decide) ?_
  refine rn_topi (y := xs 1) rfl ?_
  refine rn_if_eq (tgt := 2014) dL_law_2007 rfl (fun _ => ?_) (fun q => absurd z1 q)
  refine rn_iconst (v := 0) dL_law_2014 rfl ?_
  refine rn_callV dL_law_2015 cv_L_191 (c_X11_least (G := gW S') (U := [ol 0, od 0]) (u := 2) gW_len rfl) rfl (wd_E (i := 0) rfl) rfl rfl (by decide) (by decide) rfl (Nat.le_of_ble_eq_true rfl) ?_
  refine rn_h (h2 := (wd S' (mdl (j_a0 D) 0 0 0 ++ [ol 0, od 0] ++ lkT (84 + (7 + 2))), 6544 + 6 + 2)) rfl ?_
  refine rn_dstore dL_law_2018 (by decide) rfl ?_
  refine rn_dload dL_law_2020 rfl ?_
  refine rn_dload dL_law_2022 rfl ?_
  refine rn_dcmpv dL_law_2024 (dB_of (by decide) (by decide)) (dB_of (by decide) (by decide)) ?_
  refine rn_topi (y := 0) (by decide) ?_
  refine rn_if_eq (tgt := 2046) dL_law_2025 rfl (fun _ => ?_) (fun q => absurd (by decide) q)
  refine rn_goto (tgt := 2228) dL_law_2046 rfl ?_
  exact law_tail rfl rfl
set_option maxRecDepth 20000 in
theorem la_23_l1 (hl : l.stackTraces = false) (z1 : ¬ xs 1 = 0) : ∃ h' : j_H, (h'.1.length ≤ 400 ∧ h'.2 ≤ 20000) ∧ Rn l D ad tc 6 xs mL_law 200 6000 1980 [(5, .int 0), (4, .ref 93), (3, .ref 92), (2, .ref 85), (1, .ref 1), (0, .ref 0)] [] (wd s0 (mdl (j_a0 D) 0 0 0 ++ [ol 0, od 0]), 6544) (some (.int 1)) h' := by
  obtain ⟨S', hc⟩ : ∃ S' : jS, Cn l D ad tc 6 xs mX9_least 6 154 [.ref 1, .int 1] (wd s0 (mdl (j_a0 D) 0 0 0 ++ [ol 0, od 0]), 6544) (some (.double (dv 409595904))) (wd S' (mdl (j_a0 D) 0 0 0 ++ [ol 0, od 0]), 6544) := by
    obtain ⟨S', -, hc⟩ := f_least_1 (l := l) (D := D) (ad := ad) (tc := tc) (L := 6) (xs := xs) (E := (mdl (j_a0 D) 0 0 0 ++ [ol 0, od 0])) (sl := 6544) Fr_0
    exact ⟨S', hc⟩
  refine ⟨(wd S' (mdl (j_a0 D) 0 0 0 ++ [ol 0, od 0] ++ lkT (84 + (7 + 2))), 6544 + 6 + 2), ⟨by simp [wd_len, mdl, lkT], Nat.le_of_ble_eq_true rfl⟩, ?_⟩
  refine rn_aload_n dL_law_1980 rfl ?_
  refine rn_aload_n dL_law_1981 rfl ?_
  refine rn_iload dL_law_1982 rfl ?_
  refine rn_iconst (v := 1) dL_law_1984 rfl ?_
  refine rn_iadd dL_law_1985 ?_
  refine rn_topi (y := 1) (by decide) ?_
  refine rn_sld dL_law_1986 (by unfold vp_in; decide) ?_
  refine rn_topi (y := xs 1) rfl ?_
  refine rn_if_eq (tgt := 1994) dL_law_1987 rfl (fun q => absurd q z1) (fun _ => ?_)
  refine rn_iconst (v := 1) dL_law_1990 rfl ?_
  refine rn_goto (tgt := 1995) dL_law_1991 rfl ?_
  refine rn_callV dL_law_1995 cv_L_187 hc rfl h_SH rfl rfl (by decide) (by decide) rfl (Nat.le_of_ble_eq_true rfl) ?_
  refine rn_h (h2 := (wd S' (mdl (j_a0 D) 0 0 0 ++ [ol 0, od 0]), 6544)) rfl ?_
  refine rn_dstore dL_law_1998 (by decide) rfl ?_
  refine rn_aload_n dL_law_2000 rfl ?_
  refine rn_aload_n dL_law_2001 rfl ?_
  refine rn_iload dL_law_2002 rfl ?_
  refine rn_iconst (v := 1) dL_law_2004 rfl ?_
  refine rn_iadd dL_law_2005 ?_
  refine rn_topi (y := 1) (by decide) ?_
  refine rn_sld dL_law_2006 (by unfold vp_in; decide) ?_
  refine rn_topi (y := xs 1) rfl ?_
  refine rn_if_eq (tgt := 2014) dL_law_2007 rfl (fun q => absurd q z1) (fun _ => ?_)
  refine rn_iconst (v := 1) dL_law_2010 rfl ?_
  refine rn_goto (tgt := 2015) dL_law_2011 rfl ?_
  refine rn_callV dL_law_2015 cv_L_191 (c_X11_least (G := gW S') (U := [ol 0, od 0]) (u := 2) gW_len rfl) rfl (wd_E (i := 0) rfl) rfl rfl (by decide) (by decide) rfl (Nat.le_of_ble_eq_true rfl) ?_
  refine rn_h (h2 := (wd S' (mdl (j_a0 D) 0 0 0 ++ [ol 0, od 0] ++ lkT (84 + (7 + 2))), 6544 + 6 + 2)) rfl ?_
  refine rn_dstore dL_law_2018 (by decide) rfl ?_
  refine rn_dload dL_law_2020 rfl ?_
  refine rn_dload dL_law_2022 rfl ?_
  refine rn_dcmpv dL_law_2024 (dB_of (by decide) (by decide)) (dB_of (by decide) (by decide)) ?_
  refine rn_topi (y := 0) (by decide) ?_
  refine rn_if_eq (tgt := 2046) dL_law_2025 rfl (fun _ => ?_) (fun q => absurd (by decide) q)
  refine rn_goto (tgt := 2228) dL_law_2046 rfl ?_
  exact law_tail rfl rfl
set_option maxRecDepth 20000 in
theorem la_24_no (hl : l.stackTraces = false)  : ∃ h' : j_H, (h'.1.length ≤ 400 ∧ h'.2 ≤ 20000) ∧ Rn l D ad tc 6 xs mL_law 200 6000 2049 [(5, .int 0), (4, .ref 93), (3, .ref 92), (2, .ref 85), (1, .ref 1), (0, .ref 0)] [] (wd s0 (mdl (j_a0 D) 0 0 0 ++ [ol 0, od 0]), 6544) (some (.int 1)) h' := by
  refine ⟨(wd s0 (mdl (j_a0 D) 1 0 0 ++ [ol 0, od 0, j_x 1]), 6544 + 6), ⟨by simp [wd_len, mdl, lkT], Nat.le_of_ble_eq_true rfl⟩, ?_⟩
  refine rn_aload_n dL_law_2049 rfl ?_
  refine rn_aload_n dL_law_2050 rfl ?_
  refine rn_iload dL_law_2051 rfl ?_
  refine rn_iconst (v := 1) dL_law_2053 rfl ?_
  refine rn_iadd dL_law_2054 ?_
  refine rn_topi (y := 1) (by decide) ?_
  refine rn_sld dL_law_2055 (by unfold vp_in; decide) ?_
  refine rn_topi (y := xs 1) rfl ?_
  refine rn_aload_n dL_law_2056 rfl ?_
  refine rn_iload dL_law_2057 rfl ?_
  refine rn_iconst (v := 2) dL_law_2059 rfl ?_
  refine rn_iadd dL_law_2060 ?_
  refine rn_topi (y := 2) (by decide) ?_
  refine rn_sld dL_law_2061 (by unfold vp_in; decide) ?_
  refine rn_topi (y := xs 2) rfl ?_
  refine rn_aload dL_law_2062 rfl ?_
  refine rn_callSW dL_law_2064 csw_L_192 (w_wouldLeave_x1 (x_wouldLeave hl Fr_0) (by decide) (by decide)) rfl (by decide) (by decide) rfl (Nat.le_of_ble_eq_true rfl) ?_
  refine rn_h (h2 := (wd s0 (mdl (j_a0 D) 0 0 0 ++ [ol 0, od 0, j_x 1]), 6544 + 6)) rfl ?_
  refine rn_istore dL_law_2067 (by decide) rfl ?_
  refine rn_aload_n dL_law_2069 rfl ?_
  refine rn_aload_n dL_law_2070 rfl ?_
  refine rn_iload dL_law_2071 rfl ?_
  refine rn_iconst (v := 1) dL_law_2073 rfl ?_
  refine rn_iadd dL_law_2074 ?_
  refine rn_topi (y := 1) (by decide) ?_
  refine rn_sld dL_law_2075 (by unfold vp_in; decide) ?_
  refine rn_topi (y := xs 1) rfl ?_
  refine rn_aload_n dL_law_2076 rfl ?_
  refine rn_iload dL_law_2077 rfl ?_
  refine rn_iconst (v := 2) dL_law_2079 rfl ?_
  refine rn_iadd dL_law_2080 ?_
  refine rn_topi (y := 2) (by decide) ?_
  refine rn_sld dL_law_2081 (by unfold vp_in; decide) ?_
  refine rn_topi (y := xs 2) rfl ?_
  refine rn_callV dL_law_2082 cv_L_194 (c_X11_wouldLeave (G := gW s0) (U := [ol 0, od 0, j_x 1]) (u := 3) gW_len rfl) rfl (wd_E (i := 0) rfl) rfl rfl (by decide) (by decide) rfl (Nat.le_of_ble_eq_true rfl) ?_
  refine rn_h (h2 := (wd s0 (mdl (j_a0 D) 1 0 0 ++ [ol 0, od 0, j_x 1]), 6544 + 6)) rfl ?_
  refine rn_dstore dL_law_2085 (by decide) rfl ?_
  refine rn_aload_n dL_law_2087 rfl ?_
  refine rn_callV dL_law_2088 cv_L_105 (c_X11_thrown (i := 84) (t := 1) (wd_E (i := 0) rfl)) rfl (wd_E (i := 0) rfl) rfl rfl (by decide) (by decide) rfl (Nat.le_of_ble_eq_true rfl) ?_
  refine rn_iload dL_law_2091 rfl ?_
  refine rn_icmp_eq (tgt := 2098) dL_law_2093 rfl (fun _ => ?_) (fun q => absurd (by decide) q)
  refine rn_iload dL_law_2098 rfl ?_
  refine rn_if_ne (tgt := 2135) dL_law_2100 rfl (fun _ => ?_) (fun q => absurd q (by decide))
  refine rn_goto (tgt := 2228) dL_law_2135 rfl ?_
  exact law_tail rfl rfl
set_option maxRecDepth 20000 in
theorem la_25_b (hl : l.stackTraces = false)  : ∃ h' : j_H, (h'.1.length ≤ 400 ∧ h'.2 ≤ 20000) ∧ Rn l D ad tc 6 xs mL_law 200 6000 2138 [(5, .int 0), (4, .ref 93), (3, .ref 92), (2, .ref 85), (1, .ref 1), (0, .ref 0)] [] (wd s0 (mdl (j_a0 D) 0 0 0 ++ [ol 0, od 0]), 6544) (some (.int 1)) h' := by
  obtain ⟨S', hc⟩ : ∃ S' : jS, Cn l D ad tc 6 xs mX9_best 7 181 [.ref 1] (wd s0 (mdl (j_a0 D) 0 0 0 ++ [ol 0, od 0]), 6544) (some (.int (-1))) (wd S' (mdl (j_a0 D) 0 0 0 ++ [ol 0, od 0]), 6544) := by
    obtain ⟨S', -, hc⟩ := f_best (l := l) (D := D) (ad := ad) (tc := tc) (L := 6) (xs := xs) (E := (mdl (j_a0 D) 0 0 0 ++ [ol 0, od 0])) (sl := 6544) Fr_0
    exact ⟨S', hc⟩
  refine ⟨(wd S' (mdl (j_a0 D) 0 0 0 ++ [ol 0, od 0] ++ lkT (84 + (7 + 2))), 6544 + 6 + 2), ⟨by simp [wd_len, mdl, lkT], Nat.le_of_ble_eq_true rfl⟩, ?_⟩
  refine rn_aload_n dL_law_2138 rfl ?_
  refine rn_callV dL_law_2139 cv_L_195 hc rfl h_SH rfl rfl (by decide) (by decide) rfl (Nat.le_of_ble_eq_true rfl) ?_
  refine rn_h (h2 := (wd S' (mdl (j_a0 D) 0 0 0 ++ [ol 0, od 0]), 6544)) rfl ?_
  refine rn_aload_n dL_law_2142 rfl ?_
  refine rn_callV dL_law_2143 cv_L_198 (c_X11_best (G := gW S') (U := [ol 0, od 0]) (u := 2) gW_len rfl) rfl (wd_E (i := 0) rfl) rfl rfl (by decide) (by decide) rfl (Nat.le_of_ble_eq_true rfl) ?_
  refine rn_h (h2 := (wd S' (mdl (j_a0 D) 0 0 0 ++ [ol 0, od 0] ++ lkT (84 + (7 + 2))), 6544 + 6 + 2)) rfl ?_
  refine rn_icmp_eq (tgt := 2228) dL_law_2146 rfl (fun _ => ?_) (fun q => absurd (by decide) q)
  exact law_tail rfl rfl
set_option maxRecDepth 20000 in
theorem la_26_no (hl : l.stackTraces = false) (ha : ¬ xs 1 = 0) : ∃ h' : j_H, (h'.1.length ≤ 400 ∧ h'.2 ≤ 20000) ∧ Rn l D ad tc 6 xs mL_law 200 6000 2151 [(5, .int 0), (4, .ref 93), (3, .ref 92), (2, .ref 85), (1, .ref 1), (0, .ref 0)] [] (wd s0 (mdl (j_a0 D) 0 0 0 ++ [ol 0, od 0]), 6544) (some (.int 1)) h' := by
  refine ⟨(wd s0 (mdl (j_a0 D) 1 0 0 ++ [ol 0, od 0, j_x 1]), 6544 + 6), ⟨by simp [wd_len, mdl, lkT], Nat.le_of_ble_eq_true rfl⟩, ?_⟩
  refine rn_aload_n dL_law_2151 rfl ?_
  refine rn_aload_n dL_law_2152 rfl ?_
  refine rn_iload dL_law_2153 rfl ?_
  refine rn_iconst (v := 1) dL_law_2155 rfl ?_
  refine rn_iadd dL_law_2156 ?_
  refine rn_topi (y := 1) (by decide) ?_
  refine rn_sld dL_law_2157 (by unfold vp_in; decide) ?_
  refine rn_topi (y := xs 1) rfl ?_
  refine rn_aload_n dL_law_2158 rfl ?_
  refine rn_callSW dL_law_2159 csw_L_199 (w_isIdle_x1 (x_isIdle hl Fr_0 ha) (by decide) (by decide)) rfl (by decide) (by decide) rfl (Nat.le_of_ble_eq_true rfl) ?_
  refine rn_h (h2 := (wd s0 (mdl (j_a0 D) 0 0 0 ++ [ol 0, od 0, j_x 1]), 6544 + 6)) rfl ?_
  refine rn_istore dL_law_2162 (by decide) rfl ?_
  refine rn_aload_n dL_law_2164 rfl ?_
  refine rn_aload_n dL_law_2165 rfl ?_
  refine rn_iload dL_law_2166 rfl ?_
  refine rn_iconst (v := 1) dL_law_2168 rfl ?_
  refine rn_iadd dL_law_2169 ?_
  refine rn_topi (y := 1) (by decide) ?_
  refine rn_sld dL_law_2170 (by unfold vp_in; decide) ?_
  refine rn_topi (y := xs 1) rfl ?_
  refine rn_callV dL_law_2171 cv_L_201 (c_X11_isIdle_1 (G := gW s0) (U := [ol 0, od 0, j_x 1]) gW_len ha) rfl (wd_E (i := 0) rfl) rfl rfl (by decide) (by decide) rfl (Nat.le_of_ble_eq_true rfl) ?_
  refine rn_h (h2 := (wd s0 (mdl (j_a0 D) 1 0 0 ++ [ol 0, od 0, j_x 1]), 6544 + 6)) rfl ?_
  refine rn_istore dL_law_2174 (by decide) rfl ?_
  refine rn_aload_n dL_law_2176 rfl ?_
  refine rn_callV dL_law_2177 cv_L_105 (c_X11_thrown (i := 84) (t := 1) (wd_E (i := 0) rfl)) rfl (wd_E (i := 0) rfl) rfl rfl (by decide) (by decide) rfl (Nat.le_of_ble_eq_true rfl) ?_
  refine rn_iload dL_law_2180 rfl ?_
  refine rn_icmp_eq (tgt := 2187) dL_law_2182 rfl (fun _ => ?_) (fun q => absurd (by decide) q)
  refine rn_iload dL_law_2187 rfl ?_
  refine rn_if_ne (tgt := 2211) dL_law_2189 rfl (fun _ => ?_) (fun q => absurd q (by decide))
  refine rn_goto (tgt := 2228) dL_law_2211 rfl ?_
  exact law_tail rfl rfl
set_option maxRecDepth 20000 in
theorem la_26_z (hl : l.stackTraces = false) (e1 : xs 1 = 0) : ∃ h' : j_H, (h'.1.length ≤ 400 ∧ h'.2 ≤ 20000) ∧ Rn l D ad tc 6 xs mL_law 200 6000 2151 [(5, .int 0), (4, .ref 93), (3, .ref 92), (2, .ref 85), (1, .ref 1), (0, .ref 0)] [] (wd s0 (mdl (j_a0 D) 0 0 0 ++ [ol 0, od 0]), 6544) (some (.int 1)) h' := by
  refine ⟨(wd s0 (mdl (j_a0 D) 0 0 0 ++ [ol (Int64.ofNat 0), od 0]), 6544), ⟨by simp [wd_len, mdl, lkT], Nat.le_of_ble_eq_true rfl⟩, ?_⟩
  refine rn_aload_n dL_law_2151 rfl ?_
  refine rn_aload_n dL_law_2152 rfl ?_
  refine rn_iload dL_law_2153 rfl ?_
  refine rn_iconst (v := 1) dL_law_2155 rfl ?_
  refine rn_iadd dL_law_2156 ?_
  refine rn_topi (y := 1) (by decide) ?_
  refine rn_sld dL_law_2157 (by unfold vp_in; decide) ?_
  refine rn_topi (y := xs 1) rfl ?_
  refine rn_aload_n dL_law_2158 rfl ?_
  refine rn_callSW dL_law_2159 csw_L_199 (w_isIdle_ok (w := 0) rfl (by rw [e1]; exact f_isIdle Fr_0) (by decide) (by decide)) rfl (by decide) (by decide) rfl (Nat.le_of_ble_eq_true rfl) ?_
  refine rn_h (h2 := (wd s0 (mdl (j_a0 D) 0 0 0 ++ [ol (Int64.ofNat 0), od 0]), 6544)) rfl ?_
  refine rn_istore dL_law_2162 (by decide) rfl ?_
  refine rn_aload_n dL_law_2164 rfl ?_
  refine rn_aload_n dL_law_2165 rfl ?_
  refine rn_iload dL_law_2166 rfl ?_
  refine rn_iconst (v := 1) dL_law_2168 rfl ?_
  refine rn_iadd dL_law_2169 ?_
  refine rn_topi (y := 1) (by decide) ?_
  refine rn_sld dL_law_2170 (by unfold vp_in; decide) ?_
  refine rn_topi (y := xs 1) rfl ?_
  refine rn_callV dL_law_2171 cv_L_201 (c_X11_isIdle_02 e1 (G := gW s0) (U := [ol (Int64.ofNat 0), od 0]) gW_len) rfl (wd_E (i := 0) rfl) rfl rfl (by decide) (by decide) rfl (Nat.le_of_ble_eq_true rfl) ?_
  refine rn_h (h2 := (wd s0 (mdl (j_a0 D) 0 0 0 ++ [ol (Int64.ofNat 0), od 0]), 6544)) rfl ?_
  refine rn_istore dL_law_2174 (by decide) rfl ?_
  refine rn_aload_n dL_law_2176 rfl ?_
  refine rn_callV dL_law_2177 cv_L_105 (c_X11_thrown (i := 84) (t := 0) (wd_E (i := 0) rfl)) rfl (wd_E (i := 0) rfl) rfl rfl (by decide) (by decide) rfl (Nat.le_of_ble_eq_true rfl) ?_
  refine rn_iload dL_law_2180 rfl ?_
  refine rn_icmp_eq (tgt := 2187) dL_law_2182 rfl (fun _ => ?_) (fun q => absurd (by decide) q)
  refine rn_iload dL_law_2187 rfl ?_
  refine rn_if_ne (tgt := 2211) dL_law_2189 rfl (fun q => absurd q (by decide)) (fun _ => ?_)
  refine rn_aload_n dL_law_2192 rfl ?_
  refine rn_iconst (v := 0) dL_law_2193 rfl ?_
  refine rn_laload (a := 84 + 7) dL_law_2194 (wd_E (c := ol (Int64.ofNat 0)) (i := 7) rfl) rfl (by unfold vp_in; decide) ?_
  refine rn_topl (y := (Int64.ofNat 0)) rfl ?_
  refine rn_iload dL_law_2195 rfl ?_
  refine rn_if_eq (tgt := 2204) dL_law_2197 rfl (fun _ => ?_) (fun q => absurd (by decide) q)
  refine rn_lconst dL_law_2204 rfl ?_
  refine rn_lcmp dL_law_2205 ?_
  refine rn_topi (y := 0) (by decide +kernel) ?_
  refine rn_if_eq (tgt := 2211) dL_law_2206 rfl (fun _ => ?_) (fun q => absurd (by decide) q)
  refine rn_goto (tgt := 2228) dL_law_2211 rfl ?_
  exact law_tail rfl rfl
set_option maxRecDepth 20000 in
theorem la_27_d (hl : l.stackTraces = false)  : ∃ h' : j_H, (h'.1.length ≤ 400 ∧ h'.2 ≤ 20000) ∧ Rn l D ad tc 6 xs mL_law 200 6000 2214 [(5, .int 0), (4, .ref 93), (3, .ref 92), (2, .ref 85), (1, .ref 1), (0, .ref 0)] [] (wd s0 (mdl (j_a0 D) 0 0 0 ++ [ol 0, od 0]), 6544) (some (.int 1)) h' := by
  obtain ⟨S', hc⟩ : ∃ S' : jS, Cn l D ad tc 6 xs mX9_digest 7 181 [.ref 1] (wd s0 (mdl (j_a0 D) 0 0 0 ++ [ol 0, od 0]), 6544) (some (.long (1549124912602722884))) (wd S' (mdl (j_a0 D) 0 0 0 ++ [ol 0, od 0]), 6544) := by
    obtain ⟨S', -, hc⟩ := f_digest (l := l) (D := D) (ad := ad) (tc := tc) (L := 6) (xs := xs) (E := (mdl (j_a0 D) 0 0 0 ++ [ol 0, od 0])) (sl := 6544) Fr_0
    exact ⟨S', hc⟩
  refine ⟨(wd S' (mdl (j_a0 D) 0 0 0 ++ ([ol 0, od 0] ++ [itr0]) ++ lkT (84 + (7 + (2 + 1)))), 6544 + 4 + 6 + 2), ⟨by simp [wd_len, mdl, lkT], Nat.le_of_ble_eq_true rfl⟩, ?_⟩
  refine rn_aload_n dL_law_2214 rfl ?_
  refine rn_callV dL_law_2215 cv_L_202 hc rfl h_SH rfl rfl (by decide) (by decide) rfl (Nat.le_of_ble_eq_true rfl) ?_
  refine rn_h (h2 := (wd S' (mdl (j_a0 D) 0 0 0 ++ [ol 0, od 0]), 6544)) rfl ?_
  refine rn_aload_n dL_law_2218 rfl ?_
  refine rn_callV dL_law_2219 cv_L_206 (c_X11_digest (G := gW S') (U := [ol 0, od 0]) (u := 2) gW_len rfl) rfl (wd_E (i := 0) rfl) rfl rfl (by decide) (by decide) rfl (Nat.le_of_ble_eq_true rfl) ?_
  refine rn_h (h2 := (wd S' (mdl (j_a0 D) 0 0 0 ++ ([ol 0, od 0] ++ [itr0]) ++ lkT (84 + (7 + (2 + 1)))), 6544 + 4 + 6 + 2)) rfl ?_
  refine rn_lcmp dL_law_2222 ?_
  refine rn_topi (y := 0) (by decide +kernel) ?_
  refine rn_if_eq (tgt := 2228) dL_law_2223 rfl (fun _ => ?_) (fun q => absurd (by decide) q)
  exact law_tail rfl rfl
end LC
