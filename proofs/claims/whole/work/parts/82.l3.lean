section LAW3
variable {p : Program} {l : Launch} {e : Env} {s : State} {m : MethodId} {below : List Frame} {meth : Method} {c : Code} {cells slots : Nat} {Q : State → Prop} {bS L i : Nat} {xs : Nat → Int32} {g : Gm} {A : Nat → Prop} {k : SgT} {a : Nat → Nat → Nat} {b : Nat → Nat}
set_option maxRecDepth 20000 in
theorem law_parts (cx : LC p s m c bS L xs g A k) (hi : i + 5 < L) (hcs : cells + 28 ≤ 600000 ∧ slots + 759 ≤ 7302249) (hgo : LGo p l e s m below meth c bS Q g A a b 1909 i (cells + 28) (slots + 759)) : LGo p l e s m below meth c bS Q g A a b 1517 i cells slots := by
  intro Z T1 T2 T3 G R P O B U V M R' kt t H locs ls h hw hl
  obtain ⟨⟨hx, hb, hml, hown, hts⟩, ⟨hX, hbl, hbA, hL⟩, hK, hA, hSg⟩ := id cx
  have hS : CallFix p m c cL_law 4 s #[Value.ref bS] wsL_law RL := ⟨hx, hb, hml, hown, hts⟩
  refine lv_aload_n hx hb dL_law_1517 rfl (lv_at hl 2 rfl) ?_
  refine larg cx hw 1 (by omega) hl 1518 (by decide) dL_law_1518 dL_law_1519 dL_law_1520 dL_law_1521 dL_law_1522 ?_
  refine larg cx hw 2 (by omega) hl 1523 (by decide) dL_law_1523 dL_law_1524 dL_law_1525 dL_law_1526 dL_law_1527 ?_
  refine larg cx hw 3 (by omega) hl 1528 (by decide) dL_law_1528 dL_law_1529 dL_law_1530 dL_law_1531 dL_law_1532 ?_
  obtain ⟨ra, Z', V', h1, h2, h3⟩ := op_parts h T3 O B M (xs (i + 1)) (xs (i + 2)) (xs (i + 3))
  refine rVWp (wq := wC g a Z' T1 T2 T3 G R P O B ++ wRf g b U V M R' kt t) (rs := wRf g b U V M R' kt t) (As := [.int (xs (i + 1)), .int (xs (i + 2)), .int (xs (i + 3))]) (rest := []) (q0 := 0) hS (c_X6_parts l g (a 0) (a 1) (a 2) (a 3) (a 4) (a 5) (a 6) (a 7) (a 8) Z T1 T2 T3 G R P O B (xs (i + 1)) (xs (i + 2)) (xs (i + 3)) h1) gL_law_X6_parts rfl hd_X6_parts ⟨Nat.le_of_ble_eq_true rfl, Nat.le_of_ble_eq_true rfl⟩ hK hw hA (List.Perm.refl _) rfl (List.Perm.refl _) rfl rfl rfl rfl hl.1 rfl (Nat.le_of_ble_eq_true rfl) dL_law_1533 ⟨show cells ≤ 600000 by omega, show slots ≤ 7302249 by omega⟩ (fun H locs hw => ?_)
  refine W.eq (g2 := F0 m 1536 ls [.int ra]) rfl ?_
  refine lv_aload_n hx hb dL_law_1536 rfl (lv_at hl 3 rfl) ?_
  refine larg cx hw 1 (by omega) hl 1537 (by decide) dL_law_1537 dL_law_1538 dL_law_1539 dL_law_1540 dL_law_1541 ?_
  refine larg cx hw 2 (by omega) hl 1542 (by decide) dL_law_1542 dL_law_1543 dL_law_1544 dL_law_1545 dL_law_1546 ?_
  refine larg cx hw 3 (by omega) hl 1547 (by decide) dL_law_1547 dL_law_1548 dL_law_1549 dL_law_1550 dL_law_1551 ?_
  refine rVWp (wq := wC g a Z' T1 T2 T3 G R P O B ++ wRf g b U V' M R' kt t) (rs := wC g a Z' T1 T2 T3 G R P O B ++ (wOT g t ++ wOT g kt)) (As := [.int (xs (i + 1)), .int (xs (i + 2)), .int (xs (i + 3))]) (rest := [.int ra]) (q0 := 0) hS (c_X7_parts l g b (tvOf kt) (tvOf t) U V M R' (xs (i + 1)) (xs (i + 2)) (xs (i + 3)) h2) gL_law_X7_parts rfl hd_X7_parts ⟨Nat.le_of_ble_eq_true rfl, Nat.le_of_ble_eq_true rfl⟩ hK hw hA (lpmC _ _ _ _) rfl (lpmC _ _ _ _) rfl rfl rfl rfl hl.1 rfl (Nat.le_of_ble_eq_true rfl) dL_law_1552 ⟨show cells ≤ 600000 by omega, show slots ≤ 7302249 by omega⟩ (fun H locs hw => ?_)
  refine W.eq (g2 := F0 m 1555 ls [.int ra, .int ra]) rfl ?_
  refine W.widen (k := cells + 28) (n := slots + 759) (by omega) (by omega) ?_
  refine lv_icmp_eq (tgt := 1909) hx hb dL_law_1555 (by decide) (fun _ => ?_) (fun z => absurd rfl z)
  exact hgo Z' T1 T2 T3 G R P O B U V' M R' kt t H locs ls h3 hw hl
set_option maxRecDepth 20000 in
theorem law_judge (cx : LC p s m c bS L xs g A k) (hi : i + 5 < L) (hcs : cells + 28 ≤ 600000 ∧ slots + 759 ≤ 7302249) (hgo : LGo p l e s m below meth c bS Q g A a b 1909 i (cells + 28) (slots + 759)) : LGo p l e s m below meth c bS Q g A a b 1560 i cells slots := by
  intro Z T1 T2 T3 G R P O B U V M R' kt t H locs ls h hw hl
  obtain ⟨⟨hx, hb, hml, hown, hts⟩, ⟨hX, hbl, hbA, hL⟩, hK, hA, hSg⟩ := id cx
  have hS : CallFix p m c cL_law 4 s #[Value.ref bS] wsL_law RL := ⟨hx, hb, hml, hown, hts⟩
  refine lv_aload_n hx hb dL_law_1560 rfl (lv_at hl 2 rfl) ?_
  refine larg cx hw 1 (by omega) hl 1561 (by decide) dL_law_1561 dL_law_1562 dL_law_1563 dL_law_1564 dL_law_1565 ?_
  refine larg cx hw 2 (by omega) hl 1566 (by decide) dL_law_1566 dL_law_1567 dL_law_1568 dL_law_1569 dL_law_1570 ?_
  obtain ⟨ra, Z', T3', V', tp', h1, h2, h3⟩ := op_judge h T3 O B M (tpOf t) (xs (i + 1)) (xs (i + 2))
  refine rVWp (wq := wC g a Z' T1 T2 T3' G R P O B ++ wRf g b U V M R' kt t) (rs := wRf g b U V M R' kt t) (As := [.int (xs (i + 1)), .int (xs (i + 2))]) (rest := []) (q0 := 0) hS (c_X6_judge l g (a 0) (a 1) (a 2) (a 3) (a 4) (a 5) (a 6) (a 7) (a 8) Z T1 T2 T3 G R P O B (xs (i + 1)) (xs (i + 2)) h1) gL_law_X6_judge rfl hd_X6_judge ⟨Nat.le_of_ble_eq_true rfl, Nat.le_of_ble_eq_true rfl⟩ hK hw hA (List.Perm.refl _) rfl (List.Perm.refl _) rfl rfl rfl rfl hl.1 rfl (Nat.le_of_ble_eq_true rfl) dL_law_1571 ⟨show cells ≤ 600000 by omega, show slots ≤ 7302249 by omega⟩ (fun H locs hw => ?_)
  refine W.eq (g2 := F0 m 1574 ls [.int ra]) rfl ?_
  refine lv_aload_n hx hb dL_law_1574 rfl (lv_at hl 3 rfl) ?_
  refine larg cx hw 1 (by omega) hl 1575 (by decide) dL_law_1575 dL_law_1576 dL_law_1577 dL_law_1578 dL_law_1579 ?_
  refine larg cx hw 2 (by omega) hl 1580 (by decide) dL_law_1580 dL_law_1581 dL_law_1582 dL_law_1583 dL_law_1584 ?_
  refine rVBp (t := t) (wr := wC g a Z' T1 T2 T3' G R P O B ++ wOT g kt) (As := [.int (xs (i + 1)), .int (xs (i + 2))]) (rest := [.int ra]) hS (c_X7_judge l g b U V M R' (tvOf kt) t (tpOf t) rfl (xs (i + 1)) (xs (i + 2)) h2) gL_law_X7_judge rfl hd_X7_judge ⟨Nat.le_of_ble_eq_true rfl, Nat.le_of_ble_eq_true rfl⟩ hK hw hA (lpmA _ _ _ _) rfl rfl hl.1 rfl (Nat.le_of_ble_eq_true rfl) dL_law_1585 ⟨show cells + 28 * nlOf t ≤ 600000 by have := nl_le t; omega, show slots + 759 * nlOf t ≤ 7302249 by have := nl_le t; omega⟩ (fun t2 H locs ht2 hw => ?_)
  have hw : Wk g A s.heap H locs (wC g a Z' T1 T2 T3' G R P O B ++ wRf g b U V' M R' kt t2) := hw.perm (lpmA' _ _ _ _)
  refine W.eq (g2 := F0 m 1588 ls [.int ra, .int ra]) rfl ?_
  refine W.widen (k := cells + 28) (n := slots + 759) (by have := nl_le t; omega) (by have := nl_le t; omega) ?_
  refine lv_icmp_eq (tgt := 1909) hx hb dL_law_1588 (by decide) (fun _ => ?_) (fun z => absurd rfl z)
  exact hgo Z' T1 T2 T3' G R P O B U V' M R' kt t2 H locs ls h3 hw hl
set_option maxRecDepth 20000 in
theorem law_heard (cx : LC p s m c bS L xs g A k) (hi : i + 5 < L) (hcs : cells + 28 ≤ 600000 ∧ slots + 759 ≤ 7302249) (hgo : LGo p l e s m below meth c bS Q g A a b 1909 i (cells + 28) (slots + 759)) : LGo p l e s m below meth c bS Q g A a b 1593 i cells slots := by
  intro Z T1 T2 T3 G R P O B U V M R' kt t H locs ls h hw hl
  obtain ⟨⟨hx, hb, hml, hown, hts⟩, ⟨hX, hbl, hbA, hL⟩, hK, hA, hSg⟩ := id cx
  have hS : CallFix p m c cL_law 4 s #[Value.ref bS] wsL_law RL := ⟨hx, hb, hml, hown, hts⟩
  refine lv_aload_n hx hb dL_law_1593 rfl (lv_at hl 2 rfl) ?_
  refine larg cx hw 1 (by omega) hl 1594 (by decide) dL_law_1594 dL_law_1595 dL_law_1596 dL_law_1597 dL_law_1598 ?_
  refine larg cx hw 2 (by omega) hl 1599 (by decide) dL_law_1599 dL_law_1600 dL_law_1601 dL_law_1602 dL_law_1603 ?_
  refine larg cx hw 3 (by omega) hl 1604 (by decide) dL_law_1604 dL_law_1605 dL_law_1606 dL_law_1607 dL_law_1608 ?_
  obtain ⟨ra, Z', T3', V', tp', h1, h2, h3⟩ := op_heard h T3 O B M (tpOf t) (xs (i + 1)) (xs (i + 2)) (xs (i + 3))
  refine rVWp (wq := wC g a Z' T1 T2 T3' G R P O B ++ wRf g b U V M R' kt t) (rs := wRf g b U V M R' kt t) (As := [.int (xs (i + 1)), .int (xs (i + 2)), .int (xs (i + 3))]) (rest := []) (q0 := 0) hS (c_X6_heard l g (a 0) (a 1) (a 2) (a 3) (a 4) (a 5) (a 6) (a 7) (a 8) Z T1 T2 T3 G R P O B (xs (i + 1)) (xs (i + 2)) (xs (i + 3)) h1) gL_law_X6_heard rfl hd_X6_heard ⟨Nat.le_of_ble_eq_true rfl, Nat.le_of_ble_eq_true rfl⟩ hK hw hA (List.Perm.refl _) rfl (List.Perm.refl _) rfl rfl rfl rfl hl.1 rfl (Nat.le_of_ble_eq_true rfl) dL_law_1609 ⟨show cells ≤ 600000 by omega, show slots ≤ 7302249 by omega⟩ (fun H locs hw => ?_)
  refine W.eq (g2 := F0 m 1612 ls [.int ra]) rfl ?_
  refine lv_aload_n hx hb dL_law_1612 rfl (lv_at hl 3 rfl) ?_
  refine larg cx hw 1 (by omega) hl 1613 (by decide) dL_law_1613 dL_law_1614 dL_law_1615 dL_law_1616 dL_law_1617 ?_
  refine larg cx hw 2 (by omega) hl 1618 (by decide) dL_law_1618 dL_law_1619 dL_law_1620 dL_law_1621 dL_law_1622 ?_
  refine larg cx hw 3 (by omega) hl 1623 (by decide) dL_law_1623 dL_law_1624 dL_law_1625 dL_law_1626 dL_law_1627 ?_
  refine rVBp (t := t) (wr := wC g a Z' T1 T2 T3' G R P O B ++ wOT g kt) (As := [.int (xs (i + 1)), .int (xs (i + 2)), .int (xs (i + 3))]) (rest := [.int ra]) hS (c_X7_heard l g b U V M R' (tvOf kt) t (tpOf t) rfl (xs (i + 1)) (xs (i + 2)) (xs (i + 3)) h2) gL_law_X7_heard rfl hd_X7_heard ⟨Nat.le_of_ble_eq_true rfl, Nat.le_of_ble_eq_true rfl⟩ hK hw hA (lpmA _ _ _ _) rfl rfl hl.1 rfl (Nat.le_of_ble_eq_true rfl) dL_law_1628 ⟨show cells + 28 * nlOf t ≤ 600000 by have := nl_le t; omega, show slots + 759 * nlOf t ≤ 7302249 by have := nl_le t; omega⟩ (fun t2 H locs ht2 hw => ?_)
  have hw : Wk g A s.heap H locs (wC g a Z' T1 T2 T3' G R P O B ++ wRf g b U V' M R' kt t2) := hw.perm (lpmA' _ _ _ _)
  refine W.eq (g2 := F0 m 1631 ls [.int ra, .int ra]) rfl ?_
  refine W.widen (k := cells + 28) (n := slots + 759) (by have := nl_le t; omega) (by have := nl_le t; omega) ?_
  refine lv_icmp_eq (tgt := 1909) hx hb dL_law_1631 (by decide) (fun _ => ?_) (fun z => absurd rfl z)
  exact hgo Z' T1 T2 T3' G R P O B U V' M R' kt t2 H locs ls h3 hw hl
set_option maxRecDepth 20000 in
theorem law_falsely (cx : LC p s m c bS L xs g A k) (hi : i + 5 < L) (hcs : cells + 28 ≤ 600000 ∧ slots + 759 ≤ 7302249) (hgo : LGo p l e s m below meth c bS Q g A a b 1909 i (cells + 28) (slots + 759)) : LGo p l e s m below meth c bS Q g A a b 1636 i cells slots := by
  intro Z T1 T2 T3 G R P O B U V M R' kt t H locs ls h hw hl
  obtain ⟨⟨hx, hb, hml, hown, hts⟩, ⟨hX, hbl, hbA, hL⟩, hK, hA, hSg⟩ := id cx
  have hS : CallFix p m c cL_law 4 s #[Value.ref bS] wsL_law RL := ⟨hx, hb, hml, hown, hts⟩
  refine lv_aload_n hx hb dL_law_1636 rfl (lv_at hl 2 rfl) ?_
  refine larg cx hw 1 (by omega) hl 1637 (by decide) dL_law_1637 dL_law_1638 dL_law_1639 dL_law_1640 dL_law_1641 ?_
  refine larg cx hw 2 (by omega) hl 1642 (by decide) dL_law_1642 dL_law_1643 dL_law_1644 dL_law_1645 dL_law_1646 ?_
  obtain ⟨ra, Z', V', h1, h2, h3⟩ := op_falsely h T3 O B M (xs (i + 1)) (xs (i + 2))
  refine rVWp (wq := wC g a Z' T1 T2 T3 G R P O B ++ wRf g b U V M R' kt t) (rs := wRf g b U V M R' kt t) (As := [.int (xs (i + 1)), .int (xs (i + 2))]) (rest := []) (q0 := 0) hS (c_X6_falsely l g (a 0) (a 1) (a 2) (a 3) (a 4) (a 5) (a 6) (a 7) (a 8) Z T1 T2 T3 G R P O B (xs (i + 1)) (xs (i + 2)) h1) gL_law_X6_falsely rfl hd_X6_falsely ⟨Nat.le_of_ble_eq_true rfl, Nat.le_of_ble_eq_true rfl⟩ hK hw hA (List.Perm.refl _) rfl (List.Perm.refl _) rfl rfl rfl rfl hl.1 rfl (Nat.le_of_ble_eq_true rfl) dL_law_1647 ⟨show cells ≤ 600000 by omega, show slots ≤ 7302249 by omega⟩ (fun H locs hw => ?_)
  refine W.eq (g2 := F0 m 1650 ls [.int ra]) rfl ?_
  refine lv_aload_n hx hb dL_law_1650 rfl (lv_at hl 3 rfl) ?_
  refine larg cx hw 1 (by omega) hl 1651 (by decide) dL_law_1651 dL_law_1652 dL_law_1653 dL_law_1654 dL_law_1655 ?_
  refine larg cx hw 2 (by omega) hl 1656 (by decide) dL_law_1656 dL_law_1657 dL_law_1658 dL_law_1659 dL_law_1660 ?_
  refine rVWp (wq := wC g a Z' T1 T2 T3 G R P O B ++ wRf g b U V' M R' kt t) (rs := wC g a Z' T1 T2 T3 G R P O B ++ (wOT g t ++ wOT g kt)) (As := [.int (xs (i + 1)), .int (xs (i + 2))]) (rest := [.int ra]) (q0 := 0) hS (c_X7_falsely l g b (tvOf kt) (tvOf t) U V M R' (xs (i + 1)) (xs (i + 2)) h2) gL_law_X7_falsely rfl hd_X7_falsely ⟨Nat.le_of_ble_eq_true rfl, Nat.le_of_ble_eq_true rfl⟩ hK hw hA (lpmC _ _ _ _) rfl (lpmC _ _ _ _) rfl rfl rfl rfl hl.1 rfl (Nat.le_of_ble_eq_true rfl) dL_law_1661 ⟨show cells ≤ 600000 by omega, show slots ≤ 7302249 by omega⟩ (fun H locs hw => ?_)
  refine W.eq (g2 := F0 m 1664 ls [.int ra, .int ra]) rfl ?_
  refine W.widen (k := cells + 28) (n := slots + 759) (by omega) (by omega) ?_
  refine lv_icmp_eq (tgt := 1909) hx hb dL_law_1664 (by decide) (fun _ => ?_) (fun z => absurd rfl z)
  exact hgo Z' T1 T2 T3 G R P O B U V' M R' kt t H locs ls h3 hw hl
set_option maxRecDepth 20000 in
theorem law_surely (cx : LC p s m c bS L xs g A k) (hi : i + 5 < L) (hcs : cells + 28 ≤ 600000 ∧ slots + 759 ≤ 7302249) (hgo : LGo p l e s m below meth c bS Q g A a b 1909 i (cells + 28) (slots + 759)) : LGo p l e s m below meth c bS Q g A a b 1669 i cells slots := by
  intro Z T1 T2 T3 G R P O B U V M R' kt t H locs ls h hw hl
  obtain ⟨⟨hx, hb, hml, hown, hts⟩, ⟨hX, hbl, hbA, hL⟩, hK, hA, hSg⟩ := id cx
  have hS : CallFix p m c cL_law 4 s #[Value.ref bS] wsL_law RL := ⟨hx, hb, hml, hown, hts⟩
  refine lv_aload_n hx hb dL_law_1669 rfl (lv_at hl 2 rfl) ?_
  refine larg cx hw 1 (by omega) hl 1670 (by decide) dL_law_1670 dL_law_1671 dL_law_1672 dL_law_1673 dL_law_1674 ?_
  refine larg cx hw 2 (by omega) hl 1675 (by decide) dL_law_1675 dL_law_1676 dL_law_1677 dL_law_1678 dL_law_1679 ?_
  refine larg cx hw 3 (by omega) hl 1680 (by decide) dL_law_1680 dL_law_1681 dL_law_1682 dL_law_1683 dL_law_1684 ?_
  obtain ⟨ra, Z', V', h1, h2, h3⟩ := op_surely h T3 O B M (xs (i + 1)) (xs (i + 2)) (xs (i + 3))
  refine rVWp (wq := wC g a Z' T1 T2 T3 G R P O B ++ wRf g b U V M R' kt t) (rs := wRf g b U V M R' kt t) (As := [.int (xs (i + 1)), .int (xs (i + 2)), .int (xs (i + 3))]) (rest := []) (q0 := 0) hS (c_X6_surely l g (a 0) (a 1) (a 2) (a 3) (a 4) (a 5) (a 6) (a 7) (a 8) Z T1 T2 T3 G R P O B (xs (i + 1)) (xs (i + 2)) (xs (i + 3)) h1) gL_law_X6_surely rfl hd_X6_surely ⟨Nat.le_of_ble_eq_true rfl, Nat.le_of_ble_eq_true rfl⟩ hK hw hA (List.Perm.refl _) rfl (List.Perm.refl _) rfl rfl rfl rfl hl.1 rfl (Nat.le_of_ble_eq_true rfl) dL_law_1685 ⟨show cells ≤ 600000 by omega, show slots ≤ 7302249 by omega⟩ (fun H locs hw => ?_)
  refine W.eq (g2 := F0 m 1688 ls [.int ra]) rfl ?_
  refine lv_aload_n hx hb dL_law_1688 rfl (lv_at hl 3 rfl) ?_
  refine larg cx hw 1 (by omega) hl 1689 (by decide) dL_law_1689 dL_law_1690 dL_law_1691 dL_law_1692 dL_law_1693 ?_
  refine larg cx hw 2 (by omega) hl 1694 (by decide) dL_law_1694 dL_law_1695 dL_law_1696 dL_law_1697 dL_law_1698 ?_
  refine larg cx hw 3 (by omega) hl 1699 (by decide) dL_law_1699 dL_law_1700 dL_law_1701 dL_law_1702 dL_law_1703 ?_
  refine rVWp (wq := wC g a Z' T1 T2 T3 G R P O B ++ wRf g b U V' M R' kt t) (rs := wC g a Z' T1 T2 T3 G R P O B ++ (wOT g t ++ wOT g kt)) (As := [.int (xs (i + 1)), .int (xs (i + 2)), .int (xs (i + 3))]) (rest := [.int ra]) (q0 := 0) hS (c_X7_surely l g b (tvOf kt) (tvOf t) U V M R' (xs (i + 1)) (xs (i + 2)) (xs (i + 3)) h2) gL_law_X7_surely rfl hd_X7_surely ⟨Nat.le_of_ble_eq_true rfl, Nat.le_of_ble_eq_true rfl⟩ hK hw hA (lpmC _ _ _ _) rfl (lpmC _ _ _ _) rfl rfl rfl rfl hl.1 rfl (Nat.le_of_ble_eq_true rfl) dL_law_1704 ⟨show cells ≤ 600000 by omega, show slots ≤ 7302249 by omega⟩ (fun H locs hw => ?_)
  refine W.eq (g2 := F0 m 1707 ls [.int ra, .int ra]) rfl ?_
  refine W.widen (k := cells + 28) (n := slots + 759) (by omega) (by omega) ?_
  refine lv_icmp_eq (tgt := 1909) hx hb dL_law_1707 (by decide) (fun _ => ?_) (fun z => absurd rfl z)
  exact hgo Z' T1 T2 T3 G R P O B U V' M R' kt t H locs ls h3 hw hl
set_option maxRecDepth 20000 in
theorem law_free (cx : LC p s m c bS L xs g A k) (hi : i + 5 < L) (hcs : cells + 28 ≤ 600000 ∧ slots + 759 ≤ 7302249) (hgo : LGo p l e s m below meth c bS Q g A a b 1909 i (cells + 28) (slots + 759)) : LGo p l e s m below meth c bS Q g A a b 1712 i cells slots := by
  intro Z T1 T2 T3 G R P O B U V M R' kt t H locs ls h hw hl
  obtain ⟨⟨hx, hb, hml, hown, hts⟩, ⟨hX, hbl, hbA, hL⟩, hK, hA, hSg⟩ := id cx
  have hS : CallFix p m c cL_law 4 s #[Value.ref bS] wsL_law RL := ⟨hx, hb, hml, hown, hts⟩
  refine lv_aload_n hx hb dL_law_1712 rfl (lv_at hl 2 rfl) ?_
  refine larg cx hw 1 (by omega) hl 1713 (by decide) dL_law_1713 dL_law_1714 dL_law_1715 dL_law_1716 dL_law_1717 ?_
  refine larg cx hw 2 (by omega) hl 1718 (by decide) dL_law_1718 dL_law_1719 dL_law_1720 dL_law_1721 dL_law_1722 ?_
  refine larg cx hw 3 (by omega) hl 1723 (by decide) dL_law_1723 dL_law_1724 dL_law_1725 dL_law_1726 dL_law_1727 ?_
  obtain ⟨ra, Z', T3', V', tp', h1, h2, h3⟩ := op_free h T3 O B M (tpOf t) (xs (i + 1)) (xs (i + 2)) (xs (i + 3))
  refine rVWp (wq := wC g a Z' T1 T2 T3' G R P O B ++ wRf g b U V M R' kt t) (rs := wRf g b U V M R' kt t) (As := [.int (xs (i + 1)), .int (xs (i + 2)), .int (xs (i + 3))]) (rest := []) (q0 := 0) hS (c_X6_free l g (a 0) (a 1) (a 2) (a 3) (a 4) (a 5) (a 6) (a 7) (a 8) Z T1 T2 T3 G R P O B (xs (i + 1)) (xs (i + 2)) (xs (i + 3)) h1) gL_law_X6_free rfl hd_X6_free ⟨Nat.le_of_ble_eq_true rfl, Nat.le_of_ble_eq_true rfl⟩ hK hw hA (List.Perm.refl _) rfl (List.Perm.refl _) rfl rfl rfl rfl hl.1 rfl (Nat.le_of_ble_eq_true rfl) dL_law_1728 ⟨show cells ≤ 600000 by omega, show slots ≤ 7302249 by omega⟩ (fun H locs hw => ?_)
  refine W.eq (g2 := F0 m 1731 ls [.int ra]) rfl ?_
  refine lv_aload_n hx hb dL_law_1731 rfl (lv_at hl 3 rfl) ?_
  refine larg cx hw 1 (by omega) hl 1732 (by decide) dL_law_1732 dL_law_1733 dL_law_1734 dL_law_1735 dL_law_1736 ?_
  refine larg cx hw 2 (by omega) hl 1737 (by decide) dL_law_1737 dL_law_1738 dL_law_1739 dL_law_1740 dL_law_1741 ?_
  refine larg cx hw 3 (by omega) hl 1742 (by decide) dL_law_1742 dL_law_1743 dL_law_1744 dL_law_1745 dL_law_1746 ?_
  refine rVBp (t := t) (wr := wC g a Z' T1 T2 T3' G R P O B ++ wOT g kt) (As := [.int (xs (i + 1)), .int (xs (i + 2)), .int (xs (i + 3))]) (rest := [.int ra]) hS (c_X7_free l g b U V M R' (tvOf kt) t (tpOf t) rfl (xs (i + 1)) (xs (i + 2)) (xs (i + 3)) h2) gL_law_X7_free rfl hd_X7_free ⟨Nat.le_of_ble_eq_true rfl, Nat.le_of_ble_eq_true rfl⟩ hK hw hA (lpmA _ _ _ _) rfl rfl hl.1 rfl (Nat.le_of_ble_eq_true rfl) dL_law_1747 ⟨show cells + 28 * nlOf t ≤ 600000 by have := nl_le t; omega, show slots + 759 * nlOf t ≤ 7302249 by have := nl_le t; omega⟩ (fun t2 H locs ht2 hw => ?_)
  have hw : Wk g A s.heap H locs (wC g a Z' T1 T2 T3' G R P O B ++ wRf g b U V' M R' kt t2) := hw.perm (lpmA' _ _ _ _)
  refine W.eq (g2 := F0 m 1750 ls [.int ra, .int ra]) rfl ?_
  refine W.widen (k := cells + 28) (n := slots + 759) (by have := nl_le t; omega) (by have := nl_le t; omega) ?_
  refine lv_icmp_eq (tgt := 1909) hx hb dL_law_1750 (by decide) (fun _ => ?_) (fun z => absurd rfl z)
  exact hgo Z' T1 T2 T3' G R P O B U V' M R' kt t2 H locs ls h3 hw hl
set_option maxRecDepth 20000 in
theorem law_evening (cx : LC p s m c bS L xs g A k) (hi : i + 5 < L) (hcs : cells + 28 ≤ 600000 ∧ slots + 759 ≤ 7302249) (hgo : LGo p l e s m below meth c bS Q g A a b 1909 i (cells + 28) (slots + 759)) : LGo p l e s m below meth c bS Q g A a b 1755 i cells slots := by
  intro Z T1 T2 T3 G R P O B U V M R' kt t H locs ls h hw hl
  obtain ⟨⟨hx, hb, hml, hown, hts⟩, ⟨hX, hbl, hbA, hL⟩, hK, hA, hSg⟩ := id cx
  have hS : CallFix p m c cL_law 4 s #[Value.ref bS] wsL_law RL := ⟨hx, hb, hml, hown, hts⟩
  refine lv_aload_n hx hb dL_law_1755 rfl (lv_at hl 2 rfl) ?_
  refine larg cx hw 1 (by omega) hl 1756 (by decide) dL_law_1756 dL_law_1757 dL_law_1758 dL_law_1759 dL_law_1760 ?_
  refine larg cx hw 2 (by omega) hl 1761 (by decide) dL_law_1761 dL_law_1762 dL_law_1763 dL_law_1764 dL_law_1765 ?_
  obtain ⟨ra, Z', T1', T3', U', V', tp', h1, h2, h3⟩ := op_evening h T3 O B M (tpOf t) (xs (i + 1)) (xs (i + 2))
  refine rVWp (wq := wC g a Z' T1' T2 T3' G R P O B ++ wRf g b U V M R' kt t) (rs := wRf g b U V M R' kt t) (As := [.int (xs (i + 1)), .int (xs (i + 2))]) (rest := []) (q0 := 0) hS (c_X6_evening l g (a 0) (a 1) (a 2) (a 3) (a 4) (a 5) (a 6) (a 7) (a 8) Z T1 T2 T3 G R P O B (xs (i + 1)) (xs (i + 2)) h1) gL_law_X6_evening rfl hd_X6_evening ⟨Nat.le_of_ble_eq_true rfl, Nat.le_of_ble_eq_true rfl⟩ hK hw hA (List.Perm.refl _) rfl (List.Perm.refl _) rfl rfl rfl rfl hl.1 rfl (Nat.le_of_ble_eq_true rfl) dL_law_1766 ⟨show cells ≤ 600000 by omega, show slots ≤ 7302249 by omega⟩ (fun H locs hw => ?_)
  refine W.eq (g2 := F0 m 1769 ls [.int ra]) rfl ?_
  refine lv_aload_n hx hb dL_law_1769 rfl (lv_at hl 3 rfl) ?_
  refine larg cx hw 1 (by omega) hl 1770 (by decide) dL_law_1770 dL_law_1771 dL_law_1772 dL_law_1773 dL_law_1774 ?_
  refine larg cx hw 2 (by omega) hl 1775 (by decide) dL_law_1775 dL_law_1776 dL_law_1777 dL_law_1778 dL_law_1779 ?_
  refine rVBp (t := t) (wr := wC g a Z' T1' T2 T3' G R P O B ++ wOT g kt) (As := [.int (xs (i + 1)), .int (xs (i + 2))]) (rest := [.int ra]) hS (c_X7_evening l g b U V M R' (tvOf kt) t (tpOf t) rfl (xs (i + 1)) (xs (i + 2)) h2) gL_law_X7_evening rfl hd_X7_evening ⟨Nat.le_of_ble_eq_true rfl, Nat.le_of_ble_eq_true rfl⟩ hK hw hA (lpmA _ _ _ _) rfl rfl hl.1 rfl (Nat.le_of_ble_eq_true rfl) dL_law_1780 ⟨show cells + 28 * nlOf t ≤ 600000 by have := nl_le t; omega, show slots + 759 * nlOf t ≤ 7302249 by have := nl_le t; omega⟩ (fun t2 H locs ht2 hw => ?_)
  have hw : Wk g A s.heap H locs (wC g a Z' T1' T2 T3' G R P O B ++ wRf g b U' V' M R' kt t2) := hw.perm (lpmA' _ _ _ _)
  refine W.eq (g2 := F0 m 1783 ls [.int ra, .int ra]) rfl ?_
  refine W.widen (k := cells + 28) (n := slots + 759) (by have := nl_le t; omega) (by have := nl_le t; omega) ?_
  refine lv_icmp_eq (tgt := 1909) hx hb dL_law_1783 (by decide) (fun _ => ?_) (fun z => absurd rfl z)
  exact hgo Z' T1' T2 T3' G R P O B U' V' M R' kt t2 H locs ls h3 hw hl
set_option maxRecDepth 20000 in
theorem law_talk (cx : LC p s m c bS L xs g A k) (hi : i + 5 < L) (hcs : cells + 28 ≤ 600000 ∧ slots + 759 ≤ 7302249) (hgo : LGo p l e s m below meth c bS Q g A a b 1909 i (cells + 28) (slots + 759)) : LGo p l e s m below meth c bS Q g A a b 1788 i cells slots := by
  intro Z T1 T2 T3 G R P O B U V M R' kt t H locs ls h hw hl
  obtain ⟨⟨hx, hb, hml, hown, hts⟩, ⟨hX, hbl, hbA, hL⟩, hK, hA, hSg⟩ := id cx
  have hS : CallFix p m c cL_law 4 s #[Value.ref bS] wsL_law RL := ⟨hx, hb, hml, hown, hts⟩
  refine lv_aload_n hx hb dL_law_1788 rfl (lv_at hl 2 rfl) ?_
  refine larg cx hw 1 (by omega) hl 1789 (by decide) dL_law_1789 dL_law_1790 dL_law_1791 dL_law_1792 dL_law_1793 ?_
  obtain ⟨ra, Z', T1', U', V', h1, h2, h3⟩ := op_talk h T3 O B M (xs (i + 1))
  refine rVWp (wq := wC g a Z' T1' T2 T3 G R P O B ++ wRf g b U V M R' kt t) (rs := wRf g b U V M R' kt t) (As := [.int (xs (i + 1))]) (rest := []) (q0 := 0) hS (c_X6_talk l g (a 0) (a 1) (a 2) (a 3) (a 4) (a 5) (a 6) (a 7) (a 8) Z T1 T2 T3 G R P O B (xs (i + 1)) h1) gL_law_X6_talk rfl hd_X6_talk ⟨Nat.le_of_ble_eq_true rfl, Nat.le_of_ble_eq_true rfl⟩ hK hw hA (List.Perm.refl _) rfl (List.Perm.refl _) rfl rfl rfl rfl hl.1 rfl (Nat.le_of_ble_eq_true rfl) dL_law_1794 ⟨show cells ≤ 600000 by omega, show slots ≤ 7302249 by omega⟩ (fun H locs hw => ?_)
  refine W.eq (g2 := F0 m 1797 ls [.int ra]) rfl ?_
  refine lv_aload_n hx hb dL_law_1797 rfl (lv_at hl 3 rfl) ?_
  refine larg cx hw 1 (by omega) hl 1798 (by decide) dL_law_1798 dL_law_1799 dL_law_1800 dL_law_1801 dL_law_1802 ?_
  refine rVWp (wq := wC g a Z' T1' T2 T3 G R P O B ++ wRf g b U' V' M R' kt t) (rs := wC g a Z' T1' T2 T3 G R P O B ++ (wOT g t ++ wOT g kt)) (As := [.int (xs (i + 1))]) (rest := [.int ra]) (q0 := 0) hS (c_X7_talk l g b (tvOf kt) (tvOf t) U V M R' (xs (i + 1)) h2) gL_law_X7_talk rfl hd_X7_talk ⟨Nat.le_of_ble_eq_true rfl, Nat.le_of_ble_eq_true rfl⟩ hK hw hA (lpmC _ _ _ _) rfl (lpmC _ _ _ _) rfl rfl rfl rfl hl.1 rfl (Nat.le_of_ble_eq_true rfl) dL_law_1803 ⟨show cells ≤ 600000 by omega, show slots ≤ 7302249 by omega⟩ (fun H locs hw => ?_)
  refine W.eq (g2 := F0 m 1806 ls [.int ra, .int ra]) rfl ?_
  refine W.widen (k := cells + 28) (n := slots + 759) (by omega) (by omega) ?_
  refine lv_icmp_eq (tgt := 1909) hx hb dL_law_1806 (by decide) (fun _ => ?_) (fun z => absurd rfl z)
  exact hgo Z' T1' T2 T3 G R P O B U' V' M R' kt t H locs ls h3 hw hl
set_option maxRecDepth 20000 in
theorem law_round (cx : LC p s m c bS L xs g A k) (hi : i + 5 < L) (hcs : cells + 28 ≤ 600000 ∧ slots + 759 ≤ 7302249) (hgo : LGo p l e s m below meth c bS Q g A a b 1909 i (cells + 28) (slots + 759)) : LGo p l e s m below meth c bS Q g A a b 1811 i cells slots := by
  intro Z T1 T2 T3 G R P O B U V M R' kt t H locs ls h hw hl
  obtain ⟨⟨hx, hb, hml, hown, hts⟩, ⟨hX, hbl, hbA, hL⟩, hK, hA, hSg⟩ := id cx
  have hS : CallFix p m c cL_law 4 s #[Value.ref bS] wsL_law RL := ⟨hx, hb, hml, hown, hts⟩
  refine lv_aload_n hx hb dL_law_1811 rfl (lv_at hl 2 rfl) ?_
  obtain ⟨ra, T1', U', h1, h2, h3⟩ := op_round h T3 O B M
  refine rVWp (wq := wC g a Z T1' T2 T3 G R P O B ++ wRf g b U V M R' kt t) (rs := wRf g b U V M R' kt t) (As := []) (rest := []) (q0 := 0) hS (c_X6_round l g (a 0) (a 1) (a 2) (a 3) (a 4) (a 5) (a 6) (a 7) (a 8) Z T1 T2 T3 G R P O B h1) gL_law_X6_round rfl hd_X6_round ⟨Nat.le_of_ble_eq_true rfl, Nat.le_of_ble_eq_true rfl⟩ hK hw hA (List.Perm.refl _) rfl (List.Perm.refl _) rfl rfl rfl rfl hl.1 rfl (Nat.le_of_ble_eq_true rfl) dL_law_1812 ⟨show cells ≤ 600000 by omega, show slots ≤ 7302249 by omega⟩ (fun H locs hw => ?_)
  refine W.eq (g2 := F0 m 1815 ls [.int ra]) rfl ?_
  refine lv_aload_n hx hb dL_law_1815 rfl (lv_at hl 3 rfl) ?_
  refine rVWp (wq := wC g a Z T1' T2 T3 G R P O B ++ wRf g b U' V M R' kt t) (rs := wC g a Z T1' T2 T3 G R P O B ++ (wOT g t ++ wOT g kt)) (As := []) (rest := [.int ra]) (q0 := 0) hS (c_X7_round l g b (tvOf kt) (tvOf t) U V M R' h2) gL_law_X7_round rfl hd_X7_round ⟨Nat.le_of_ble_eq_true rfl, Nat.le_of_ble_eq_true rfl⟩ hK hw hA (lpmC _ _ _ _) rfl (lpmC _ _ _ _) rfl rfl rfl rfl hl.1 rfl (Nat.le_of_ble_eq_true rfl) dL_law_1816 ⟨show cells ≤ 600000 by omega, show slots ≤ 7302249 by omega⟩ (fun H locs hw => ?_)
  refine W.eq (g2 := F0 m 1819 ls [.int ra, .int ra]) rfl ?_
  refine W.widen (k := cells + 28) (n := slots + 759) (by omega) (by omega) ?_
  refine lv_icmp_eq (tgt := 1909) hx hb dL_law_1819 (by decide) (fun _ => ?_) (fun z => absurd rfl z)
  exact hgo Z T1' T2 T3 G R P O B U' V M R' kt t H locs ls h3 hw hl
set_option maxRecDepth 20000 in
theorem law_night (cx : LC p s m c bS L xs g A k) (hi : i + 5 < L) (hcs : cells + 28 ≤ 600000 ∧ slots + 759 ≤ 7302249) (hgo : LGo p l e s m below meth c bS Q g A a b 1909 i (cells + 28) (slots + 759)) : LGo p l e s m below meth c bS Q g A a b 1824 i cells slots := by
  intro Z T1 T2 T3 G R P O B U V M R' kt t H locs ls h hw hl
  obtain ⟨⟨hx, hb, hml, hown, hts⟩, ⟨hX, hbl, hbA, hL⟩, hK, hA, hSg⟩ := id cx
  have hS : CallFix p m c cL_law 4 s #[Value.ref bS] wsL_law RL := ⟨hx, hb, hml, hown, hts⟩
  refine lv_aload_n hx hb dL_law_1824 rfl (lv_at hl 2 rfl) ?_
  obtain ⟨ra, T1', U', h1, h2, h3⟩ := op_night h T3 O B M
  refine rVWp (wq := wC g a Z T1' T2 T3 G R P O B ++ wRf g b U V M R' kt t) (rs := wRf g b U V M R' kt t) (As := []) (rest := []) (q0 := 0) hS (c_X6_night l g (a 0) (a 1) (a 2) (a 3) (a 4) (a 5) (a 6) (a 7) (a 8) Z T1 T2 T3 G R P O B h1) gL_law_X6_night rfl hd_X6_night ⟨Nat.le_of_ble_eq_true rfl, Nat.le_of_ble_eq_true rfl⟩ hK hw hA (List.Perm.refl _) rfl (List.Perm.refl _) rfl rfl rfl rfl hl.1 rfl (Nat.le_of_ble_eq_true rfl) dL_law_1825 ⟨show cells ≤ 600000 by omega, show slots ≤ 7302249 by omega⟩ (fun H locs hw => ?_)
  refine W.eq (g2 := F0 m 1828 ls [.int ra]) rfl ?_
  refine lv_aload_n hx hb dL_law_1828 rfl (lv_at hl 3 rfl) ?_
  refine rVWp (wq := wC g a Z T1' T2 T3 G R P O B ++ wRf g b U' V M R' kt t) (rs := wC g a Z T1' T2 T3 G R P O B ++ (wOT g t ++ wOT g kt)) (As := []) (rest := [.int ra]) (q0 := 0) hS (c_X7_night l g b (tvOf kt) (tvOf t) U V M R' h2) gL_law_X7_night rfl hd_X7_night ⟨Nat.le_of_ble_eq_true rfl, Nat.le_of_ble_eq_true rfl⟩ hK hw hA (lpmC _ _ _ _) rfl (lpmC _ _ _ _) rfl rfl rfl rfl hl.1 rfl (Nat.le_of_ble_eq_true rfl) dL_law_1829 ⟨show cells ≤ 600000 by omega, show slots ≤ 7302249 by omega⟩ (fun H locs hw => ?_)
  refine W.eq (g2 := F0 m 1832 ls [.int ra, .int ra]) rfl ?_
  refine W.widen (k := cells + 28) (n := slots + 759) (by omega) (by omega) ?_
  refine lv_icmp_eq (tgt := 1909) hx hb dL_law_1832 (by decide) (fun _ => ?_) (fun z => absurd rfl z)
  exact hgo Z T1' T2 T3 G R P O B U' V M R' kt t H locs ls h3 hw hl
set_option maxRecDepth 20000 in
theorem law_seed (cx : LC p s m c bS L xs g A k) (hi : i + 5 < L) (hcs : cells + 28 ≤ 600000 ∧ slots + 759 ≤ 7302249) (hgo : LGo p l e s m below meth c bS Q g A a b 1909 i (cells + 28) (slots + 759)) : LGo p l e s m below meth c bS Q g A a b 1837 i cells slots := by
  intro Z T1 T2 T3 G R P O B U V M R' kt t H locs ls h hw hl
  obtain ⟨⟨hx, hb, hml, hown, hts⟩, ⟨hX, hbl, hbA, hL⟩, hK, hA, hSg⟩ := id cx
  have hS : CallFix p m c cL_law 4 s #[Value.ref bS] wsL_law RL := ⟨hx, hb, hml, hown, hts⟩
  refine lv_aload_n hx hb dL_law_1837 rfl (lv_at hl 2 rfl) ?_
  refine larg cx hw 1 (by omega) hl 1838 (by decide) dL_law_1838 dL_law_1839 dL_law_1840 dL_law_1841 dL_law_1842 ?_
  obtain ⟨ra, T1', U', h1, h2, h3⟩ := op_seed h T3 O B M (xs (i + 1))
  refine rVWp (wq := wC g a Z T1' T2 T3 G R P O B ++ wRf g b U V M R' kt t) (rs := wRf g b U V M R' kt t) (As := [.int (xs (i + 1))]) (rest := []) (q0 := 0) hS (c_X6_seed l g (a 0) (a 1) (a 2) (a 3) (a 4) (a 5) (a 6) (a 7) (a 8) Z T1 T2 T3 G R P O B (xs (i + 1)) h1) gL_law_X6_seed rfl hd_X6_seed ⟨Nat.le_of_ble_eq_true rfl, Nat.le_of_ble_eq_true rfl⟩ hK hw hA (List.Perm.refl _) rfl (List.Perm.refl _) rfl rfl rfl rfl hl.1 rfl (Nat.le_of_ble_eq_true rfl) dL_law_1843 ⟨show cells ≤ 600000 by omega, show slots ≤ 7302249 by omega⟩ (fun H locs hw => ?_)
  refine W.eq (g2 := F0 m 1846 ls [.int ra]) rfl ?_
  refine lv_aload_n hx hb dL_law_1846 rfl (lv_at hl 3 rfl) ?_
  refine larg cx hw 1 (by omega) hl 1847 (by decide) dL_law_1847 dL_law_1848 dL_law_1849 dL_law_1850 dL_law_1851 ?_
  refine rVWp (wq := wC g a Z T1' T2 T3 G R P O B ++ wRf g b U' V M R' kt t) (rs := wC g a Z T1' T2 T3 G R P O B ++ (wOT g t ++ wOT g kt)) (As := [.int (xs (i + 1))]) (rest := [.int ra]) (q0 := 0) hS (c_X7_seed l g b (tvOf kt) (tvOf t) U V M R' (xs (i + 1)) h2) gL_law_X7_seed rfl hd_X7_seed ⟨Nat.le_of_ble_eq_true rfl, Nat.le_of_ble_eq_true rfl⟩ hK hw hA (lpmC _ _ _ _) rfl (lpmC _ _ _ _) rfl rfl rfl rfl hl.1 rfl (Nat.le_of_ble_eq_true rfl) dL_law_1852 ⟨show cells ≤ 600000 by omega, show slots ≤ 7302249 by omega⟩ (fun H locs hw => ?_)
  refine W.eq (g2 := F0 m 1855 ls [.int ra, .int ra]) rfl ?_
  refine W.widen (k := cells + 28) (n := slots + 759) (by omega) (by omega) ?_
  refine lv_icmp_eq (tgt := 1909) hx hb dL_law_1855 (by decide) (fun _ => ?_) (fun z => absurd rfl z)
  exact hgo Z T1' T2 T3 G R P O B U' V M R' kt t H locs ls h3 hw hl
set_option maxRecDepth 20000 in
theorem law_image (cx : LC p s m c bS L xs g A k) (hi : i + 5 < L) (hcs : cells + 28 ≤ 600000 ∧ slots + 759 ≤ 7302249) (hgo : LGo p l e s m below meth c bS Q g A a b 1909 i (cells + 28) (slots + 759)) : LGo p l e s m below meth c bS Q g A a b 1860 i cells slots := by
  intro Z T1 T2 T3 G R P O B U V M R' kt t H locs ls h hw hl
  obtain ⟨⟨hx, hb, hml, hown, hts⟩, ⟨hX, hbl, hbA, hL⟩, hK, hA, hSg⟩ := id cx
  have hS : CallFix p m c cL_law 4 s #[Value.ref bS] wsL_law RL := ⟨hx, hb, hml, hown, hts⟩
  refine lv_aload_n hx hb dL_law_1860 rfl (lv_at hl 2 rfl) ?_
  obtain ⟨Z', T2', h1, h3⟩ := op_image h T3 O B (tpOf kt)
  refine rVWp (wq := wC g a Z' T1 T2' T3 G R P O B ++ wRf g b U V M R' kt t) (rs := wRf g b U V M R' kt t) (As := []) (rest := []) (q0 := 0) hS (c_X6_image l g (a 0) (a 1) (a 2) (a 3) (a 4) (a 5) (a 6) (a 7) (a 8) Z T1 T2 T3 G R P O B h1) gL_law_X6_image rfl hd_X6_image ⟨Nat.le_of_ble_eq_true rfl, Nat.le_of_ble_eq_true rfl⟩ hK hw hA (List.Perm.refl _) rfl (List.Perm.refl _) rfl rfl rfl rfl hl.1 rfl (Nat.le_of_ble_eq_true rfl) dL_law_1861 ⟨show cells ≤ 600000 by omega, show slots ≤ 7302249 by omega⟩ (fun H locs hw => ?_)
  refine W.eq (g2 := F0 m 1864 ls [.int (1 : Int32)]) rfl ?_
  refine lv_aload_n hx hb dL_law_1864 rfl (lv_at hl 3 rfl) ?_
  refine rVGp (t := kt) (wr := wC g a Z' T1 T2' T3 G R P O B ++ wOT g t) (As := []) (rest := [.int (1 : Int32)]) hS (c_X7_image l g b U V M R' (tvOf t) kt (tpOf kt) rfl) gL_law_X7_image rfl hd_X7_image ⟨Nat.le_of_ble_eq_true rfl, Nat.le_of_ble_eq_true rfl⟩ hK hw hA (lpmB _ _ _ _) rfl rfl hl.1 rfl (Nat.le_of_ble_eq_true rfl) dL_law_1865 ⟨show cells + 28 * nlOf kt ≤ 600000 by have := nl_le kt; omega, show slots + 759 * nlOf kt ≤ 7302249 by have := nl_le kt; omega⟩ (fun b2 F2 H locs hw => ?_)
  have hw : Wk g A s.heap H locs (wC g a Z' T1 T2' T3 G R P O B ++ wRf g b U V M R' (some (b2, F2, fr0 U (tpOf kt))) t) := hw.perm (lpmB' _ _ _ _)
  refine W.eq (g2 := F0 m 1868 ls [.int (1 : Int32), .int (1 : Int32)]) rfl ?_
  refine W.widen (k := cells + 28) (n := slots + 759) (by have := nl_le kt; omega) (by have := nl_le kt; omega) ?_
  refine lv_icmp_eq (tgt := 1909) hx hb dL_law_1868 (by decide) (fun _ => ?_) (fun z => absurd rfl z)
  exact hgo Z' T1 T2' T3 G R P O B U V M R' (some (b2, F2, fr0 U (tpOf kt))) t H locs ls h3 hw hl
set_option maxRecDepth 20000 in
theorem law_back (cx : LC p s m c bS L xs g A k) (hi : i + 5 < L) (hcs : cells + 28 ≤ 600000 ∧ slots + 759 ≤ 7302249) (hgo : LGo p l e s m below meth c bS Q g A a b 1909 i (cells + 28) (slots + 759)) : LGo p l e s m below meth c bS Q g A a b 1873 i cells slots := by
  intro Z T1 T2 T3 G R P O B U V M R' kt t H locs ls h hw hl
  obtain ⟨⟨hx, hb, hml, hown, hts⟩, ⟨hX, hbl, hbA, hL⟩, hK, hA, hSg⟩ := id cx
  have hS : CallFix p m c cL_law 4 s #[Value.ref bS] wsL_law RL := ⟨hx, hb, hml, hown, hts⟩
  refine lv_aload_n hx hb dL_law_1873 rfl (lv_at hl 2 rfl) ?_
  cases kt with
  | none =>
    obtain ⟨h1, h2, h3⟩ := op_back0 h T3 O B M
    refine rVWp (wq := wC g a (rz Z 3) T1 T2 T3 G R P O B ++ wRf g b U V M R' none t) (rs := wRf g b U V M R' none t) (As := []) (rest := []) (q0 := 0) hS (c_X6_back l g (a 0) (a 1) (a 2) (a 3) (a 4) (a 5) (a 6) (a 7) (a 8) Z T1 T2 T3 G R P O B h1) gL_law_X6_back rfl hd_X6_back ⟨Nat.le_of_ble_eq_true rfl, Nat.le_of_ble_eq_true rfl⟩ hK hw hA (List.Perm.refl _) rfl (List.Perm.refl _) rfl rfl rfl rfl hl.1 rfl (Nat.le_of_ble_eq_true rfl) dL_law_1874 ⟨show cells ≤ 600000 by omega, show slots ≤ 7302249 by omega⟩ (fun H locs hw => ?_)
    refine W.eq (g2 := F0 m 1877 ls [.int (-5 : Int32)]) rfl ?_
    refine lv_aload_n hx hb dL_law_1877 rfl (lv_at hl 3 rfl) ?_
    refine rVWp (wq := wC g a (rz Z 3) T1 T2 T3 G R P O B ++ wRf g b U (rv V 3) M R' none t) (rs := wC g a (rz Z 3) T1 T2 T3 G R P O B ++ (wOT g t ++ wOT g none)) (As := []) (rest := [.int (-5 : Int32)]) (q0 := 0) hS (c_X7_back0 l g b (tvOf t) U V M R' h2) gL_law_X7_back rfl hd_X7_back ⟨Nat.le_of_ble_eq_true rfl, Nat.le_of_ble_eq_true rfl⟩ hK hw hA (lpmC _ _ _ _) rfl (lpmC _ _ _ _) rfl rfl rfl rfl hl.1 rfl (Nat.le_of_ble_eq_true rfl) dL_law_1878 ⟨show cells ≤ 600000 by omega, show slots ≤ 7302249 by omega⟩ (fun H locs hw => ?_)
    refine W.eq (g2 := F0 m 1881 ls [.int (-5 : Int32), .int (-5 : Int32)]) rfl ?_
    refine W.widen (k := cells + 28) (n := slots + 759) (by omega) (by omega) ?_
    refine lv_icmp_eq (tgt := 1909) hx hb dL_law_1881 (by decide) (fun _ => ?_) (fun z => absurd rfl z)
    exact hgo (rz Z 3) T1 T2 T3 G R P O B U (rv V 3) M R' none t H locs ls h3 hw hl
  | some kq =>
    obtain ⟨ra, Z', T1', G', U', V', h1, h2, h3⟩ := op_back h T3 O B M
    refine rVWp (wq := wC g a Z' T1' T2 T3 G' R P O B ++ wRf g b U V M R' (some kq) t) (rs := wRf g b U V M R' (some kq) t) (As := []) (rest := []) (q0 := 0) hS (c_X6_back l g (a 0) (a 1) (a 2) (a 3) (a 4) (a 5) (a 6) (a 7) (a 8) Z T1 T2 T3 G R P O B h1) gL_law_X6_back rfl hd_X6_back ⟨Nat.le_of_ble_eq_true rfl, Nat.le_of_ble_eq_true rfl⟩ hK hw hA (List.Perm.refl _) rfl (List.Perm.refl _) rfl rfl rfl rfl hl.1 rfl (Nat.le_of_ble_eq_true rfl) dL_law_1874 ⟨show cells ≤ 600000 by omega, show slots ≤ 7302249 by omega⟩ (fun H locs hw => ?_)
    refine W.eq (g2 := F0 m 1877 ls [.int ra]) rfl ?_
    refine lv_aload_n hx hb dL_law_1877 rfl (lv_at hl 3 rfl) ?_
    refine rVWp (wq := wC g a Z' T1' T2 T3 G' R P O B ++ wRf g b U' V' M R' (some kq) t) (rs := wC g a Z' T1' T2 T3 G' R P O B ++ wOT g t) (As := []) (rest := [.int ra]) (q0 := 0) hS (c_X7_back l g b kq.1 (tvOf t) kq.2.1 U V M R' kq.2.2 h2) gL_law_X7_back rfl hd_X7_back ⟨Nat.le_of_ble_eq_true rfl, Nat.le_of_ble_eq_true rfl⟩ hK hw hA (lpmB _ _ _ _) rfl (lpmB _ _ _ _) rfl rfl rfl rfl hl.1 rfl (Nat.le_of_ble_eq_true rfl) dL_law_1878 ⟨show cells ≤ 600000 by omega, show slots ≤ 7302249 by omega⟩ (fun H locs hw => ?_)
    refine W.eq (g2 := F0 m 1881 ls [.int ra, .int ra]) rfl ?_
    refine W.widen (k := cells + 28) (n := slots + 759) (by omega) (by omega) ?_
    refine lv_icmp_eq (tgt := 1909) hx hb dL_law_1881 (by decide) (fun _ => ?_) (fun z => absurd rfl z)
    exact hgo Z' T1' T2 T3 G' R P O B U' V' M R' (some kq) t H locs ls h3 hw hl
set_option maxRecDepth 20000 in
theorem law_status (cx : LC p s m c bS L xs g A k) (hi : i + 5 < L) (hcs : cells + 28 ≤ 600000 ∧ slots + 759 ≤ 7302249) (hgo : LGo p l e s m below meth c bS Q g A a b 1909 i (cells + 28) (slots + 759)) : LGo p l e s m below meth c bS Q g A a b 1886 i cells slots := by
  intro Z T1 T2 T3 G R P O B U V M R' kt t H locs ls h hw hl
  obtain ⟨⟨hx, hb, hml, hown, hts⟩, ⟨hX, hbl, hbA, hL⟩, hK, hA, hSg⟩ := id cx
  have hS : CallFix p m c cL_law 4 s #[Value.ref bS] wsL_law RL := ⟨hx, hb, hml, hown, hts⟩
  refine lv_aload_n hx hb dL_law_1886 rfl (lv_at hl 2 rfl) ?_
  refine larg cx hw 1 (by omega) hl 1887 (by decide) dL_law_1887 dL_law_1888 dL_law_1889 dL_law_1890 dL_law_1891 ?_
  obtain ⟨ra, h1, h2, h3⟩ := op_status h T3 O B M (xs (i + 1))
  refine rVR (wc := wC g a Z T1 T2 T3 G R P O B) (As := [.int (xs (i + 1))]) (rest := []) (q0 := 0) hS (c_X6_status l g (a 0) (a 1) (a 2) (a 3) (a 4) (a 5) (a 6) (a 7) (a 8) Z T1 T2 T3 G R P O B (xs (i + 1)) h1) gL_law_X6_status rfl hd_X6_status ⟨Nat.le_of_ble_eq_true rfl, Nat.le_of_ble_eq_true rfl⟩ hK (va_P.pm hw.1 (List.Perm.refl _)) rfl rfl rfl rfl hl.1 rfl (Nat.le_of_ble_eq_true rfl) dL_law_1892 ⟨show cells ≤ 600000 by omega, show slots ≤ 7302249 by omega⟩ ?_
  refine W.eq (g2 := F0 m 1895 ls [.int ra]) rfl ?_
  refine lv_aload_n hx hb dL_law_1895 rfl (lv_at hl 3 rfl) ?_
  refine larg cx hw 1 (by omega) hl 1896 (by decide) dL_law_1896 dL_law_1897 dL_law_1898 dL_law_1899 dL_law_1900 ?_
  refine rVR (wc := wXM g b U V M R' (tvOf kt) (tvOf t)) (As := [.int (xs (i + 1))]) (rest := [.int ra]) (q0 := 0) hS (c_X7_status l g b (tvOf kt) (tvOf t) U V M R' (xs (i + 1)) h2) gL_law_X7_status rfl hd_X7_status ⟨Nat.le_of_ble_eq_true rfl, Nat.le_of_ble_eq_true rfl⟩ hK (va_P.pm hw.1 (lpmC _ _ _ _)) rfl rfl rfl rfl hl.1 rfl (Nat.le_of_ble_eq_true rfl) dL_law_1901 ⟨show cells ≤ 600000 by omega, show slots ≤ 7302249 by omega⟩ ?_
  refine W.eq (g2 := F0 m 1904 ls [.int ra, .int ra]) rfl ?_
  refine W.widen (k := cells + 28) (n := slots + 759) (by omega) (by omega) ?_
  refine lv_icmp_eq (tgt := 1909) hx hb dL_law_1904 (by decide) (fun _ => ?_) (fun z => absurd rfl z)
  exact hgo Z T1 T2 T3 G R P O B U V M R' kt t H locs ls h3 hw hl
end LAW3
