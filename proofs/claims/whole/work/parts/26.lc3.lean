def L_21 (G : Gx) (L : Nat) (xs : Nat → Int32) (x m o : Nat) (i : Int32) (cn sn : Nat) (ws : va_W) (N : Nat → Nat → va_W → Prop) : Prop := ∀ (J1620 : Nat → Nat → va_W → Prop), (∀ (cn : Nat) (sn : Nat) (ws : va_W), N cn sn ws → J1620 cn sn ws) → qX L xs (i + (1 : Int32)) (fun v1 => qX L xs (i + (2 : Int32)) (fun v2 => qX L xs (i + (3 : Int32)) (fun v3 => (F_L_pays G x v1 v2 v3 o ws (fun v4 ws => qX L xs (i + (1 : Int32)) (fun v5 => qX L xs (i + (2 : Int32)) (fun v6 => qX L xs (i + (3 : Int32)) (fun v7 => (qV 7 m ws ∧ F_X7_pays G m v5 v6 v7 ws (fun v8 ws => (qV 7 m ws ∧ F_X7_thrown G m ws (fun v9 ws => ((v9 = v4 → ((¬ v4 = 0 → J1620 (cn + 3) (sn + 18) ws) ∧ (v4 = 0 → qLa (gc G 5) o (0 : Int32) ws (fun v10 => (((lg_cmp v10 v8.toInt64) = 0 → J1620 (cn + 3) (sn + 18) ws) ∧ (¬ (lg_cmp v10 v8.toInt64) = 0 → False)))))) ∧ (¬ v9 = v4 → False))))))))))))))
set_option maxRecDepth 20000 in
set_option maxHeartbeats 4000000 in
theorem lc_21 {K : Kx} {G : Gx} {b L x m o cn sn : Nat} {xs : Nat → Int32} {i : Int32} {ws : va_W} {N : Nat → Nat → va_W → Prop} (hst : (gl G).stackTraces = false) (C : Cx K G code 7 RL ret wsL_law_ room_1) (hX : Sc K G b L xs) (hcn : cn + 20 ≤ 601024) (hsn : sn + 200 ≤ 7293034)
    (hN : ∀ cn sn ws, N cn sn ws → Ev K G 7 cn sn 1741 [some (.ref b), some (.ref x), some (.ref m), some (.ref o), some (.int i), none, none] [] ws) (h : L_21 G L xs x m o i cn sn ws N) : Ev K G 7 cn sn 1543 [some (.ref b), some (.ref x), some (.ref m), some (.ref o), some (.int i), none, none] [] ws := by
  replace h := h (fun cn sn ws => (cn + 16 ≤ 601024 ∧ sn + 160 ≤ 7293034) → Ev K G 7 cn sn 1620 [some (.ref b), some (.ref x), some (.ref m), some (.ref o), some (.int i), none, none] [] ws)
  replace h := h (by
    intro cn sn ws h hb9
    obtain ⟨hcn9, hsn9⟩ := hb9
    show Ev K G 7 cn sn 1620 [some (.ref b), some (.ref x), some (.ref m), some (.ref o), some (.int i), none, none] [] ws
    refine e_goto C (tg := 1741) dL_law__1620 (by decide) ?_
    exact hN _ _ _ h)
  refine e_aload_n C (x := x) rfl dL_law__1543 (pc' := 1544) rfl ?_
  refine e_aload_n C (x := b) rfl dL_law__1544 (pc' := 1545) rfl ?_
  refine e_iload C (x := i) rfl dL_law__1545 (pc' := 1547) rfl ?_
  refine e_iconst C (v := (1 : Int32)) (by decide) dL_law__1547 (pc' := 1548) rfl ?_
  refine e_iadd C dL_law__1548 (pc' := 1549) rfl ?_
  refine f_sld C hX dL_law__1549 (pc' := 1550) rfl h (fun v1 h => ?_)
  refine e_aload_n C (x := b) rfl dL_law__1550 (pc' := 1551) rfl ?_
  refine e_iload C (x := i) rfl dL_law__1551 (pc' := 1553) rfl ?_
  refine e_iconst C (v := (2 : Int32)) (by decide) dL_law__1553 (pc' := 1554) rfl ?_
  refine e_iadd C dL_law__1554 (pc' := 1555) rfl ?_
  refine f_sld C hX dL_law__1555 (pc' := 1556) rfl h (fun v2 h => ?_)
  refine e_aload_n C (x := b) rfl dL_law__1556 (pc' := 1557) rfl ?_
  refine e_iload C (x := i) rfl dL_law__1557 (pc' := 1559) rfl ?_
  refine e_iconst C (v := (3 : Int32)) (by decide) dL_law__1559 (pc' := 1560) rfl ?_
  refine e_iadd C dL_law__1560 (pc' := 1561) rfl ?_
  refine f_sld C hX dL_law__1561 (pc' := 1562) rfl h (fun v3 h => ?_)
  refine e_aload_n C (x := o) rfl dL_law__1562 (pc' := 1563) rfl ?_
  refine e_calli (run_SW (n := 5) C (m_L_pays hst h) gL_law__L_pays rfl ⟨by decide, by decide, by decide +kernel⟩ ⟨by decide, by decide⟩ rfl (Nat.le_of_ble_eq_true rfl) dL_law__1563 ⟨(by show cn + 3 ≤ 601024; omega), (by show sn + 18 ≤ 7293034; omega)⟩ (As := [.ref x, .int v1, .int v2, .int v3, .ref o]) rfl) (pc' := 1566) rfl (cn' := cn + 3) (sn' := sn + 18) rfl rfl (fun v4 ws h => ?_)
  refine e_istore C (by decide) dL_law__1566 (pc' := 1568) rfl (lv' := [some (.ref b), some (.ref x), some (.ref m), some (.ref o), some (.int i), some (.int v4), none]) rfl ?_
  refine e_aload_n C (x := m) rfl dL_law__1568 (pc' := 1569) rfl ?_
  refine e_aload_n C (x := b) rfl dL_law__1569 (pc' := 1570) rfl ?_
  refine e_iload C (x := i) rfl dL_law__1570 (pc' := 1572) rfl ?_
  refine e_iconst C (v := (1 : Int32)) (by decide) dL_law__1572 (pc' := 1573) rfl ?_
  refine e_iadd C dL_law__1573 (pc' := 1574) rfl ?_
  refine f_sld C hX dL_law__1574 (pc' := 1575) rfl h (fun v5 h => ?_)
  refine e_aload_n C (x := b) rfl dL_law__1575 (pc' := 1576) rfl ?_
  refine e_iload C (x := i) rfl dL_law__1576 (pc' := 1578) rfl ?_
  refine e_iconst C (v := (2 : Int32)) (by decide) dL_law__1578 (pc' := 1579) rfl ?_
  refine e_iadd C dL_law__1579 (pc' := 1580) rfl ?_
  refine f_sld C hX dL_law__1580 (pc' := 1581) rfl h (fun v6 h => ?_)
  refine e_aload_n C (x := b) rfl dL_law__1581 (pc' := 1582) rfl ?_
  refine e_iload C (x := i) rfl dL_law__1582 (pc' := 1584) rfl ?_
  refine e_iconst C (v := (3 : Int32)) (by decide) dL_law__1584 (pc' := 1585) rfl ?_
  refine e_iadd C dL_law__1585 (pc' := 1586) rfl ?_
  refine f_sld C hX dL_law__1586 (pc' := 1587) rfl h (fun v7 h => ?_)
  obtain ⟨hv, h⟩ := h
  refine e_calli (run_V (n := 3) C (m_X7_pays hst h) gL_law__X7_pays rfl ⟨rfl, by decide, by decide, by decide +kernel⟩ ⟨by decide, by decide⟩ (ci := 7) rfl rfl hv rfl (Nat.le_of_ble_eq_true rfl) dL_law__1587 ⟨(by show cn + 3 ≤ 601024; omega), (by show sn + 18 ≤ 7293034; omega)⟩ (As := [.int v5, .int v6, .int v7]) rfl) (pc' := 1590) rfl (cn' := cn + 3) (sn' := sn + 18) rfl rfl (fun v8 ws h => ?_)
  refine e_istore C (by decide) dL_law__1590 (pc' := 1592) rfl (lv' := [some (.ref b), some (.ref x), some (.ref m), some (.ref o), some (.int i), some (.int v4), some (.int v8)]) rfl ?_
  refine e_aload_n C (x := m) rfl dL_law__1592 (pc' := 1593) rfl ?_
  obtain ⟨hv, h⟩ := h
  refine e_calli (run_V (n := 0) C (m_X7_thrown hst h) gL_law__X7_thrown rfl ⟨rfl, by decide, by decide, by decide +kernel⟩ ⟨by decide, by decide⟩ (ci := 7) rfl rfl hv rfl (Nat.le_of_ble_eq_true rfl) dL_law__1593 ⟨(by show cn + 3 ≤ 601024; omega), (by show sn + 18 ≤ 7293034; omega)⟩ (As := []) rfl) (pc' := 1596) rfl (cn' := cn + 3) (sn' := sn + 18) rfl rfl (fun v9 ws h => ?_)
  refine e_iload C (x := v4) rfl dL_law__1596 (pc' := 1598) rfl ?_
  refine e_icmp_eq C (tg := 1603) dL_law__1598 (by decide) (pc' := 1601) rfl (fun hc => ?_) (fun hc => ?_)
  · replace h := h.1 hc
    refine e_iload C (x := v4) rfl dL_law__1603 (pc' := 1605) rfl ?_
    refine e_if_ne C (tg := 1620) dL_law__1605 (by decide) (pc' := 1608) rfl (fun hc => ?_) (fun hc => ?_)
    · replace h := h.1 hc
      refine e_mask [true, true, true, true, true, false, false] (lv' := [some (.ref b), some (.ref x), some (.ref m), some (.ref o), some (.int i), none, none]) rfl ?_
      exact h ⟨by omega, by omega⟩
    · replace h := h.2 hc
      refine e_aload_n C (x := o) rfl dL_law__1608 (pc' := 1609) rfl ?_
      refine e_iconst C (v := (0 : Int32)) (by decide) dL_law__1609 (pc' := 1610) rfl ?_
      refine f_laload C dL_law__1610 (pc' := 1611) rfl h (fun v10 h => ?_)
      refine e_iload C (x := v8) rfl dL_law__1611 (pc' := 1613) rfl ?_
      refine e_i2l C dL_law__1613 (pc' := 1614) rfl ?_
      refine e_lcmp C dL_law__1614 (pc' := 1615) rfl ?_
      refine e_if_eq C (tg := 1620) dL_law__1615 (by decide) (pc' := 1618) rfl (fun hc => ?_) (fun hc => ?_)
      · replace h := h.1 hc
        refine e_mask [true, true, true, true, true, false, false] (lv' := [some (.ref b), some (.ref x), some (.ref m), some (.ref o), some (.int i), none, none]) rfl ?_
        exact h ⟨by omega, by omega⟩
      · replace h := h.2 hc
        refine e_iconst C (v := (0 : Int32)) (by decide) dL_law__1618 (pc' := 1619) rfl ?_
        exact h.elim
  · replace h := h.2 hc
    refine e_iconst C (v := (0 : Int32)) (by decide) dL_law__1601 (pc' := 1602) rfl ?_
    exact h.elim
def L_22 (G : Gx) (L : Nat) (xs : Nat → Int32) (x m o : Nat) (i : Int32) (cn sn : Nat) (ws : va_W) (N : Nat → Nat → va_W → Prop) : Prop := ∀ (J1700 : Nat → Nat → va_W → Prop), (∀ (cn : Nat) (sn : Nat) (ws : va_W), N cn sn ws → J1700 cn sn ws) → qX L xs (i + (1 : Int32)) (fun v1 => qX L xs (i + (2 : Int32)) (fun v2 => qX L xs (i + (3 : Int32)) (fun v3 => (F_L_field G x v1 v2 v3 o ws (fun v4 ws => qX L xs (i + (1 : Int32)) (fun v5 => qX L xs (i + (2 : Int32)) (fun v6 => qX L xs (i + (3 : Int32)) (fun v7 => (qV 7 m ws ∧ F_X7_field G m v5 v6 v7 ws (fun v8 ws => (qV 7 m ws ∧ F_X7_thrown G m ws (fun v9 ws => ((v9 = v4 → ((¬ v4 = 0 → J1700 (cn + 1) (sn + 6) ws) ∧ (v4 = 0 → qLa (gc G 5) o (0 : Int32) ws (fun v10 => (((lg_cmp v10 v8.toInt64) = 0 → J1700 (cn + 1) (sn + 6) ws) ∧ (¬ (lg_cmp v10 v8.toInt64) = 0 → False)))))) ∧ (¬ v9 = v4 → False))))))))))))))
set_option maxRecDepth 20000 in
set_option maxHeartbeats 4000000 in
theorem lc_22 {K : Kx} {G : Gx} {b L x m o cn sn : Nat} {xs : Nat → Int32} {i : Int32} {ws : va_W} {N : Nat → Nat → va_W → Prop} (hst : (gl G).stackTraces = false) (C : Cx K G code 7 RL ret wsL_law_ room_1) (hX : Sc K G b L xs) (hcn : cn + 20 ≤ 601024) (hsn : sn + 200 ≤ 7293034)
    (hN : ∀ cn sn ws, N cn sn ws → Ev K G 7 cn sn 1741 [some (.ref b), some (.ref x), some (.ref m), some (.ref o), some (.int i), none, none] [] ws) (h : L_22 G L xs x m o i cn sn ws N) : Ev K G 7 cn sn 1623 [some (.ref b), some (.ref x), some (.ref m), some (.ref o), some (.int i), none, none] [] ws := by
  replace h := h (fun cn sn ws => (cn + 16 ≤ 601024 ∧ sn + 160 ≤ 7293034) → Ev K G 7 cn sn 1700 [some (.ref b), some (.ref x), some (.ref m), some (.ref o), some (.int i), none, none] [] ws)
  replace h := h (by
    intro cn sn ws h hb9
    obtain ⟨hcn9, hsn9⟩ := hb9
    show Ev K G 7 cn sn 1700 [some (.ref b), some (.ref x), some (.ref m), some (.ref o), some (.int i), none, none] [] ws
    refine e_goto C (tg := 1741) dL_law__1700 (by decide) ?_
    exact hN _ _ _ h)
  refine e_aload_n C (x := x) rfl dL_law__1623 (pc' := 1624) rfl ?_
  refine e_aload_n C (x := b) rfl dL_law__1624 (pc' := 1625) rfl ?_
  refine e_iload C (x := i) rfl dL_law__1625 (pc' := 1627) rfl ?_
  refine e_iconst C (v := (1 : Int32)) (by decide) dL_law__1627 (pc' := 1628) rfl ?_
  refine e_iadd C dL_law__1628 (pc' := 1629) rfl ?_
  refine f_sld C hX dL_law__1629 (pc' := 1630) rfl h (fun v1 h => ?_)
  refine e_aload_n C (x := b) rfl dL_law__1630 (pc' := 1631) rfl ?_
  refine e_iload C (x := i) rfl dL_law__1631 (pc' := 1633) rfl ?_
  refine e_iconst C (v := (2 : Int32)) (by decide) dL_law__1633 (pc' := 1634) rfl ?_
  refine e_iadd C dL_law__1634 (pc' := 1635) rfl ?_
  refine f_sld C hX dL_law__1635 (pc' := 1636) rfl h (fun v2 h => ?_)
  refine e_aload_n C (x := b) rfl dL_law__1636 (pc' := 1637) rfl ?_
  refine e_iload C (x := i) rfl dL_law__1637 (pc' := 1639) rfl ?_
  refine e_iconst C (v := (3 : Int32)) (by decide) dL_law__1639 (pc' := 1640) rfl ?_
  refine e_iadd C dL_law__1640 (pc' := 1641) rfl ?_
  refine f_sld C hX dL_law__1641 (pc' := 1642) rfl h (fun v3 h => ?_)
  refine e_aload_n C (x := o) rfl dL_law__1642 (pc' := 1643) rfl ?_
  refine e_calli (run_SW (n := 5) C (m_L_field hst h) gL_law__L_field rfl ⟨by decide, by decide, by decide +kernel⟩ ⟨by decide, by decide⟩ rfl (Nat.le_of_ble_eq_true rfl) dL_law__1643 ⟨(by show cn + 1 ≤ 601024; omega), (by show sn + 6 ≤ 7293034; omega)⟩ (As := [.ref x, .int v1, .int v2, .int v3, .ref o]) rfl) (pc' := 1646) rfl (cn' := cn + 1) (sn' := sn + 6) rfl rfl (fun v4 ws h => ?_)
  refine e_istore C (by decide) dL_law__1646 (pc' := 1648) rfl (lv' := [some (.ref b), some (.ref x), some (.ref m), some (.ref o), some (.int i), some (.int v4), none]) rfl ?_
  refine e_aload_n C (x := m) rfl dL_law__1648 (pc' := 1649) rfl ?_
  refine e_aload_n C (x := b) rfl dL_law__1649 (pc' := 1650) rfl ?_
  refine e_iload C (x := i) rfl dL_law__1650 (pc' := 1652) rfl ?_
  refine e_iconst C (v := (1 : Int32)) (by decide) dL_law__1652 (pc' := 1653) rfl ?_
  refine e_iadd C dL_law__1653 (pc' := 1654) rfl ?_
  refine f_sld C hX dL_law__1654 (pc' := 1655) rfl h (fun v5 h => ?_)
  refine e_aload_n C (x := b) rfl dL_law__1655 (pc' := 1656) rfl ?_
  refine e_iload C (x := i) rfl dL_law__1656 (pc' := 1658) rfl ?_
  refine e_iconst C (v := (2 : Int32)) (by decide) dL_law__1658 (pc' := 1659) rfl ?_
  refine e_iadd C dL_law__1659 (pc' := 1660) rfl ?_
  refine f_sld C hX dL_law__1660 (pc' := 1661) rfl h (fun v6 h => ?_)
  refine e_aload_n C (x := b) rfl dL_law__1661 (pc' := 1662) rfl ?_
  refine e_iload C (x := i) rfl dL_law__1662 (pc' := 1664) rfl ?_
  refine e_iconst C (v := (3 : Int32)) (by decide) dL_law__1664 (pc' := 1665) rfl ?_
  refine e_iadd C dL_law__1665 (pc' := 1666) rfl ?_
  refine f_sld C hX dL_law__1666 (pc' := 1667) rfl h (fun v7 h => ?_)
  obtain ⟨hv, h⟩ := h
  refine e_calli (run_V (n := 3) C (m_X7_field hst h) gL_law__X7_field rfl ⟨rfl, by decide, by decide, by decide +kernel⟩ ⟨by decide, by decide⟩ (ci := 7) rfl rfl hv rfl (Nat.le_of_ble_eq_true rfl) dL_law__1667 ⟨(by show cn + 1 ≤ 601024; omega), (by show sn + 6 ≤ 7293034; omega)⟩ (As := [.int v5, .int v6, .int v7]) rfl) (pc' := 1670) rfl (cn' := cn + 1) (sn' := sn + 6) rfl rfl (fun v8 ws h => ?_)
  refine e_istore C (by decide) dL_law__1670 (pc' := 1672) rfl (lv' := [some (.ref b), some (.ref x), some (.ref m), some (.ref o), some (.int i), some (.int v4), some (.int v8)]) rfl ?_
  refine e_aload_n C (x := m) rfl dL_law__1672 (pc' := 1673) rfl ?_
  obtain ⟨hv, h⟩ := h
  refine e_calli (run_V (n := 0) C (m_X7_thrown hst h) gL_law__X7_thrown rfl ⟨rfl, by decide, by decide, by decide +kernel⟩ ⟨by decide, by decide⟩ (ci := 7) rfl rfl hv rfl (Nat.le_of_ble_eq_true rfl) dL_law__1673 ⟨(by show cn + 1 ≤ 601024; omega), (by show sn + 6 ≤ 7293034; omega)⟩ (As := []) rfl) (pc' := 1676) rfl (cn' := cn + 1) (sn' := sn + 6) rfl rfl (fun v9 ws h => ?_)
  refine e_iload C (x := v4) rfl dL_law__1676 (pc' := 1678) rfl ?_
  refine e_icmp_eq C (tg := 1683) dL_law__1678 (by decide) (pc' := 1681) rfl (fun hc => ?_) (fun hc => ?_)
  · replace h := h.1 hc
    refine e_iload C (x := v4) rfl dL_law__1683 (pc' := 1685) rfl ?_
    refine e_if_ne C (tg := 1700) dL_law__1685 (by decide) (pc' := 1688) rfl (fun hc => ?_) (fun hc => ?_)
    · replace h := h.1 hc
      refine e_mask [true, true, true, true, true, false, false] (lv' := [some (.ref b), some (.ref x), some (.ref m), some (.ref o), some (.int i), none, none]) rfl ?_
      exact h ⟨by omega, by omega⟩
    · replace h := h.2 hc
      refine e_aload_n C (x := o) rfl dL_law__1688 (pc' := 1689) rfl ?_
      refine e_iconst C (v := (0 : Int32)) (by decide) dL_law__1689 (pc' := 1690) rfl ?_
      refine f_laload C dL_law__1690 (pc' := 1691) rfl h (fun v10 h => ?_)
      refine e_iload C (x := v8) rfl dL_law__1691 (pc' := 1693) rfl ?_
      refine e_i2l C dL_law__1693 (pc' := 1694) rfl ?_
      refine e_lcmp C dL_law__1694 (pc' := 1695) rfl ?_
      refine e_if_eq C (tg := 1700) dL_law__1695 (by decide) (pc' := 1698) rfl (fun hc => ?_) (fun hc => ?_)
      · replace h := h.1 hc
        refine e_mask [true, true, true, true, true, false, false] (lv' := [some (.ref b), some (.ref x), some (.ref m), some (.ref o), some (.int i), none, none]) rfl ?_
        exact h ⟨by omega, by omega⟩
      · replace h := h.2 hc
        refine e_iconst C (v := (0 : Int32)) (by decide) dL_law__1698 (pc' := 1699) rfl ?_
        exact h.elim
  · replace h := h.2 hc
    refine e_iconst C (v := (0 : Int32)) (by decide) dL_law__1681 (pc' := 1682) rfl ?_
    exact h.elim
def L_23 (G : Gx) (L : Nat) (xs : Nat → Int32) (x m o : Nat) (i : Int32) (cn sn : Nat) (ws : va_W) (N : Nat → Nat → va_W → Prop) : Prop := (qV 6 x ws ∧ F_X6_least G x ws (fun v1 ws => (qV 7 m ws ∧ F_X7_least G m ws (fun v2 ws => ((v1 = v2 → N cn sn ws) ∧ (¬ v1 = v2 → False))))))
set_option maxRecDepth 20000 in
set_option maxHeartbeats 4000000 in
theorem lc_23 {K : Kx} {G : Gx} {b L x m o cn sn : Nat} {xs : Nat → Int32} {i : Int32} {ws : va_W} {N : Nat → Nat → va_W → Prop} (hst : (gl G).stackTraces = false) (C : Cx K G code 7 RL ret wsL_law_ room_1) (hX : Sc K G b L xs) (hcn : cn + 20 ≤ 601024) (hsn : sn + 200 ≤ 7293034)
    (hN : ∀ cn sn ws, N cn sn ws → Ev K G 7 cn sn 1741 [some (.ref b), some (.ref x), some (.ref m), some (.ref o), some (.int i), none, none] [] ws) (h : L_23 G L xs x m o i cn sn ws N) : Ev K G 7 cn sn 1703 [some (.ref b), some (.ref x), some (.ref m), some (.ref o), some (.int i), none, none] [] ws := by
  refine e_aload_n C (x := x) rfl dL_law__1703 (pc' := 1704) rfl ?_
  obtain ⟨hv, h⟩ := h
  refine e_calli (run_V (n := 0) C (m_X6_least hst h) gL_law__X6_least rfl ⟨rfl, by decide, by decide, by decide +kernel⟩ ⟨by decide, by decide⟩ (ci := 6) rfl rfl hv rfl (Nat.le_of_ble_eq_true rfl) dL_law__1704 ⟨(by show cn ≤ 601024; omega), (by show sn ≤ 7293034; omega)⟩ (As := []) rfl) (pc' := 1707) rfl (cn' := cn) (sn' := sn) rfl rfl (fun v1 ws h => ?_)
  refine e_aload_n C (x := m) rfl dL_law__1707 (pc' := 1708) rfl ?_
  obtain ⟨hv, h⟩ := h
  refine e_calli (run_V (n := 0) C (m_X7_least hst h) gL_law__X7_least rfl ⟨rfl, by decide, by decide, by decide +kernel⟩ ⟨by decide, by decide⟩ (ci := 7) rfl rfl hv rfl (Nat.le_of_ble_eq_true rfl) dL_law__1708 ⟨(by show cn ≤ 601024; omega), (by show sn ≤ 7293034; omega)⟩ (As := []) rfl) (pc' := 1711) rfl (cn' := cn) (sn' := sn) rfl rfl (fun v2 ws h => ?_)
  refine e_icmp_eq C (tg := 1741) dL_law__1711 (by decide) (pc' := 1714) rfl (fun hc => ?_) (fun hc => ?_)
  · replace h := h.1 hc
    exact hN _ _ _ h
  · replace h := h.2 hc
    refine e_iconst C (v := (0 : Int32)) (by decide) dL_law__1714 (pc' := 1715) rfl ?_
    exact h.elim
def L_24 (G : Gx) (L : Nat) (xs : Nat → Int32) (x m o : Nat) (i : Int32) (cn sn : Nat) (ws : va_W) (N : Nat → Nat → va_W → Prop) : Prop := qX L xs (i + (1 : Int32)) (fun v1 => (qV 6 x ws ∧ F_X6_count G x v1 ws (fun v2 ws => qX L xs (i + (1 : Int32)) (fun v3 => (qV 7 m ws ∧ F_X7_count G m v3 ws (fun v4 ws => ((v2 = v4 → N cn sn ws) ∧ (¬ v2 = v4 → False))))))))
set_option maxRecDepth 20000 in
set_option maxHeartbeats 4000000 in
theorem lc_24 {K : Kx} {G : Gx} {b L x m o cn sn : Nat} {xs : Nat → Int32} {i : Int32} {ws : va_W} {N : Nat → Nat → va_W → Prop} (hst : (gl G).stackTraces = false) (C : Cx K G code 7 RL ret wsL_law_ room_1) (hX : Sc K G b L xs) (hcn : cn + 20 ≤ 601024) (hsn : sn + 200 ≤ 7293034)
    (hN : ∀ cn sn ws, N cn sn ws → Ev K G 7 cn sn 1741 [some (.ref b), some (.ref x), some (.ref m), some (.ref o), some (.int i), none, none] [] ws) (h : L_24 G L xs x m o i cn sn ws N) : Ev K G 7 cn sn 1716 [some (.ref b), some (.ref x), some (.ref m), some (.ref o), some (.int i), none, none] [] ws := by
  refine e_aload_n C (x := x) rfl dL_law__1716 (pc' := 1717) rfl ?_
  refine e_aload_n C (x := b) rfl dL_law__1717 (pc' := 1718) rfl ?_
  refine e_iload C (x := i) rfl dL_law__1718 (pc' := 1720) rfl ?_
  refine e_iconst C (v := (1 : Int32)) (by decide) dL_law__1720 (pc' := 1721) rfl ?_
  refine e_iadd C dL_law__1721 (pc' := 1722) rfl ?_
  refine f_sld C hX dL_law__1722 (pc' := 1723) rfl h (fun v1 h => ?_)
  obtain ⟨hv, h⟩ := h
  refine e_calli (run_V (n := 1) C (m_X6_count hst h) gL_law__X6_count rfl ⟨rfl, by decide, by decide, by decide +kernel⟩ ⟨by decide, by decide⟩ (ci := 6) rfl rfl hv rfl (Nat.le_of_ble_eq_true rfl) dL_law__1723 ⟨(by show cn ≤ 601024; omega), (by show sn ≤ 7293034; omega)⟩ (As := [.int v1]) rfl) (pc' := 1726) rfl (cn' := cn) (sn' := sn) rfl rfl (fun v2 ws h => ?_)
  refine e_aload_n C (x := m) rfl dL_law__1726 (pc' := 1727) rfl ?_
  refine e_aload_n C (x := b) rfl dL_law__1727 (pc' := 1728) rfl ?_
  refine e_iload C (x := i) rfl dL_law__1728 (pc' := 1730) rfl ?_
  refine e_iconst C (v := (1 : Int32)) (by decide) dL_law__1730 (pc' := 1731) rfl ?_
  refine e_iadd C dL_law__1731 (pc' := 1732) rfl ?_
  refine f_sld C hX dL_law__1732 (pc' := 1733) rfl h (fun v3 h => ?_)
  obtain ⟨hv, h⟩ := h
  refine e_calli (run_V (n := 1) C (m_X7_count hst h) gL_law__X7_count rfl ⟨rfl, by decide, by decide, by decide +kernel⟩ ⟨by decide, by decide⟩ (ci := 7) rfl rfl hv rfl (Nat.le_of_ble_eq_true rfl) dL_law__1733 ⟨(by show cn ≤ 601024; omega), (by show sn ≤ 7293034; omega)⟩ (As := [.int v3]) rfl) (pc' := 1736) rfl (cn' := cn) (sn' := sn) rfl rfl (fun v4 ws h => ?_)
  refine e_icmp_eq C (tg := 1741) dL_law__1736 (by decide) (pc' := 1739) rfl (fun hc => ?_) (fun hc => ?_)
  · replace h := h.1 hc
    exact hN _ _ _ h
  · replace h := h.2 hc
    refine e_iconst C (v := (0 : Int32)) (by decide) dL_law__1739 (pc' := 1740) rfl ?_
    exact h.elim
