section Lf
variable {p : Program} {l : Launch} {e : Env} {s : State} {m : MethodId} {args : Array Value} {below : List Frame} {meth : Method} {c : Code} {H : Heap} {locs : List Loc} {cells slots i b L : Nat} {Q : State → Prop} {ls : Array Slot} {A : Nat → Prop} {D : va_G} {ca : Nat → ClassId} {a b0 z : Nat → Nat} {d : Nat → Nat → Nat} {W7 W8 : va_W} {code0 : Int32} {g : Nat → Int64} {out : Nat} {xs : Nat → Int32}
set_option maxRecDepth 100000 in
theorem lc_overTime (hst : l.stackTraces = false) (C : lwK p s m args c D ca A b L xs) (hi : i + 7 ≤ L) (hI : Inv ca a b0 d z W7 W8 code0) (hP : va_P D vwCl (([(out, .inl (ca 1, 1, .inr (.inl g)))] ++ W7) ++ W8) H) (hD : va_D A (([(out, .inl (ca 1, 1, .inr (.inl g)))] ++ W7) ++ W8)) (hS : va_S A s.heap H locs) (hl : lv_has ls 8 [(4, .int (iN (i : Int))), (3, .ref out), (2, .ref (z 0)), (1, .ref (a 0)), (0, .ref b)]) (hc : cells + 4 ≤ room_1.cells ∧ slots + 24 ≤ room_1.slots) (kk : lwN p l e s m args below meth c D ca A b i a b0 d z out Q cells slots) : W p l e room_1 s m args below meth c H locs cells slots Q (F0 m 1582 ls []) := by
  obtain ⟨r, V7, V8, bb, cc, hI2, hM7, hM8, hag⟩ := st_overTime l hst D hI (ag xs i 1) (ag xs i 2) (ag xs i 3) (bo (ag xs i 4))
  have he7 := inv_x hI
  obtain ⟨fs, he8⟩ := inv_m hI
  have C0 := C
  obtain ⟨hx, hb, hml, hown, hts, hK, hA, hZ, hC, hX, hbl, hbA, hL⟩ := C
  refine lv_aload_n hx hb dL_law_1582 rfl (lv_at hl 3 rfl) ?_
  refine lw_ld (v := 1) C0 hi (by simp) hS (lv_at hl 4 rfl) (lv_at hl 0 rfl) dL_law_1583 dL_law_1584 dL_law_1586 (by decide) dL_law_1587 dL_law_1588 ?_
  refine lw_ld (v := 2) C0 hi (by simp) hS (lv_at hl 4 rfl) (lv_at hl 0 rfl) dL_law_1589 dL_law_1590 dL_law_1592 (by decide) dL_law_1593 dL_law_1594 ?_
  refine lw_ld (v := 3) C0 hi (by simp) hS (lv_at hl 4 rfl) (lv_at hl 0 rfl) dL_law_1595 dL_law_1596 dL_law_1598 (by decide) dL_law_1599 dL_law_1600 ?_
  refine lw_ld (v := 4) C0 hi (by simp) hS (lv_at hl 4 rfl) (lv_at hl 0 rfl) dL_law_1601 dL_law_1602 dL_law_1604 (by decide) dL_law_1605 dL_law_1606 ?_
  refine lw_bo hx hb dL_law_1607 dL_law_1610 dL_law_1611 dL_law_1614 ?_
  refine lv_aload_n hx hb dL_law_1615 rfl (lv_at hl 1 rfl) ?_
  refine clSZ (As := [.ref (a 0), .int (ag xs i 1), .int (ag xs i 2), .int (ag xs i 3), .int (bo (ag xs i 4)), .ref out]) (rest := []) (st' := [.int (kcL (fun e => if e = 1 then 1 else 0) r)]) hx hb hml hown hts gL_law_L_overTime rfl 6 (by decide +kernel) ⟨Nat.le_of_ble_eq_true rfl, Nat.le_of_ble_eq_true rfl⟩ (wr_overTime l hst D ca _ _ _ _ g H.size he7 hM7 (fun n hn => kn1 (agL_n hag hn))) hP hD hS hA hK hZ hC rfl hl.1 rfl (Nat.le_of_ble_eq_true rfl) ⟨by omega, by omega⟩ dL_law_1616 rfl (fun H locs hP hD hS => ?_)
  refine W.widen (k := cells + 4) (n := slots + 24) (by omega) (by omega) ?_
  refine lv_istore (lv' := [(5, .int (kcL (fun e => if e = 1 then 1 else 0) r)), (4, .int (iN (i : Int))), (3, .ref out), (2, .ref (z 0)), (1, .ref (a 0)), (0, .ref b)]) hx hb dL_law_1619 hl (by decide) rfl (fun ls hl => ?_)
  refine lv_aload_n hx hb dL_law_1621 rfl (lv_at hl 3 rfl) ?_
  refine lw_ld (v := 1) C0 hi (by simp) hS (lv_at hl 5 rfl) (lv_at hl 1 rfl) dL_law_1622 dL_law_1623 dL_law_1625 (by decide) dL_law_1626 dL_law_1627 ?_
  refine lw_ld (v := 2) C0 hi (by simp) hS (lv_at hl 5 rfl) (lv_at hl 1 rfl) dL_law_1628 dL_law_1629 dL_law_1631 (by decide) dL_law_1632 dL_law_1633 ?_
  refine lw_ld (v := 3) C0 hi (by simp) hS (lv_at hl 5 rfl) (lv_at hl 1 rfl) dL_law_1634 dL_law_1635 dL_law_1637 (by decide) dL_law_1638 dL_law_1639 ?_
  refine lw_ld (v := 4) C0 hi (by simp) hS (lv_at hl 5 rfl) (lv_at hl 1 rfl) dL_law_1640 dL_law_1641 dL_law_1643 (by decide) dL_law_1644 dL_law_1645 ?_
  refine lw_bo hx hb dL_law_1646 dL_law_1649 dL_law_1650 dL_law_1653 ?_
  refine clVWb (As := [.int (ag xs i 1), .int (ag xs i 2), .int (ag xs i 3), .int (bo (ag xs i 4))]) (rest := []) (st' := [.long bb]) hx hb hml hown hts gL_law_X8_overTime rfl 4 (by decide +kernel) ⟨Nat.le_of_ble_eq_true rfl, Nat.le_of_ble_eq_true rfl⟩ (hM8 H.size) hP.flip hD.flip hS hA hK 0 7 he8 rfl rfl rfl hl.1 rfl (Nat.le_of_ble_eq_true rfl) hc dL_law_1654 rfl (fun H locs hP hD hS => ?_)
  refine lv_lstore (lv' := [(6, .long bb), (5, .int (kcL (fun e => if e = 1 then 1 else 0) r)), (4, .int (iN (i : Int))), (3, .ref out), (2, .ref (z 0)), (1, .ref (a 0)), (0, .ref b)]) hx hb dL_law_1657 hl (by decide) rfl (fun ls hl => ?_)
  exact lw_tlL C0 (show tlL 1659 680 from ⟨dL_law_1659, dL_law_1660, dL_law_1663, dL_law_1665, dL_law_1670, dL_law_1672, dL_law_1675, dL_law_1676, dL_law_1677, dL_law_1678, dL_law_1680, dL_law_1681, dL_law_1686, by decide⟩) hI2 (agL_code hag) (agL_out g hag) hc hP.flip hD.flip hS hl (fun H locs hP hD hS => kk H locs ls V7 V8 cc _ hI2 hP hD hS (lv_sub hl [2, 3, 4, 5, 6] rfl))
set_option maxRecDepth 100000 in
theorem lc_leads (hst : l.stackTraces = false) (C : lwK p s m args c D ca A b L xs) (hi : i + 7 ≤ L) (hI : Inv ca a b0 d z W7 W8 code0) (hP : va_P D vwCl (([(out, .inl (ca 1, 1, .inr (.inl g)))] ++ W7) ++ W8) H) (hD : va_D A (([(out, .inl (ca 1, 1, .inr (.inl g)))] ++ W7) ++ W8)) (hS : va_S A s.heap H locs) (hl : lv_has ls 8 [(4, .int (iN (i : Int))), (3, .ref out), (2, .ref (z 0)), (1, .ref (a 0)), (0, .ref b)]) (hc : cells + 4 ≤ room_1.cells ∧ slots + 24 ≤ room_1.slots) (kk : lwN p l e s m args below meth c D ca A b i a b0 d z out Q cells slots) : W p l e room_1 s m args below meth c H locs cells slots Q (F0 m 1689 ls []) := by
  obtain ⟨r, V7, V8, bb, cc, hI2, hM7, hM8, hag⟩ := st_leads l hst D hI (ag xs i 1) (ag xs i 2)
  have he7 := inv_x hI
  obtain ⟨fs, he8⟩ := inv_m hI
  have C0 := C
  obtain ⟨hx, hb, hml, hown, hts, hK, hA, hZ, hC, hX, hbl, hbA, hL⟩ := C
  refine lv_aload_n hx hb dL_law_1689 rfl (lv_at hl 3 rfl) ?_
  refine lw_ld (v := 1) C0 hi (by simp) hS (lv_at hl 4 rfl) (lv_at hl 0 rfl) dL_law_1690 dL_law_1691 dL_law_1693 (by decide) dL_law_1694 dL_law_1695 ?_
  refine lw_ld (v := 2) C0 hi (by simp) hS (lv_at hl 4 rfl) (lv_at hl 0 rfl) dL_law_1696 dL_law_1697 dL_law_1699 (by decide) dL_law_1700 dL_law_1701 ?_
  refine lv_aload_n hx hb dL_law_1702 rfl (lv_at hl 1 rfl) ?_
  refine clSZ (As := [.ref (a 0), .int (ag xs i 1), .int (ag xs i 2), .ref out]) (rest := []) (st' := [.int (kcI (fun e => if e = 3 then 1 else if e = 1 then 2 else 0) r)]) hx hb hml hown hts gL_law_L_leads rfl 4 (by decide +kernel) ⟨Nat.le_of_ble_eq_true rfl, Nat.le_of_ble_eq_true rfl⟩ (wr_leads l hst D ca _ _ g H.size he7 hM7 (fun n hn => kn2 (agI_n hag hn))) hP hD hS hA hK hZ hC rfl hl.1 rfl (Nat.le_of_ble_eq_true rfl) ⟨by omega, by omega⟩ dL_law_1703 rfl (fun H locs hP hD hS => ?_)
  refine W.widen (k := cells + 4) (n := slots + 24) (by omega) (by omega) ?_
  refine lv_istore (lv' := [(5, .int (kcI (fun e => if e = 3 then 1 else if e = 1 then 2 else 0) r)), (4, .int (iN (i : Int))), (3, .ref out), (2, .ref (z 0)), (1, .ref (a 0)), (0, .ref b)]) hx hb dL_law_1706 hl (by decide) rfl (fun ls hl => ?_)
  refine lv_aload_n hx hb dL_law_1708 rfl (lv_at hl 3 rfl) ?_
  refine lw_ld (v := 1) C0 hi (by simp) hS (lv_at hl 5 rfl) (lv_at hl 1 rfl) dL_law_1709 dL_law_1710 dL_law_1712 (by decide) dL_law_1713 dL_law_1714 ?_
  refine lw_ld (v := 2) C0 hi (by simp) hS (lv_at hl 5 rfl) (lv_at hl 1 rfl) dL_law_1715 dL_law_1716 dL_law_1718 (by decide) dL_law_1719 dL_law_1720 ?_
  refine clVWb (As := [.int (ag xs i 1), .int (ag xs i 2)]) (rest := []) (st' := [.int bb]) hx hb hml hown hts gL_law_X8_leads rfl 2 (by decide +kernel) ⟨Nat.le_of_ble_eq_true rfl, Nat.le_of_ble_eq_true rfl⟩ (hM8 H.size) hP.flip hD.flip hS hA hK 0 7 he8 rfl rfl rfl hl.1 rfl (Nat.le_of_ble_eq_true rfl) hc dL_law_1721 rfl (fun H locs hP hD hS => ?_)
  refine lv_istore (lv' := [(6, .int bb), (5, .int (kcI (fun e => if e = 3 then 1 else if e = 1 then 2 else 0) r)), (4, .int (iN (i : Int))), (3, .ref out), (2, .ref (z 0)), (1, .ref (a 0)), (0, .ref b)]) hx hb dL_law_1724 hl (by decide) rfl (fun ls hl => ?_)
  exact lw_tlI C0 (show tlI 1726 612 from ⟨dL_law_1726, dL_law_1727, dL_law_1730, dL_law_1732, dL_law_1737, dL_law_1739, dL_law_1742, dL_law_1743, dL_law_1744, dL_law_1745, dL_law_1747, dL_law_1748, dL_law_1749, dL_law_1754, by decide⟩) hI2 (agI_code hag) (agI_out g hag) hc hP.flip hD.flip hS hl (fun H locs hP hD hS => kk H locs ls V7 V8 cc _ hI2 hP hD hS (lv_sub hl [2, 3, 4, 5, 6] rfl))
set_option maxRecDepth 100000 in
theorem lc_intervals (hst : l.stackTraces = false) (C : lwK p s m args c D ca A b L xs) (hi : i + 7 ≤ L) (hI : Inv ca a b0 d z W7 W8 code0) (hP : va_P D vwCl (([(out, .inl (ca 1, 1, .inr (.inl g)))] ++ W7) ++ W8) H) (hD : va_D A (([(out, .inl (ca 1, 1, .inr (.inl g)))] ++ W7) ++ W8)) (hS : va_S A s.heap H locs) (hl : lv_has ls 8 [(4, .int (iN (i : Int))), (3, .ref out), (2, .ref (z 0)), (1, .ref (a 0)), (0, .ref b)]) (hc : cells + 4 ≤ room_1.cells ∧ slots + 24 ≤ room_1.slots) (kk : lwN p l e s m args below meth c D ca A b i a b0 d z out Q cells slots) : W p l e room_1 s m args below meth c H locs cells slots Q (F0 m 1757 ls []) := by
  obtain ⟨r, V7, V8, bb, cc, hI2, hM7, hM8, hag⟩ := st_intervals l hst D hI (ag xs i 1)
  have he7 := inv_x hI
  obtain ⟨fs, he8⟩ := inv_m hI
  have C0 := C
  obtain ⟨hx, hb, hml, hown, hts, hK, hA, hZ, hC, hX, hbl, hbA, hL⟩ := C
  refine lv_aload_n hx hb dL_law_1757 rfl (lv_at hl 3 rfl) ?_
  refine lw_ld (v := 1) C0 hi (by simp) hS (lv_at hl 4 rfl) (lv_at hl 0 rfl) dL_law_1758 dL_law_1759 dL_law_1761 (by decide) dL_law_1762 dL_law_1763 ?_
  refine lv_aload_n hx hb dL_law_1764 rfl (lv_at hl 1 rfl) ?_
  refine clSZ (As := [.ref (a 0), .int (ag xs i 1), .ref out]) (rest := []) (st' := [.int (kcI (fun e => if e = 3 then 1 else 0) r)]) hx hb hml hown hts gL_law_L_intervals rfl 3 (by decide +kernel) ⟨Nat.le_of_ble_eq_true rfl, Nat.le_of_ble_eq_true rfl⟩ (wr_intervals l hst D ca _ g H.size he7 hM7 (fun n hn => kn1 (agI_n hag hn))) hP hD hS hA hK hZ hC rfl hl.1 rfl (Nat.le_of_ble_eq_true rfl) ⟨by omega, by omega⟩ dL_law_1765 rfl (fun H locs hP hD hS => ?_)
  refine W.widen (k := cells + 4) (n := slots + 24) (by omega) (by omega) ?_
  refine lv_istore (lv' := [(5, .int (kcI (fun e => if e = 3 then 1 else 0) r)), (4, .int (iN (i : Int))), (3, .ref out), (2, .ref (z 0)), (1, .ref (a 0)), (0, .ref b)]) hx hb dL_law_1768 hl (by decide) rfl (fun ls hl => ?_)
  refine lv_aload_n hx hb dL_law_1770 rfl (lv_at hl 3 rfl) ?_
  refine lw_ld (v := 1) C0 hi (by simp) hS (lv_at hl 5 rfl) (lv_at hl 1 rfl) dL_law_1771 dL_law_1772 dL_law_1774 (by decide) dL_law_1775 dL_law_1776 ?_
  refine clVWb (As := [.int (ag xs i 1)]) (rest := []) (st' := [.int bb]) hx hb hml hown hts gL_law_X8_intervals rfl 1 (by decide +kernel) ⟨Nat.le_of_ble_eq_true rfl, Nat.le_of_ble_eq_true rfl⟩ (hM8 H.size) hP.flip hD.flip hS hA hK 0 7 he8 rfl rfl rfl hl.1 rfl (Nat.le_of_ble_eq_true rfl) hc dL_law_1777 rfl (fun H locs hP hD hS => ?_)
  refine lv_istore (lv' := [(6, .int bb), (5, .int (kcI (fun e => if e = 3 then 1 else 0) r)), (4, .int (iN (i : Int))), (3, .ref out), (2, .ref (z 0)), (1, .ref (a 0)), (0, .ref b)]) hx hb dL_law_1780 hl (by decide) rfl (fun ls hl => ?_)
  exact lw_tlI C0 (show tlI 1782 556 from ⟨dL_law_1782, dL_law_1783, dL_law_1786, dL_law_1788, dL_law_1793, dL_law_1795, dL_law_1798, dL_law_1799, dL_law_1800, dL_law_1801, dL_law_1803, dL_law_1804, dL_law_1805, dL_law_1810, by decide⟩) hI2 (agI_code hag) (agI_out g hag) hc hP.flip hD.flip hS hl (fun H locs hP hD hS => kk H locs ls V7 V8 cc _ hI2 hP hD hS (lv_sub hl [2, 3, 4, 5, 6] rfl))
set_option maxRecDepth 100000 in
theorem lc_interval (hst : l.stackTraces = false) (C : lwK p s m args c D ca A b L xs) (hi : i + 7 ≤ L) (hI : Inv ca a b0 d z W7 W8 code0) (hP : va_P D vwCl (([(out, .inl (ca 1, 1, .inr (.inl g)))] ++ W7) ++ W8) H) (hD : va_D A (([(out, .inl (ca 1, 1, .inr (.inl g)))] ++ W7) ++ W8)) (hS : va_S A s.heap H locs) (hl : lv_has ls 8 [(4, .int (iN (i : Int))), (3, .ref out), (2, .ref (z 0)), (1, .ref (a 0)), (0, .ref b)]) (hc : cells + 4 ≤ room_1.cells ∧ slots + 24 ≤ room_1.slots) (kk : lwN p l e s m args below meth c D ca A b i a b0 d z out Q cells slots) : W p l e room_1 s m args below meth c H locs cells slots Q (F0 m 1813 ls []) := by
  obtain ⟨r, V7, V8, bb, cc, hI2, hM7, hM8, hag⟩ := st_interval l hst D hI (ag xs i 1) (ag xs i 2) (bo (ag xs i 3))
  have he7 := inv_x hI
  obtain ⟨fs, he8⟩ := inv_m hI
  have C0 := C
  obtain ⟨hx, hb, hml, hown, hts, hK, hA, hZ, hC, hX, hbl, hbA, hL⟩ := C
  refine lv_aload_n hx hb dL_law_1813 rfl (lv_at hl 3 rfl) ?_
  refine lw_ld (v := 1) C0 hi (by simp) hS (lv_at hl 4 rfl) (lv_at hl 0 rfl) dL_law_1814 dL_law_1815 dL_law_1817 (by decide) dL_law_1818 dL_law_1819 ?_
  refine lw_ld (v := 2) C0 hi (by simp) hS (lv_at hl 4 rfl) (lv_at hl 0 rfl) dL_law_1820 dL_law_1821 dL_law_1823 (by decide) dL_law_1824 dL_law_1825 ?_
  refine lw_ld (v := 3) C0 hi (by simp) hS (lv_at hl 4 rfl) (lv_at hl 0 rfl) dL_law_1826 dL_law_1827 dL_law_1829 (by decide) dL_law_1830 dL_law_1831 ?_
  refine lw_bo hx hb dL_law_1832 dL_law_1835 dL_law_1836 dL_law_1839 ?_
  refine lv_aload_n hx hb dL_law_1840 rfl (lv_at hl 1 rfl) ?_
  refine clSZ (As := [.ref (a 0), .int (ag xs i 1), .int (ag xs i 2), .int (bo (ag xs i 3)), .ref out]) (rest := []) (st' := [.int (kcI (fun e => if e = 3 then 1 else 0) r)]) hx hb hml hown hts gL_law_L_interval rfl 5 (by decide +kernel) ⟨Nat.le_of_ble_eq_true rfl, Nat.le_of_ble_eq_true rfl⟩ (wr_interval l hst D ca _ _ _ g H.size he7 hM7 (fun n hn => kn1 (agI_n hag hn))) hP hD hS hA hK hZ hC rfl hl.1 rfl (Nat.le_of_ble_eq_true rfl) ⟨by omega, by omega⟩ dL_law_1841 rfl (fun H locs hP hD hS => ?_)
  refine W.widen (k := cells + 4) (n := slots + 24) (by omega) (by omega) ?_
  refine lv_istore (lv' := [(5, .int (kcI (fun e => if e = 3 then 1 else 0) r)), (4, .int (iN (i : Int))), (3, .ref out), (2, .ref (z 0)), (1, .ref (a 0)), (0, .ref b)]) hx hb dL_law_1844 hl (by decide) rfl (fun ls hl => ?_)
  refine lv_aload_n hx hb dL_law_1846 rfl (lv_at hl 3 rfl) ?_
  refine lw_ld (v := 1) C0 hi (by simp) hS (lv_at hl 5 rfl) (lv_at hl 1 rfl) dL_law_1847 dL_law_1848 dL_law_1850 (by decide) dL_law_1851 dL_law_1852 ?_
  refine lw_ld (v := 2) C0 hi (by simp) hS (lv_at hl 5 rfl) (lv_at hl 1 rfl) dL_law_1853 dL_law_1854 dL_law_1856 (by decide) dL_law_1857 dL_law_1858 ?_
  refine lw_ld (v := 3) C0 hi (by simp) hS (lv_at hl 5 rfl) (lv_at hl 1 rfl) dL_law_1859 dL_law_1860 dL_law_1862 (by decide) dL_law_1863 dL_law_1864 ?_
  refine lw_bo hx hb dL_law_1865 dL_law_1868 dL_law_1869 dL_law_1872 ?_
  refine clVWb (As := [.int (ag xs i 1), .int (ag xs i 2), .int (bo (ag xs i 3))]) (rest := []) (st' := [.int bb]) hx hb hml hown hts gL_law_X8_interval rfl 3 (by decide +kernel) ⟨Nat.le_of_ble_eq_true rfl, Nat.le_of_ble_eq_true rfl⟩ (hM8 H.size) hP.flip hD.flip hS hA hK 0 7 he8 rfl rfl rfl hl.1 rfl (Nat.le_of_ble_eq_true rfl) hc dL_law_1873 rfl (fun H locs hP hD hS => ?_)
  refine lv_istore (lv' := [(6, .int bb), (5, .int (kcI (fun e => if e = 3 then 1 else 0) r)), (4, .int (iN (i : Int))), (3, .ref out), (2, .ref (z 0)), (1, .ref (a 0)), (0, .ref b)]) hx hb dL_law_1876 hl (by decide) rfl (fun ls hl => ?_)
  exact lw_tlI C0 (show tlI 1878 460 from ⟨dL_law_1878, dL_law_1879, dL_law_1882, dL_law_1884, dL_law_1889, dL_law_1891, dL_law_1894, dL_law_1895, dL_law_1896, dL_law_1897, dL_law_1899, dL_law_1900, dL_law_1901, dL_law_1906, by decide⟩) hI2 (agI_code hag) (agI_out g hag) hc hP.flip hD.flip hS hl (fun H locs hP hD hS => kk H locs ls V7 V8 cc _ hI2 hP hD hS (lv_sub hl [2, 3, 4, 5, 6] rfl))
set_option maxRecDepth 100000 in
theorem lc_holders (hst : l.stackTraces = false) (C : lwK p s m args c D ca A b L xs) (hi : i + 7 ≤ L) (hI : Inv ca a b0 d z W7 W8 code0) (hP : va_P D vwCl (([(out, .inl (ca 1, 1, .inr (.inl g)))] ++ W7) ++ W8) H) (hD : va_D A (([(out, .inl (ca 1, 1, .inr (.inl g)))] ++ W7) ++ W8)) (hS : va_S A s.heap H locs) (hl : lv_has ls 8 [(4, .int (iN (i : Int))), (3, .ref out), (2, .ref (z 0)), (1, .ref (a 0)), (0, .ref b)]) (hc : cells + 4 ≤ room_1.cells ∧ slots + 24 ≤ room_1.slots) (kk : lwN p l e s m args below meth c D ca A b i a b0 d z out Q cells slots) : W p l e room_1 s m args below meth c H locs cells slots Q (F0 m 1909 ls []) := by
  obtain ⟨r, V7, V8, bb, cc, hI2, hM7, hM8, hag⟩ := st_holders l hst D hI (ag xs i 1) (ag xs i 2)
  have he7 := inv_x hI
  obtain ⟨fs, he8⟩ := inv_m hI
  have C0 := C
  obtain ⟨hx, hb, hml, hown, hts, hK, hA, hZ, hC, hX, hbl, hbA, hL⟩ := C
  refine lv_aload_n hx hb dL_law_1909 rfl (lv_at hl 3 rfl) ?_
  refine lw_ld (v := 1) C0 hi (by simp) hS (lv_at hl 4 rfl) (lv_at hl 0 rfl) dL_law_1910 dL_law_1911 dL_law_1913 (by decide) dL_law_1914 dL_law_1915 ?_
  refine lw_ld (v := 2) C0 hi (by simp) hS (lv_at hl 4 rfl) (lv_at hl 0 rfl) dL_law_1916 dL_law_1917 dL_law_1919 (by decide) dL_law_1920 dL_law_1921 ?_
  refine lv_aload_n hx hb dL_law_1922 rfl (lv_at hl 1 rfl) ?_
  refine clSZ (As := [.ref (a 0), .int (ag xs i 1), .int (ag xs i 2), .ref out]) (rest := []) (st' := [.int (kcI (fun e => if e = 1 then 1 else 0) r)]) hx hb hml hown hts gL_law_L_holders rfl 4 (by decide +kernel) ⟨Nat.le_of_ble_eq_true rfl, Nat.le_of_ble_eq_true rfl⟩ (wr_holders l hst D ca _ _ g H.size he7 hM7 (fun n hn => kn1 (agI_n hag hn))) hP hD hS hA hK hZ hC rfl hl.1 rfl (Nat.le_of_ble_eq_true rfl) ⟨by omega, by omega⟩ dL_law_1923 rfl (fun H locs hP hD hS => ?_)
  refine W.widen (k := cells + 4) (n := slots + 24) (by omega) (by omega) ?_
  refine lv_istore (lv' := [(5, .int (kcI (fun e => if e = 1 then 1 else 0) r)), (4, .int (iN (i : Int))), (3, .ref out), (2, .ref (z 0)), (1, .ref (a 0)), (0, .ref b)]) hx hb dL_law_1926 hl (by decide) rfl (fun ls hl => ?_)
  refine lv_aload_n hx hb dL_law_1928 rfl (lv_at hl 3 rfl) ?_
  refine lw_ld (v := 1) C0 hi (by simp) hS (lv_at hl 5 rfl) (lv_at hl 1 rfl) dL_law_1929 dL_law_1930 dL_law_1932 (by decide) dL_law_1933 dL_law_1934 ?_
  refine lw_ld (v := 2) C0 hi (by simp) hS (lv_at hl 5 rfl) (lv_at hl 1 rfl) dL_law_1935 dL_law_1936 dL_law_1938 (by decide) dL_law_1939 dL_law_1940 ?_
  refine clVWb (As := [.int (ag xs i 1), .int (ag xs i 2)]) (rest := []) (st' := [.int bb]) hx hb hml hown hts gL_law_X8_holders rfl 2 (by decide +kernel) ⟨Nat.le_of_ble_eq_true rfl, Nat.le_of_ble_eq_true rfl⟩ (hM8 H.size) hP.flip hD.flip hS hA hK 0 7 he8 rfl rfl rfl hl.1 rfl (Nat.le_of_ble_eq_true rfl) hc dL_law_1941 rfl (fun H locs hP hD hS => ?_)
  refine lv_istore (lv' := [(6, .int bb), (5, .int (kcI (fun e => if e = 1 then 1 else 0) r)), (4, .int (iN (i : Int))), (3, .ref out), (2, .ref (z 0)), (1, .ref (a 0)), (0, .ref b)]) hx hb dL_law_1944 hl (by decide) rfl (fun ls hl => ?_)
  exact lw_tlI C0 (show tlI 1946 392 from ⟨dL_law_1946, dL_law_1947, dL_law_1950, dL_law_1952, dL_law_1957, dL_law_1959, dL_law_1962, dL_law_1963, dL_law_1964, dL_law_1965, dL_law_1967, dL_law_1968, dL_law_1969, dL_law_1974, by decide⟩) hI2 (agI_code hag) (agI_out g hag) hc hP.flip hD.flip hS hl (fun H locs hP hD hS => kk H locs ls V7 V8 cc _ hI2 hP hD hS (lv_sub hl [2, 3, 4, 5, 6] rfl))
set_option maxRecDepth 100000 in
theorem lc_collect (hst : l.stackTraces = false) (C : lwK p s m args c D ca A b L xs) (hi : i + 7 ≤ L) (hI : Inv ca a b0 d z W7 W8 code0) (hP : va_P D vwCl (([(out, .inl (ca 1, 1, .inr (.inl g)))] ++ W7) ++ W8) H) (hD : va_D A (([(out, .inl (ca 1, 1, .inr (.inl g)))] ++ W7) ++ W8)) (hS : va_S A s.heap H locs) (hl : lv_has ls 8 [(4, .int (iN (i : Int))), (3, .ref out), (2, .ref (z 0)), (1, .ref (a 0)), (0, .ref b)]) (hc : cells + 4 ≤ room_1.cells ∧ slots + 24 ≤ room_1.slots) (kk : lwN p l e s m args below meth c D ca A b i a b0 d z out Q cells slots) : W p l e room_1 s m args below meth c H locs cells slots Q (F0 m 1977 ls []) := by
  obtain ⟨r, V7, V8, bb, cc, hI2, hM7, hM8, hag⟩ := st_collect l hst D hI (ag xs i 1) (ag xs i 2)
  have he7 := inv_x hI
  obtain ⟨fs, he8⟩ := inv_m hI
  have C0 := C
  obtain ⟨hx, hb, hml, hown, hts, hK, hA, hZ, hC, hX, hbl, hbA, hL⟩ := C
  refine lv_aload_n hx hb dL_law_1977 rfl (lv_at hl 3 rfl) ?_
  refine lw_ld (v := 1) C0 hi (by simp) hS (lv_at hl 4 rfl) (lv_at hl 0 rfl) dL_law_1978 dL_law_1979 dL_law_1981 (by decide) dL_law_1982 dL_law_1983 ?_
  refine lw_ld (v := 2) C0 hi (by simp) hS (lv_at hl 4 rfl) (lv_at hl 0 rfl) dL_law_1984 dL_law_1985 dL_law_1987 (by decide) dL_law_1988 dL_law_1989 ?_
  refine lv_aload_n hx hb dL_law_1990 rfl (lv_at hl 1 rfl) ?_
  refine clSZ (As := [.ref (a 0), .int (ag xs i 1), .int (ag xs i 2), .ref out]) (rest := []) (st' := [.int (kcI (fun e => if e = 1 then 1 else if e = 2 then 2 else 0) r)]) hx hb hml hown hts gL_law_L_collect rfl 4 (by decide +kernel) ⟨Nat.le_of_ble_eq_true rfl, Nat.le_of_ble_eq_true rfl⟩ (wr_collect l hst D ca _ _ g H.size he7 hM7 (fun n hn => kn2 (agI_n hag hn))) hP hD hS hA hK hZ hC rfl hl.1 rfl (Nat.le_of_ble_eq_true rfl) ⟨by omega, by omega⟩ dL_law_1991 rfl (fun H locs hP hD hS => ?_)
  refine W.widen (k := cells + 4) (n := slots + 24) (by omega) (by omega) ?_
  refine lv_istore (lv' := [(5, .int (kcI (fun e => if e = 1 then 1 else if e = 2 then 2 else 0) r)), (4, .int (iN (i : Int))), (3, .ref out), (2, .ref (z 0)), (1, .ref (a 0)), (0, .ref b)]) hx hb dL_law_1994 hl (by decide) rfl (fun ls hl => ?_)
  refine lv_aload_n hx hb dL_law_1996 rfl (lv_at hl 3 rfl) ?_
  refine lw_ld (v := 1) C0 hi (by simp) hS (lv_at hl 5 rfl) (lv_at hl 1 rfl) dL_law_1997 dL_law_1998 dL_law_2000 (by decide) dL_law_2001 dL_law_2002 ?_
  refine lw_ld (v := 2) C0 hi (by simp) hS (lv_at hl 5 rfl) (lv_at hl 1 rfl) dL_law_2003 dL_law_2004 dL_law_2006 (by decide) dL_law_2007 dL_law_2008 ?_
  refine clVWb (As := [.int (ag xs i 1), .int (ag xs i 2)]) (rest := []) (st' := [.int bb]) hx hb hml hown hts gL_law_X8_collect rfl 2 (by decide +kernel) ⟨Nat.le_of_ble_eq_true rfl, Nat.le_of_ble_eq_true rfl⟩ (hM8 H.size) hP.flip hD.flip hS hA hK 0 7 he8 rfl rfl rfl hl.1 rfl (Nat.le_of_ble_eq_true rfl) hc dL_law_2009 rfl (fun H locs hP hD hS => ?_)
  refine lv_istore (lv' := [(6, .int bb), (5, .int (kcI (fun e => if e = 1 then 1 else if e = 2 then 2 else 0) r)), (4, .int (iN (i : Int))), (3, .ref out), (2, .ref (z 0)), (1, .ref (a 0)), (0, .ref b)]) hx hb dL_law_2012 hl (by decide) rfl (fun ls hl => ?_)
  exact lw_tlI C0 (show tlI 2014 324 from ⟨dL_law_2014, dL_law_2015, dL_law_2018, dL_law_2020, dL_law_2025, dL_law_2027, dL_law_2030, dL_law_2031, dL_law_2032, dL_law_2033, dL_law_2035, dL_law_2036, dL_law_2037, dL_law_2042, by decide⟩) hI2 (agI_code hag) (agI_out g hag) hc hP.flip hD.flip hS hl (fun H locs hP hD hS => kk H locs ls V7 V8 cc _ hI2 hP hD hS (lv_sub hl [2, 3, 4, 5, 6] rfl))
end Lf
