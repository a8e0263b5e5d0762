/-! THE LAW's cases: reserves, company, duel, best, spread, soonest, mute, amends, meets, log, led -/
section LC
set_option maxHeartbeats 1000000 in
set_option maxRecDepth 100000 in
theorem lc_reserves {X : am_X} {ad : Nat → Nat} {b L i : Nat} {xs : Nat → Int32} {r : am_R} {h : am_H} (Cx : lp_Cx X ad b L xs) (hi : 6 * i + 6 ≤ L) (hR : am_rs r) (R : cl_R r h i) (K : ∀ r1 h1, am_rs r1 → cl_R r1 h1 (i + 1) → am_G X (am_VV ad) (lp_cs (i + 1)) 2798 (lp_ls i) [] r1 h1) : am_G X (am_VV ad) (lp_cs i) 1623 (lp_ls i) [] r h := by
  obtain ⟨C, S, hb, hL⟩ := id Cx
  have hi2 : i < 512 := by omega
  have hV := R.1.1.1
  have hLo := R.1.2.1
  have hSc := R.1.2.2.1
  refine am_aload_n (pc := 1623) C dL_law__1623 rfl ?_
  refine lp_arg (pc := 1624) (k := 1) Cx hi (by decide) dL_law__1624 dL_law__1625 dL_law__1627 dL_law__1628 dL_law__1629 rfl rfl ?_
  refine lp_arg (pc := 1630) (k := 2) Cx hi (by decide) dL_law__1630 dL_law__1631 dL_law__1633 dL_law__1634 dL_law__1635 rfl rfl ?_
  refine am_aload_n (pc := 1636) C dL_law__1636 rfl ?_
  refine lp_cW (Y := mL_reserves) (hh := hL_reserves) (n := 4) (pc := 1637) (st := []) (As := [.ref 0, .int (xs (6 * i + 1)), .int (xs (6 * i + 2)), .ref 335]) (cz := lp_cs (i + 1)) C dL_law__1637 kL_206 ⟨by decide, by decide, by decide +kernel⟩ ⟨(am_mem 1500 (by decide +kernel) rfl), (am_mem 139 (by decide +kernel) rfl), by decide⟩ (am_mem 1499 (by decide +kernel) rfl) rfl rfl (by decide) (show 400 + 5 * i + 2 ≤ 400 + 5 * (i + 1) by omega) (show 73000 + 30 * i + 12 ≤ 73000 + 30 * (i + 1) by omega) (lp_leC (show 400 + 5 * (i + 1) ≤ 600000 by omega)) (lp_leS (show 73000 + 30 * (i + 1) ≤ 7000000 by omega)) (Nat.le_of_ble_eq_true rfl) (w_reserves (xs (6 * i + 1)) (xs (6 * i + 2)) lp_hP_k (c_X11_reserves hR (xs (6 * i + 1)) (xs (6 * i + 2)) (h 323) hV hLo hSc)) (fun y1 r1 h1 ey1 hp ho => ?_)
  obtain ⟨cc, ecc⟩ : ∃ q : Nat, q = rf_c_reserves (h 323) (xs (6 * i + 1)) (xs (6 * i + 2)) := ⟨_, rfl⟩
  rw [← ecc] at ey1 ho
  have hcc : cc < 100 := by rw [ecc]; unfold rf_c_reserves; exact lp_cbl (by decide) (lp_cbl (by decide) (by decide))
  rw [ey1]
  refine am_istore (pc := 1640) (ls' := lp_l5 i (nI cc)) C dL_law__1640 (by decide) rfl ?_
  obtain ⟨er, hk⟩ := hp
  have hR1 : am_rs r1 := by rw [er]; exact hR
  have R1 : cl_R r1 h i := by rw [er]; exact R
  have f : ∀ j, 322 ≤ j → j ≠ 335 → h1 j = h j := fun j a b => hk j ⟨Or.inr (by omega), Or.inr (by omega), by omega, Or.inr a, b⟩
  refine am_aload_n (pc := 1642) C dL_law__1642 rfl ?_
  refine lp_arg (pc := 1643) (k := 1) Cx hi (by decide) dL_law__1643 dL_law__1644 dL_law__1646 dL_law__1647 dL_law__1648 rfl rfl ?_
  refine lp_arg (pc := 1649) (k := 2) Cx hi (by decide) dL_law__1649 dL_law__1650 dL_law__1652 dL_law__1653 dL_law__1654 rfl rfl ?_
  refine lp_cV (Y := mX12_reserves) (pc := 1655) (st := []) (As := [.int (xs (6 * i + 1)), .int (xs (6 * i + 2))]) C dL_law__1655 kL_208 v_X12_reserves rfl rfl bn_322 sh_322 ⟨by decide, rfl⟩ (by decide) (lp_leC (show 400 + 5 * (i + 1) ≤ 600000 by omega)) (lp_leS (show 73000 + 30 * (i + 1) ≤ 7000000 by omega)) (Nat.le_of_ble_eq_true rfl) (c_X12_reserves hR1 (xs (6 * i + 1)) (xs (6 * i + 2)) (show rf_I (h1 323) by rw [f 323 (by decide) (by decide)]; exact R.1.1.1)) (fun y2 h2 ey2 e2 => ?_)
  refine am_istore (pc := 1658) (ls' := lp_l6 i (nI cc) y2) C dL_law__1658 (by decide) rfl ?_
  simp only [f 322 (by decide) (by decide), f 323 (by decide) (by decide), f 325 (by decide) (by decide), f 326 (by decide) (by decide), f 327 (by decide) (by decide), f 328 (by decide) (by decide)] at ey2 e2
  rw [← ecc] at ey2 e2
  have F : ∀ j, j ≠ 322 → j ≠ 323 → j ≠ 326 → j ≠ 327 → (j < 330 ∨ 334 < j) → h2 j = h1 j := fun j a b c d k => by rw [e2]; repeat rw [am_row_ne _ _ _ (by omega)]
  have ea : cc = 0 → h2 335 0 = y2 := fun z => by rw [F 335 (by decide) (by decide) (by decide) (by decide) (by decide), ho z, ey2, rf_ga, if_pos z]
  have e322 : h2 322 = rf_oc (h 322) cc := by rw [e2, am_row_at]
  have et : (h2 322) 0 = nI cc := by rw [e322]; exact rf_upd_eq
  have F2 : ∀ j, j ≠ 322 → j < 330 → h2 j = h1 j := fun j a b => by rw [e2]; repeat rw [am_row_ne _ _ _ (by omega)]
  have R2 : cl_R r1 h2 (i + 1) := lp_pure R1 hk (fun j a b _ => F2 j a (by omega)) e322
  refine lp_tail (pc := 1660) (c := cc) (a := 0) (u := y2) Cx hR1 hcc dL_law__1660 dL_law__1661 kL_142 dL_law__1664 dL_law__1666 dL_law__1671 dL_law__1673 dL_law__1676 dL_law__1677 dL_law__1678 dL_law__1679 dL_law__1681 dL_law__1682 dL_law__1683 dL_law__1688 (by decide) rfl rfl rfl rfl (lp_leC (show 400 + 5 * (i + 1) ≤ 600000 by omega)) (lp_leS (show 73000 + 30 * (i + 1) ≤ 7000000 by omega)) et ea ?_
  refine am_subp (ls' := lp_ls i) [0, 1, 2, 3, 4] rfl ?_
  exact K r1 h2 hR1 R2

set_option maxHeartbeats 1000000 in
set_option maxRecDepth 100000 in
theorem lc_company {X : am_X} {ad : Nat → Nat} {b L i : Nat} {xs : Nat → Int32} {r : am_R} {h : am_H} (Cx : lp_Cx X ad b L xs) (hi : 6 * i + 6 ≤ L) (hR : am_rs r) (R : cl_R r h i) (K : ∀ r1 h1, am_rs r1 → cl_R r1 h1 (i + 1) → am_G X (am_VV ad) (lp_cs (i + 1)) 2798 (lp_ls i) [] r1 h1) : am_G X (am_VV ad) (lp_cs i) 1691 (lp_ls i) [] r h := by
  obtain ⟨C, S, hb, hL⟩ := id Cx
  have hi2 : i < 512 := by omega
  have hV := R.1.1.1
  have hLo := R.1.2.1
  have hSc := R.1.2.2.1
  refine am_aload_n (pc := 1691) C dL_law__1691 rfl ?_
  refine lp_arg (pc := 1692) (k := 1) Cx hi (by decide) dL_law__1692 dL_law__1693 dL_law__1695 dL_law__1696 dL_law__1697 rfl rfl ?_
  refine am_aload_n (pc := 1698) C dL_law__1698 rfl ?_
  refine lp_cW (Y := mL_company) (hh := hL_company) (n := 3) (pc := 1699) (st := []) (As := [.ref 0, .int (xs (6 * i + 1)), .ref 335]) (cz := lp_cs (i + 1)) C dL_law__1699 kL_209 ⟨by decide, by decide, by decide +kernel⟩ ⟨(am_mem 1519 (by decide +kernel) rfl), (am_mem 139 (by decide +kernel) rfl), by decide⟩ (am_mem 1518 (by decide +kernel) rfl) rfl rfl (by decide) (show 400 + 5 * i + 1 ≤ 400 + 5 * (i + 1) by omega) (show 73000 + 30 * i + 6 ≤ 73000 + 30 * (i + 1) by omega) (lp_leC (show 400 + 5 * (i + 1) ≤ 600000 by omega)) (lp_leS (show 73000 + 30 * (i + 1) ≤ 7000000 by omega)) (Nat.le_of_ble_eq_true rfl) (w_company (xs (6 * i + 1)) lp_hP_k (c_X11_company hR (xs (6 * i + 1)) (h 323) hV hLo hSc)) (fun y1 r1 h1 ey1 hp ho => ?_)
  obtain ⟨cc, ecc⟩ : ∃ q : Nat, q = rf_c_company (h 323) (xs (6 * i + 1)) := ⟨_, rfl⟩
  rw [← ecc] at ey1 ho
  have hcc : cc < 100 := by rw [ecc]; unfold rf_c_company; exact lp_cbl (by decide) (by decide)
  rw [ey1]
  refine am_istore (pc := 1702) (ls' := lp_l5 i (nI cc)) C dL_law__1702 (by decide) rfl ?_
  obtain ⟨er, hk⟩ := hp
  have hR1 : am_rs r1 := by rw [er]; exact hR
  have R1 : cl_R r1 h i := by rw [er]; exact R
  have f : ∀ j, 322 ≤ j → j ≠ 335 → h1 j = h j := fun j a b => hk j ⟨Or.inr (by omega), Or.inr (by omega), by omega, Or.inr a, b⟩
  refine am_aload_n (pc := 1704) C dL_law__1704 rfl ?_
  refine lp_arg (pc := 1705) (k := 1) Cx hi (by decide) dL_law__1705 dL_law__1706 dL_law__1708 dL_law__1709 dL_law__1710 rfl rfl ?_
  refine lp_cV (Y := mX12_company) (pc := 1711) (st := []) (As := [.int (xs (6 * i + 1))]) C dL_law__1711 kL_211 v_X12_company rfl rfl bn_322 sh_322 ⟨by decide, rfl⟩ (by decide) (lp_leC (show 400 + 5 * (i + 1) ≤ 600000 by omega)) (lp_leS (show 73000 + 30 * (i + 1) ≤ 7000000 by omega)) (Nat.le_of_ble_eq_true rfl) (c_X12_company hR1 (xs (6 * i + 1)) (show rf_I (h1 323) by rw [f 323 (by decide) (by decide)]; exact R.1.1.1)) (fun y2 h2 ey2 e2 => ?_)
  refine am_istore (pc := 1714) (ls' := lp_l6 i (nI cc) y2) C dL_law__1714 (by decide) rfl ?_
  simp only [f 322 (by decide) (by decide), f 323 (by decide) (by decide), f 325 (by decide) (by decide), f 326 (by decide) (by decide), f 327 (by decide) (by decide), f 328 (by decide) (by decide)] at ey2 e2
  rw [← ecc] at ey2 e2
  have F : ∀ j, j ≠ 322 → j ≠ 323 → j ≠ 326 → j ≠ 327 → (j < 330 ∨ 334 < j) → h2 j = h1 j := fun j a b c d k => by rw [e2]; repeat rw [am_row_ne _ _ _ (by omega)]
  have ea : cc = 0 → h2 335 0 = y2 := fun z => by rw [F 335 (by decide) (by decide) (by decide) (by decide) (by decide), ho z, ey2, rf_ga, if_pos z]
  have e322 : h2 322 = rf_oc (h 322) cc := by rw [e2, am_row_at]
  have et : (h2 322) 0 = nI cc := by rw [e322]; exact rf_upd_eq
  have F2 : ∀ j, j ≠ 322 → j < 330 → h2 j = h1 j := fun j a b => by rw [e2]; repeat rw [am_row_ne _ _ _ (by omega)]
  have R2 : cl_R r1 h2 (i + 1) := lp_pure R1 hk (fun j a b _ => F2 j a (by omega)) e322
  refine lp_tail (pc := 1716) (c := cc) (a := 0) (u := y2) Cx hR1 hcc dL_law__1716 dL_law__1717 kL_142 dL_law__1720 dL_law__1722 dL_law__1727 dL_law__1729 dL_law__1732 dL_law__1733 dL_law__1734 dL_law__1735 dL_law__1737 dL_law__1738 dL_law__1739 dL_law__1744 (by decide) rfl rfl rfl rfl (lp_leC (show 400 + 5 * (i + 1) ≤ 600000 by omega)) (lp_leS (show 73000 + 30 * (i + 1) ≤ 7000000 by omega)) et ea ?_
  refine am_subp (ls' := lp_ls i) [0, 1, 2, 3, 4] rfl ?_
  exact K r1 h2 hR1 R2

set_option maxHeartbeats 1000000 in
set_option maxRecDepth 100000 in
theorem lc_duel {X : am_X} {ad : Nat → Nat} {b L i : Nat} {xs : Nat → Int32} {r : am_R} {h : am_H} (Cx : lp_Cx X ad b L xs) (hi : 6 * i + 6 ≤ L) (hR : am_rs r) (R : cl_R r h i) (K : ∀ r1 h1, am_rs r1 → cl_R r1 h1 (i + 1) → am_G X (am_VV ad) (lp_cs (i + 1)) 2798 (lp_ls i) [] r1 h1) : am_G X (am_VV ad) (lp_cs i) 1788 (lp_ls i) [] r h := by
  obtain ⟨C, S, hb, hL⟩ := id Cx
  have hi2 : i < 512 := by omega
  have hV := R.1.1.1
  have hLo := R.1.2.1
  have hSc := R.1.2.2.1
  refine am_aload_n (pc := 1788) C dL_law__1788 rfl ?_
  refine lp_arg (pc := 1789) (k := 1) Cx hi (by decide) dL_law__1789 dL_law__1790 dL_law__1792 dL_law__1793 dL_law__1794 rfl rfl ?_
  refine lp_arg (pc := 1795) (k := 2) Cx hi (by decide) dL_law__1795 dL_law__1796 dL_law__1798 dL_law__1799 dL_law__1800 rfl rfl ?_
  refine am_aload_n (pc := 1801) C dL_law__1801 rfl ?_
  refine lp_cW (Y := mL_duel) (hh := hL_duel) (n := 4) (pc := 1802) (st := []) (As := [.ref 0, .int (xs (6 * i + 1)), .int (xs (6 * i + 2)), .ref 335]) (cz := lp_cs (i + 1)) C dL_law__1802 kL_217 ⟨by decide, by decide, by decide +kernel⟩ ⟨(am_mem 1535 (by decide +kernel) rfl), (am_mem 139 (by decide +kernel) rfl), by decide⟩ (am_mem 1534 (by decide +kernel) rfl) rfl rfl (by decide) (show 400 + 5 * i + 3 ≤ 400 + 5 * (i + 1) by omega) (show 73000 + 30 * i + 18 ≤ 73000 + 30 * (i + 1) by omega) (lp_leC (show 400 + 5 * (i + 1) ≤ 600000 by omega)) (lp_leS (show 73000 + 30 * (i + 1) ≤ 7000000 by omega)) (Nat.le_of_ble_eq_true rfl) (w_duel (xs (6 * i + 1)) (xs (6 * i + 2)) lp_hP_k (c_X11_duel hR (xs (6 * i + 1)) (xs (6 * i + 2)) (h 323) hV hLo hSc)) (fun y1 r1 h1 ey1 hp ho => ?_)
  obtain ⟨cc, ecc⟩ : ∃ q : Nat, q = rf_c_duel (h 323) (xs (6 * i + 1)) (xs (6 * i + 2)) := ⟨_, rfl⟩
  rw [← ecc] at ey1 ho
  have hcc : cc < 100 := by rw [ecc]; unfold rf_c_duel; exact lp_cbl (by decide) (lp_cbl (by decide) (lp_cbl (by decide) (by decide)))
  rw [ey1]
  refine am_istore (pc := 1805) (ls' := lp_l5 i (nI cc)) C dL_law__1805 (by decide) rfl ?_
  obtain ⟨er, hk⟩ := hp
  have hR1 : am_rs r1 := by rw [er]; exact hR
  have R1 : cl_R r1 h i := by rw [er]; exact R
  have f : ∀ j, 322 ≤ j → j ≠ 335 → h1 j = h j := fun j a b => hk j ⟨Or.inr (by omega), Or.inr (by omega), by omega, Or.inr a, b⟩
  refine am_aload_n (pc := 1807) C dL_law__1807 rfl ?_
  refine lp_arg (pc := 1808) (k := 1) Cx hi (by decide) dL_law__1808 dL_law__1809 dL_law__1811 dL_law__1812 dL_law__1813 rfl rfl ?_
  refine lp_arg (pc := 1814) (k := 2) Cx hi (by decide) dL_law__1814 dL_law__1815 dL_law__1817 dL_law__1818 dL_law__1819 rfl rfl ?_
  refine lp_cVj (Y := mX12_duel) (pc := 1820) (st := []) (As := [.int (xs (6 * i + 1)), .int (xs (6 * i + 2))]) C dL_law__1820 kL_219 v_X12_duel rfl rfl bn_322 sh_322 ⟨by decide, rfl⟩ (by decide) (lp_leC (show 400 + 5 * (i + 1) ≤ 600000 by omega)) (lp_leS (show 73000 + 30 * (i + 1) ≤ 7000000 by omega)) (Nat.le_of_ble_eq_true rfl) (c_X12_duel hR1 (xs (6 * i + 1)) (xs (6 * i + 2)) (show rf_I (h1 323) by rw [f 323 (by decide) (by decide)]; exact R.1.1.1)) (fun y2 h2 G2 ey2 e2 => ?_)
  refine am_istore (pc := 1823) (ls' := lp_l6 i (nI cc) y2) C dL_law__1823 (by decide) rfl ?_
  simp only [f 322 (by decide) (by decide), f 323 (by decide) (by decide), f 325 (by decide) (by decide), f 326 (by decide) (by decide), f 327 (by decide) (by decide), f 328 (by decide) (by decide)] at ey2 e2
  rw [← ecc] at ey2 e2
  have F : ∀ j, j ≠ 322 → j ≠ 323 → j ≠ 326 → j ≠ 327 → (j < 330 ∨ 334 < j) → h2 j = h1 j := fun j a b c d k => by rw [e2]; repeat rw [am_row_ne _ _ _ (by omega)]
  have ea : cc = 0 → h2 335 0 = y2 := fun z => by rw [F 335 (by decide) (by decide) (by decide) (by decide) (by decide), ho z, ey2, rf_ga, if_pos z]
  have e322 : h2 322 = rf_oc (h 322) cc := by rw [e2, am_row_at]
  have et : (h2 322) 0 = nI cc := by rw [e322]; exact rf_upd_eq
  have F2 : ∀ j, j ≠ 322 → j < 330 → h2 j = h1 j := fun j a b => by rw [e2]; repeat rw [am_row_ne _ _ _ (by omega)]
  have R2 : cl_R r1 h2 (i + 1) := lp_pure R1 hk (fun j a b _ => F2 j a (by omega)) e322
  refine lp_tail (pc := 1825) (c := cc) (a := 0) (u := y2) Cx hR1 hcc dL_law__1825 dL_law__1826 kL_142 dL_law__1829 dL_law__1831 dL_law__1836 dL_law__1838 dL_law__1841 dL_law__1842 dL_law__1843 dL_law__1844 dL_law__1846 dL_law__1847 dL_law__1848 dL_law__1853 (by decide) rfl rfl rfl rfl (lp_leC (show 400 + 5 * (i + 1) ≤ 600000 by omega)) (lp_leS (show 73000 + 30 * (i + 1) ≤ 7000000 by omega)) et ea ?_
  refine am_subp (ls' := lp_ls i) [0, 1, 2, 3, 4] rfl ?_
  exact K r1 h2 hR1 R2

set_option maxHeartbeats 1000000 in
set_option maxRecDepth 100000 in
theorem lc_best {X : am_X} {ad : Nat → Nat} {b L i : Nat} {xs : Nat → Int32} {r : am_R} {h : am_H} (Cx : lp_Cx X ad b L xs) (hi : 6 * i + 6 ≤ L) (hR : am_rs r) (R : cl_R r h i) (K : ∀ r1 h1, am_rs r1 → cl_R r1 h1 (i + 1) → am_G X (am_VV ad) (lp_cs (i + 1)) 2798 (lp_ls i) [] r1 h1) : am_G X (am_VV ad) (lp_cs i) 1856 (lp_ls i) [] r h := by
  obtain ⟨C, S, hb, hL⟩ := id Cx
  have hi2 : i < 512 := by omega
  have hV := R.1.1.1
  have hLo := R.1.2.1
  have hSc := R.1.2.2.1
  refine am_aload_n (pc := 1856) C dL_law__1856 rfl ?_
  refine lp_arg (pc := 1857) (k := 1) Cx hi (by decide) dL_law__1857 dL_law__1858 dL_law__1860 dL_law__1861 dL_law__1862 rfl rfl ?_
  refine lp_arg (pc := 1863) (k := 2) Cx hi (by decide) dL_law__1863 dL_law__1864 dL_law__1866 dL_law__1867 dL_law__1868 rfl rfl ?_
  refine am_aload_n (pc := 1869) C dL_law__1869 rfl ?_
  refine lp_cW (Y := mL_best) (hh := hL_best) (n := 4) (pc := 1870) (st := []) (As := [.ref 0, .int (xs (6 * i + 1)), .int (xs (6 * i + 2)), .ref 335]) (cz := lp_cs (i + 1)) C dL_law__1870 kL_220 ⟨by decide, by decide, by decide +kernel⟩ ⟨(am_mem 1561 (by decide +kernel) rfl), (am_mem 139 (by decide +kernel) rfl), by decide⟩ (am_mem 1560 (by decide +kernel) rfl) rfl rfl (by decide) (show 400 + 5 * i + 3 ≤ 400 + 5 * (i + 1) by omega) (show 73000 + 30 * i + 18 ≤ 73000 + 30 * (i + 1) by omega) (lp_leC (show 400 + 5 * (i + 1) ≤ 600000 by omega)) (lp_leS (show 73000 + 30 * (i + 1) ≤ 7000000 by omega)) (Nat.le_of_ble_eq_true rfl) (w_best (xs (6 * i + 1)) (xs (6 * i + 2)) lp_hP_k (c_X11_best hR (xs (6 * i + 1)) (xs (6 * i + 2)) (h 323) hV hLo hSc)) (fun y1 r1 h1 ey1 hp ho => ?_)
  obtain ⟨cc, ecc⟩ : ∃ q : Nat, q = rf_c_best (h 323) (xs (6 * i + 1)) (xs (6 * i + 2)) := ⟨_, rfl⟩
  rw [← ecc] at ey1 ho
  have hcc : cc < 100 := by rw [ecc]; unfold rf_c_best; exact lp_cbl (by decide) (lp_cbl (by decide) (lp_cbl (by decide) (by decide)))
  rw [ey1]
  refine am_istore (pc := 1873) (ls' := lp_l5 i (nI cc)) C dL_law__1873 (by decide) rfl ?_
  obtain ⟨er, hk⟩ := hp
  have hR1 : am_rs r1 := by rw [er]; exact hR
  have R1 : cl_R r1 h i := by rw [er]; exact R
  have f : ∀ j, 322 ≤ j → j ≠ 335 → h1 j = h j := fun j a b => hk j ⟨Or.inr (by omega), Or.inr (by omega), by omega, Or.inr a, b⟩
  refine am_aload_n (pc := 1875) C dL_law__1875 rfl ?_
  refine lp_arg (pc := 1876) (k := 1) Cx hi (by decide) dL_law__1876 dL_law__1877 dL_law__1879 dL_law__1880 dL_law__1881 rfl rfl ?_
  refine lp_arg (pc := 1882) (k := 2) Cx hi (by decide) dL_law__1882 dL_law__1883 dL_law__1885 dL_law__1886 dL_law__1887 rfl rfl ?_
  refine lp_cVj (Y := mX12_best) (pc := 1888) (st := []) (As := [.int (xs (6 * i + 1)), .int (xs (6 * i + 2))]) C dL_law__1888 kL_222 v_X12_best rfl rfl bn_322 sh_322 ⟨by decide, rfl⟩ (by decide) (lp_leC (show 400 + 5 * (i + 1) ≤ 600000 by omega)) (lp_leS (show 73000 + 30 * (i + 1) ≤ 7000000 by omega)) (Nat.le_of_ble_eq_true rfl) (c_X12_best hR1 (xs (6 * i + 1)) (xs (6 * i + 2)) (show rf_I (h1 323) by rw [f 323 (by decide) (by decide)]; exact R.1.1.1)) (fun y2 h2 G2 ey2 e2 => ?_)
  refine am_istore (pc := 1891) (ls' := lp_l6 i (nI cc) y2) C dL_law__1891 (by decide) rfl ?_
  simp only [f 322 (by decide) (by decide), f 323 (by decide) (by decide), f 325 (by decide) (by decide), f 326 (by decide) (by decide), f 327 (by decide) (by decide), f 328 (by decide) (by decide)] at ey2 e2
  rw [← ecc] at ey2 e2
  have F : ∀ j, j ≠ 322 → j ≠ 323 → j ≠ 326 → j ≠ 327 → (j < 330 ∨ 334 < j) → h2 j = h1 j := fun j a b c d k => by rw [e2]; repeat rw [am_row_ne _ _ _ (by omega)]
  have ea : cc = 0 → h2 335 0 = y2 := fun z => by rw [F 335 (by decide) (by decide) (by decide) (by decide) (by decide), ho z, ey2, rf_ga, if_pos z]
  have e322 : h2 322 = rf_oc (h 322) cc := by rw [e2, am_row_at]
  have et : (h2 322) 0 = nI cc := by rw [e322]; exact rf_upd_eq
  have F2 : ∀ j, j ≠ 322 → j < 330 → h2 j = h1 j := fun j a b => by rw [e2]; repeat rw [am_row_ne _ _ _ (by omega)]
  have R2 : cl_R r1 h2 (i + 1) := lp_pure R1 hk (fun j a b _ => F2 j a (by omega)) e322
  refine lp_tail (pc := 1893) (c := cc) (a := 0) (u := y2) Cx hR1 hcc dL_law__1893 dL_law__1894 kL_142 dL_law__1897 dL_law__1899 dL_law__1904 dL_law__1906 dL_law__1909 dL_law__1910 dL_law__1911 dL_law__1912 dL_law__1914 dL_law__1915 dL_law__1916 dL_law__1921 (by decide) rfl rfl rfl rfl (lp_leC (show 400 + 5 * (i + 1) ≤ 600000 by omega)) (lp_leS (show 73000 + 30 * (i + 1) ≤ 7000000 by omega)) et ea ?_
  refine am_subp (ls' := lp_ls i) [0, 1, 2, 3, 4] rfl ?_
  exact K r1 h2 hR1 R2

set_option maxHeartbeats 1000000 in
set_option maxRecDepth 100000 in
theorem lc_spread {X : am_X} {ad : Nat → Nat} {b L i : Nat} {xs : Nat → Int32} {r : am_R} {h : am_H} (Cx : lp_Cx X ad b L xs) (hi : 6 * i + 6 ≤ L) (hR : am_rs r) (R : cl_R r h i) (K : ∀ r1 h1, am_rs r1 → cl_R r1 h1 (i + 1) → am_G X (am_VV ad) (lp_cs (i + 1)) 2798 (lp_ls i) [] r1 h1) : am_G X (am_VV ad) (lp_cs i) 1924 (lp_ls i) [] r h := by
  obtain ⟨C, S, hb, hL⟩ := id Cx
  have hi2 : i < 512 := by omega
  have hV := R.1.1.1
  have hLo := R.1.2.1
  have hSc := R.1.2.2.1
  refine am_aload_n (pc := 1924) C dL_law__1924 rfl ?_
  refine lp_arg (pc := 1925) (k := 1) Cx hi (by decide) dL_law__1925 dL_law__1926 dL_law__1928 dL_law__1929 dL_law__1930 rfl rfl ?_
  refine lp_arg (pc := 1931) (k := 2) Cx hi (by decide) dL_law__1931 dL_law__1932 dL_law__1934 dL_law__1935 dL_law__1936 rfl rfl ?_
  refine lp_arg (pc := 1937) (k := 3) Cx hi (by decide) dL_law__1937 dL_law__1938 dL_law__1940 dL_law__1941 dL_law__1942 rfl rfl ?_
  refine am_aload_n (pc := 1943) C dL_law__1943 rfl ?_
  refine lp_cW (Y := mL_spread) (hh := hL_spread) (n := 5) (pc := 1944) (st := []) (As := [.ref 0, .int (xs (6 * i + 1)), .int (xs (6 * i + 2)), .int (xs (6 * i + 3)), .ref 335]) (cz := lp_cs (i + 1)) C dL_law__1944 kL_223 ⟨by decide, by decide, by decide +kernel⟩ ⟨(am_mem 1572 (by decide +kernel) rfl), (am_mem 139 (by decide +kernel) rfl), by decide⟩ (am_mem 1571 (by decide +kernel) rfl) rfl rfl (by decide) (show 400 + 5 * i + 3 ≤ 400 + 5 * (i + 1) by omega) (show 73000 + 30 * i + 18 ≤ 73000 + 30 * (i + 1) by omega) (lp_leC (show 400 + 5 * (i + 1) ≤ 600000 by omega)) (lp_leS (show 73000 + 30 * (i + 1) ≤ 7000000 by omega)) (Nat.le_of_ble_eq_true rfl) (w_spread (xs (6 * i + 1)) (xs (6 * i + 2)) (xs (6 * i + 3)) lp_hP_k (c_X11_spread hR (xs (6 * i + 1)) (xs (6 * i + 2)) (xs (6 * i + 3)) (h 323) hV hLo hSc)) (fun y1 r1 h1 ey1 hp ho => ?_)
  obtain ⟨cc, ecc⟩ : ∃ q : Nat, q = rf_c_spread (h 323) (xs (6 * i + 1)) (xs (6 * i + 2)) (xs (6 * i + 3)) := ⟨_, rfl⟩
  rw [← ecc] at ey1 ho
  have hcc : cc < 100 := by rw [ecc]; unfold rf_c_spread; exact lp_cbl (by decide) (lp_cbl (by decide) (lp_cbl (by decide) (by decide)))
  rw [ey1]
  refine am_istore (pc := 1947) (ls' := lp_l5 i (nI cc)) C dL_law__1947 (by decide) rfl ?_
  obtain ⟨er, hk⟩ := hp
  have hR1 : am_rs r1 := by rw [er]; exact hR
  have R1 : cl_R r1 h i := by rw [er]; exact R
  have f : ∀ j, 322 ≤ j → j ≠ 335 → h1 j = h j := fun j a b => hk j ⟨Or.inr (by omega), Or.inr (by omega), by omega, Or.inr a, b⟩
  refine am_aload_n (pc := 1949) C dL_law__1949 rfl ?_
  refine lp_arg (pc := 1950) (k := 1) Cx hi (by decide) dL_law__1950 dL_law__1951 dL_law__1953 dL_law__1954 dL_law__1955 rfl rfl ?_
  refine lp_arg (pc := 1956) (k := 2) Cx hi (by decide) dL_law__1956 dL_law__1957 dL_law__1959 dL_law__1960 dL_law__1961 rfl rfl ?_
  refine lp_arg (pc := 1962) (k := 3) Cx hi (by decide) dL_law__1962 dL_law__1963 dL_law__1965 dL_law__1966 dL_law__1967 rfl rfl ?_
  refine lp_cV (Y := mX12_spread) (pc := 1968) (st := []) (As := [.int (xs (6 * i + 1)), .int (xs (6 * i + 2)), .int (xs (6 * i + 3))]) C dL_law__1968 kL_225 v_X12_spread rfl rfl bn_322 sh_322 ⟨by decide, rfl⟩ (by decide) (lp_leC (show 400 + 5 * (i + 1) ≤ 600000 by omega)) (lp_leS (show 73000 + 30 * (i + 1) ≤ 7000000 by omega)) (Nat.le_of_ble_eq_true rfl) (c_X12_spread hR1 (xs (6 * i + 1)) (xs (6 * i + 2)) (xs (6 * i + 3)) (show rf_I (h1 323) by rw [f 323 (by decide) (by decide)]; exact R.1.1.1)) (fun y2 h2 ey2 e2 => ?_)
  refine am_istore (pc := 1971) (ls' := lp_l6 i (nI cc) y2) C dL_law__1971 (by decide) rfl ?_
  simp only [f 322 (by decide) (by decide), f 323 (by decide) (by decide), f 325 (by decide) (by decide), f 326 (by decide) (by decide), f 327 (by decide) (by decide), f 328 (by decide) (by decide)] at ey2 e2
  rw [← ecc] at ey2 e2
  have F : ∀ j, j ≠ 322 → j ≠ 323 → j ≠ 326 → j ≠ 327 → (j < 330 ∨ 334 < j) → h2 j = h1 j := fun j a b c d k => by rw [e2]; repeat rw [am_row_ne _ _ _ (by omega)]
  have ea : cc = 0 → h2 335 0 = y2 := fun z => by rw [F 335 (by decide) (by decide) (by decide) (by decide) (by decide), ho z, ey2, rf_ga, if_pos z]
  have e322 : h2 322 = rf_oc (h 322) cc := by rw [e2, am_row_at]
  have et : (h2 322) 0 = nI cc := by rw [e322]; exact rf_upd_eq
  have F2 : ∀ j, j ≠ 322 → j < 330 → h2 j = h1 j := fun j a b => by rw [e2]; repeat rw [am_row_ne _ _ _ (by omega)]
  have R2 : cl_R r1 h2 (i + 1) := lp_pure R1 hk (fun j a b _ => F2 j a (by omega)) e322
  refine lp_tail (pc := 1973) (c := cc) (a := 0) (u := y2) Cx hR1 hcc dL_law__1973 dL_law__1974 kL_142 dL_law__1977 dL_law__1979 dL_law__1984 dL_law__1986 dL_law__1989 dL_law__1990 dL_law__1991 dL_law__1992 dL_law__1994 dL_law__1995 dL_law__1996 dL_law__2001 (by decide) rfl rfl rfl rfl (lp_leC (show 400 + 5 * (i + 1) ≤ 600000 by omega)) (lp_leS (show 73000 + 30 * (i + 1) ≤ 7000000 by omega)) et ea ?_
  refine am_subp (ls' := lp_ls i) [0, 1, 2, 3, 4] rfl ?_
  exact K r1 h2 hR1 R2

set_option maxHeartbeats 1000000 in
set_option maxRecDepth 100000 in
theorem lc_soonest {X : am_X} {ad : Nat → Nat} {b L i : Nat} {xs : Nat → Int32} {r : am_R} {h : am_H} (Cx : lp_Cx X ad b L xs) (hi : 6 * i + 6 ≤ L) (hR : am_rs r) (R : cl_R r h i) (K : ∀ r1 h1, am_rs r1 → cl_R r1 h1 (i + 1) → am_G X (am_VV ad) (lp_cs (i + 1)) 2798 (lp_ls i) [] r1 h1) : am_G X (am_VV ad) (lp_cs i) 2004 (lp_ls i) [] r h := by
  obtain ⟨C, S, hb, hL⟩ := id Cx
  have hi2 : i < 512 := by omega
  have hV := R.1.1.1
  have hLo := R.1.2.1
  have hSc := R.1.2.2.1
  refine am_aload_n (pc := 2004) C dL_law__2004 rfl ?_
  refine lp_arg (pc := 2005) (k := 1) Cx hi (by decide) dL_law__2005 dL_law__2006 dL_law__2008 dL_law__2009 dL_law__2010 rfl rfl ?_
  refine lp_arg (pc := 2011) (k := 2) Cx hi (by decide) dL_law__2011 dL_law__2012 dL_law__2014 dL_law__2015 dL_law__2016 rfl rfl ?_
  refine am_aload_n (pc := 2017) C dL_law__2017 rfl ?_
  refine lp_cW (Y := mL_soonest) (hh := hL_soonest) (n := 4) (pc := 2018) (st := []) (As := [.ref 0, .int (xs (6 * i + 1)), .int (xs (6 * i + 2)), .ref 335]) (cz := lp_cs (i + 1)) C dL_law__2018 kL_226 ⟨by decide, by decide, by decide +kernel⟩ ⟨(am_mem 1601 (by decide +kernel) rfl), (am_mem 139 (by decide +kernel) rfl), by decide⟩ (am_mem 1600 (by decide +kernel) rfl) rfl rfl (by decide) (show 400 + 5 * i + 3 ≤ 400 + 5 * (i + 1) by omega) (show 73000 + 30 * i + 18 ≤ 73000 + 30 * (i + 1) by omega) (lp_leC (show 400 + 5 * (i + 1) ≤ 600000 by omega)) (lp_leS (show 73000 + 30 * (i + 1) ≤ 7000000 by omega)) (Nat.le_of_ble_eq_true rfl) (w_soonest (xs (6 * i + 1)) (xs (6 * i + 2)) lp_hP_k (c_X11_soonest hR (xs (6 * i + 1)) (xs (6 * i + 2)) (h 323) hV hLo hSc)) (fun y1 r1 h1 ey1 hp ho => ?_)
  obtain ⟨cc, ecc⟩ : ∃ q : Nat, q = rf_c_soonest (h 323) (xs (6 * i + 1)) (xs (6 * i + 2)) := ⟨_, rfl⟩
  rw [← ecc] at ey1 ho
  have hcc : cc < 100 := by rw [ecc]; unfold rf_c_soonest; exact lp_cbl (by decide) (lp_cbl (by decide) (lp_cbl (by decide) (by decide)))
  rw [ey1]
  refine am_istore (pc := 2021) (ls' := lp_l5 i (nI cc)) C dL_law__2021 (by decide) rfl ?_
  obtain ⟨er, hk⟩ := hp
  have hR1 : am_rs r1 := by rw [er]; exact hR
  have R1 : cl_R r1 h i := by rw [er]; exact R
  have f : ∀ j, 322 ≤ j → j ≠ 335 → h1 j = h j := fun j a b => hk j ⟨Or.inr (by omega), Or.inr (by omega), by omega, Or.inr a, b⟩
  refine am_aload_n (pc := 2023) C dL_law__2023 rfl ?_
  refine lp_arg (pc := 2024) (k := 1) Cx hi (by decide) dL_law__2024 dL_law__2025 dL_law__2027 dL_law__2028 dL_law__2029 rfl rfl ?_
  refine lp_arg (pc := 2030) (k := 2) Cx hi (by decide) dL_law__2030 dL_law__2031 dL_law__2033 dL_law__2034 dL_law__2035 rfl rfl ?_
  refine lp_cV (Y := mX12_soonest) (pc := 2036) (st := []) (As := [.int (xs (6 * i + 1)), .int (xs (6 * i + 2))]) C dL_law__2036 kL_228 v_X12_soonest rfl rfl bn_322 sh_322 ⟨by decide, rfl⟩ (by decide) (lp_leC (show 400 + 5 * (i + 1) ≤ 600000 by omega)) (lp_leS (show 73000 + 30 * (i + 1) ≤ 7000000 by omega)) (Nat.le_of_ble_eq_true rfl) (c_X12_soonest hR1 (xs (6 * i + 1)) (xs (6 * i + 2)) (show rf_I (h1 323) by rw [f 323 (by decide) (by decide)]; exact R.1.1.1)) (fun y2 h2 ey2 e2 => ?_)
  refine am_istore (pc := 2039) (ls' := lp_l6 i (nI cc) y2) C dL_law__2039 (by decide) rfl ?_
  simp only [f 322 (by decide) (by decide), f 323 (by decide) (by decide), f 325 (by decide) (by decide), f 326 (by decide) (by decide), f 327 (by decide) (by decide), f 328 (by decide) (by decide)] at ey2 e2
  rw [← ecc] at ey2 e2
  have F : ∀ j, j ≠ 322 → j ≠ 323 → j ≠ 326 → j ≠ 327 → (j < 330 ∨ 334 < j) → h2 j = h1 j := fun j a b c d k => by rw [e2]; repeat rw [am_row_ne _ _ _ (by omega)]
  have ea : cc = 0 → h2 335 0 = y2 := fun z => by rw [F 335 (by decide) (by decide) (by decide) (by decide) (by decide), ho z, ey2, rf_ga, if_pos z]
  have e322 : h2 322 = rf_oc (h 322) cc := by rw [e2, am_row_at]
  have et : (h2 322) 0 = nI cc := by rw [e322]; exact rf_upd_eq
  have F2 : ∀ j, j ≠ 322 → j < 330 → h2 j = h1 j := fun j a b => by rw [e2]; repeat rw [am_row_ne _ _ _ (by omega)]
  have R2 : cl_R r1 h2 (i + 1) := lp_pure R1 hk (fun j a b _ => F2 j a (by omega)) e322
  refine lp_tail (pc := 2041) (c := cc) (a := 0) (u := y2) Cx hR1 hcc dL_law__2041 dL_law__2042 kL_142 dL_law__2045 dL_law__2047 dL_law__2052 dL_law__2054 dL_law__2057 dL_law__2058 dL_law__2059 dL_law__2060 dL_law__2062 dL_law__2063 dL_law__2064 dL_law__2069 (by decide) rfl rfl rfl rfl (lp_leC (show 400 + 5 * (i + 1) ≤ 600000 by omega)) (lp_leS (show 73000 + 30 * (i + 1) ≤ 7000000 by omega)) et ea ?_
  refine am_subp (ls' := lp_ls i) [0, 1, 2, 3, 4] rfl ?_
  exact K r1 h2 hR1 R2

set_option maxHeartbeats 1000000 in
set_option maxRecDepth 100000 in
theorem lc_mute {X : am_X} {ad : Nat → Nat} {b L i : Nat} {xs : Nat → Int32} {r : am_R} {h : am_H} (Cx : lp_Cx X ad b L xs) (hi : 6 * i + 6 ≤ L) (hR : am_rs r) (R : cl_R r h i) (K : ∀ r1 h1, am_rs r1 → cl_R r1 h1 (i + 1) → am_G X (am_VV ad) (lp_cs (i + 1)) 2798 (lp_ls i) [] r1 h1) : am_G X (am_VV ad) (lp_cs i) 2072 (lp_ls i) [] r h := by
  obtain ⟨C, S, hb, hL⟩ := id Cx
  have hi2 : i < 512 := by omega
  have hV := R.1.1.1
  have hLo := R.1.2.1
  have hSc := R.1.2.2.1
  refine am_aload_n (pc := 2072) C dL_law__2072 rfl ?_
  refine lp_arg (pc := 2073) (k := 1) Cx hi (by decide) dL_law__2073 dL_law__2074 dL_law__2076 dL_law__2077 dL_law__2078 rfl rfl ?_
  refine lp_arg (pc := 2079) (k := 2) Cx hi (by decide) dL_law__2079 dL_law__2080 dL_law__2082 dL_law__2083 dL_law__2084 rfl rfl ?_
  refine am_aload_n (pc := 2085) C dL_law__2085 rfl ?_
  refine lp_cW (Y := mL_mute) (hh := hL_mute) (n := 4) (pc := 2086) (st := []) (As := [.ref 0, .int (xs (6 * i + 1)), .int (xs (6 * i + 2)), .ref 335]) (cz := lp_cs (i + 1)) C dL_law__2086 kL_229 ⟨by decide, by decide, by decide +kernel⟩ ⟨(am_mem 1614 (by decide +kernel) rfl), (am_mem 139 (by decide +kernel) rfl), by decide⟩ (am_mem 1613 (by decide +kernel) rfl) rfl rfl (by decide) (show 400 + 5 * i + 2 ≤ 400 + 5 * (i + 1) by omega) (show 73000 + 30 * i + 12 ≤ 73000 + 30 * (i + 1) by omega) (lp_leC (show 400 + 5 * (i + 1) ≤ 600000 by omega)) (lp_leS (show 73000 + 30 * (i + 1) ≤ 7000000 by omega)) (Nat.le_of_ble_eq_true rfl) (w_mute (xs (6 * i + 1)) (xs (6 * i + 2)) lp_hP_k (c_X11_mute hR (xs (6 * i + 1)) (xs (6 * i + 2)) (h 323) hV hLo hSc)) (fun y1 r1 h1 ey1 hp ho => ?_)
  obtain ⟨cc, ecc⟩ : ∃ q : Nat, q = rf_c_mute (h 323) (xs (6 * i + 1)) (xs (6 * i + 2)) := ⟨_, rfl⟩
  rw [← ecc] at ey1 ho
  have hcc : cc < 100 := by rw [ecc]; unfold rf_c_mute; exact lp_cbl (by decide) (lp_cbl (by decide) (by decide))
  rw [ey1]
  refine am_istore (pc := 2089) (ls' := lp_l5 i (nI cc)) C dL_law__2089 (by decide) rfl ?_
  obtain ⟨er, hk⟩ := hp
  have hR1 : am_rs r1 := by rw [er]; exact hR
  have R1 : cl_R r1 h i := by rw [er]; exact R
  have f : ∀ j, 322 ≤ j → j ≠ 335 → h1 j = h j := fun j a b => hk j ⟨Or.inr (by omega), Or.inr (by omega), by omega, Or.inr a, b⟩
  refine am_aload_n (pc := 2091) C dL_law__2091 rfl ?_
  refine lp_arg (pc := 2092) (k := 1) Cx hi (by decide) dL_law__2092 dL_law__2093 dL_law__2095 dL_law__2096 dL_law__2097 rfl rfl ?_
  refine lp_arg (pc := 2098) (k := 2) Cx hi (by decide) dL_law__2098 dL_law__2099 dL_law__2101 dL_law__2102 dL_law__2103 rfl rfl ?_
  refine lp_cV (Y := mX12_mute) (pc := 2104) (st := []) (As := [.int (xs (6 * i + 1)), .int (xs (6 * i + 2))]) C dL_law__2104 kL_231 v_X12_mute rfl rfl bn_322 sh_322 ⟨by decide, rfl⟩ (by decide) (lp_leC (show 400 + 5 * (i + 1) ≤ 600000 by omega)) (lp_leS (show 73000 + 30 * (i + 1) ≤ 7000000 by omega)) (Nat.le_of_ble_eq_true rfl) (c_X12_mute hR1 (xs (6 * i + 1)) (xs (6 * i + 2)) (show rf_I (h1 323) by rw [f 323 (by decide) (by decide)]; exact R.1.1.1)) (fun y2 h2 ey2 e2 => ?_)
  refine am_istore (pc := 2107) (ls' := lp_l6 i (nI cc) y2) C dL_law__2107 (by decide) rfl ?_
  simp only [f 322 (by decide) (by decide), f 323 (by decide) (by decide), f 325 (by decide) (by decide), f 326 (by decide) (by decide), f 327 (by decide) (by decide), f 328 (by decide) (by decide)] at ey2 e2
  rw [← ecc] at ey2 e2
  have F : ∀ j, j ≠ 322 → j ≠ 323 → j ≠ 326 → j ≠ 327 → (j < 330 ∨ 334 < j) → h2 j = h1 j := fun j a b c d k => by rw [e2]; repeat rw [am_row_ne _ _ _ (by omega)]
  have ea : cc = 0 → h2 335 0 = y2 := fun z => by rw [F 335 (by decide) (by decide) (by decide) (by decide) (by decide), ho z, ey2, rf_ga, if_pos z]
  have e322 : h2 322 = rf_oc (h 322) cc := by rw [e2, am_row_at]
  have et : (h2 322) 0 = nI cc := by rw [e322]; exact rf_upd_eq
  have F2 : ∀ j, j ≠ 322 → j < 330 → h2 j = h1 j := fun j a b => by rw [e2]; repeat rw [am_row_ne _ _ _ (by omega)]
  have R2 : cl_R r1 h2 (i + 1) := lp_pure R1 hk (fun j a b _ => F2 j a (by omega)) e322
  refine lp_tail (pc := 2109) (c := cc) (a := 0) (u := y2) Cx hR1 hcc dL_law__2109 dL_law__2110 kL_142 dL_law__2113 dL_law__2115 dL_law__2120 dL_law__2122 dL_law__2125 dL_law__2126 dL_law__2127 dL_law__2128 dL_law__2130 dL_law__2131 dL_law__2132 dL_law__2137 (by decide) rfl rfl rfl rfl (lp_leC (show 400 + 5 * (i + 1) ≤ 600000 by omega)) (lp_leS (show 73000 + 30 * (i + 1) ≤ 7000000 by omega)) et ea ?_
  refine am_subp (ls' := lp_ls i) [0, 1, 2, 3, 4] rfl ?_
  exact K r1 h2 hR1 R2

set_option maxHeartbeats 1000000 in
set_option maxRecDepth 100000 in
theorem lc_amends {X : am_X} {ad : Nat → Nat} {b L i : Nat} {xs : Nat → Int32} {r : am_R} {h : am_H} (Cx : lp_Cx X ad b L xs) (hi : 6 * i + 6 ≤ L) (hR : am_rs r) (R : cl_R r h i) (K : ∀ r1 h1, am_rs r1 → cl_R r1 h1 (i + 1) → am_G X (am_VV ad) (lp_cs (i + 1)) 2798 (lp_ls i) [] r1 h1) : am_G X (am_VV ad) (lp_cs i) 2140 (lp_ls i) [] r h := by
  obtain ⟨C, S, hb, hL⟩ := id Cx
  have hi2 : i < 512 := by omega
  have hV := R.1.1.1
  have hLo := R.1.2.1
  have hSc := R.1.2.2.1
  refine am_aload_n (pc := 2140) C dL_law__2140 rfl ?_
  refine lp_arg (pc := 2141) (k := 1) Cx hi (by decide) dL_law__2141 dL_law__2142 dL_law__2144 dL_law__2145 dL_law__2146 rfl rfl ?_
  refine am_aload_n (pc := 2147) C dL_law__2147 rfl ?_
  refine lp_cW (Y := mL_amends) (hh := hL_amends) (n := 3) (pc := 2148) (st := []) (As := [.ref 0, .int (xs (6 * i + 1)), .ref 335]) (cz := lp_cs (i + 1)) C dL_law__2148 kL_232 ⟨by decide, by decide, by decide +kernel⟩ ⟨(am_mem 1628 (by decide +kernel) rfl), (am_mem 139 (by decide +kernel) rfl), by decide⟩ (am_mem 1627 (by decide +kernel) rfl) rfl rfl (by decide) (show 400 + 5 * i + 1 ≤ 400 + 5 * (i + 1) by omega) (show 73000 + 30 * i + 6 ≤ 73000 + 30 * (i + 1) by omega) (lp_leC (show 400 + 5 * (i + 1) ≤ 600000 by omega)) (lp_leS (show 73000 + 30 * (i + 1) ≤ 7000000 by omega)) (Nat.le_of_ble_eq_true rfl) (w_amends (xs (6 * i + 1)) lp_hP_k (c_X11_amends hR (xs (6 * i + 1)) (h 323) hV hLo hSc)) (fun y1 r1 h1 ey1 hp ho => ?_)
  obtain ⟨cc, ecc⟩ : ∃ q : Nat, q = rf_c_amends (h 323) (xs (6 * i + 1)) := ⟨_, rfl⟩
  rw [← ecc] at ey1 ho
  have hcc : cc < 100 := by rw [ecc]; unfold rf_c_amends; exact lp_cbl (by decide) (by decide)
  rw [ey1]
  refine am_istore (pc := 2151) (ls' := lp_l5 i (nI cc)) C dL_law__2151 (by decide) rfl ?_
  obtain ⟨er, hk⟩ := hp
  have hR1 : am_rs r1 := by rw [er]; exact hR
  have R1 : cl_R r1 h i := by rw [er]; exact R
  have f : ∀ j, 322 ≤ j → j ≠ 335 → h1 j = h j := fun j a b => hk j ⟨Or.inr (by omega), Or.inr (by omega), by omega, Or.inr a, b⟩
  refine am_aload_n (pc := 2153) C dL_law__2153 rfl ?_
  refine lp_arg (pc := 2154) (k := 1) Cx hi (by decide) dL_law__2154 dL_law__2155 dL_law__2157 dL_law__2158 dL_law__2159 rfl rfl ?_
  refine lp_cV (Y := mX12_amends) (pc := 2160) (st := []) (As := [.int (xs (6 * i + 1))]) C dL_law__2160 kL_234 v_X12_amends rfl rfl bn_322 sh_322 ⟨by decide, rfl⟩ (by decide) (lp_leC (show 400 + 5 * (i + 1) ≤ 600000 by omega)) (lp_leS (show 73000 + 30 * (i + 1) ≤ 7000000 by omega)) (Nat.le_of_ble_eq_true rfl) (c_X12_amends hR1 (xs (6 * i + 1)) (show rf_I (h1 323) by rw [f 323 (by decide) (by decide)]; exact R.1.1.1)) (fun y2 h2 ey2 e2 => ?_)
  refine am_istore (pc := 2163) (ls' := lp_l6 i (nI cc) y2) C dL_law__2163 (by decide) rfl ?_
  simp only [f 322 (by decide) (by decide), f 323 (by decide) (by decide), f 325 (by decide) (by decide), f 326 (by decide) (by decide), f 327 (by decide) (by decide), f 328 (by decide) (by decide)] at ey2 e2
  rw [← ecc] at ey2 e2
  have F : ∀ j, j ≠ 322 → j ≠ 323 → j ≠ 326 → j ≠ 327 → (j < 330 ∨ 334 < j) → h2 j = h1 j := fun j a b c d k => by rw [e2]; repeat rw [am_row_ne _ _ _ (by omega)]
  have ea : cc = 0 → h2 335 0 = y2 := fun z => by rw [F 335 (by decide) (by decide) (by decide) (by decide) (by decide), ho z, ey2, rf_ga, if_pos z]
  have e322 : h2 322 = rf_oc (h 322) cc := by rw [e2, am_row_at]
  have et : (h2 322) 0 = nI cc := by rw [e322]; exact rf_upd_eq
  have F2 : ∀ j, j ≠ 322 → j < 330 → h2 j = h1 j := fun j a b => by rw [e2]; repeat rw [am_row_ne _ _ _ (by omega)]
  have R2 : cl_R r1 h2 (i + 1) := lp_pure R1 hk (fun j a b _ => F2 j a (by omega)) e322
  refine lp_tail (pc := 2165) (c := cc) (a := 0) (u := y2) Cx hR1 hcc dL_law__2165 dL_law__2166 kL_142 dL_law__2169 dL_law__2171 dL_law__2176 dL_law__2178 dL_law__2181 dL_law__2182 dL_law__2183 dL_law__2184 dL_law__2186 dL_law__2187 dL_law__2188 dL_law__2193 (by decide) rfl rfl rfl rfl (lp_leC (show 400 + 5 * (i + 1) ≤ 600000 by omega)) (lp_leS (show 73000 + 30 * (i + 1) ≤ 7000000 by omega)) et ea ?_
  refine am_subp (ls' := lp_ls i) [0, 1, 2, 3, 4] rfl ?_
  exact K r1 h2 hR1 R2

set_option maxHeartbeats 1000000 in
set_option maxRecDepth 100000 in
theorem lc_meets {X : am_X} {ad : Nat → Nat} {b L i : Nat} {xs : Nat → Int32} {r : am_R} {h : am_H} (Cx : lp_Cx X ad b L xs) (hi : 6 * i + 6 ≤ L) (hR : am_rs r) (R : cl_R r h i) (K : ∀ r1 h1, am_rs r1 → cl_R r1 h1 (i + 1) → am_G X (am_VV ad) (lp_cs (i + 1)) 2798 (lp_ls i) [] r1 h1) : am_G X (am_VV ad) (lp_cs i) 2494 (lp_ls i) [] r h := by
  obtain ⟨C, S, hb, hL⟩ := id Cx
  have hi2 : i < 512 := by omega
  have hV := R.1.1.1
  have hLo := R.1.2.1
  have hSc := R.1.2.2.1
  refine am_aload_n (pc := 2494) C dL_law__2494 rfl ?_
  refine lp_arg (pc := 2495) (k := 1) Cx hi (by decide) dL_law__2495 dL_law__2496 dL_law__2498 dL_law__2499 dL_law__2500 rfl rfl ?_
  refine lp_arg (pc := 2501) (k := 2) Cx hi (by decide) dL_law__2501 dL_law__2502 dL_law__2504 dL_law__2505 dL_law__2506 rfl rfl ?_
  refine am_aload_n (pc := 2507) C dL_law__2507 rfl ?_
  refine lp_cW (Y := mL_meets) (hh := hL_meets) (n := 4) (pc := 2508) (st := []) (As := [.ref 0, .int (xs (6 * i + 1)), .int (xs (6 * i + 2)), .ref 335]) (cz := lp_cs (i + 1)) C dL_law__2508 kL_252 ⟨by decide, by decide, by decide +kernel⟩ ⟨(am_mem 1712 (by decide +kernel) rfl), (am_mem 139 (by decide +kernel) rfl), by decide⟩ (am_mem 1711 (by decide +kernel) rfl) rfl rfl (by decide) (show 400 + 5 * i + 3 ≤ 400 + 5 * (i + 1) by omega) (show 73000 + 30 * i + 18 ≤ 73000 + 30 * (i + 1) by omega) (lp_leC (show 400 + 5 * (i + 1) ≤ 600000 by omega)) (lp_leS (show 73000 + 30 * (i + 1) ≤ 7000000 by omega)) (Nat.le_of_ble_eq_true rfl) (w_meets (xs (6 * i + 1)) (xs (6 * i + 2)) lp_hP_k (c_X11_meets hR (xs (6 * i + 1)) (xs (6 * i + 2)) (h 323) hV hLo hSc)) (fun y1 r1 h1 ey1 hp ho => ?_)
  obtain ⟨cc, ecc⟩ : ∃ q : Nat, q = rf_c_meets (h 323) (xs (6 * i + 1)) (xs (6 * i + 2)) := ⟨_, rfl⟩
  rw [← ecc] at ey1 ho
  have hcc : cc < 100 := by rw [ecc]; unfold rf_c_meets; exact lp_cbl (by decide) (lp_cbl (by decide) (lp_cbl (by decide) (by decide)))
  rw [ey1]
  refine am_istore (pc := 2511) (ls' := lp_l5 i (nI cc)) C dL_law__2511 (by decide) rfl ?_
  obtain ⟨er, hk⟩ := hp
  have hR1 : am_rs r1 := by rw [er]; exact hR
  have R1 : cl_R r1 h i := by rw [er]; exact R
  have f : ∀ j, 322 ≤ j → j ≠ 335 → h1 j = h j := fun j a b => hk j ⟨Or.inr (by omega), Or.inr (by omega), by omega, Or.inr a, b⟩
  refine am_aload_n (pc := 2513) C dL_law__2513 rfl ?_
  refine lp_arg (pc := 2514) (k := 1) Cx hi (by decide) dL_law__2514 dL_law__2515 dL_law__2517 dL_law__2518 dL_law__2519 rfl rfl ?_
  refine lp_arg (pc := 2520) (k := 2) Cx hi (by decide) dL_law__2520 dL_law__2521 dL_law__2523 dL_law__2524 dL_law__2525 rfl rfl ?_
  refine lp_cV (Y := mX12_meets) (pc := 2526) (st := []) (As := [.int (xs (6 * i + 1)), .int (xs (6 * i + 2))]) C dL_law__2526 kL_254 v_X12_meets rfl rfl bn_322 sh_322 ⟨by decide, rfl⟩ (by decide) (lp_leC (show 400 + 5 * (i + 1) ≤ 600000 by omega)) (lp_leS (show 73000 + 30 * (i + 1) ≤ 7000000 by omega)) (Nat.le_of_ble_eq_true rfl) (c_X12_meets hR1 (xs (6 * i + 1)) (xs (6 * i + 2)) (show rf_I (h1 323) by rw [f 323 (by decide) (by decide)]; exact R.1.1.1)) (fun y2 h2 ey2 e2 => ?_)
  refine am_istore (pc := 2529) (ls' := lp_l6 i (nI cc) y2) C dL_law__2529 (by decide) rfl ?_
  simp only [f 322 (by decide) (by decide), f 323 (by decide) (by decide), f 325 (by decide) (by decide), f 326 (by decide) (by decide), f 327 (by decide) (by decide), f 328 (by decide) (by decide)] at ey2 e2
  rw [← ecc] at ey2 e2
  have F : ∀ j, j ≠ 322 → j ≠ 323 → j ≠ 326 → j ≠ 327 → (j < 330 ∨ 334 < j) → h2 j = h1 j := fun j a b c d k => by rw [e2]; repeat rw [am_row_ne _ _ _ (by omega)]
  have ea : cc = 0 → h2 335 0 = y2 := fun z => by rw [F 335 (by decide) (by decide) (by decide) (by decide) (by decide), ho z, ey2, rf_ga, if_pos z]
  have e322 : h2 322 = rf_oc (h 322) cc := by rw [e2, am_row_at]
  have et : (h2 322) 0 = nI cc := by rw [e322]; exact rf_upd_eq
  have F2 : ∀ j, j ≠ 322 → j < 330 → h2 j = h1 j := fun j a b => by rw [e2]; repeat rw [am_row_ne _ _ _ (by omega)]
  have R2 : cl_R r1 h2 (i + 1) := lp_pure R1 hk (fun j a b _ => F2 j a (by omega)) e322
  refine lp_tail (pc := 2531) (c := cc) (a := 0) (u := y2) Cx hR1 hcc dL_law__2531 dL_law__2532 kL_142 dL_law__2535 dL_law__2537 dL_law__2542 dL_law__2544 dL_law__2547 dL_law__2548 dL_law__2549 dL_law__2550 dL_law__2552 dL_law__2553 dL_law__2554 dL_law__2559 (by decide) rfl rfl rfl rfl (lp_leC (show 400 + 5 * (i + 1) ≤ 600000 by omega)) (lp_leS (show 73000 + 30 * (i + 1) ≤ 7000000 by omega)) et ea ?_
  refine am_subp (ls' := lp_ls i) [0, 1, 2, 3, 4] rfl ?_
  exact K r1 h2 hR1 R2

set_option maxHeartbeats 1000000 in
set_option maxRecDepth 100000 in
theorem lc_log {X : am_X} {ad : Nat → Nat} {b L i : Nat} {xs : Nat → Int32} {r : am_R} {h : am_H} (Cx : lp_Cx X ad b L xs) (hi : 6 * i + 6 ≤ L) (hR : am_rs r) (R : cl_R r h i) (K : ∀ r1 h1, am_rs r1 → cl_R r1 h1 (i + 1) → am_G X (am_VV ad) (lp_cs (i + 1)) 2798 (lp_ls i) [] r1 h1) : am_G X (am_VV ad) (lp_cs i) 2562 (lp_ls i) [] r h := by
  obtain ⟨C, S, hb, hL⟩ := id Cx
  have hi2 : i < 512 := by omega
  have hV := R.1.1.1
  have hLo := R.1.2.1
  have hSc := R.1.2.2.1
  have hB2 : rf_n ((h 323) 7) 2147483647 := rf_n_le rfl R.1.1.2.2.2.1 (by omega)
  refine am_aload_n (pc := 2562) C dL_law__2562 rfl ?_
  refine lp_arg (pc := 2563) (k := 1) Cx hi (by decide) dL_law__2563 dL_law__2564 dL_law__2566 dL_law__2567 dL_law__2568 rfl rfl ?_
  refine lp_arg (pc := 2569) (k := 2) Cx hi (by decide) dL_law__2569 dL_law__2570 dL_law__2572 dL_law__2573 dL_law__2574 rfl rfl ?_
  refine am_aload_n (pc := 2575) C dL_law__2575 rfl ?_
  refine lp_cW (Y := mL_log) (hh := hL_log) (n := 4) (pc := 2576) (st := []) (As := [.ref 0, .int (xs (6 * i + 1)), .int (xs (6 * i + 2)), .ref 335]) (cz := lp_cs (i + 1)) C dL_law__2576 kL_255 ⟨by decide, by decide, by decide +kernel⟩ ⟨(am_mem 1719 (by decide +kernel) rfl), (am_mem 139 (by decide +kernel) rfl), by decide⟩ (am_mem 1718 (by decide +kernel) rfl) rfl rfl (by decide) (show 400 + 5 * i + 1 ≤ 400 + 5 * (i + 1) by omega) (show 73000 + 30 * i + 6 ≤ 73000 + 30 * (i + 1) by omega) (lp_leC (show 400 + 5 * (i + 1) ≤ 600000 by omega)) (lp_leS (show 73000 + 30 * (i + 1) ≤ 7000000 by omega)) (Nat.le_of_ble_eq_true rfl) (w_log (xs (6 * i + 1)) (xs (6 * i + 2)) lp_hP_k (c_X11_log hR (xs (6 * i + 1)) (xs (6 * i + 2)) (h 323) hV hLo hSc hB2)) (fun y1 r1 h1 ey1 hp ho => ?_)
  obtain ⟨cc, ecc⟩ : ∃ q : Nat, q = rf_c_log (h 323) (xs (6 * i + 1)) (xs (6 * i + 2)) := ⟨_, rfl⟩
  rw [← ecc] at ey1 ho
  have hcc : cc < 100 := by rw [ecc]; unfold rf_c_log; exact lp_cbl (by decide) (by decide)
  rw [ey1]
  refine am_istore (pc := 2579) (ls' := lp_l5 i (nI cc)) C dL_law__2579 (by decide) rfl ?_
  obtain ⟨er, hk⟩ := hp
  have hR1 : am_rs r1 := by rw [er]; exact hR
  have R1 : cl_R r1 h i := by rw [er]; exact R
  have f : ∀ j, 322 ≤ j → j ≠ 335 → h1 j = h j := fun j a b => hk j ⟨Or.inr (by omega), Or.inr (by omega), by omega, Or.inr a, b⟩
  refine am_aload_n (pc := 2581) C dL_law__2581 rfl ?_
  refine lp_arg (pc := 2582) (k := 1) Cx hi (by decide) dL_law__2582 dL_law__2583 dL_law__2585 dL_law__2586 dL_law__2587 rfl rfl ?_
  refine lp_arg (pc := 2588) (k := 2) Cx hi (by decide) dL_law__2588 dL_law__2589 dL_law__2591 dL_law__2592 dL_law__2593 rfl rfl ?_
  refine lp_cV (Y := mX12_log) (pc := 2594) (st := []) (As := [.int (xs (6 * i + 1)), .int (xs (6 * i + 2))]) C dL_law__2594 kL_257 v_X12_log rfl rfl bn_322 sh_322 ⟨by decide, rfl⟩ (by decide) (lp_leC (show 400 + 5 * (i + 1) ≤ 600000 by omega)) (lp_leS (show 73000 + 30 * (i + 1) ≤ 7000000 by omega)) (Nat.le_of_ble_eq_true rfl) (c_X12_log hR1 (xs (6 * i + 1)) (xs (6 * i + 2)) (show rf_I (h1 323) by rw [f 323 (by decide) (by decide)]; exact R.1.1.1)) (fun y2 h2 ey2 e2 => ?_)
  refine am_istore (pc := 2597) (ls' := lp_l6 i (nI cc) y2) C dL_law__2597 (by decide) rfl ?_
  simp only [f 322 (by decide) (by decide), f 323 (by decide) (by decide), f 325 (by decide) (by decide), f 326 (by decide) (by decide), f 327 (by decide) (by decide), f 328 (by decide) (by decide)] at ey2 e2
  rw [← ecc] at ey2 e2
  have F : ∀ j, j ≠ 322 → j ≠ 323 → j ≠ 326 → j ≠ 327 → (j < 330 ∨ 334 < j) → h2 j = h1 j := fun j a b c d k => by rw [e2]; repeat rw [am_row_ne _ _ _ (by omega)]
  have ea : cc = 0 → h2 335 0 = y2 := fun z => by rw [F 335 (by decide) (by decide) (by decide) (by decide) (by decide), ho z, ey2, rf_ga, if_pos z]
  have e322 : h2 322 = rf_oc (h 322) cc := by rw [e2, am_row_at]
  have et : (h2 322) 0 = nI cc := by rw [e322]; exact rf_upd_eq
  have F2 : ∀ j, j ≠ 322 → j < 330 → h2 j = h1 j := fun j a b => by rw [e2]; repeat rw [am_row_ne _ _ _ (by omega)]
  have R2 : cl_R r1 h2 (i + 1) := lp_pure R1 hk (fun j a b _ => F2 j a (by omega)) e322
  refine lp_tail (pc := 2599) (c := cc) (a := 0) (u := y2) Cx hR1 hcc dL_law__2599 dL_law__2600 kL_142 dL_law__2603 dL_law__2605 dL_law__2610 dL_law__2612 dL_law__2615 dL_law__2616 dL_law__2617 dL_law__2618 dL_law__2620 dL_law__2621 dL_law__2622 dL_law__2627 (by decide) rfl rfl rfl rfl (lp_leC (show 400 + 5 * (i + 1) ≤ 600000 by omega)) (lp_leS (show 73000 + 30 * (i + 1) ≤ 7000000 by omega)) et ea ?_
  refine am_subp (ls' := lp_ls i) [0, 1, 2, 3, 4] rfl ?_
  exact K r1 h2 hR1 R2

set_option maxHeartbeats 1000000 in
set_option maxRecDepth 100000 in
theorem lc_led {X : am_X} {ad : Nat → Nat} {b L i : Nat} {xs : Nat → Int32} {r : am_R} {h : am_H} (Cx : lp_Cx X ad b L xs) (hi : 6 * i + 6 ≤ L) (hR : am_rs r) (R : cl_R r h i) (K : ∀ r1 h1, am_rs r1 → cl_R r1 h1 (i + 1) → am_G X (am_VV ad) (lp_cs (i + 1)) 2798 (lp_ls i) [] r1 h1) : am_G X (am_VV ad) (lp_cs i) 2630 (lp_ls i) [] r h := by
  obtain ⟨C, S, hb, hL⟩ := id Cx
  have hi2 : i < 512 := by omega
  have hV := R.1.1.1
  have hLo := R.1.2.1
  have hSc := R.1.2.2.1
  have hB2 : rf_n ((h 323) 7) 2147483647 := rf_n_le rfl R.1.1.2.2.2.1 (by omega)
  refine am_aload_n (pc := 2630) C dL_law__2630 rfl ?_
  refine lp_arg (pc := 2631) (k := 1) Cx hi (by decide) dL_law__2631 dL_law__2632 dL_law__2634 dL_law__2635 dL_law__2636 rfl rfl ?_
  refine lp_arg (pc := 2637) (k := 2) Cx hi (by decide) dL_law__2637 dL_law__2638 dL_law__2640 dL_law__2641 dL_law__2642 rfl rfl ?_
  refine am_aload_n (pc := 2643) C dL_law__2643 rfl ?_
  refine lp_cW (Y := mL_led) (hh := hL_led) (n := 4) (pc := 2644) (st := []) (As := [.ref 0, .int (xs (6 * i + 1)), .int (xs (6 * i + 2)), .ref 335]) (cz := lp_cs (i + 1)) C dL_law__2644 kL_258 ⟨by decide, by decide, by decide +kernel⟩ ⟨(am_mem 1732 (by decide +kernel) rfl), (am_mem 139 (by decide +kernel) rfl), by decide⟩ (am_mem 1731 (by decide +kernel) rfl) rfl rfl (by decide) (show 400 + 5 * i + 2 ≤ 400 + 5 * (i + 1) by omega) (show 73000 + 30 * i + 12 ≤ 73000 + 30 * (i + 1) by omega) (lp_leC (show 400 + 5 * (i + 1) ≤ 600000 by omega)) (lp_leS (show 73000 + 30 * (i + 1) ≤ 7000000 by omega)) (Nat.le_of_ble_eq_true rfl) (w_led (xs (6 * i + 1)) (xs (6 * i + 2)) lp_hP_k (c_X11_led hR (xs (6 * i + 1)) (xs (6 * i + 2)) (h 323) hV hLo hSc hB2)) (fun y1 r1 h1 ey1 hp ho => ?_)
  obtain ⟨cc, ecc⟩ : ∃ q : Nat, q = rf_c_led (h 323) (xs (6 * i + 1)) (xs (6 * i + 2)) := ⟨_, rfl⟩
  rw [← ecc] at ey1 ho
  have hcc : cc < 100 := by rw [ecc]; unfold rf_c_led; exact lp_cbl (by decide) (lp_cbl (by decide) (by decide))
  rw [ey1]
  refine am_istore (pc := 2647) (ls' := lp_l5 i (nI cc)) C dL_law__2647 (by decide) rfl ?_
  obtain ⟨er, hk⟩ := hp
  have hR1 : am_rs r1 := by rw [er]; exact hR
  have R1 : cl_R r1 h i := by rw [er]; exact R
  have f : ∀ j, 322 ≤ j → j ≠ 335 → h1 j = h j := fun j a b => hk j ⟨Or.inr (by omega), Or.inr (by omega), by omega, Or.inr a, b⟩
  refine am_aload_n (pc := 2649) C dL_law__2649 rfl ?_
  refine lp_arg (pc := 2650) (k := 1) Cx hi (by decide) dL_law__2650 dL_law__2651 dL_law__2653 dL_law__2654 dL_law__2655 rfl rfl ?_
  refine lp_arg (pc := 2656) (k := 2) Cx hi (by decide) dL_law__2656 dL_law__2657 dL_law__2659 dL_law__2660 dL_law__2661 rfl rfl ?_
  refine lp_cV (Y := mX12_led) (pc := 2662) (st := []) (As := [.int (xs (6 * i + 1)), .int (xs (6 * i + 2))]) C dL_law__2662 kL_260 v_X12_led rfl rfl bn_322 sh_322 ⟨by decide, rfl⟩ (by decide) (lp_leC (show 400 + 5 * (i + 1) ≤ 600000 by omega)) (lp_leS (show 73000 + 30 * (i + 1) ≤ 7000000 by omega)) (Nat.le_of_ble_eq_true rfl) (c_X12_led hR1 (xs (6 * i + 1)) (xs (6 * i + 2)) (show rf_I (h1 323) by rw [f 323 (by decide) (by decide)]; exact R.1.1.1)) (fun y2 h2 ey2 e2 => ?_)
  refine am_istore (pc := 2665) (ls' := lp_l6 i (nI cc) y2) C dL_law__2665 (by decide) rfl ?_
  simp only [f 322 (by decide) (by decide), f 323 (by decide) (by decide), f 325 (by decide) (by decide), f 326 (by decide) (by decide), f 327 (by decide) (by decide), f 328 (by decide) (by decide)] at ey2 e2
  rw [← ecc] at ey2 e2
  have F : ∀ j, j ≠ 322 → j ≠ 323 → j ≠ 326 → j ≠ 327 → (j < 330 ∨ 334 < j) → h2 j = h1 j := fun j a b c d k => by rw [e2]; repeat rw [am_row_ne _ _ _ (by omega)]
  have ea : cc = 0 → h2 335 0 = y2 := fun z => by rw [F 335 (by decide) (by decide) (by decide) (by decide) (by decide), ho z, ey2, rf_ga, if_pos z]
  have e322 : h2 322 = rf_oc (h 322) cc := by rw [e2, am_row_at]
  have et : (h2 322) 0 = nI cc := by rw [e322]; exact rf_upd_eq
  have F2 : ∀ j, j ≠ 322 → j < 330 → h2 j = h1 j := fun j a b => by rw [e2]; repeat rw [am_row_ne _ _ _ (by omega)]
  have R2 : cl_R r1 h2 (i + 1) := lp_pure R1 hk (fun j a b _ => F2 j a (by omega)) e322
  refine lp_tail (pc := 2667) (c := cc) (a := 0) (u := y2) Cx hR1 hcc dL_law__2667 dL_law__2668 kL_142 dL_law__2671 dL_law__2673 dL_law__2678 dL_law__2680 dL_law__2683 dL_law__2684 dL_law__2685 dL_law__2686 dL_law__2688 dL_law__2689 dL_law__2690 dL_law__2695 (by decide) rfl rfl rfl rfl (lp_leC (show 400 + 5 * (i + 1) ≤ 600000 by omega)) (lp_leS (show 73000 + 30 * (i + 1) ≤ 7000000 by omega)) et ea ?_
  refine am_subp (ls' := lp_ls i) [0, 1, 2, 3, 4] rfl ?_
  exact K r1 h2 hR1 R2
end LC
