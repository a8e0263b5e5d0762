/-! THE LAW's cases: soldier, known, place, falls, order, rule, field, plan, shots, outlasts -/
section LC
set_option maxHeartbeats 1000000 in
set_option maxRecDepth 100000 in
theorem lc_soldier {X : am_X} {ad : Nat → Nat} {b L i : Nat} {xs : Nat → Int32} {r : am_R} {h : am_H} (Cx : lp_Cx X ad b L xs) (hi : 6 * i + 6 ≤ L) (hR : am_rs r) (R : cl_R r h i) (K : ∀ r1 h1, am_rs r1 → cl_R r1 h1 (i + 1) → am_G X (am_VV ad) (lp_cs (i + 1)) 2798 (lp_ls i) [] r1 h1) : am_G X (am_VV ad) (lp_cs i) 499 (lp_ls i) [] r h := by
  obtain ⟨C, S, hb, hL⟩ := id Cx
  have hi2 : i < 512 := by omega
  have hV := R.1.1.1
  have hLo := R.1.2.1
  have hSc := R.1.2.2.1
  refine am_aload_n (pc := 499) C dL_law__499 rfl ?_
  refine lp_arg (pc := 500) (k := 1) Cx hi (by decide) dL_law__500 dL_law__501 dL_law__503 dL_law__504 dL_law__505 rfl rfl ?_
  refine lp_arg (pc := 506) (k := 2) Cx hi (by decide) dL_law__506 dL_law__507 dL_law__509 dL_law__510 dL_law__511 rfl rfl ?_
  refine am_aload_n (pc := 512) C dL_law__512 rfl ?_
  refine lp_cW (Y := mL_soldier) (hh := hL_soldier) (n := 4) (pc := 513) (st := []) (As := [.ref 0, .int (xs (6 * i + 1)), .int (xs (6 * i + 2)), .ref 335]) (cz := lp_cs (i + 1)) C dL_law__513 kL_156 ⟨by decide, by decide, by decide +kernel⟩ ⟨(am_mem 1184 (by decide +kernel) rfl), (am_mem 139 (by decide +kernel) rfl), by decide⟩ (am_mem 1183 (by decide +kernel) rfl) rfl rfl (by decide) (show 400 + 5 * i + 2 ≤ 400 + 5 * (i + 1) by omega) (show 73000 + 30 * i + 12 ≤ 73000 + 30 * (i + 1) by omega) (lp_leC (show 400 + 5 * (i + 1) ≤ 600000 by omega)) (lp_leS (show 73000 + 30 * (i + 1) ≤ 7000000 by omega)) (Nat.le_of_ble_eq_true rfl) (w_soldier (xs (6 * i + 1)) (xs (6 * i + 2)) lp_hP_k (c_X11_soldier hR (xs (6 * i + 1)) (xs (6 * i + 2)) (h 323) hV hLo hSc)) (fun y1 r1 h1 ey1 hp ho => ?_)
  obtain ⟨cc, ecc⟩ : ∃ q : Nat, q = rf_c_soldier (h 323) (xs (6 * i + 1)) (xs (6 * i + 2)) := ⟨_, rfl⟩
  rw [← ecc] at ey1 ho
  have hcc : cc < 100 := by rw [ecc]; unfold rf_c_soldier; exact lp_cbl (by decide) (lp_cbl (by decide) (by decide))
  rw [ey1]
  refine am_istore (pc := 516) (ls' := lp_l5 i (nI cc)) C dL_law__516 (by decide) rfl ?_
  obtain ⟨er, hk⟩ := hp
  have hR1 : am_rs r1 := by rw [er]; exact hR
  have R1 : cl_R r1 h i := by rw [er]; exact R
  have f : ∀ j, 322 ≤ j → j ≠ 335 → h1 j = h j := fun j a b => hk j ⟨Or.inr (by omega), Or.inr (by omega), by omega, Or.inr a, b⟩
  refine am_aload_n (pc := 518) C dL_law__518 rfl ?_
  refine lp_arg (pc := 519) (k := 1) Cx hi (by decide) dL_law__519 dL_law__520 dL_law__522 dL_law__523 dL_law__524 rfl rfl ?_
  refine lp_arg (pc := 525) (k := 2) Cx hi (by decide) dL_law__525 dL_law__526 dL_law__528 dL_law__529 dL_law__530 rfl rfl ?_
  refine lp_cV (Y := mX12_soldier) (pc := 531) (st := []) (As := [.int (xs (6 * i + 1)), .int (xs (6 * i + 2))]) C dL_law__531 kL_158 v_X12_soldier rfl rfl bn_322 sh_322 ⟨by decide, rfl⟩ (by decide) (lp_leC (show 400 + 5 * (i + 1) ≤ 600000 by omega)) (lp_leS (show 73000 + 30 * (i + 1) ≤ 7000000 by omega)) (Nat.le_of_ble_eq_true rfl) (c_X12_soldier hR1 (xs (6 * i + 1)) (xs (6 * i + 2)) (show rf_I (h1 323) by rw [f 323 (by decide) (by decide)]; exact R.1.1.1)) (fun y2 h2 ey2 e2 => ?_)
  refine am_istore (pc := 534) (ls' := lp_l6 i (nI cc) y2) C dL_law__534 (by decide) rfl ?_
  simp only [f 322 (by decide) (by decide), f 323 (by decide) (by decide), f 325 (by decide) (by decide), f 326 (by decide) (by decide), f 327 (by decide) (by decide), f 328 (by decide) (by decide)] at ey2 e2
  rw [← ecc] at ey2 e2
  have F : ∀ j, j ≠ 322 → j ≠ 323 → j ≠ 326 → j ≠ 327 → (j < 330 ∨ 334 < j) → h2 j = h1 j := fun j a b c d k => by rw [e2]; repeat rw [am_row_ne _ _ _ (by omega)]
  have ea : cc = 0 → h2 335 0 = y2 := fun z => by rw [F 335 (by decide) (by decide) (by decide) (by decide) (by decide), ho z, ey2, rf_ga, if_pos z]
  have e322 : h2 322 = rf_oc (h 322) cc := by rw [e2, am_row_at]
  have et : (h2 322) 0 = nI cc := by rw [e322]; exact rf_upd_eq
  have F2 : ∀ j, j ≠ 322 → j < 330 → h2 j = h1 j := fun j a b => by rw [e2]; repeat rw [am_row_ne _ _ _ (by omega)]
  have R2 : cl_R r1 h2 (i + 1) := lp_pure R1 hk (fun j a b _ => F2 j a (by omega)) e322
  refine lp_tail (pc := 536) (c := cc) (a := 0) (u := y2) Cx hR1 hcc dL_law__536 dL_law__537 kL_142 dL_law__540 dL_law__542 dL_law__547 dL_law__549 dL_law__552 dL_law__553 dL_law__554 dL_law__555 dL_law__557 dL_law__558 dL_law__559 dL_law__564 (by decide) rfl rfl rfl rfl (lp_leC (show 400 + 5 * (i + 1) ≤ 600000 by omega)) (lp_leS (show 73000 + 30 * (i + 1) ≤ 7000000 by omega)) et ea ?_
  refine am_subp (ls' := lp_ls i) [0, 1, 2, 3, 4] rfl ?_
  exact K r1 h2 hR1 R2

set_option maxHeartbeats 1000000 in
set_option maxRecDepth 100000 in
theorem lc_known {X : am_X} {ad : Nat → Nat} {b L i : Nat} {xs : Nat → Int32} {r : am_R} {h : am_H} (Cx : lp_Cx X ad b L xs) (hi : 6 * i + 6 ≤ L) (hR : am_rs r) (R : cl_R r h i) (K : ∀ r1 h1, am_rs r1 → cl_R r1 h1 (i + 1) → am_G X (am_VV ad) (lp_cs (i + 1)) 2798 (lp_ls i) [] r1 h1) : am_G X (am_VV ad) (lp_cs i) 567 (lp_ls i) [] r h := by
  obtain ⟨C, S, hb, hL⟩ := id Cx
  have hi2 : i < 512 := by omega
  have hV := R.1.1.1
  have hLo := R.1.2.1
  have hSc := R.1.2.2.1
  refine am_aload_n (pc := 567) C dL_law__567 rfl ?_
  refine lp_arg (pc := 568) (k := 1) Cx hi (by decide) dL_law__568 dL_law__569 dL_law__571 dL_law__572 dL_law__573 rfl rfl ?_
  refine lp_arg (pc := 574) (k := 2) Cx hi (by decide) dL_law__574 dL_law__575 dL_law__577 dL_law__578 dL_law__579 rfl rfl ?_
  refine am_aload_n (pc := 580) C dL_law__580 rfl ?_
  refine lp_cW (Y := mL_known) (hh := hL_known) (n := 4) (pc := 581) (st := []) (As := [.ref 0, .int (xs (6 * i + 1)), .int (xs (6 * i + 2)), .ref 335]) (cz := lp_cs (i + 1)) C dL_law__581 kL_159 ⟨by decide, by decide, by decide +kernel⟩ ⟨(am_mem 1209 (by decide +kernel) rfl), (am_mem 139 (by decide +kernel) rfl), by decide⟩ (am_mem 1208 (by decide +kernel) rfl) rfl rfl (by decide) (show 400 + 5 * i + 1 ≤ 400 + 5 * (i + 1) by omega) (show 73000 + 30 * i + 6 ≤ 73000 + 30 * (i + 1) by omega) (lp_leC (show 400 + 5 * (i + 1) ≤ 600000 by omega)) (lp_leS (show 73000 + 30 * (i + 1) ≤ 7000000 by omega)) (Nat.le_of_ble_eq_true rfl) (w_known (xs (6 * i + 1)) (xs (6 * i + 2)) lp_hP_k (c_X11_known hR (xs (6 * i + 1)) (xs (6 * i + 2)) (h 323) hV hLo hSc)) (fun y1 r1 h1 ey1 hp ho => ?_)
  obtain ⟨cc, ecc⟩ : ∃ q : Nat, q = rf_c_known (h 323) (xs (6 * i + 1)) (xs (6 * i + 2)) := ⟨_, rfl⟩
  rw [← ecc] at ey1 ho
  have hcc : cc < 100 := by rw [ecc]; unfold rf_c_known; exact lp_cbl (by decide) (by decide)
  rw [ey1]
  refine am_istore (pc := 584) (ls' := lp_l5 i (nI cc)) C dL_law__584 (by decide) rfl ?_
  obtain ⟨er, hk⟩ := hp
  have hR1 : am_rs r1 := by rw [er]; exact hR
  have R1 : cl_R r1 h i := by rw [er]; exact R
  have f : ∀ j, 322 ≤ j → j ≠ 335 → h1 j = h j := fun j a b => hk j ⟨Or.inr (by omega), Or.inr (by omega), by omega, Or.inr a, b⟩
  refine am_aload_n (pc := 586) C dL_law__586 rfl ?_
  refine lp_arg (pc := 587) (k := 1) Cx hi (by decide) dL_law__587 dL_law__588 dL_law__590 dL_law__591 dL_law__592 rfl rfl ?_
  refine lp_arg (pc := 593) (k := 2) Cx hi (by decide) dL_law__593 dL_law__594 dL_law__596 dL_law__597 dL_law__598 rfl rfl ?_
  refine lp_cV (Y := mX12_known) (pc := 599) (st := []) (As := [.int (xs (6 * i + 1)), .int (xs (6 * i + 2))]) C dL_law__599 kL_161 v_X12_known rfl rfl bn_322 sh_322 ⟨by decide, rfl⟩ (by decide) (lp_leC (show 400 + 5 * (i + 1) ≤ 600000 by omega)) (lp_leS (show 73000 + 30 * (i + 1) ≤ 7000000 by omega)) (Nat.le_of_ble_eq_true rfl) (c_X12_known hR1 (xs (6 * i + 1)) (xs (6 * i + 2)) (show rf_I (h1 323) by rw [f 323 (by decide) (by decide)]; exact R.1.1.1)) (fun y2 h2 ey2 e2 => ?_)
  refine am_istore (pc := 602) (ls' := lp_l6 i (nI cc) y2) C dL_law__602 (by decide) rfl ?_
  simp only [f 322 (by decide) (by decide), f 323 (by decide) (by decide), f 325 (by decide) (by decide), f 326 (by decide) (by decide), f 327 (by decide) (by decide), f 328 (by decide) (by decide)] at ey2 e2
  rw [← ecc] at ey2 e2
  have F : ∀ j, j ≠ 322 → j ≠ 323 → j ≠ 326 → j ≠ 327 → (j < 330 ∨ 334 < j) → h2 j = h1 j := fun j a b c d k => by rw [e2]; repeat rw [am_row_ne _ _ _ (by omega)]
  have ea : cc = 0 → h2 335 0 = y2 := fun z => by rw [F 335 (by decide) (by decide) (by decide) (by decide) (by decide), ho z, ey2, rf_ga, if_pos z]
  have e322 : h2 322 = rf_oc (h 322) cc := by rw [e2, am_row_at]
  have et : (h2 322) 0 = nI cc := by rw [e322]; exact rf_upd_eq
  have F2 : ∀ j, j ≠ 322 → j < 330 → h2 j = h1 j := fun j a b => by rw [e2]; repeat rw [am_row_ne _ _ _ (by omega)]
  have R2 : cl_R r1 h2 (i + 1) := lp_pure R1 hk (fun j a b _ => F2 j a (by omega)) e322
  refine lp_tail (pc := 604) (c := cc) (a := 0) (u := y2) Cx hR1 hcc dL_law__604 dL_law__605 kL_142 dL_law__608 dL_law__610 dL_law__615 dL_law__617 dL_law__620 dL_law__621 dL_law__622 dL_law__623 dL_law__625 dL_law__626 dL_law__627 dL_law__632 (by decide) rfl rfl rfl rfl (lp_leC (show 400 + 5 * (i + 1) ≤ 600000 by omega)) (lp_leS (show 73000 + 30 * (i + 1) ≤ 7000000 by omega)) et ea ?_
  refine am_subp (ls' := lp_ls i) [0, 1, 2, 3, 4] rfl ?_
  exact K r1 h2 hR1 R2

set_option maxHeartbeats 1000000 in
set_option maxRecDepth 100000 in
theorem lc_place {X : am_X} {ad : Nat → Nat} {b L i : Nat} {xs : Nat → Int32} {r : am_R} {h : am_H} (Cx : lp_Cx X ad b L xs) (hi : 6 * i + 6 ≤ L) (hR : am_rs r) (R : cl_R r h i) (K : ∀ r1 h1, am_rs r1 → cl_R r1 h1 (i + 1) → am_G X (am_VV ad) (lp_cs (i + 1)) 2798 (lp_ls i) [] r1 h1) : am_G X (am_VV ad) (lp_cs i) 635 (lp_ls i) [] r h := by
  obtain ⟨C, S, hb, hL⟩ := id Cx
  have hi2 : i < 512 := by omega
  have hV := R.1.1.1
  have hLo := R.1.2.1
  have hSc := R.1.2.2.1
  refine am_aload_n (pc := 635) C dL_law__635 rfl ?_
  refine lp_arg (pc := 636) (k := 1) Cx hi (by decide) dL_law__636 dL_law__637 dL_law__639 dL_law__640 dL_law__641 rfl rfl ?_
  refine lp_arg (pc := 642) (k := 2) Cx hi (by decide) dL_law__642 dL_law__643 dL_law__645 dL_law__646 dL_law__647 rfl rfl ?_
  refine am_aload_n (pc := 648) C dL_law__648 rfl ?_
  refine lp_cW (Y := mL_place) (hh := hL_place) (n := 4) (pc := 649) (st := []) (As := [.ref 0, .int (xs (6 * i + 1)), .int (xs (6 * i + 2)), .ref 335]) (cz := lp_cs (i + 1)) C dL_law__649 kL_162 ⟨by decide, by decide, by decide +kernel⟩ ⟨(am_mem 1220 (by decide +kernel) rfl), (am_mem 139 (by decide +kernel) rfl), by decide⟩ (am_mem 1219 (by decide +kernel) rfl) rfl rfl (by decide) (show 400 + 5 * i + 2 ≤ 400 + 5 * (i + 1) by omega) (show 73000 + 30 * i + 12 ≤ 73000 + 30 * (i + 1) by omega) (lp_leC (show 400 + 5 * (i + 1) ≤ 600000 by omega)) (lp_leS (show 73000 + 30 * (i + 1) ≤ 7000000 by omega)) (Nat.le_of_ble_eq_true rfl) (w_place (xs (6 * i + 1)) (xs (6 * i + 2)) lp_hP_k (c_X11_place hR (xs (6 * i + 1)) (xs (6 * i + 2)) (h 323) hV hLo hSc)) (fun y1 r1 h1 ey1 hp ho => ?_)
  obtain ⟨cc, ecc⟩ : ∃ q : Nat, q = rf_c_place (h 323) (xs (6 * i + 1)) (xs (6 * i + 2)) := ⟨_, rfl⟩
  rw [← ecc] at ey1 ho
  have hcc : cc < 100 := by rw [ecc]; unfold rf_c_place; exact lp_cbl (by decide) (lp_cbl (by decide) (by decide))
  rw [ey1]
  refine am_istore (pc := 652) (ls' := lp_l5 i (nI cc)) C dL_law__652 (by decide) rfl ?_
  obtain ⟨er, hk⟩ := hp
  have hR1 : am_rs r1 := by rw [er]; exact hR
  have R1 : cl_R r1 h i := by rw [er]; exact R
  have f : ∀ j, 322 ≤ j → j ≠ 335 → h1 j = h j := fun j a b => hk j ⟨Or.inr (by omega), Or.inr (by omega), by omega, Or.inr a, b⟩
  refine am_aload_n (pc := 654) C dL_law__654 rfl ?_
  refine lp_arg (pc := 655) (k := 1) Cx hi (by decide) dL_law__655 dL_law__656 dL_law__658 dL_law__659 dL_law__660 rfl rfl ?_
  refine lp_arg (pc := 661) (k := 2) Cx hi (by decide) dL_law__661 dL_law__662 dL_law__664 dL_law__665 dL_law__666 rfl rfl ?_
  refine lp_cV (Y := mX12_place) (pc := 667) (st := []) (As := [.int (xs (6 * i + 1)), .int (xs (6 * i + 2))]) C dL_law__667 kL_164 v_X12_place rfl rfl bn_322 sh_322 ⟨by decide, rfl⟩ (by decide) (lp_leC (show 400 + 5 * (i + 1) ≤ 600000 by omega)) (lp_leS (show 73000 + 30 * (i + 1) ≤ 7000000 by omega)) (Nat.le_of_ble_eq_true rfl) (c_X12_place hR1 (xs (6 * i + 1)) (xs (6 * i + 2)) (show rf_I (h1 323) by rw [f 323 (by decide) (by decide)]; exact R.1.1.1)) (fun y2 h2 ey2 e2 => ?_)
  refine am_istore (pc := 670) (ls' := lp_l6 i (nI cc) y2) C dL_law__670 (by decide) rfl ?_
  simp only [f 322 (by decide) (by decide), f 323 (by decide) (by decide), f 325 (by decide) (by decide), f 326 (by decide) (by decide), f 327 (by decide) (by decide), f 328 (by decide) (by decide)] at ey2 e2
  rw [← ecc] at ey2 e2
  have F : ∀ j, j ≠ 322 → j ≠ 323 → j ≠ 326 → j ≠ 327 → (j < 330 ∨ 334 < j) → h2 j = h1 j := fun j a b c d k => by rw [e2]; repeat rw [am_row_ne _ _ _ (by omega)]
  have ea : cc = 0 → h2 335 0 = y2 := fun z => by rw [F 335 (by decide) (by decide) (by decide) (by decide) (by decide), ho z, ey2, rf_ga, if_pos z]
  have e322 : h2 322 = rf_oc (h 322) cc := by rw [e2, am_row_at]
  have et : (h2 322) 0 = nI cc := by rw [e322]; exact rf_upd_eq
  have F2 : ∀ j, j ≠ 322 → j < 330 → h2 j = h1 j := fun j a b => by rw [e2]; repeat rw [am_row_ne _ _ _ (by omega)]
  have R2 : cl_R r1 h2 (i + 1) := lp_pure R1 hk (fun j a b _ => F2 j a (by omega)) e322
  refine lp_tail (pc := 672) (c := cc) (a := 0) (u := y2) Cx hR1 hcc dL_law__672 dL_law__673 kL_142 dL_law__676 dL_law__678 dL_law__683 dL_law__685 dL_law__688 dL_law__689 dL_law__690 dL_law__691 dL_law__693 dL_law__694 dL_law__695 dL_law__700 (by decide) rfl rfl rfl rfl (lp_leC (show 400 + 5 * (i + 1) ≤ 600000 by omega)) (lp_leS (show 73000 + 30 * (i + 1) ≤ 7000000 by omega)) et ea ?_
  refine am_subp (ls' := lp_ls i) [0, 1, 2, 3, 4] rfl ?_
  exact K r1 h2 hR1 R2

set_option maxHeartbeats 1000000 in
set_option maxRecDepth 100000 in
theorem lc_falls {X : am_X} {ad : Nat → Nat} {b L i : Nat} {xs : Nat → Int32} {r : am_R} {h : am_H} (Cx : lp_Cx X ad b L xs) (hi : 6 * i + 6 ≤ L) (hR : am_rs r) (R : cl_R r h i) (K : ∀ r1 h1, am_rs r1 → cl_R r1 h1 (i + 1) → am_G X (am_VV ad) (lp_cs (i + 1)) 2798 (lp_ls i) [] r1 h1) : am_G X (am_VV ad) (lp_cs i) 703 (lp_ls i) [] r h := by
  obtain ⟨C, S, hb, hL⟩ := id Cx
  have hi2 : i < 512 := by omega
  have hV := R.1.1.1
  have hLo := R.1.2.1
  have hSc := R.1.2.2.1
  refine am_aload_n (pc := 703) C dL_law__703 rfl ?_
  refine lp_arg (pc := 704) (k := 1) Cx hi (by decide) dL_law__704 dL_law__705 dL_law__707 dL_law__708 dL_law__709 rfl rfl ?_
  refine lp_arg (pc := 710) (k := 2) Cx hi (by decide) dL_law__710 dL_law__711 dL_law__713 dL_law__714 dL_law__715 rfl rfl ?_
  refine am_aload_n (pc := 716) C dL_law__716 rfl ?_
  refine lp_cW (Y := mL_falls) (hh := hL_falls) (n := 4) (pc := 717) (st := []) (As := [.ref 0, .int (xs (6 * i + 1)), .int (xs (6 * i + 2)), .ref 335]) (cz := lp_cs (i + 1)) C dL_law__717 kL_165 ⟨by decide, by decide, by decide +kernel⟩ ⟨(am_mem 1238 (by decide +kernel) rfl), (am_mem 139 (by decide +kernel) rfl), by decide⟩ (am_mem 1237 (by decide +kernel) rfl) rfl rfl (by decide) (show 400 + 5 * i + 2 ≤ 400 + 5 * (i + 1) by omega) (show 73000 + 30 * i + 12 ≤ 73000 + 30 * (i + 1) by omega) (lp_leC (show 400 + 5 * (i + 1) ≤ 600000 by omega)) (lp_leS (show 73000 + 30 * (i + 1) ≤ 7000000 by omega)) (Nat.le_of_ble_eq_true rfl) (w_falls (xs (6 * i + 1)) (xs (6 * i + 2)) lp_hP_k (c_X11_falls hR (xs (6 * i + 1)) (xs (6 * i + 2)) (h 323) hV hLo hSc)) (fun y1 r1 h1 ey1 hp ho => ?_)
  obtain ⟨cc, ecc⟩ : ∃ q : Nat, q = rf_c_falls (h 323) (xs (6 * i + 1)) (xs (6 * i + 2)) := ⟨_, rfl⟩
  rw [← ecc] at ey1 ho
  have hcc : cc < 100 := by rw [ecc]; unfold rf_c_falls; exact lp_cbl (by decide) (lp_cbl (by decide) (by decide))
  rw [ey1]
  refine am_istore (pc := 720) (ls' := lp_l5 i (nI cc)) C dL_law__720 (by decide) rfl ?_
  obtain ⟨er, hk⟩ := hp
  have hR1 : am_rs r1 := by rw [er]; exact hR
  have R1 : cl_R r1 h i := by rw [er]; exact R
  have f : ∀ j, 322 ≤ j → j ≠ 335 → h1 j = h j := fun j a b => hk j ⟨Or.inr (by omega), Or.inr (by omega), by omega, Or.inr a, b⟩
  refine am_aload_n (pc := 722) C dL_law__722 rfl ?_
  refine lp_arg (pc := 723) (k := 1) Cx hi (by decide) dL_law__723 dL_law__724 dL_law__726 dL_law__727 dL_law__728 rfl rfl ?_
  refine lp_arg (pc := 729) (k := 2) Cx hi (by decide) dL_law__729 dL_law__730 dL_law__732 dL_law__733 dL_law__734 rfl rfl ?_
  refine lp_cV (Y := mX12_falls) (pc := 735) (st := []) (As := [.int (xs (6 * i + 1)), .int (xs (6 * i + 2))]) C dL_law__735 kL_167 v_X12_falls rfl rfl bn_322 sh_322 ⟨by decide, rfl⟩ (by decide) (lp_leC (show 400 + 5 * (i + 1) ≤ 600000 by omega)) (lp_leS (show 73000 + 30 * (i + 1) ≤ 7000000 by omega)) (Nat.le_of_ble_eq_true rfl) (c_X12_falls hR1 (xs (6 * i + 1)) (xs (6 * i + 2)) (show rf_I (h1 323) by rw [f 323 (by decide) (by decide)]; exact R.1.1.1)) (fun y2 h2 ey2 e2 => ?_)
  refine am_istore (pc := 738) (ls' := lp_l6 i (nI cc) y2) C dL_law__738 (by decide) rfl ?_
  simp only [f 322 (by decide) (by decide), f 323 (by decide) (by decide), f 325 (by decide) (by decide), f 326 (by decide) (by decide), f 327 (by decide) (by decide), f 328 (by decide) (by decide)] at ey2 e2
  rw [← ecc] at ey2 e2
  have F : ∀ j, j ≠ 322 → j ≠ 323 → j ≠ 326 → j ≠ 327 → (j < 330 ∨ 334 < j) → h2 j = h1 j := fun j a b c d k => by rw [e2]; repeat rw [am_row_ne _ _ _ (by omega)]
  have ea : cc = 0 → h2 335 0 = y2 := fun z => by rw [F 335 (by decide) (by decide) (by decide) (by decide) (by decide), ho z, ey2, rf_ga, if_pos z]
  have e322 : h2 322 = rf_oc (h 322) cc := by rw [e2, am_row_at]
  have et : (h2 322) 0 = nI cc := by rw [e322]; exact rf_upd_eq
  have F2 : ∀ j, j ≠ 322 → j < 330 → h2 j = h1 j := fun j a b => by rw [e2]; repeat rw [am_row_ne _ _ _ (by omega)]
  have R2 : cl_R r1 h2 (i + 1) := lp_pure R1 hk (fun j a b _ => F2 j a (by omega)) e322
  refine lp_tail (pc := 740) (c := cc) (a := 0) (u := y2) Cx hR1 hcc dL_law__740 dL_law__741 kL_142 dL_law__744 dL_law__746 dL_law__751 dL_law__753 dL_law__756 dL_law__757 dL_law__758 dL_law__759 dL_law__761 dL_law__762 dL_law__763 dL_law__768 (by decide) rfl rfl rfl rfl (lp_leC (show 400 + 5 * (i + 1) ≤ 600000 by omega)) (lp_leS (show 73000 + 30 * (i + 1) ≤ 7000000 by omega)) et ea ?_
  refine am_subp (ls' := lp_ls i) [0, 1, 2, 3, 4] rfl ?_
  exact K r1 h2 hR1 R2

set_option maxHeartbeats 1000000 in
set_option maxRecDepth 100000 in
theorem lc_order {X : am_X} {ad : Nat → Nat} {b L i : Nat} {xs : Nat → Int32} {r : am_R} {h : am_H} (Cx : lp_Cx X ad b L xs) (hi : 6 * i + 6 ≤ L) (hR : am_rs r) (R : cl_R r h i) (K : ∀ r1 h1, am_rs r1 → cl_R r1 h1 (i + 1) → am_G X (am_VV ad) (lp_cs (i + 1)) 2798 (lp_ls i) [] r1 h1) : am_G X (am_VV ad) (lp_cs i) 771 (lp_ls i) [] r h := by
  obtain ⟨C, S, hb, hL⟩ := id Cx
  have hi2 : i < 512 := by omega
  have hV := R.1.1.1
  have hLo := R.1.2.1
  have hSc := R.1.2.2.1
  refine am_aload_n (pc := 771) C dL_law__771 rfl ?_
  refine lp_arg (pc := 772) (k := 1) Cx hi (by decide) dL_law__772 dL_law__773 dL_law__775 dL_law__776 dL_law__777 rfl rfl ?_
  refine lp_arg (pc := 778) (k := 2) Cx hi (by decide) dL_law__778 dL_law__779 dL_law__781 dL_law__782 dL_law__783 rfl rfl ?_
  refine am_aload_n (pc := 784) C dL_law__784 rfl ?_
  refine lp_cW (Y := mL_order) (hh := hL_order) (n := 4) (pc := 785) (st := []) (As := [.ref 0, .int (xs (6 * i + 1)), .int (xs (6 * i + 2)), .ref 335]) (cz := lp_cs (i + 1)) C dL_law__785 kL_168 ⟨by decide, by decide, by decide +kernel⟩ ⟨(am_mem 1249 (by decide +kernel) rfl), (am_mem 139 (by decide +kernel) rfl), by decide⟩ (am_mem 1248 (by decide +kernel) rfl) rfl rfl (by decide) (show 400 + 5 * i + 1 ≤ 400 + 5 * (i + 1) by omega) (show 73000 + 30 * i + 6 ≤ 73000 + 30 * (i + 1) by omega) (lp_leC (show 400 + 5 * (i + 1) ≤ 600000 by omega)) (lp_leS (show 73000 + 30 * (i + 1) ≤ 7000000 by omega)) (Nat.le_of_ble_eq_true rfl) (w_order (xs (6 * i + 1)) (xs (6 * i + 2)) lp_hP_k (c_X11_order hR (xs (6 * i + 1)) (xs (6 * i + 2)) (h 323) hV hLo hSc)) (fun y1 r1 h1 ey1 hp ho => ?_)
  obtain ⟨cc, ecc⟩ : ∃ q : Nat, q = rf_c_order (h 323) (xs (6 * i + 1)) (xs (6 * i + 2)) := ⟨_, rfl⟩
  rw [← ecc] at ey1 ho
  have hcc : cc < 100 := by rw [ecc]; unfold rf_c_order; exact lp_cbl (by decide) (lp_cbl (by decide) (by decide))
  rw [ey1]
  refine am_istore (pc := 788) (ls' := lp_l5 i (nI cc)) C dL_law__788 (by decide) rfl ?_
  obtain ⟨er, hk⟩ := hp
  have hR1 : am_rs r1 := by rw [er]; exact hR
  have R1 : cl_R r1 h i := by rw [er]; exact R
  have f : ∀ j, 322 ≤ j → j ≠ 335 → h1 j = h j := fun j a b => hk j ⟨Or.inr (by omega), Or.inr (by omega), by omega, Or.inr a, b⟩
  refine am_aload_n (pc := 790) C dL_law__790 rfl ?_
  refine lp_arg (pc := 791) (k := 1) Cx hi (by decide) dL_law__791 dL_law__792 dL_law__794 dL_law__795 dL_law__796 rfl rfl ?_
  refine lp_arg (pc := 797) (k := 2) Cx hi (by decide) dL_law__797 dL_law__798 dL_law__800 dL_law__801 dL_law__802 rfl rfl ?_
  refine lp_cV (Y := mX12_order) (pc := 803) (st := []) (As := [.int (xs (6 * i + 1)), .int (xs (6 * i + 2))]) C dL_law__803 kL_170 v_X12_order rfl rfl bn_322 sh_322 ⟨by decide, rfl⟩ (by decide) (lp_leC (show 400 + 5 * (i + 1) ≤ 600000 by omega)) (lp_leS (show 73000 + 30 * (i + 1) ≤ 7000000 by omega)) (Nat.le_of_ble_eq_true rfl) (c_X12_order hR1 (xs (6 * i + 1)) (xs (6 * i + 2)) (show rf_I (h1 323) by rw [f 323 (by decide) (by decide)]; exact R.1.1.1)) (fun y2 h2 ey2 e2 => ?_)
  refine am_istore (pc := 806) (ls' := lp_l6 i (nI cc) y2) C dL_law__806 (by decide) rfl ?_
  simp only [f 322 (by decide) (by decide), f 323 (by decide) (by decide), f 325 (by decide) (by decide), f 326 (by decide) (by decide), f 327 (by decide) (by decide), f 328 (by decide) (by decide)] at ey2 e2
  rw [← ecc] at ey2 e2
  have F : ∀ j, j ≠ 322 → j ≠ 323 → j ≠ 326 → j ≠ 327 → (j < 330 ∨ 334 < j) → h2 j = h1 j := fun j a b c d k => by rw [e2]; repeat rw [am_row_ne _ _ _ (by omega)]
  have ea : cc = 0 → h2 335 0 = y2 := fun z => by rw [F 335 (by decide) (by decide) (by decide) (by decide) (by decide), ho z, ey2, rf_ga, if_pos z]
  have e322 : h2 322 = rf_oc (h 322) cc := by rw [e2, am_row_at]
  have et : (h2 322) 0 = nI cc := by rw [e322]; exact rf_upd_eq
  have F2 : ∀ j, j ≠ 322 → j < 330 → h2 j = h1 j := fun j a b => by rw [e2]; repeat rw [am_row_ne _ _ _ (by omega)]
  have R2 : cl_R r1 h2 (i + 1) := lp_pure R1 hk (fun j a b _ => F2 j a (by omega)) e322
  refine lp_tail (pc := 808) (c := cc) (a := 0) (u := y2) Cx hR1 hcc dL_law__808 dL_law__809 kL_142 dL_law__812 dL_law__814 dL_law__819 dL_law__821 dL_law__824 dL_law__825 dL_law__826 dL_law__827 dL_law__829 dL_law__830 dL_law__831 dL_law__836 (by decide) rfl rfl rfl rfl (lp_leC (show 400 + 5 * (i + 1) ≤ 600000 by omega)) (lp_leS (show 73000 + 30 * (i + 1) ≤ 7000000 by omega)) et ea ?_
  refine am_subp (ls' := lp_ls i) [0, 1, 2, 3, 4] rfl ?_
  exact K r1 h2 hR1 R2

set_option maxHeartbeats 1000000 in
set_option maxRecDepth 100000 in
theorem lc_rule {X : am_X} {ad : Nat → Nat} {b L i : Nat} {xs : Nat → Int32} {r : am_R} {h : am_H} (Cx : lp_Cx X ad b L xs) (hi : 6 * i + 6 ≤ L) (hR : am_rs r) (R : cl_R r h i) (K : ∀ r1 h1, am_rs r1 → cl_R r1 h1 (i + 1) → am_G X (am_VV ad) (lp_cs (i + 1)) 2798 (lp_ls i) [] r1 h1) : am_G X (am_VV ad) (lp_cs i) 839 (lp_ls i) [] r h := by
  obtain ⟨C, S, hb, hL⟩ := id Cx
  have hi2 : i < 512 := by omega
  have hV := R.1.1.1
  have hLw := R.1.1.2.1
  have hLk := R.1.1.2.2.1
  have hLo := R.1.2.1
  have hSc := R.1.2.2.1
  have hA := R.1.2.2.2
  refine am_aload_n (pc := 839) C dL_law__839 rfl ?_
  refine lp_arg (pc := 840) (k := 1) Cx hi (by decide) dL_law__840 dL_law__841 dL_law__843 dL_law__844 dL_law__845 rfl rfl ?_
  refine lp_arg (pc := 846) (k := 2) Cx hi (by decide) dL_law__846 dL_law__847 dL_law__849 dL_law__850 dL_law__851 rfl rfl ?_
  refine am_aload_n (pc := 852) C dL_law__852 rfl ?_
  refine lp_cW (Y := mL_rule) (hh := hL_rule) (n := 4) (pc := 853) (st := []) (As := [.ref 0, .int (xs (6 * i + 1)), .int (xs (6 * i + 2)), .ref 335]) (cz := lp_cs (i + 1)) C dL_law__853 kL_171 ⟨by decide, by decide, by decide +kernel⟩ ⟨(am_mem 1258 (by decide +kernel) rfl), (am_mem 139 (by decide +kernel) rfl), by decide⟩ (am_mem 1257 (by decide +kernel) rfl) rfl rfl (by decide) (show 400 + 5 * i + 2 ≤ 400 + 5 * (i + 1) by omega) (show 73000 + 30 * i + 12 ≤ 73000 + 30 * (i + 1) by omega) (lp_leC (show 400 + 5 * (i + 1) ≤ 600000 by omega)) (lp_leS (show 73000 + 30 * (i + 1) ≤ 7000000 by omega)) (Nat.le_of_ble_eq_true rfl) (w_rule (xs (6 * i + 1)) (xs (6 * i + 2)) lp_hP_k (c_X11_rule hR (xs (6 * i + 1)) (xs (6 * i + 2)) (h 323) hV hLo hSc hLw hLk hA)) (fun y1 r1 h1 ey1 hp ho => ?_)
  obtain ⟨cc, ecc⟩ : ∃ q : Nat, q = rf_c_rule (h 323) (xs (6 * i + 1)) (xs (6 * i + 2)) := ⟨_, rfl⟩
  rw [← ecc] at ey1 ho
  have hcc : cc < 100 := by rw [ecc]; unfold rf_c_rule; exact lp_cbl (by decide) (lp_cbl (by decide) (by decide))
  rw [ey1]
  refine am_istore (pc := 856) (ls' := lp_l5 i (nI cc)) C dL_law__856 (by decide) rfl ?_
  obtain ⟨er, hk⟩ := hp
  have hR1 : am_rs r1 := by rw [er]; exact hR
  have R1 : cl_R r1 h i := by rw [er]; exact R
  have f : ∀ j, 322 ≤ j → j ≠ 335 → h1 j = h j := fun j a b => hk j ⟨Or.inr (by omega), Or.inr (by omega), by omega, Or.inr a, b⟩
  refine am_aload_n (pc := 858) C dL_law__858 rfl ?_
  refine lp_arg (pc := 859) (k := 1) Cx hi (by decide) dL_law__859 dL_law__860 dL_law__862 dL_law__863 dL_law__864 rfl rfl ?_
  refine lp_arg (pc := 865) (k := 2) Cx hi (by decide) dL_law__865 dL_law__866 dL_law__868 dL_law__869 dL_law__870 rfl rfl ?_
  refine lp_cVj (Y := mX12_rule) (pc := 871) (st := []) (As := [.int (xs (6 * i + 1)), .int (xs (6 * i + 2))]) C dL_law__871 kL_173 v_X12_rule rfl rfl bn_322 sh_322 ⟨by decide, rfl⟩ (by decide) (lp_leC (show 400 + 5 * (i + 1) ≤ 600000 by omega)) (lp_leS (show 73000 + 30 * (i + 1) ≤ 7000000 by omega)) (Nat.le_of_ble_eq_true rfl) (c_X12_rule hR1 (xs (6 * i + 1)) (xs (6 * i + 2)) (show rf_I (h1 323) by rw [f 323 (by decide) (by decide)]; exact R.1.1.1) (show rf_Lw (h1 323) by rw [f 323 (by decide) (by decide)]; exact R.1.1.2.1)) (fun y2 h2 G2 ey2 e2 => ?_)
  refine am_istore (pc := 874) (ls' := lp_l6 i (nI cc) y2) C dL_law__874 (by decide) rfl ?_
  simp only [f 322 (by decide) (by decide), f 323 (by decide) (by decide), f 325 (by decide) (by decide), f 326 (by decide) (by decide), f 327 (by decide) (by decide), f 328 (by decide) (by decide)] at ey2 e2
  rw [← ecc] at ey2 e2
  have F : ∀ j, j ≠ 322 → j ≠ 323 → j ≠ 326 → j ≠ 327 → (j < 330 ∨ 334 < j) → h2 j = h1 j := fun j a b c d k => by rw [e2]; repeat rw [am_row_ne _ _ _ (by omega)]
  have ea : cc = 0 → h2 335 0 = y2 := fun z => by rw [F 335 (by decide) (by decide) (by decide) (by decide) (by decide), ho z, ey2, rf_ga, if_pos z]
  have e322 : h2 322 = rf_oc (h 322) cc := by rw [e2, am_row_at]
  have et : (h2 322) 0 = nI cc := by rw [e322]; exact rf_upd_eq
  have F2 : ∀ j, j ≠ 322 → j < 330 → h2 j = h1 j := fun j a b => by rw [e2]; repeat rw [am_row_ne _ _ _ (by omega)]
  have R2 : cl_R r1 h2 (i + 1) := lp_pure R1 hk (fun j a b _ => F2 j a (by omega)) e322
  refine lp_tail (pc := 876) (c := cc) (a := 0) (u := y2) Cx hR1 hcc dL_law__876 dL_law__877 kL_142 dL_law__880 dL_law__882 dL_law__887 dL_law__889 dL_law__892 dL_law__893 dL_law__894 dL_law__895 dL_law__897 dL_law__898 dL_law__899 dL_law__904 (by decide) rfl rfl rfl rfl (lp_leC (show 400 + 5 * (i + 1) ≤ 600000 by omega)) (lp_leS (show 73000 + 30 * (i + 1) ≤ 7000000 by omega)) et ea ?_
  refine am_subp (ls' := lp_ls i) [0, 1, 2, 3, 4] rfl ?_
  exact K r1 h2 hR1 R2

set_option maxHeartbeats 1000000 in
set_option maxRecDepth 100000 in
theorem lc_field {X : am_X} {ad : Nat → Nat} {b L i : Nat} {xs : Nat → Int32} {r : am_R} {h : am_H} (Cx : lp_Cx X ad b L xs) (hi : 6 * i + 6 ≤ L) (hR : am_rs r) (R : cl_R r h i) (K : ∀ r1 h1, am_rs r1 → cl_R r1 h1 (i + 1) → am_G X (am_VV ad) (lp_cs (i + 1)) 2798 (lp_ls i) [] r1 h1) : am_G X (am_VV ad) (lp_cs i) 1263 (lp_ls i) [] r h := by
  obtain ⟨C, S, hb, hL⟩ := id Cx
  have hi2 : i < 512 := by omega
  have hV := R.1.1.1
  have hLo := R.1.2.1
  have hSc := R.1.2.2.1
  refine am_aload_n (pc := 1263) C dL_law__1263 rfl ?_
  refine lp_arg (pc := 1264) (k := 1) Cx hi (by decide) dL_law__1264 dL_law__1265 dL_law__1267 dL_law__1268 dL_law__1269 rfl rfl ?_
  refine lp_arg (pc := 1270) (k := 2) Cx hi (by decide) dL_law__1270 dL_law__1271 dL_law__1273 dL_law__1274 dL_law__1275 rfl rfl ?_
  refine am_aload_n (pc := 1276) C dL_law__1276 rfl ?_
  refine lp_cW (Y := mL_field) (hh := hL_field) (n := 4) (pc := 1277) (st := []) (As := [.ref 0, .int (xs (6 * i + 1)), .int (xs (6 * i + 2)), .ref 335]) (cz := lp_cs (i + 1)) C dL_law__1277 kL_192 ⟨by decide, by decide, by decide +kernel⟩ ⟨(am_mem 1451 (by decide +kernel) rfl), (am_mem 139 (by decide +kernel) rfl), by decide⟩ (am_mem 1450 (by decide +kernel) rfl) rfl rfl (by decide) (show 400 + 5 * i + 2 ≤ 400 + 5 * (i + 1) by omega) (show 73000 + 30 * i + 12 ≤ 73000 + 30 * (i + 1) by omega) (lp_leC (show 400 + 5 * (i + 1) ≤ 600000 by omega)) (lp_leS (show 73000 + 30 * (i + 1) ≤ 7000000 by omega)) (Nat.le_of_ble_eq_true rfl) (w_field (xs (6 * i + 1)) (xs (6 * i + 2)) lp_hP_k (c_X11_field hR (xs (6 * i + 1)) (xs (6 * i + 2)) (h 323) hV hLo hSc)) (fun y1 r1 h1 ey1 hp ho => ?_)
  obtain ⟨cc, ecc⟩ : ∃ q : Nat, q = rf_c_field (h 323) (xs (6 * i + 1)) (xs (6 * i + 2)) := ⟨_, rfl⟩
  rw [← ecc] at ey1 ho
  have hcc : cc < 100 := by rw [ecc]; unfold rf_c_field; exact lp_cbl (by decide) (lp_cbl (by decide) (by decide))
  rw [ey1]
  refine am_istore (pc := 1280) (ls' := lp_l5 i (nI cc)) C dL_law__1280 (by decide) rfl ?_
  obtain ⟨er, hk⟩ := hp
  have hR1 : am_rs r1 := by rw [er]; exact hR
  have R1 : cl_R r1 h i := by rw [er]; exact R
  have f : ∀ j, 322 ≤ j → j ≠ 335 → h1 j = h j := fun j a b => hk j ⟨Or.inr (by omega), Or.inr (by omega), by omega, Or.inr a, b⟩
  refine am_aload_n (pc := 1282) C dL_law__1282 rfl ?_
  refine lp_arg (pc := 1283) (k := 1) Cx hi (by decide) dL_law__1283 dL_law__1284 dL_law__1286 dL_law__1287 dL_law__1288 rfl rfl ?_
  refine lp_arg (pc := 1289) (k := 2) Cx hi (by decide) dL_law__1289 dL_law__1290 dL_law__1292 dL_law__1293 dL_law__1294 rfl rfl ?_
  refine lp_cV (Y := mX12_field) (pc := 1295) (st := []) (As := [.int (xs (6 * i + 1)), .int (xs (6 * i + 2))]) C dL_law__1295 kL_194 v_X12_field rfl rfl bn_322 sh_322 ⟨by decide, rfl⟩ (by decide) (lp_leC (show 400 + 5 * (i + 1) ≤ 600000 by omega)) (lp_leS (show 73000 + 30 * (i + 1) ≤ 7000000 by omega)) (Nat.le_of_ble_eq_true rfl) (c_X12_field hR1 (xs (6 * i + 1)) (xs (6 * i + 2)) (show rf_I (h1 323) by rw [f 323 (by decide) (by decide)]; exact R.1.1.1)) (fun y2 h2 ey2 e2 => ?_)
  refine am_istore (pc := 1298) (ls' := lp_l6 i (nI cc) y2) C dL_law__1298 (by decide) rfl ?_
  simp only [f 322 (by decide) (by decide), f 323 (by decide) (by decide), f 325 (by decide) (by decide), f 326 (by decide) (by decide), f 327 (by decide) (by decide), f 328 (by decide) (by decide)] at ey2 e2
  rw [← ecc] at ey2 e2
  have F : ∀ j, j ≠ 322 → j ≠ 323 → j ≠ 326 → j ≠ 327 → (j < 330 ∨ 334 < j) → h2 j = h1 j := fun j a b c d k => by rw [e2]; repeat rw [am_row_ne _ _ _ (by omega)]
  have ea : cc = 0 → h2 335 0 = y2 := fun z => by rw [F 335 (by decide) (by decide) (by decide) (by decide) (by decide), ho z, ey2, rf_ga, if_pos z]
  have e322 : h2 322 = rf_oc (h 322) cc := by rw [e2, am_row_at]
  have et : (h2 322) 0 = nI cc := by rw [e322]; exact rf_upd_eq
  have F2 : ∀ j, j ≠ 322 → j < 330 → h2 j = h1 j := fun j a b => by rw [e2]; repeat rw [am_row_ne _ _ _ (by omega)]
  have R2 : cl_R r1 h2 (i + 1) := lp_pure R1 hk (fun j a b _ => F2 j a (by omega)) e322
  refine lp_tail (pc := 1300) (c := cc) (a := 0) (u := y2) Cx hR1 hcc dL_law__1300 dL_law__1301 kL_142 dL_law__1304 dL_law__1306 dL_law__1311 dL_law__1313 dL_law__1316 dL_law__1317 dL_law__1318 dL_law__1319 dL_law__1321 dL_law__1322 dL_law__1323 dL_law__1328 (by decide) rfl rfl rfl rfl (lp_leC (show 400 + 5 * (i + 1) ≤ 600000 by omega)) (lp_leS (show 73000 + 30 * (i + 1) ≤ 7000000 by omega)) et ea ?_
  refine am_subp (ls' := lp_ls i) [0, 1, 2, 3, 4] rfl ?_
  exact K r1 h2 hR1 R2

set_option maxHeartbeats 1000000 in
set_option maxRecDepth 100000 in
theorem lc_plan {X : am_X} {ad : Nat → Nat} {b L i : Nat} {xs : Nat → Int32} {r : am_R} {h : am_H} (Cx : lp_Cx X ad b L xs) (hi : 6 * i + 6 ≤ L) (hR : am_rs r) (R : cl_R r h i) (K : ∀ r1 h1, am_rs r1 → cl_R r1 h1 (i + 1) → am_G X (am_VV ad) (lp_cs (i + 1)) 2798 (lp_ls i) [] r1 h1) : am_G X (am_VV ad) (lp_cs i) 1331 (lp_ls i) [] r h := by
  obtain ⟨C, S, hb, hL⟩ := id Cx
  have hi2 : i < 512 := by omega
  have hV := R.1.1.1
  have hLo := R.1.2.1
  have hSc := R.1.2.2.1
  refine am_aload_n (pc := 1331) C dL_law__1331 rfl ?_
  refine lp_arg (pc := 1332) (k := 1) Cx hi (by decide) dL_law__1332 dL_law__1333 dL_law__1335 dL_law__1336 dL_law__1337 rfl rfl ?_
  refine lp_arg (pc := 1338) (k := 2) Cx hi (by decide) dL_law__1338 dL_law__1339 dL_law__1341 dL_law__1342 dL_law__1343 rfl rfl ?_
  refine lp_bool (pc := 1344) (t1 := 1351) (t2 := 1352) Cx dL_law__1344 (by decide) dL_law__1347 dL_law__1348 (by decide) dL_law__1351 rfl ?_
  refine am_aload_n (pc := 1352) C dL_law__1352 rfl ?_
  refine lp_cW (Y := mL_plan) (hh := hL_plan) (n := 4) (pc := 1353) (st := []) (As := [.ref 0, .int (xs (6 * i + 1)), .int (am_b (!decide (xs (6 * i + 2) = 0))), .ref 335]) (cz := lp_cs (i + 1)) C dL_law__1353 kL_195 ⟨by decide, by decide, by decide +kernel⟩ ⟨(am_mem 1459 (by decide +kernel) rfl), (am_mem 139 (by decide +kernel) rfl), by decide⟩ (am_mem 1458 (by decide +kernel) rfl) rfl rfl (by decide) (show 400 + 5 * i + 1 ≤ 400 + 5 * (i + 1) by omega) (show 73000 + 30 * i + 6 ≤ 73000 + 30 * (i + 1) by omega) (lp_leC (show 400 + 5 * (i + 1) ≤ 600000 by omega)) (lp_leS (show 73000 + 30 * (i + 1) ≤ 7000000 by omega)) (Nat.le_of_ble_eq_true rfl) (w_plan (xs (6 * i + 1)) (am_b (!decide (xs (6 * i + 2) = 0))) lp_hP_k (c_X11_plan hR (xs (6 * i + 1)) (!decide (xs (6 * i + 2) = 0)) (h 323) hV hLo hSc)) (fun y1 r1 h1 ey1 hp ho => ?_)
  obtain ⟨cc, ecc⟩ : ∃ q : Nat, q = rf_c_plan (h 323) (xs (6 * i + 1)) (!decide (xs (6 * i + 2) = 0)) := ⟨_, rfl⟩
  rw [← ecc] at ey1 ho
  have hcc : cc < 100 := by rw [ecc]; unfold rf_c_plan; exact lp_cbl (by decide) (by decide)
  rw [ey1]
  refine am_istore (pc := 1356) (ls' := lp_l5 i (nI cc)) C dL_law__1356 (by decide) rfl ?_
  obtain ⟨er, hk⟩ := hp
  have hR1 : am_rs r1 := by rw [er]; exact hR
  have R1 : cl_R r1 h i := by rw [er]; exact R
  have f : ∀ j, 322 ≤ j → j ≠ 335 → h1 j = h j := fun j a b => hk j ⟨Or.inr (by omega), Or.inr (by omega), by omega, Or.inr a, b⟩
  refine am_aload_n (pc := 1358) C dL_law__1358 rfl ?_
  refine lp_arg (pc := 1359) (k := 1) Cx hi (by decide) dL_law__1359 dL_law__1360 dL_law__1362 dL_law__1363 dL_law__1364 rfl rfl ?_
  refine lp_arg (pc := 1365) (k := 2) Cx hi (by decide) dL_law__1365 dL_law__1366 dL_law__1368 dL_law__1369 dL_law__1370 rfl rfl ?_
  refine lp_bool (pc := 1371) (t1 := 1378) (t2 := 1379) Cx dL_law__1371 (by decide) dL_law__1374 dL_law__1375 (by decide) dL_law__1378 rfl ?_
  refine lp_cV (Y := mX12_plan) (pc := 1379) (st := []) (As := [.int (xs (6 * i + 1)), .int (am_b (!decide (xs (6 * i + 2) = 0)))]) C dL_law__1379 kL_198 v_X12_plan rfl rfl bn_322 sh_322 ⟨by decide, rfl⟩ (by decide) (lp_leC (show 400 + 5 * (i + 1) ≤ 600000 by omega)) (lp_leS (show 73000 + 30 * (i + 1) ≤ 7000000 by omega)) (Nat.le_of_ble_eq_true rfl) (c_X12_plan hR1 (xs (6 * i + 1)) (!decide (xs (6 * i + 2) = 0)) (show rf_I (h1 323) by rw [f 323 (by decide) (by decide)]; exact R.1.1.1)) (fun y2 h2 ey2 e2 => ?_)
  refine am_istore (pc := 1382) (ls' := lp_l6 i (nI cc) y2) C dL_law__1382 (by decide) rfl ?_
  simp only [f 322 (by decide) (by decide), f 323 (by decide) (by decide), f 325 (by decide) (by decide), f 326 (by decide) (by decide), f 327 (by decide) (by decide), f 328 (by decide) (by decide)] at ey2 e2
  rw [← ecc] at ey2 e2
  have F : ∀ j, j ≠ 322 → j ≠ 323 → j ≠ 326 → j ≠ 327 → (j < 330 ∨ 334 < j) → h2 j = h1 j := fun j a b c d k => by rw [e2]; repeat rw [am_row_ne _ _ _ (by omega)]
  have ea : cc = 0 → h2 335 0 = y2 := fun z => by rw [F 335 (by decide) (by decide) (by decide) (by decide) (by decide), ho z, ey2, rf_ga, if_pos z]
  have e322 : h2 322 = rf_oc (h 322) cc := by rw [e2, am_row_at]
  have et : (h2 322) 0 = nI cc := by rw [e322]; exact rf_upd_eq
  have F2 : ∀ j, j ≠ 322 → j < 330 → h2 j = h1 j := fun j a b => by rw [e2]; repeat rw [am_row_ne _ _ _ (by omega)]
  have R2 : cl_R r1 h2 (i + 1) := lp_pure R1 hk (fun j a b _ => F2 j a (by omega)) e322
  refine lp_tail (pc := 1384) (c := cc) (a := 0) (u := y2) Cx hR1 hcc dL_law__1384 dL_law__1385 kL_142 dL_law__1388 dL_law__1390 dL_law__1395 dL_law__1397 dL_law__1400 dL_law__1401 dL_law__1402 dL_law__1403 dL_law__1405 dL_law__1406 dL_law__1407 dL_law__1412 (by decide) rfl rfl rfl rfl (lp_leC (show 400 + 5 * (i + 1) ≤ 600000 by omega)) (lp_leS (show 73000 + 30 * (i + 1) ≤ 7000000 by omega)) et ea ?_
  refine am_subp (ls' := lp_ls i) [0, 1, 2, 3, 4] rfl ?_
  exact K r1 h2 hR1 R2

set_option maxHeartbeats 1000000 in
set_option maxRecDepth 100000 in
theorem lc_shots {X : am_X} {ad : Nat → Nat} {b L i : Nat} {xs : Nat → Int32} {r : am_R} {h : am_H} (Cx : lp_Cx X ad b L xs) (hi : 6 * i + 6 ≤ L) (hR : am_rs r) (R : cl_R r h i) (K : ∀ r1 h1, am_rs r1 → cl_R r1 h1 (i + 1) → am_G X (am_VV ad) (lp_cs (i + 1)) 2798 (lp_ls i) [] r1 h1) : am_G X (am_VV ad) (lp_cs i) 1415 (lp_ls i) [] r h := by
  obtain ⟨C, S, hb, hL⟩ := id Cx
  have hi2 : i < 512 := by omega
  have hV := R.1.1.1
  have hLo := R.1.2.1
  have hSc := R.1.2.2.1
  refine am_aload_n (pc := 1415) C dL_law__1415 rfl ?_
  refine lp_arg (pc := 1416) (k := 1) Cx hi (by decide) dL_law__1416 dL_law__1417 dL_law__1419 dL_law__1420 dL_law__1421 rfl rfl ?_
  refine lp_arg (pc := 1422) (k := 2) Cx hi (by decide) dL_law__1422 dL_law__1423 dL_law__1425 dL_law__1426 dL_law__1427 rfl rfl ?_
  refine lp_arg (pc := 1428) (k := 3) Cx hi (by decide) dL_law__1428 dL_law__1429 dL_law__1431 dL_law__1432 dL_law__1433 rfl rfl ?_
  refine lp_bool (pc := 1434) (t1 := 1441) (t2 := 1442) Cx dL_law__1434 (by decide) dL_law__1437 dL_law__1438 (by decide) dL_law__1441 rfl ?_
  refine am_aload_n (pc := 1442) C dL_law__1442 rfl ?_
  refine lp_cW (Y := mL_shots) (hh := hL_shots) (n := 5) (pc := 1443) (st := []) (As := [.ref 0, .int (xs (6 * i + 1)), .int (xs (6 * i + 2)), .int (am_b (!decide (xs (6 * i + 3) = 0))), .ref 335]) (cz := lp_cs (i + 1)) C dL_law__1443 kL_199 ⟨by decide, by decide, by decide +kernel⟩ ⟨(am_mem 1470 (by decide +kernel) rfl), (am_mem 139 (by decide +kernel) rfl), by decide⟩ (am_mem 1469 (by decide +kernel) rfl) rfl rfl (by decide) (show 400 + 5 * i + 2 ≤ 400 + 5 * (i + 1) by omega) (show 73000 + 30 * i + 12 ≤ 73000 + 30 * (i + 1) by omega) (lp_leC (show 400 + 5 * (i + 1) ≤ 600000 by omega)) (lp_leS (show 73000 + 30 * (i + 1) ≤ 7000000 by omega)) (Nat.le_of_ble_eq_true rfl) (w_shots (xs (6 * i + 1)) (xs (6 * i + 2)) (am_b (!decide (xs (6 * i + 3) = 0))) lp_hP_k (c_X11_shots hR (xs (6 * i + 1)) (xs (6 * i + 2)) (!decide (xs (6 * i + 3) = 0)) (h 323) hV hLo hSc)) (fun y1 r1 h1 ey1 hp ho => ?_)
  obtain ⟨cc, ecc⟩ : ∃ q : Nat, q = rf_c_shots (h 323) (xs (6 * i + 1)) (xs (6 * i + 2)) (!decide (xs (6 * i + 3) = 0)) := ⟨_, rfl⟩
  rw [← ecc] at ey1 ho
  have hcc : cc < 100 := by rw [ecc]; unfold rf_c_shots; exact lp_cbl (by decide) (lp_cbl (by decide) (by decide))
  rw [ey1]
  refine am_istore (pc := 1446) (ls' := lp_l5 i (nI cc)) C dL_law__1446 (by decide) rfl ?_
  obtain ⟨er, hk⟩ := hp
  have hR1 : am_rs r1 := by rw [er]; exact hR
  have R1 : cl_R r1 h i := by rw [er]; exact R
  have f : ∀ j, 322 ≤ j → j ≠ 335 → h1 j = h j := fun j a b => hk j ⟨Or.inr (by omega), Or.inr (by omega), by omega, Or.inr a, b⟩
  refine am_aload_n (pc := 1448) C dL_law__1448 rfl ?_
  refine lp_arg (pc := 1449) (k := 1) Cx hi (by decide) dL_law__1449 dL_law__1450 dL_law__1452 dL_law__1453 dL_law__1454 rfl rfl ?_
  refine lp_arg (pc := 1455) (k := 2) Cx hi (by decide) dL_law__1455 dL_law__1456 dL_law__1458 dL_law__1459 dL_law__1460 rfl rfl ?_
  refine lp_arg (pc := 1461) (k := 3) Cx hi (by decide) dL_law__1461 dL_law__1462 dL_law__1464 dL_law__1465 dL_law__1466 rfl rfl ?_
  refine lp_bool (pc := 1467) (t1 := 1474) (t2 := 1475) Cx dL_law__1467 (by decide) dL_law__1470 dL_law__1471 (by decide) dL_law__1474 rfl ?_
  refine lp_cV (Y := mX12_shots) (pc := 1475) (st := []) (As := [.int (xs (6 * i + 1)), .int (xs (6 * i + 2)), .int (am_b (!decide (xs (6 * i + 3) = 0)))]) C dL_law__1475 kL_201 v_X12_shots rfl rfl bn_322 sh_322 ⟨by decide, rfl⟩ (by decide) (lp_leC (show 400 + 5 * (i + 1) ≤ 600000 by omega)) (lp_leS (show 73000 + 30 * (i + 1) ≤ 7000000 by omega)) (Nat.le_of_ble_eq_true rfl) (c_X12_shots hR1 (xs (6 * i + 1)) (xs (6 * i + 2)) (!decide (xs (6 * i + 3) = 0)) (show rf_I (h1 323) by rw [f 323 (by decide) (by decide)]; exact R.1.1.1)) (fun y2 h2 ey2 e2 => ?_)
  refine am_istore (pc := 1478) (ls' := lp_l6 i (nI cc) y2) C dL_law__1478 (by decide) rfl ?_
  simp only [f 322 (by decide) (by decide), f 323 (by decide) (by decide), f 325 (by decide) (by decide), f 326 (by decide) (by decide), f 327 (by decide) (by decide), f 328 (by decide) (by decide)] at ey2 e2
  rw [← ecc] at ey2 e2
  have F : ∀ j, j ≠ 322 → j ≠ 323 → j ≠ 326 → j ≠ 327 → (j < 330 ∨ 334 < j) → h2 j = h1 j := fun j a b c d k => by rw [e2]; repeat rw [am_row_ne _ _ _ (by omega)]
  have ea : cc = 0 → h2 335 0 = y2 := fun z => by rw [F 335 (by decide) (by decide) (by decide) (by decide) (by decide), ho z, ey2, rf_ga, if_pos z]
  have e322 : h2 322 = rf_oc (h 322) cc := by rw [e2, am_row_at]
  have et : (h2 322) 0 = nI cc := by rw [e322]; exact rf_upd_eq
  have F2 : ∀ j, j ≠ 322 → j < 330 → h2 j = h1 j := fun j a b => by rw [e2]; repeat rw [am_row_ne _ _ _ (by omega)]
  have R2 : cl_R r1 h2 (i + 1) := lp_pure R1 hk (fun j a b _ => F2 j a (by omega)) e322
  refine lp_tail (pc := 1480) (c := cc) (a := 0) (u := y2) Cx hR1 hcc dL_law__1480 dL_law__1481 kL_142 dL_law__1484 dL_law__1486 dL_law__1491 dL_law__1493 dL_law__1496 dL_law__1497 dL_law__1498 dL_law__1499 dL_law__1501 dL_law__1502 dL_law__1503 dL_law__1508 (by decide) rfl rfl rfl rfl (lp_leC (show 400 + 5 * (i + 1) ≤ 600000 by omega)) (lp_leS (show 73000 + 30 * (i + 1) ≤ 7000000 by omega)) et ea ?_
  refine am_subp (ls' := lp_ls i) [0, 1, 2, 3, 4] rfl ?_
  exact K r1 h2 hR1 R2

set_option maxHeartbeats 1000000 in
set_option maxRecDepth 100000 in
theorem lc_outlasts {X : am_X} {ad : Nat → Nat} {b L i : Nat} {xs : Nat → Int32} {r : am_R} {h : am_H} (Cx : lp_Cx X ad b L xs) (hi : 6 * i + 6 ≤ L) (hR : am_rs r) (R : cl_R r h i) (K : ∀ r1 h1, am_rs r1 → cl_R r1 h1 (i + 1) → am_G X (am_VV ad) (lp_cs (i + 1)) 2798 (lp_ls i) [] r1 h1) : am_G X (am_VV ad) (lp_cs i) 1511 (lp_ls i) [] r h := by
  obtain ⟨C, S, hb, hL⟩ := id Cx
  have hi2 : i < 512 := by omega
  have hV := R.1.1.1
  have hLo := R.1.2.1
  have hSc := R.1.2.2.1
  refine am_aload_n (pc := 1511) C dL_law__1511 rfl ?_
  refine lp_arg (pc := 1512) (k := 1) Cx hi (by decide) dL_law__1512 dL_law__1513 dL_law__1515 dL_law__1516 dL_law__1517 rfl rfl ?_
  refine lp_arg (pc := 1518) (k := 2) Cx hi (by decide) dL_law__1518 dL_law__1519 dL_law__1521 dL_law__1522 dL_law__1523 rfl rfl ?_
  refine lp_bool (pc := 1524) (t1 := 1531) (t2 := 1532) Cx dL_law__1524 (by decide) dL_law__1527 dL_law__1528 (by decide) dL_law__1531 rfl ?_
  refine lp_arg (pc := 1532) (k := 3) Cx hi (by decide) dL_law__1532 dL_law__1533 dL_law__1535 dL_law__1536 dL_law__1537 rfl rfl ?_
  refine lp_bool (pc := 1538) (t1 := 1545) (t2 := 1546) Cx dL_law__1538 (by decide) dL_law__1541 dL_law__1542 (by decide) dL_law__1545 rfl ?_
  refine am_aload_n (pc := 1546) C dL_law__1546 rfl ?_
  refine lp_cW (Y := mL_outlasts) (hh := hL_outlasts) (n := 5) (pc := 1547) (st := []) (As := [.ref 0, .int (xs (6 * i + 1)), .int (am_b (!decide (xs (6 * i + 2) = 0))), .int (am_b (!decide (xs (6 * i + 3) = 0))), .ref 335]) (cz := lp_cs (i + 1)) C dL_law__1547 kL_202 ⟨by decide, by decide, by decide +kernel⟩ ⟨(am_mem 1483 (by decide +kernel) rfl), (am_mem 139 (by decide +kernel) rfl), by decide⟩ (am_mem 1482 (by decide +kernel) rfl) rfl rfl (by decide) (show 400 + 5 * i + 1 ≤ 400 + 5 * (i + 1) by omega) (show 73000 + 30 * i + 6 ≤ 73000 + 30 * (i + 1) by omega) (lp_leC (show 400 + 5 * (i + 1) ≤ 600000 by omega)) (lp_leS (show 73000 + 30 * (i + 1) ≤ 7000000 by omega)) (Nat.le_of_ble_eq_true rfl) (w_outlasts (xs (6 * i + 1)) (am_b (!decide (xs (6 * i + 2) = 0))) (am_b (!decide (xs (6 * i + 3) = 0))) lp_hP_k (c_X11_outlasts hR (xs (6 * i + 1)) (!decide (xs (6 * i + 2) = 0)) (!decide (xs (6 * i + 3) = 0)) (h 323) hV hLo hSc)) (fun y1 r1 h1 ey1 hp ho => ?_)
  obtain ⟨cc, ecc⟩ : ∃ q : Nat, q = rf_c_outlasts (h 323) (xs (6 * i + 1)) (!decide (xs (6 * i + 2) = 0)) (!decide (xs (6 * i + 3) = 0)) := ⟨_, rfl⟩
  rw [← ecc] at ey1 ho
  have hcc : cc < 100 := by rw [ecc]; unfold rf_c_outlasts; exact lp_cbl (by decide) (by decide)
  rw [ey1]
  refine am_istore (pc := 1550) (ls' := lp_l5 i (nI cc)) C dL_law__1550 (by decide) rfl ?_
  obtain ⟨er, hk⟩ := hp
  have hR1 : am_rs r1 := by rw [er]; exact hR
  have R1 : cl_R r1 h i := by rw [er]; exact R
  have f : ∀ j, 322 ≤ j → j ≠ 335 → h1 j = h j := fun j a b => hk j ⟨Or.inr (by omega), Or.inr (by omega), by omega, Or.inr a, b⟩
  refine am_aload_n (pc := 1552) C dL_law__1552 rfl ?_
  refine lp_arg (pc := 1553) (k := 1) Cx hi (by decide) dL_law__1553 dL_law__1554 dL_law__1556 dL_law__1557 dL_law__1558 rfl rfl ?_
  refine lp_arg (pc := 1559) (k := 2) Cx hi (by decide) dL_law__1559 dL_law__1560 dL_law__1562 dL_law__1563 dL_law__1564 rfl rfl ?_
  refine lp_bool (pc := 1565) (t1 := 1572) (t2 := 1573) Cx dL_law__1565 (by decide) dL_law__1568 dL_law__1569 (by decide) dL_law__1572 rfl ?_
  refine lp_arg (pc := 1573) (k := 3) Cx hi (by decide) dL_law__1573 dL_law__1574 dL_law__1576 dL_law__1577 dL_law__1578 rfl rfl ?_
  refine lp_bool (pc := 1579) (t1 := 1586) (t2 := 1587) Cx dL_law__1579 (by decide) dL_law__1582 dL_law__1583 (by decide) dL_law__1586 rfl ?_
  refine lp_cV (Y := mX12_outlasts) (pc := 1587) (st := []) (As := [.int (xs (6 * i + 1)), .int (am_b (!decide (xs (6 * i + 2) = 0))), .int (am_b (!decide (xs (6 * i + 3) = 0)))]) C dL_law__1587 kL_205 v_X12_outlasts rfl rfl bn_322 sh_322 ⟨by decide, rfl⟩ (by decide) (lp_leC (show 400 + 5 * (i + 1) ≤ 600000 by omega)) (lp_leS (show 73000 + 30 * (i + 1) ≤ 7000000 by omega)) (Nat.le_of_ble_eq_true rfl) (c_X12_outlasts hR1 (xs (6 * i + 1)) (!decide (xs (6 * i + 2) = 0)) (!decide (xs (6 * i + 3) = 0)) (show rf_I (h1 323) by rw [f 323 (by decide) (by decide)]; exact R.1.1.1)) (fun y2 h2 ey2 e2 => ?_)
  refine am_istore (pc := 1590) (ls' := lp_l6 i (nI cc) y2) C dL_law__1590 (by decide) rfl ?_
  simp only [f 322 (by decide) (by decide), f 323 (by decide) (by decide), f 325 (by decide) (by decide), f 326 (by decide) (by decide), f 327 (by decide) (by decide), f 328 (by decide) (by decide)] at ey2 e2
  rw [← ecc] at ey2 e2
  have F : ∀ j, j ≠ 322 → j ≠ 323 → j ≠ 326 → j ≠ 327 → (j < 330 ∨ 334 < j) → h2 j = h1 j := fun j a b c d k => by rw [e2]; repeat rw [am_row_ne _ _ _ (by omega)]
  have ea : cc = 0 → h2 335 0 = y2 := fun z => by rw [F 335 (by decide) (by decide) (by decide) (by decide) (by decide), ho z, ey2, rf_ga, if_pos z]
  have e322 : h2 322 = rf_oc (h 322) cc := by rw [e2, am_row_at]
  have et : (h2 322) 0 = nI cc := by rw [e322]; exact rf_upd_eq
  have F2 : ∀ j, j ≠ 322 → j < 330 → h2 j = h1 j := fun j a b => by rw [e2]; repeat rw [am_row_ne _ _ _ (by omega)]
  have R2 : cl_R r1 h2 (i + 1) := lp_pure R1 hk (fun j a b _ => F2 j a (by omega)) e322
  refine lp_tail (pc := 1592) (c := cc) (a := 0) (u := y2) Cx hR1 hcc dL_law__1592 dL_law__1593 kL_142 dL_law__1596 dL_law__1598 dL_law__1603 dL_law__1605 dL_law__1608 dL_law__1609 dL_law__1610 dL_law__1611 dL_law__1613 dL_law__1614 dL_law__1615 dL_law__1620 (by decide) rfl rfl rfl rfl (lp_leC (show 400 + 5 * (i + 1) ≤ 600000 by omega)) (lp_leS (show 73000 + 30 * (i + 1) ≤ 7000000 by omega)) et ea ?_
  refine am_subp (ls' := lp_ls i) [0, 1, 2, 3, 4] rfl ?_
  exact K r1 h2 hR1 R2
end LC
