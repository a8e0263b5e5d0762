/-! THE LAW's cases: hours, teach, gather, read, trial, span, law -/
section LC
set_option maxHeartbeats 1000000 in
set_option maxRecDepth 100000 in
theorem lc_hours {X : am_X} {ad : Nat → Nat} {b L i : Nat} {xs : Nat → Int32} {r : am_R} {h : am_H} (Cx : lp_Cx X ad b L xs) (hi : 6 * i + 6 ≤ L) (hR : am_rs r) (R : cl_R r h i) (K : ∀ r1 h1, am_rs r1 → cl_R r1 h1 (i + 1) → am_G X (am_VV ad) (lp_cs (i + 1)) 2798 (lp_ls i) [] r1 h1) : am_G X (am_VV ad) (lp_cs i) 907 (lp_ls i) [] r h := by
  obtain ⟨C, S, hb, hL⟩ := id Cx
  have hi2 : i < 512 := by omega
  have hV := R.1.1.1
  have hLw := R.1.1.2.1
  have hLk := R.1.1.2.2.1
  have hLo := R.1.2.1
  have hSc := R.1.2.2.1
  have hA := R.1.2.2.2
  have hn7 := R.2.2.2.1
  have hPa := R.2.2.2.2.1
  have hB : rf_n ((h 323) 7) 1073000000 := rf_n_le rfl R.1.1.2.2.2.1 (by omega)
  refine am_aload_n (pc := 907) C dL_law__907 rfl ?_
  refine lp_arg (pc := 908) (k := 1) Cx hi (by decide) dL_law__908 dL_law__909 dL_law__911 dL_law__912 dL_law__913 rfl rfl ?_
  refine am_aload_n (pc := 914) C dL_law__914 rfl ?_
  refine lp_cW (Y := mL_hours) (hh := hL_hours) (n := 3) (pc := 915) (st := []) (As := [.ref 0, .int (xs (6 * i + 1)), .ref 335]) (cz := lp_cs (i + 1)) C dL_law__915 kL_174 ⟨by decide, by decide, by decide +kernel⟩ ⟨(am_mem 1303 (by decide +kernel) rfl), (am_mem 139 (by decide +kernel) rfl), by decide⟩ (am_mem 1302 (by decide +kernel) rfl) rfl rfl (by decide) (show 400 + 5 * i + 1 ≤ 400 + 5 * (i + 1) by omega) (show 73000 + 30 * i + 6 ≤ 73000 + 30 * (i + 1) by omega) (lp_leC (show 400 + 5 * (i + 1) ≤ 600000 by omega)) (lp_leS (show 73000 + 30 * (i + 1) ≤ 7000000 by omega)) (Nat.le_of_ble_eq_true rfl) (w_hours (xs (6 * i + 1)) lp_hP_act (c_X11_hours hR (xs (6 * i + 1)) (h 323) hV hLo hSc (h 322) (h 327) hn7 hPa hB hLw hLk hA)) (fun y1 r1 h1 ey1 hp ho => ?_)
  obtain ⟨cc, ecc⟩ : ∃ q : Nat, q = rf_c_hours (h 323) (xs (6 * i + 1)) := ⟨_, rfl⟩
  rw [← ecc] at ey1 ho hp
  have hcc : cc < 100 := by rw [ecc]; unfold rf_c_hours; exact lp_cbl (by decide) (by decide)
  rw [ey1]
  refine am_istore (pc := 918) (ls' := lp_l5 i (nI cc)) C dL_law__918 (by decide) rfl ?_
  have f : ∀ j, 322 ≤ j → j ≠ 335 → h1 j = h j := fun j a b => lp_hi_act hp j a b
  have hR1 : am_rs r1 := lp_rs_act hR hp
  refine am_aload_n (pc := 920) C dL_law__920 rfl ?_
  refine lp_arg (pc := 921) (k := 1) Cx hi (by decide) dL_law__921 dL_law__922 dL_law__924 dL_law__925 dL_law__926 rfl rfl ?_
  refine lp_cVj (Y := mX12_hours) (pc := 927) (st := []) (As := [.int (xs (6 * i + 1))]) C dL_law__927 kL_177 v_X12_hours rfl rfl bn_322 sh_322 ⟨by decide, rfl⟩ (by decide) (lp_leC (show 400 + 5 * (i + 1) ≤ 600000 by omega)) (lp_leS (show 73000 + 30 * (i + 1) ≤ 7000000 by omega)) (Nat.le_of_ble_eq_true rfl) (c_X12_hours hR1 (xs (6 * i + 1)) (show rf_n ((h1 322) 7) 13 by rw [f 322 (by decide) (by decide)]; exact R.2.2.2.1) (show rf_I (h1 323) by rw [f 323 (by decide) (by decide)]; exact R.1.1.1) (show rf_Lw (h1 323) by rw [f 323 (by decide) (by decide)]; exact R.1.1.2.1)) (fun y2 h2 G2 ey2 e2 => ?_)
  refine am_istore (pc := 930) (ls' := lp_l6 i (nI cc) y2) C dL_law__930 (by decide) rfl ?_
  simp only [f 322 (by decide) (by decide), f 323 (by decide) (by decide), f 325 (by decide) (by decide), f 326 (by decide) (by decide), f 327 (by decide) (by decide), f 328 (by decide) (by decide)] at ey2 e2
  rw [← ecc] at ey2 e2
  have F : ∀ j, j ≠ 322 → j ≠ 323 → j ≠ 326 → j ≠ 327 → (j < 330 ∨ 334 < j) → h2 j = h1 j := fun j a b c d k => by rw [e2]; repeat rw [am_row_ne _ _ _ (by omega)]
  have ea : cc = 0 → h2 335 0 = y2 := fun z => by rw [F 335 (by decide) (by decide) (by decide) (by decide) (by decide), ho z, ey2, rf_ga, if_pos z]
  have e322 : h2 322 = rf_gw cc (rf_remO (rf_oc (h 322) 0)) (rf_oc (h 322) cc) := by rw [e2, am_row_ne _ _ _ (by decide), am_row_ne _ _ _ (by decide), am_row_at]
  have e327 : h2 327 = rf_gw cc (rf_remA (rf_oc (h 322) 0) (h 323) (h 327)) (h 327) := by rw [e2, am_row_ne _ _ _ (by decide), am_row_at]
  have e323 := congrFun e2 323
  rw [am_row_at] at e323
  have et : (h2 322) 0 = nI cc := by rw [e322]; exact lp_t_act
  obtain ⟨-, R2⟩ := R.act hp (fun z => cl_G_hours hi2 R.1.1 (ecc ▸ z)) hR (fun j a => F j (by omega) (by omega) (by omega) (by omega) (by omega)) e322 e327 e323 ((F 324 (by decide) (by decide) (by decide) (by decide) (by decide)).trans (f 324 (by decide) (by decide))) ((F 328 (by decide) (by decide) (by decide) (by decide) (by decide)).trans (f 328 (by decide) (by decide)))
  refine lp_tail (pc := 932) (c := cc) (a := 0) (u := y2) Cx hR1 hcc dL_law__932 dL_law__933 kL_142 dL_law__936 dL_law__938 dL_law__943 dL_law__945 dL_law__948 dL_law__949 dL_law__950 dL_law__951 dL_law__953 dL_law__954 dL_law__955 dL_law__960 (by decide) rfl rfl rfl rfl (lp_leC (show 400 + 5 * (i + 1) ≤ 600000 by omega)) (lp_leS (show 73000 + 30 * (i + 1) ≤ 7000000 by omega)) et ea ?_
  refine am_subp (ls' := lp_ls i) [0, 1, 2, 3, 4] rfl ?_
  exact K r1 h2 hR1 R2

set_option maxHeartbeats 1000000 in
set_option maxRecDepth 100000 in
theorem lc_teach {X : am_X} {ad : Nat → Nat} {b L i : Nat} {xs : Nat → Int32} {r : am_R} {h : am_H} (Cx : lp_Cx X ad b L xs) (hi : 6 * i + 6 ≤ L) (hR : am_rs r) (R : cl_R r h i) (K : ∀ r1 h1, am_rs r1 → cl_R r1 h1 (i + 1) → am_G X (am_VV ad) (lp_cs (i + 1)) 2798 (lp_ls i) [] r1 h1) : am_G X (am_VV ad) (lp_cs i) 1059 (lp_ls i) [] r h := by
  obtain ⟨C, S, hb, hL⟩ := id Cx
  have hi2 : i < 512 := by omega
  have hV := R.1.1.1
  have hLo := R.1.2.1
  have hSc := R.1.2.2.1
  have hn7 := R.2.2.2.1
  have hPa := R.2.2.2.2.1
  refine am_aload_n (pc := 1059) C dL_law__1059 rfl ?_
  refine lp_arg (pc := 1060) (k := 1) Cx hi (by decide) dL_law__1060 dL_law__1061 dL_law__1063 dL_law__1064 dL_law__1065 rfl rfl ?_
  refine lp_arg (pc := 1066) (k := 2) Cx hi (by decide) dL_law__1066 dL_law__1067 dL_law__1069 dL_law__1070 dL_law__1071 rfl rfl ?_
  refine lp_arg (pc := 1072) (k := 3) Cx hi (by decide) dL_law__1072 dL_law__1073 dL_law__1075 dL_law__1076 dL_law__1077 rfl rfl ?_
  refine am_aload_n (pc := 1078) C dL_law__1078 rfl ?_
  refine lp_cW (Y := mL_teach) (hh := hL_teach) (n := 5) (pc := 1079) (st := []) (As := [.ref 0, .int (xs (6 * i + 1)), .int (xs (6 * i + 2)), .int (xs (6 * i + 3)), .ref 335]) (cz := lp_cs (i + 1)) C dL_law__1079 kL_182 ⟨by decide, by decide, by decide +kernel⟩ ⟨(am_mem 1417 (by decide +kernel) rfl), (am_mem 139 (by decide +kernel) rfl), by decide⟩ (am_mem 1416 (by decide +kernel) rfl) rfl rfl (by decide) (show 400 + 5 * i + 5 ≤ 400 + 5 * (i + 1) by omega) (show 73000 + 30 * i + 30 ≤ 73000 + 30 * (i + 1) by omega) (lp_leC (show 400 + 5 * (i + 1) ≤ 600000 by omega)) (lp_leS (show 73000 + 30 * (i + 1) ≤ 7000000 by omega)) (Nat.le_of_ble_eq_true rfl) (w_teach (xs (6 * i + 1)) (xs (6 * i + 2)) (xs (6 * i + 3)) lp_hP_act (c_X11_teach hR (xs (6 * i + 1)) (xs (6 * i + 2)) (xs (6 * i + 3)) (h 323) hV hLo hSc (h 322) (h 327) hn7 hPa)) (fun y1 r1 h1 ey1 hp ho => ?_)
  obtain ⟨cc, ecc⟩ : ∃ q : Nat, q = rf_c_teach (h 323) (xs (6 * i + 1)) (xs (6 * i + 2)) (xs (6 * i + 3)) := ⟨_, rfl⟩
  rw [← ecc] at ey1 ho hp
  have hcc : cc < 100 := by rw [ecc]; unfold rf_c_teach; exact lp_cbl (by decide) (lp_cbl (by decide) (lp_cbl (by decide) (lp_cbl (by decide) (lp_cbl (by decide) (lp_cbl (by decide) (lp_cbl (by decide) (lp_cbl (by decide) (by decide))))))))
  rw [ey1]
  refine am_istore (pc := 1082) (ls' := lp_l5 i (nI cc)) C dL_law__1082 (by decide) rfl ?_
  have f : ∀ j, 322 ≤ j → j ≠ 335 → h1 j = h j := fun j a b => lp_hi_act hp j a b
  have hR1 : am_rs r1 := lp_rs_act hR hp
  refine am_aload_n (pc := 1084) C dL_law__1084 rfl ?_
  refine lp_arg (pc := 1085) (k := 1) Cx hi (by decide) dL_law__1085 dL_law__1086 dL_law__1088 dL_law__1089 dL_law__1090 rfl rfl ?_
  refine lp_arg (pc := 1091) (k := 2) Cx hi (by decide) dL_law__1091 dL_law__1092 dL_law__1094 dL_law__1095 dL_law__1096 rfl rfl ?_
  refine lp_arg (pc := 1097) (k := 3) Cx hi (by decide) dL_law__1097 dL_law__1098 dL_law__1100 dL_law__1101 dL_law__1102 rfl rfl ?_
  refine lp_cV (Y := mX12_teach) (pc := 1103) (st := []) (As := [.int (xs (6 * i + 1)), .int (xs (6 * i + 2)), .int (xs (6 * i + 3))]) C dL_law__1103 kL_185 v_X12_teach rfl rfl bn_322 sh_322 ⟨by decide, rfl⟩ (by decide) (lp_leC (show 400 + 5 * (i + 1) ≤ 600000 by omega)) (lp_leS (show 73000 + 30 * (i + 1) ≤ 7000000 by omega)) (Nat.le_of_ble_eq_true rfl) (c_X12_teach hR1 (xs (6 * i + 1)) (xs (6 * i + 2)) (xs (6 * i + 3)) (show rf_n ((h1 322) 7) 13 by rw [f 322 (by decide) (by decide)]; exact R.2.2.2.1) (show rf_I (h1 323) by rw [f 323 (by decide) (by decide)]; exact R.1.1.1)) (fun y2 h2 ey2 e2 => ?_)
  refine am_istore (pc := 1106) (ls' := lp_l6 i (nI cc) y2) C dL_law__1106 (by decide) rfl ?_
  simp only [f 322 (by decide) (by decide), f 323 (by decide) (by decide), f 325 (by decide) (by decide), f 326 (by decide) (by decide), f 327 (by decide) (by decide), f 328 (by decide) (by decide)] at ey2 e2
  rw [← ecc] at ey2 e2
  have F : ∀ j, j ≠ 322 → j ≠ 323 → j ≠ 326 → j ≠ 327 → (j < 330 ∨ 334 < j) → h2 j = h1 j := fun j a b c d k => by rw [e2]; repeat rw [am_row_ne _ _ _ (by omega)]
  have ea : cc = 0 → h2 335 0 = y2 := fun z => by rw [F 335 (by decide) (by decide) (by decide) (by decide) (by decide), ho z, ey2, rf_ga, if_pos z]
  have e322 : h2 322 = rf_gw cc (rf_remO (rf_oc (h 322) 0)) (rf_oc (h 322) cc) := by rw [e2, am_row_ne _ _ _ (by decide), am_row_ne _ _ _ (by decide), am_row_at]
  have e327 : h2 327 = rf_gw cc (rf_remA (rf_oc (h 322) 0) (h 323) (h 327)) (h 327) := by rw [e2, am_row_ne _ _ _ (by decide), am_row_at]
  have e323 := congrFun e2 323
  rw [am_row_at] at e323
  have et : (h2 322) 0 = nI cc := by rw [e322]; exact lp_t_act
  obtain ⟨-, R2⟩ := R.act hp (fun z => cl_G_teach R.1.1 (ecc ▸ z)) hR (fun j a => F j (by omega) (by omega) (by omega) (by omega) (by omega)) e322 e327 e323 ((F 324 (by decide) (by decide) (by decide) (by decide) (by decide)).trans (f 324 (by decide) (by decide))) ((F 328 (by decide) (by decide) (by decide) (by decide) (by decide)).trans (f 328 (by decide) (by decide)))
  refine lp_tail (pc := 1108) (c := cc) (a := 0) (u := y2) Cx hR1 hcc dL_law__1108 dL_law__1109 kL_142 dL_law__1112 dL_law__1114 dL_law__1119 dL_law__1121 dL_law__1124 dL_law__1125 dL_law__1126 dL_law__1127 dL_law__1129 dL_law__1130 dL_law__1131 dL_law__1136 (by decide) rfl rfl rfl rfl (lp_leC (show 400 + 5 * (i + 1) ≤ 600000 by omega)) (lp_leS (show 73000 + 30 * (i + 1) ≤ 7000000 by omega)) et ea ?_
  refine am_subp (ls' := lp_ls i) [0, 1, 2, 3, 4] rfl ?_
  exact K r1 h2 hR1 R2

set_option maxHeartbeats 1000000 in
set_option maxRecDepth 100000 in
theorem lc_gather {X : am_X} {ad : Nat → Nat} {b L i : Nat} {xs : Nat → Int32} {r : am_R} {h : am_H} (Cx : lp_Cx X ad b L xs) (hi : 6 * i + 6 ≤ L) (hR : am_rs r) (R : cl_R r h i) (K : ∀ r1 h1, am_rs r1 → cl_R r1 h1 (i + 1) → am_G X (am_VV ad) (lp_cs (i + 1)) 2798 (lp_ls i) [] r1 h1) : am_G X (am_VV ad) (lp_cs i) 1139 (lp_ls i) [] r h := by
  obtain ⟨C, S, hb, hL⟩ := id Cx
  have hi2 : i < 512 := by omega
  have hV := R.1.1.1
  have hLo := R.1.2.1
  have hSc := R.1.2.2.1
  have hn7 := R.2.2.2.1
  have hPa := R.2.2.2.2.1
  refine am_aload_n (pc := 1139) C dL_law__1139 rfl ?_
  refine lp_arg (pc := 1140) (k := 1) Cx hi (by decide) dL_law__1140 dL_law__1141 dL_law__1143 dL_law__1144 dL_law__1145 rfl rfl ?_
  refine lp_arg (pc := 1146) (k := 2) Cx hi (by decide) dL_law__1146 dL_law__1147 dL_law__1149 dL_law__1150 dL_law__1151 rfl rfl ?_
  refine am_aload_n (pc := 1152) C dL_law__1152 rfl ?_
  refine lp_cW (Y := mL_gather) (hh := hL_gather) (n := 4) (pc := 1153) (st := []) (As := [.ref 0, .int (xs (6 * i + 1)), .int (xs (6 * i + 2)), .ref 335]) (cz := lp_cs (i + 1)) C dL_law__1153 kL_186 ⟨by decide, by decide, by decide +kernel⟩ ⟨(am_mem 1428 (by decide +kernel) rfl), (am_mem 139 (by decide +kernel) rfl), by decide⟩ (am_mem 1427 (by decide +kernel) rfl) rfl rfl (by decide) (show 400 + 5 * i + 3 ≤ 400 + 5 * (i + 1) by omega) (show 73000 + 30 * i + 18 ≤ 73000 + 30 * (i + 1) by omega) (lp_leC (show 400 + 5 * (i + 1) ≤ 600000 by omega)) (lp_leS (show 73000 + 30 * (i + 1) ≤ 7000000 by omega)) (Nat.le_of_ble_eq_true rfl) (w_gather (xs (6 * i + 1)) (xs (6 * i + 2)) lp_hP_act (c_X11_gather hR (xs (6 * i + 1)) (xs (6 * i + 2)) (h 323) hV hLo hSc (h 322) (h 327) hn7 hPa)) (fun y1 r1 h1 ey1 hp ho => ?_)
  obtain ⟨cc, ecc⟩ : ∃ q : Nat, q = rf_c_gather (h 323) (xs (6 * i + 1)) (xs (6 * i + 2)) := ⟨_, rfl⟩
  rw [← ecc] at ey1 ho hp
  have hcc : cc < 100 := by rw [ecc]; unfold rf_c_gather; exact lp_cbl (by decide) (lp_cbl (by decide) (lp_cbl (by decide) (lp_cbl (by decide) (by decide))))
  rw [ey1]
  refine am_istore (pc := 1156) (ls' := lp_l5 i (nI cc)) C dL_law__1156 (by decide) rfl ?_
  have f : ∀ j, 322 ≤ j → j ≠ 335 → h1 j = h j := fun j a b => lp_hi_act hp j a b
  have hR1 : am_rs r1 := lp_rs_act hR hp
  refine am_aload_n (pc := 1158) C dL_law__1158 rfl ?_
  refine lp_arg (pc := 1159) (k := 1) Cx hi (by decide) dL_law__1159 dL_law__1160 dL_law__1162 dL_law__1163 dL_law__1164 rfl rfl ?_
  refine lp_arg (pc := 1165) (k := 2) Cx hi (by decide) dL_law__1165 dL_law__1166 dL_law__1168 dL_law__1169 dL_law__1170 rfl rfl ?_
  refine lp_cV (Y := mX12_gather) (pc := 1171) (st := []) (As := [.int (xs (6 * i + 1)), .int (xs (6 * i + 2))]) C dL_law__1171 kL_188 v_X12_gather rfl rfl bn_322 sh_322 ⟨by decide, rfl⟩ (by decide) (lp_leC (show 400 + 5 * (i + 1) ≤ 600000 by omega)) (lp_leS (show 73000 + 30 * (i + 1) ≤ 7000000 by omega)) (Nat.le_of_ble_eq_true rfl) (c_X12_gather hR1 (xs (6 * i + 1)) (xs (6 * i + 2)) (show rf_n ((h1 322) 7) 13 by rw [f 322 (by decide) (by decide)]; exact R.2.2.2.1) (show rf_I (h1 323) by rw [f 323 (by decide) (by decide)]; exact R.1.1.1)) (fun y2 h2 ey2 e2 => ?_)
  refine am_istore (pc := 1174) (ls' := lp_l6 i (nI cc) y2) C dL_law__1174 (by decide) rfl ?_
  simp only [f 322 (by decide) (by decide), f 323 (by decide) (by decide), f 325 (by decide) (by decide), f 326 (by decide) (by decide), f 327 (by decide) (by decide), f 328 (by decide) (by decide)] at ey2 e2
  rw [← ecc] at ey2 e2
  have F : ∀ j, j ≠ 322 → j ≠ 323 → j ≠ 326 → j ≠ 327 → (j < 330 ∨ 334 < j) → h2 j = h1 j := fun j a b c d k => by rw [e2]; repeat rw [am_row_ne _ _ _ (by omega)]
  have ea : cc = 0 → h2 335 0 = y2 := fun z => by rw [F 335 (by decide) (by decide) (by decide) (by decide) (by decide), ho z, ey2, rf_ga, if_pos z]
  have e322 : h2 322 = rf_gw cc (rf_remO (rf_oc (h 322) 0)) (rf_oc (h 322) cc) := by rw [e2, am_row_ne _ _ _ (by decide), am_row_ne _ _ _ (by decide), am_row_at]
  have e327 : h2 327 = rf_gw cc (rf_remA (rf_oc (h 322) 0) (h 323) (h 327)) (h 327) := by rw [e2, am_row_ne _ _ _ (by decide), am_row_at]
  have e323 := congrFun e2 323
  rw [am_row_at] at e323
  have et : (h2 322) 0 = nI cc := by rw [e322]; exact lp_t_act
  obtain ⟨-, R2⟩ := R.act hp (fun z => cl_G_gather R.1.1 (ecc ▸ z)) hR (fun j a => F j (by omega) (by omega) (by omega) (by omega) (by omega)) e322 e327 e323 ((F 324 (by decide) (by decide) (by decide) (by decide) (by decide)).trans (f 324 (by decide) (by decide))) ((F 328 (by decide) (by decide) (by decide) (by decide) (by decide)).trans (f 328 (by decide) (by decide)))
  refine lp_tail (pc := 1176) (c := cc) (a := 0) (u := y2) Cx hR1 hcc dL_law__1176 dL_law__1177 kL_142 dL_law__1180 dL_law__1182 dL_law__1187 dL_law__1189 dL_law__1192 dL_law__1193 dL_law__1194 dL_law__1195 dL_law__1197 dL_law__1198 dL_law__1199 dL_law__1204 (by decide) rfl rfl rfl rfl (lp_leC (show 400 + 5 * (i + 1) ≤ 600000 by omega)) (lp_leS (show 73000 + 30 * (i + 1) ≤ 7000000 by omega)) et ea ?_
  refine am_subp (ls' := lp_ls i) [0, 1, 2, 3, 4] rfl ?_
  exact K r1 h2 hR1 R2

set_option maxHeartbeats 1000000 in
set_option maxRecDepth 100000 in
theorem lc_read {X : am_X} {ad : Nat → Nat} {b L i : Nat} {xs : Nat → Int32} {r : am_R} {h : am_H} (Cx : lp_Cx X ad b L xs) (hi : 6 * i + 6 ≤ L) (hR : am_rs r) (R : cl_R r h i) (K : ∀ r1 h1, am_rs r1 → cl_R r1 h1 (i + 1) → am_G X (am_VV ad) (lp_cs (i + 1)) 2798 (lp_ls i) [] r1 h1) : am_G X (am_VV ad) (lp_cs i) 1207 (lp_ls i) [] r h := by
  obtain ⟨C, S, hb, hL⟩ := id Cx
  have hi2 : i < 512 := by omega
  have hV := R.1.1.1
  have hLo := R.1.2.1
  have hSc := R.1.2.2.1
  have hn7 := R.2.2.2.1
  have hPa := R.2.2.2.2.1
  refine am_aload_n (pc := 1207) C dL_law__1207 rfl ?_
  refine lp_arg (pc := 1208) (k := 1) Cx hi (by decide) dL_law__1208 dL_law__1209 dL_law__1211 dL_law__1212 dL_law__1213 rfl rfl ?_
  refine am_aload_n (pc := 1214) C dL_law__1214 rfl ?_
  refine lp_cW (Y := mL_read) (hh := hL_read) (n := 3) (pc := 1215) (st := []) (As := [.ref 0, .int (xs (6 * i + 1)), .ref 335]) (cz := lp_cs (i + 1)) C dL_law__1215 kL_189 ⟨by decide, by decide, by decide +kernel⟩ ⟨(am_mem 1442 (by decide +kernel) rfl), (am_mem 139 (by decide +kernel) rfl), by decide⟩ (am_mem 1441 (by decide +kernel) rfl) rfl rfl (by decide) (show 400 + 5 * i + 2 ≤ 400 + 5 * (i + 1) by omega) (show 73000 + 30 * i + 12 ≤ 73000 + 30 * (i + 1) by omega) (lp_leC (show 400 + 5 * (i + 1) ≤ 600000 by omega)) (lp_leS (show 73000 + 30 * (i + 1) ≤ 7000000 by omega)) (Nat.le_of_ble_eq_true rfl) (w_read (xs (6 * i + 1)) lp_hP_act (c_X11_read hR (xs (6 * i + 1)) (h 323) hV hLo hSc (h 322) (h 327) hn7 hPa)) (fun y1 r1 h1 ey1 hp ho => ?_)
  obtain ⟨cc, ecc⟩ : ∃ q : Nat, q = rf_c_read (h 323) (xs (6 * i + 1)) := ⟨_, rfl⟩
  rw [← ecc] at ey1 ho hp
  have hcc : cc < 100 := by rw [ecc]; unfold rf_c_read; exact lp_cbl (by decide) (lp_cbl (by decide) (by decide))
  rw [ey1]
  refine am_istore (pc := 1218) (ls' := lp_l5 i (nI cc)) C dL_law__1218 (by decide) rfl ?_
  have f : ∀ j, 322 ≤ j → j ≠ 335 → h1 j = h j := fun j a b => lp_hi_act hp j a b
  have hR1 : am_rs r1 := lp_rs_act hR hp
  refine am_aload_n (pc := 1220) C dL_law__1220 rfl ?_
  refine lp_arg (pc := 1221) (k := 1) Cx hi (by decide) dL_law__1221 dL_law__1222 dL_law__1224 dL_law__1225 dL_law__1226 rfl rfl ?_
  refine lp_cV (Y := mX12_read) (pc := 1227) (st := []) (As := [.int (xs (6 * i + 1))]) C dL_law__1227 kL_191 v_X12_read rfl rfl bn_322 sh_322 ⟨by decide, rfl⟩ (by decide) (lp_leC (show 400 + 5 * (i + 1) ≤ 600000 by omega)) (lp_leS (show 73000 + 30 * (i + 1) ≤ 7000000 by omega)) (Nat.le_of_ble_eq_true rfl) (c_X12_read hR1 (xs (6 * i + 1)) (show rf_n ((h1 322) 7) 13 by rw [f 322 (by decide) (by decide)]; exact R.2.2.2.1) (show rf_I (h1 323) by rw [f 323 (by decide) (by decide)]; exact R.1.1.1)) (fun y2 h2 ey2 e2 => ?_)
  refine am_istore (pc := 1230) (ls' := lp_l6 i (nI cc) y2) C dL_law__1230 (by decide) rfl ?_
  simp only [f 322 (by decide) (by decide), f 323 (by decide) (by decide), f 325 (by decide) (by decide), f 326 (by decide) (by decide), f 327 (by decide) (by decide), f 328 (by decide) (by decide)] at ey2 e2
  rw [← ecc] at ey2 e2
  have F : ∀ j, j ≠ 322 → j ≠ 323 → j ≠ 326 → j ≠ 327 → (j < 330 ∨ 334 < j) → h2 j = h1 j := fun j a b c d k => by rw [e2]; repeat rw [am_row_ne _ _ _ (by omega)]
  have ea : cc = 0 → h2 335 0 = y2 := fun z => by rw [F 335 (by decide) (by decide) (by decide) (by decide) (by decide), ho z, ey2, rf_ga, if_pos z]
  have e322 : h2 322 = rf_gw cc (rf_remO (rf_oc (h 322) 0)) (rf_oc (h 322) cc) := by rw [e2, am_row_ne _ _ _ (by decide), am_row_ne _ _ _ (by decide), am_row_at]
  have e327 : h2 327 = rf_gw cc (rf_remA (rf_oc (h 322) 0) (h 323) (h 327)) (h 327) := by rw [e2, am_row_ne _ _ _ (by decide), am_row_at]
  have e323 := congrFun e2 323
  rw [am_row_at] at e323
  have et : (h2 322) 0 = nI cc := by rw [e322]; exact lp_t_act
  obtain ⟨-, R2⟩ := R.act hp (fun z => cl_G_read R.1.1 (ecc ▸ z)) hR (fun j a => F j (by omega) (by omega) (by omega) (by omega) (by omega)) e322 e327 e323 ((F 324 (by decide) (by decide) (by decide) (by decide) (by decide)).trans (f 324 (by decide) (by decide))) ((F 328 (by decide) (by decide) (by decide) (by decide) (by decide)).trans (f 328 (by decide) (by decide)))
  refine lp_tail (pc := 1232) (c := cc) (a := 0) (u := y2) Cx hR1 hcc dL_law__1232 dL_law__1233 kL_142 dL_law__1236 dL_law__1238 dL_law__1243 dL_law__1245 dL_law__1248 dL_law__1249 dL_law__1250 dL_law__1251 dL_law__1253 dL_law__1254 dL_law__1255 dL_law__1260 (by decide) rfl rfl rfl rfl (lp_leC (show 400 + 5 * (i + 1) ≤ 600000 by omega)) (lp_leS (show 73000 + 30 * (i + 1) ≤ 7000000 by omega)) et ea ?_
  refine am_subp (ls' := lp_ls i) [0, 1, 2, 3, 4] rfl ?_
  exact K r1 h2 hR1 R2

set_option maxHeartbeats 1000000 in
set_option maxRecDepth 100000 in
theorem lc_trial {X : am_X} {ad : Nat → Nat} {b L i : Nat} {xs : Nat → Int32} {r : am_R} {h : am_H} (Cx : lp_Cx X ad b L xs) (hi : 6 * i + 6 ≤ L) (hR : am_rs r) (R : cl_R r h i) (K : ∀ r1 h1, am_rs r1 → cl_R r1 h1 (i + 1) → am_G X (am_VV ad) (lp_cs (i + 1)) 2798 (lp_ls i) [] r1 h1) : am_G X (am_VV ad) (lp_cs i) 2330 (lp_ls i) [] r h := by
  obtain ⟨C, S, hb, hL⟩ := id Cx
  have hi2 : i < 512 := by omega
  have hV := R.1.1.1
  have hLw := R.1.1.2.1
  have hLk := R.1.1.2.2.1
  have hLo := R.1.2.1
  have hSc := R.1.2.2.1
  have hA := R.1.2.2.2
  have hB : rf_n ((h 323) 7) 1073000000 := rf_n_le rfl R.1.1.2.2.2.1 (by omega)
  refine am_aload_n (pc := 2330) C dL_law__2330 rfl ?_
  refine lp_arg (pc := 2331) (k := 1) Cx hi (by decide) dL_law__2331 dL_law__2332 dL_law__2334 dL_law__2335 dL_law__2336 rfl rfl ?_
  refine lp_arg (pc := 2337) (k := 2) Cx hi (by decide) dL_law__2337 dL_law__2338 dL_law__2340 dL_law__2341 dL_law__2342 rfl rfl ?_
  refine am_aload_n (pc := 2343) C dL_law__2343 rfl ?_
  refine lp_cW (Y := mL_trial) (hh := hL_trial) (n := 4) (pc := 2344) (st := []) (As := [.ref 0, .int (xs (6 * i + 1)), .int (xs (6 * i + 2)), .ref 335]) (cz := lp_cs (i + 1)) C dL_law__2344 kL_246 ⟨by decide, by decide, by decide +kernel⟩ ⟨(am_mem 1695 (by decide +kernel) rfl), (am_mem 139 (by decide +kernel) rfl), by decide⟩ (am_mem 1694 (by decide +kernel) rfl) rfl rfl (by decide) (show 400 + 5 * i + 2 ≤ 400 + 5 * (i + 1) by omega) (show 73000 + 30 * i + 12 ≤ 73000 + 30 * (i + 1) by omega) (lp_leC (show 400 + 5 * (i + 1) ≤ 600000 by omega)) (lp_leS (show 73000 + 30 * (i + 1) ≤ 7000000 by omega)) (Nat.le_of_ble_eq_true rfl) (w_trial (xs (6 * i + 1)) (xs (6 * i + 2)) lp_hP_k (c_X11_trial hR (xs (6 * i + 1)) (xs (6 * i + 2)) (h 323) hV hLo hSc hB hLw hLk hA)) (fun y1 r1 h1 ey1 hp ho => ?_)
  obtain ⟨cc, ecc⟩ : ∃ q : Nat, q = rf_c_trial (h 323) (xs (6 * i + 1)) (xs (6 * i + 2)) := ⟨_, rfl⟩
  rw [← ecc] at ey1 ho
  have hcc : cc < 100 := by rw [ecc]; unfold rf_c_trial; exact lp_cbl (by decide) (lp_cbl (by decide) (by decide))
  rw [ey1]
  refine am_istore (pc := 2347) (ls' := lp_l5 i (nI cc)) C dL_law__2347 (by decide) rfl ?_
  obtain ⟨er, hk⟩ := hp
  have hR1 : am_rs r1 := by rw [er]; exact hR
  have R1 : cl_R r1 h i := by rw [er]; exact R
  have f : ∀ j, 322 ≤ j → j ≠ 335 → h1 j = h j := fun j a b => hk j ⟨Or.inr (by omega), Or.inr (by omega), by omega, Or.inr a, b⟩
  refine am_aload_n (pc := 2349) C dL_law__2349 rfl ?_
  refine lp_arg (pc := 2350) (k := 1) Cx hi (by decide) dL_law__2350 dL_law__2351 dL_law__2353 dL_law__2354 dL_law__2355 rfl rfl ?_
  refine lp_arg (pc := 2356) (k := 2) Cx hi (by decide) dL_law__2356 dL_law__2357 dL_law__2359 dL_law__2360 dL_law__2361 rfl rfl ?_
  refine lp_cVj (Y := mX12_trial) (pc := 2362) (st := []) (As := [.int (xs (6 * i + 1)), .int (xs (6 * i + 2))]) C dL_law__2362 kL_248 v_X12_trial rfl rfl bn_322 sh_322 ⟨by decide, rfl⟩ (by decide) (lp_leC (show 400 + 5 * (i + 1) ≤ 600000 by omega)) (lp_leS (show 73000 + 30 * (i + 1) ≤ 7000000 by omega)) (Nat.le_of_ble_eq_true rfl) (c_X12_trial hR1 (xs (6 * i + 1)) (xs (6 * i + 2)) (show rf_I (h1 323) by rw [f 323 (by decide) (by decide)]; exact R.1.1.1) (show rf_Lw (h1 323) by rw [f 323 (by decide) (by decide)]; exact R.1.1.2.1)) (fun y2 h2 G2 ey2 e2 => ?_)
  refine am_istore (pc := 2365) (ls' := lp_l6 i (nI cc) y2) C dL_law__2365 (by decide) rfl ?_
  simp only [f 322 (by decide) (by decide), f 323 (by decide) (by decide), f 325 (by decide) (by decide), f 326 (by decide) (by decide), f 327 (by decide) (by decide), f 328 (by decide) (by decide)] at ey2 e2
  rw [← ecc] at ey2 e2
  have F : ∀ j, j ≠ 322 → j ≠ 323 → j ≠ 326 → j ≠ 327 → (j < 330 ∨ 334 < j) → h2 j = h1 j := fun j a b c d k => by rw [e2]; repeat rw [am_row_ne _ _ _ (by omega)]
  have ea : cc = 0 → h2 335 0 = y2 := fun z => by rw [F 335 (by decide) (by decide) (by decide) (by decide) (by decide), ho z, ey2, rf_ga, if_pos z]
  have e322 : h2 322 = rf_oc (h 322) cc := by rw [e2, am_row_ne _ _ _ (by decide), am_row_ne _ _ _ (by decide), am_row_at]
  have e323 : h2 323 = h1 323 := by rw [e2, am_row_at, f 323 (by decide) (by decide)]; exact lp_gw_same
  have et : (h2 322) 0 = nI cc := by rw [e322]; exact rf_upd_eq
  have F2 : ∀ j, j ≠ 322 → j < 329 → j ≠ 326 → h2 j = h1 j := by
    intro j a b d
    by_cases z : j = 323
    · rw [z]; exact e323
    · rw [e2]; repeat rw [am_row_ne _ _ _ (by omega)]
  have R2 : cl_R r1 h2 (i + 1) := lp_pure R1 hk F2 e322
  refine lp_tail (pc := 2367) (c := cc) (a := 0) (u := y2) Cx hR1 hcc dL_law__2367 dL_law__2368 kL_142 dL_law__2371 dL_law__2373 dL_law__2378 dL_law__2380 dL_law__2383 dL_law__2384 dL_law__2385 dL_law__2386 dL_law__2388 dL_law__2389 dL_law__2390 dL_law__2395 (by decide) rfl rfl rfl rfl (lp_leC (show 400 + 5 * (i + 1) ≤ 600000 by omega)) (lp_leS (show 73000 + 30 * (i + 1) ≤ 7000000 by omega)) et ea ?_
  refine am_subp (ls' := lp_ls i) [0, 1, 2, 3, 4] rfl ?_
  exact K r1 h2 hR1 R2

set_option maxHeartbeats 1000000 in
set_option maxRecDepth 100000 in
theorem lc_span {X : am_X} {ad : Nat → Nat} {b L i : Nat} {xs : Nat → Int32} {r : am_R} {h : am_H} (Cx : lp_Cx X ad b L xs) (hi : 6 * i + 6 ≤ L) (hR : am_rs r) (R : cl_R r h i) (K : ∀ r1 h1, am_rs r1 → cl_R r1 h1 (i + 1) → am_G X (am_VV ad) (lp_cs (i + 1)) 2798 (lp_ls i) [] r1 h1) : am_G X (am_VV ad) (lp_cs i) 2398 (lp_ls i) [] r h := by
  obtain ⟨C, S, hb, hL⟩ := id Cx
  have hi2 : i < 512 := by omega
  have hV := R.1.1.1
  have hLw := R.1.1.2.1
  have hLk := R.1.1.2.2.1
  have hLo := R.1.2.1
  have hSc := R.1.2.2.1
  have hA := R.1.2.2.2
  have hB : rf_n ((h 323) 7) 1073000000 := rf_n_le rfl R.1.1.2.2.2.1 (by omega)
  refine am_aload_n (pc := 2398) C dL_law__2398 rfl ?_
  refine lp_arg (pc := 2399) (k := 1) Cx hi (by decide) dL_law__2399 dL_law__2400 dL_law__2402 dL_law__2403 dL_law__2404 rfl rfl ?_
  refine lp_arg (pc := 2405) (k := 2) Cx hi (by decide) dL_law__2405 dL_law__2406 dL_law__2408 dL_law__2409 dL_law__2410 rfl rfl ?_
  refine lp_arg (pc := 2411) (k := 3) Cx hi (by decide) dL_law__2411 dL_law__2412 dL_law__2414 dL_law__2415 dL_law__2416 rfl rfl ?_
  refine lp_bool (pc := 2417) (t1 := 2424) (t2 := 2425) Cx dL_law__2417 (by decide) dL_law__2420 dL_law__2421 (by decide) dL_law__2424 rfl ?_
  refine am_aload_n (pc := 2425) C dL_law__2425 rfl ?_
  refine lp_cW (Y := mL_span) (hh := hL_span) (n := 5) (pc := 2426) (st := []) (As := [.ref 0, .int (xs (6 * i + 1)), .int (xs (6 * i + 2)), .int (am_b (!decide (xs (6 * i + 3) = 0))), .ref 335]) (cz := lp_cs (i + 1)) C dL_law__2426 kL_249 ⟨by decide, by decide, by decide +kernel⟩ ⟨(am_mem 1704 (by decide +kernel) rfl), (am_mem 139 (by decide +kernel) rfl), by decide⟩ (am_mem 1703 (by decide +kernel) rfl) rfl rfl (by decide) (show 400 + 5 * i + 2 ≤ 400 + 5 * (i + 1) by omega) (show 73000 + 30 * i + 12 ≤ 73000 + 30 * (i + 1) by omega) (lp_leC (show 400 + 5 * (i + 1) ≤ 600000 by omega)) (lp_leS (show 73000 + 30 * (i + 1) ≤ 7000000 by omega)) (Nat.le_of_ble_eq_true rfl) (w_span (xs (6 * i + 1)) (xs (6 * i + 2)) (am_b (!decide (xs (6 * i + 3) = 0))) lp_hP_k (c_X11_span hR (xs (6 * i + 1)) (xs (6 * i + 2)) (!decide (xs (6 * i + 3) = 0)) (h 323) hV hLo hSc hB hLw hLk hA)) (fun y1 r1 h1 ey1 hp ho => ?_)
  obtain ⟨cc, ecc⟩ : ∃ q : Nat, q = rf_c_span (h 323) (xs (6 * i + 1)) (xs (6 * i + 2)) (!decide (xs (6 * i + 3) = 0)) := ⟨_, rfl⟩
  rw [← ecc] at ey1 ho
  have hcc : cc < 100 := by rw [ecc]; unfold rf_c_span; exact lp_cbl (by decide) (lp_cbl (by decide) (by decide))
  rw [ey1]
  refine am_istore (pc := 2429) (ls' := lp_l5 i (nI cc)) C dL_law__2429 (by decide) rfl ?_
  obtain ⟨er, hk⟩ := hp
  have hR1 : am_rs r1 := by rw [er]; exact hR
  have R1 : cl_R r1 h i := by rw [er]; exact R
  have f : ∀ j, 322 ≤ j → j ≠ 335 → h1 j = h j := fun j a b => hk j ⟨Or.inr (by omega), Or.inr (by omega), by omega, Or.inr a, b⟩
  refine am_aload_n (pc := 2431) C dL_law__2431 rfl ?_
  refine lp_arg (pc := 2432) (k := 1) Cx hi (by decide) dL_law__2432 dL_law__2433 dL_law__2435 dL_law__2436 dL_law__2437 rfl rfl ?_
  refine lp_arg (pc := 2438) (k := 2) Cx hi (by decide) dL_law__2438 dL_law__2439 dL_law__2441 dL_law__2442 dL_law__2443 rfl rfl ?_
  refine lp_arg (pc := 2444) (k := 3) Cx hi (by decide) dL_law__2444 dL_law__2445 dL_law__2447 dL_law__2448 dL_law__2449 rfl rfl ?_
  refine lp_bool (pc := 2450) (t1 := 2457) (t2 := 2458) Cx dL_law__2450 (by decide) dL_law__2453 dL_law__2454 (by decide) dL_law__2457 rfl ?_
  refine lp_cVj (Y := mX12_span) (pc := 2458) (st := []) (As := [.int (xs (6 * i + 1)), .int (xs (6 * i + 2)), .int (am_b (!decide (xs (6 * i + 3) = 0)))]) C dL_law__2458 kL_251 v_X12_span rfl rfl bn_322 sh_322 ⟨by decide, rfl⟩ (by decide) (lp_leC (show 400 + 5 * (i + 1) ≤ 600000 by omega)) (lp_leS (show 73000 + 30 * (i + 1) ≤ 7000000 by omega)) (Nat.le_of_ble_eq_true rfl) (c_X12_span hR1 (xs (6 * i + 1)) (xs (6 * i + 2)) (!decide (xs (6 * i + 3) = 0)) (show rf_I (h1 323) by rw [f 323 (by decide) (by decide)]; exact R.1.1.1) (show rf_Lw (h1 323) by rw [f 323 (by decide) (by decide)]; exact R.1.1.2.1)) (fun y2 h2 G2 ey2 e2 => ?_)
  refine am_istore (pc := 2461) (ls' := lp_l6 i (nI cc) y2) C dL_law__2461 (by decide) rfl ?_
  simp only [f 322 (by decide) (by decide), f 323 (by decide) (by decide), f 325 (by decide) (by decide), f 326 (by decide) (by decide), f 327 (by decide) (by decide), f 328 (by decide) (by decide)] at ey2 e2
  rw [← ecc] at ey2 e2
  have F : ∀ j, j ≠ 322 → j ≠ 323 → j ≠ 326 → j ≠ 327 → (j < 330 ∨ 334 < j) → h2 j = h1 j := fun j a b c d k => by rw [e2]; repeat rw [am_row_ne _ _ _ (by omega)]
  have ea : cc = 0 → h2 335 0 = y2 := fun z => by rw [F 335 (by decide) (by decide) (by decide) (by decide) (by decide), ho z, ey2, rf_ga, if_pos z]
  have e322 : h2 322 = rf_oc (h 322) cc := by rw [e2, am_row_ne _ _ _ (by decide), am_row_ne _ _ _ (by decide), am_row_at]
  have e323 : h2 323 = h1 323 := by rw [e2, am_row_at, f 323 (by decide) (by decide)]; exact lp_gw_same
  have et : (h2 322) 0 = nI cc := by rw [e322]; exact rf_upd_eq
  have F2 : ∀ j, j ≠ 322 → j < 329 → j ≠ 326 → h2 j = h1 j := by
    intro j a b d
    by_cases z : j = 323
    · rw [z]; exact e323
    · rw [e2]; repeat rw [am_row_ne _ _ _ (by omega)]
  have R2 : cl_R r1 h2 (i + 1) := lp_pure R1 hk F2 e322
  refine lp_tail (pc := 2463) (c := cc) (a := 0) (u := y2) Cx hR1 hcc dL_law__2463 dL_law__2464 kL_142 dL_law__2467 dL_law__2469 dL_law__2474 dL_law__2476 dL_law__2479 dL_law__2480 dL_law__2481 dL_law__2482 dL_law__2484 dL_law__2485 dL_law__2486 dL_law__2491 (by decide) rfl rfl rfl rfl (lp_leC (show 400 + 5 * (i + 1) ≤ 600000 by omega)) (lp_leS (show 73000 + 30 * (i + 1) ≤ 7000000 by omega)) et ea ?_
  refine am_subp (ls' := lp_ls i) [0, 1, 2, 3, 4] rfl ?_
  exact K r1 h2 hR1 R2

set_option maxHeartbeats 1000000 in
set_option maxRecDepth 100000 in
theorem lc_law {X : am_X} {ad : Nat → Nat} {b L i : Nat} {xs : Nat → Int32} {r : am_R} {h : am_H} (Cx : lp_Cx X ad b L xs) (hi : 6 * i + 6 ≤ L) (hR : am_rs r) (R : cl_R r h i) (K : ∀ r1 h1, am_rs r1 → cl_R r1 h1 (i + 1) → am_G X (am_VV ad) (lp_cs (i + 1)) 2798 (lp_ls i) [] r1 h1) : am_G X (am_VV ad) (lp_cs i) 374 (lp_ls i) [] r h := by
  obtain ⟨C, S, hb, hL⟩ := id Cx
  have hi2 : i < 512 := by omega
  have hV := R.1.1.1
  have hLo := R.1.2.1
  have hSc := R.1.2.2.1
  have hOb := R.2.1.1
  have hz := R.2.1.2.1
  have hby := R.2.1.2.2
  refine am_aload_n (pc := 374) C dL_law__374 rfl ?_
  refine am_aload_n (pc := 375) C dL_law__375 rfl ?_
  refine lp_cW (Y := mL_law) (hh := hL_law) (n := 2) (pc := 376) (st := []) (As := [.ref 0, .ref 335]) (cz := lp_cs (i + 1)) C dL_law__376 kL_145 ⟨by decide, by decide, by decide +kernel⟩ ⟨(am_mem 1046 (by decide +kernel) rfl), (am_mem 139 (by decide +kernel) rfl), by decide⟩ (am_mem 1045 (by decide +kernel) rfl) rfl rfl (by decide) (show 400 + 5 * i + 1 ≤ 400 + 5 * (i + 1) by omega) (show 73000 + 30 * i + 6 ≤ 73000 + 30 * (i + 1) by omega) (lp_leC (show 400 + 5 * (i + 1) ≤ 600000 by omega)) (lp_leS (show 73000 + 30 * (i + 1) ≤ 7000000 by omega)) (Nat.le_of_ble_eq_true rfl) (w_law  lp_hP_law (lp_x_law (c_X11_law hR (h 323) hV hLo hSc (h 328) (h 322) hOb hz hby))) (fun y1 r1 h1 ey1 hp ho => ?_)
  obtain ⟨cc, ecc⟩ : ∃ q : Nat, q = rf_cL (h 328) (h 322) (h 323) := ⟨_, rfl⟩
  rw [← ecc] at ey1 ho
  have hcc : cc < 100 := by rw [ecc]; exact lp_cb_law
  rw [ey1]
  refine am_istore (pc := 379) (ls' := lp_l5 i (nI cc)) C dL_law__379 (by decide) rfl ?_
  obtain ⟨er, hk⟩ := hp
  have hR1 : am_rs r1 := by rw [er]; exact hR
  have R1 : cl_R r1 h i := by rw [er]; exact R
  have f : ∀ j, 322 ≤ j → j ≠ 335 → h1 j = h j := fun j a b => (am_row_ne h1 335 (h 335) b).symm.trans (lp_hi_law hk j a)
  refine am_aload_n (pc := 381) C dL_law__381 rfl ?_
  refine lp_cV (Y := mX12_law) (pc := 382) (st := []) (As := []) C dL_law__382 kL_147 v_X12_law rfl rfl bn_322 sh_322 ⟨by decide, rfl⟩ (by decide) (lp_leC (show 400 + 5 * (i + 1) ≤ 600000 by omega)) (lp_leS (show 73000 + 30 * (i + 1) ≤ 7000000 by omega)) (Nat.le_of_ble_eq_true rfl) (c_X12_law hR1 (show rf_Ob (h1 322) by rw [f 322 (by decide) (by decide)]; exact R.2.1.1)) (fun y2 h2 ey2 e2 => ?_)
  refine am_istore (pc := 385) (ls' := lp_l6 i (nI cc) y2) C dL_law__385 (by decide) rfl ?_
  simp only [f 322 (by decide) (by decide), f 323 (by decide) (by decide), f 325 (by decide) (by decide), f 326 (by decide) (by decide), f 327 (by decide) (by decide), f 328 (by decide) (by decide)] at ey2 e2
  have F : ∀ j, j ≠ 322 → j ≠ 323 → j ≠ 325 → h2 j = h1 j := fun j a b c => by rw [e2]; repeat rw [am_row_ne _ _ _ (by assumption)]
  have e322 : h2 322 = (rf_law (h 328) (h 322) (h 323)).2.1 := by rw [e2, am_row_ne _ _ _ (by decide), am_row_at]
  have e323 : h2 323 = (rf_law (h 328) (h 322) (h 323)).2.2 := by rw [e2, am_row_at]
  have et : (h2 322) 0 = nI cc := by rw [e322, ecc]; exact lp_t_law R.2.1.1
  have ea : cc = 0 → h2 335 0 = y2 := fun z => by rw [F 335 (by decide) (by decide) (by decide), ho z, ey2]
  have R2 : cl_R r1 h2 (i + 1) := R1.law hk (fun j a => (F j (by omega) (by omega) (by omega)).trans (am_row_ne h1 335 (h 335) (by omega)).symm) e322 e323 ((F 324 (by decide) (by decide) (by decide)).trans (f 324 (by decide) (by decide))) ((F 327 (by decide) (by decide) (by decide)).trans (f 327 (by decide) (by decide)))
  refine lp_tail (pc := 387) (c := cc) (a := 0) (u := y2) Cx hR1 hcc dL_law__387 dL_law__388 kL_142 dL_law__391 dL_law__393 dL_law__398 dL_law__400 dL_law__403 dL_law__404 dL_law__405 dL_law__406 dL_law__408 dL_law__409 dL_law__410 dL_law__415 (by decide) rfl rfl rfl rfl (lp_leC (show 400 + 5 * (i + 1) ≤ 600000 by omega)) (lp_leS (show 73000 + 30 * (i + 1) ≤ 7000000 by omega)) et ea ?_
  refine am_subp (ls' := lp_ls i) [0, 1, 2, 3, 4] rfl ?_
  exact K r1 h2 hR1 R2
end LC
