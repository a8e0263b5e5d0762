/-! THE CLASS: worlds copied, the other ways -/

set_option maxHeartbeats 400000 in
set_option maxRecDepth 100000 in
theorem c_X3_copyFrom_nd {ad : Nat → Nat} {r : am_R} (hR : am_rs r) {h : am_H}  (w : rf_W) (hV : rf_I w) (hLo : cl_Lo (h) 57 w)  : am_CM mX3_copyFrom 3 0 0 [.ref 4, .ref 57] (am_VV ad) r h (am_pr none r (fun c9 => cl_Lo c9 4 w ∧ cl_fr (h) c9 4 13)) := by
  refine am_CM.of (by decide +kernel) (Nat.le_of_ble_eq_true rfl) (fun X C T => ?_)
  show am_G X (am_VV ad) (0, 0) 0 [(0, .ref 4), (1, .ref 57)] [] r h
  refine am_aload_n (pc := 0) C dX3_copyFrom_0 rfl ?_
  refine am_aload_n (pc := 1) C dX3_copyFrom_1 rfl ?_
  refine am_getI (pc := 2) C dX3_copyFrom_2 f3_48 bn_57 sh_57 ?_
  refine am_putI (pc := 5) C dX3_copyFrom_5 f3_48 bn_4 sh_4 rfl rfl ?_
  refine am_hp (show am_up h 4 0 ((h 57) 0) = am_row h 4 (upd (h 4) 0 ((h 57) 0)) from am_up_rw _ _ _ _) ?_
  refine am_aload_n (pc := 8) C dX3_copyFrom_8 rfl ?_
  refine am_aload_n (pc := 9) C dX3_copyFrom_9 rfl ?_
  refine am_getI (pc := 10) C dX3_copyFrom_10 f3_52 bn_57 sh_57 ?_
  refine am_putI (pc := 13) C dX3_copyFrom_13 f3_52 bn_4 sh_4 rfl rfl ?_
  refine am_hp (show am_up (am_row h 4 (upd (h 4) 0 ((h 57) 0))) 4 1 ((h 57) 1) = am_row (am_row h 4 (upd (h 4) 0 ((h 57) 0))) 4 (upd (upd (h 4) 0 ((h 57) 0)) 1 ((h 57) 1)) from am_up_rw _ _ _ _) ?_
  refine am_hp (show am_row (am_row h 4 (upd (h 4) 0 ((h 57) 0))) 4 (upd (upd (h 4) 0 ((h 57) 0)) 1 ((h 57) 1)) = (am_row h 4 (upd (upd (h 4) 0 ((h 57) 0)) 1 ((h 57) 1))) from am_row_s0) ?_
  refine am_aload_n (pc := 16) C dX3_copyFrom_16 rfl ?_
  refine am_aload_n (pc := 17) C dX3_copyFrom_17 rfl ?_
  refine am_getI (pc := 18) C dX3_copyFrom_18 f3_55 bn_57 sh_57 ?_
  refine am_putI (pc := 21) C dX3_copyFrom_21 f3_55 bn_4 sh_4 rfl rfl ?_
  refine am_hp (show am_up (am_row h 4 (upd (upd (h 4) 0 ((h 57) 0)) 1 ((h 57) 1))) 4 2 ((h 57) 2) = am_row (am_row h 4 (upd (upd (h 4) 0 ((h 57) 0)) 1 ((h 57) 1))) 4 (upd (upd (upd (h 4) 0 ((h 57) 0)) 1 ((h 57) 1)) 2 ((h 57) 2)) from am_up_rw _ _ _ _) ?_
  refine am_hp (show am_row (am_row h 4 (upd (upd (h 4) 0 ((h 57) 0)) 1 ((h 57) 1))) 4 (upd (upd (upd (h 4) 0 ((h 57) 0)) 1 ((h 57) 1)) 2 ((h 57) 2)) = (am_row h 4 (upd (upd (upd (h 4) 0 ((h 57) 0)) 1 ((h 57) 1)) 2 ((h 57) 2))) from am_row_s0) ?_
  refine am_aload_n (pc := 24) C dX3_copyFrom_24 rfl ?_
  refine am_aload_n (pc := 25) C dX3_copyFrom_25 rfl ?_
  refine am_getI (pc := 26) C dX3_copyFrom_26 f3_58 bn_57 sh_57 ?_
  refine am_putI (pc := 29) C dX3_copyFrom_29 f3_58 bn_4 sh_4 rfl rfl ?_
  refine am_hp (show am_up (am_row h 4 (upd (upd (upd (h 4) 0 ((h 57) 0)) 1 ((h 57) 1)) 2 ((h 57) 2))) 4 3 ((h 57) 3) = am_row (am_row h 4 (upd (upd (upd (h 4) 0 ((h 57) 0)) 1 ((h 57) 1)) 2 ((h 57) 2))) 4 (upd (upd (upd (upd (h 4) 0 ((h 57) 0)) 1 ((h 57) 1)) 2 ((h 57) 2)) 3 ((h 57) 3)) from am_up_rw _ _ _ _) ?_
  refine am_hp (show am_row (am_row h 4 (upd (upd (upd (h 4) 0 ((h 57) 0)) 1 ((h 57) 1)) 2 ((h 57) 2))) 4 (upd (upd (upd (upd (h 4) 0 ((h 57) 0)) 1 ((h 57) 1)) 2 ((h 57) 2)) 3 ((h 57) 3)) = (am_row h 4 (upd (upd (upd (upd (h 4) 0 ((h 57) 0)) 1 ((h 57) 1)) 2 ((h 57) 2)) 3 ((h 57) 3))) from am_row_s0) ?_
  refine am_aload_n (pc := 32) C dX3_copyFrom_32 rfl ?_
  refine am_getR (pc := 33) (j := 58) C dX3_copyFrom_33 f3_9 bn_57 sh_57 (rf_57_4 hR) ?_
  refine am_aload_n (pc := 36) C dX3_copyFrom_36 rfl ?_
  refine am_getR (pc := 37) (j := 5) C dX3_copyFrom_37 f3_9 bn_4 sh_4 (rf_4_4 hR) ?_
  refine am_callSNv (Y := mX11_copyRow) (pc := 40) (st := []) (As := [.ref 58, .ref 5]) (h2 := (am_row (am_row h 4 (upd (upd (upd (upd (h 4) 0 ((h 57) 0)) 1 ((h 57) 1)) 2 ((h 57) 2)) 3 ((h 57) 3))) 5 (va_cpy (h 58) (h 5) 0 0 16))) C dX3_copyFrom_40 k3_61 v_X11_copyRow rfl rfl (by decide) (Nat.zero_le _) (Nat.zero_le _) (Nat.le_of_ble_eq_true rfl) (c_X11_copyRow hR 58 5 16 bn_58 sh_58 bn_5 sh_5 (by decide)) ?_
  refine am_aload_n (pc := 43) C dX3_copyFrom_43 rfl ?_
  refine am_getR (pc := 44) (j := 59) C dX3_copyFrom_44 f3_15 bn_57 sh_57 (rf_57_5 hR) ?_
  refine am_aload_n (pc := 47) C dX3_copyFrom_47 rfl ?_
  refine am_getR (pc := 48) (j := 6) C dX3_copyFrom_48 f3_15 bn_4 sh_4 (rf_4_5 hR) ?_
  refine am_callSNv (Y := mX11_copyRow) (pc := 51) (st := []) (As := [.ref 59, .ref 6]) (h2 := (am_row (am_row (am_row h 4 (upd (upd (upd (upd (h 4) 0 ((h 57) 0)) 1 ((h 57) 1)) 2 ((h 57) 2)) 3 ((h 57) 3))) 5 (va_cpy (h 58) (h 5) 0 0 16)) 6 (va_cpy (h 59) (h 6) 0 0 16))) C dX3_copyFrom_51 k3_61 v_X11_copyRow rfl rfl (by decide) (Nat.zero_le _) (Nat.zero_le _) (Nat.le_of_ble_eq_true rfl) (c_X11_copyRow hR 59 6 16 bn_59 sh_59 bn_6 sh_6 (by decide)) ?_
  refine am_aload_n (pc := 54) C dX3_copyFrom_54 rfl ?_
  refine am_getR (pc := 55) (j := 60) C dX3_copyFrom_55 f3_18 bn_57 sh_57 (rf_57_6 hR) ?_
  refine am_aload_n (pc := 58) C dX3_copyFrom_58 rfl ?_
  refine am_getR (pc := 59) (j := 7) C dX3_copyFrom_59 f3_18 bn_4 sh_4 (rf_4_6 hR) ?_
  refine am_callSNv (Y := mX11_copyRow) (pc := 62) (st := []) (As := [.ref 60, .ref 7]) (h2 := (am_row (am_row (am_row (am_row h 4 (upd (upd (upd (upd (h 4) 0 ((h 57) 0)) 1 ((h 57) 1)) 2 ((h 57) 2)) 3 ((h 57) 3))) 5 (va_cpy (h 58) (h 5) 0 0 16)) 6 (va_cpy (h 59) (h 6) 0 0 16)) 7 (va_cpy (h 60) (h 7) 0 0 16))) C dX3_copyFrom_62 k3_61 v_X11_copyRow rfl rfl (by decide) (Nat.zero_le _) (Nat.zero_le _) (Nat.le_of_ble_eq_true rfl) (c_X11_copyRow hR 60 7 16 bn_60 sh_60 bn_7 sh_7 (by decide)) ?_
  refine am_aload_n (pc := 65) C dX3_copyFrom_65 rfl ?_
  refine am_getR (pc := 66) (j := 61) C dX3_copyFrom_66 f3_21 bn_57 sh_57 (rf_57_7 hR) ?_
  refine am_aload_n (pc := 69) C dX3_copyFrom_69 rfl ?_
  refine am_getR (pc := 70) (j := 8) C dX3_copyFrom_70 f3_21 bn_4 sh_4 (rf_4_7 hR) ?_
  refine am_callSNv (Y := mX11_copyRow) (pc := 73) (st := []) (As := [.ref 61, .ref 8]) (h2 := (am_row (am_row (am_row (am_row (am_row h 4 (upd (upd (upd (upd (h 4) 0 ((h 57) 0)) 1 ((h 57) 1)) 2 ((h 57) 2)) 3 ((h 57) 3))) 5 (va_cpy (h 58) (h 5) 0 0 16)) 6 (va_cpy (h 59) (h 6) 0 0 16)) 7 (va_cpy (h 60) (h 7) 0 0 16)) 8 (va_cpy (h 61) (h 8) 0 0 16))) C dX3_copyFrom_73 k3_61 v_X11_copyRow rfl rfl (by decide) (Nat.zero_le _) (Nat.zero_le _) (Nat.le_of_ble_eq_true rfl) (c_X11_copyRow hR 61 8 16 bn_61 sh_61 bn_8 sh_8 (by decide)) ?_
  refine am_aload_n (pc := 76) C dX3_copyFrom_76 rfl ?_
  refine am_getR (pc := 77) (j := 62) C dX3_copyFrom_77 f3_24 bn_57 sh_57 (rf_57_8 hR) ?_
  refine am_aload_n (pc := 80) C dX3_copyFrom_80 rfl ?_
  refine am_getR (pc := 81) (j := 9) C dX3_copyFrom_81 f3_24 bn_4 sh_4 (rf_4_8 hR) ?_
  refine am_callSNv (Y := mX11_copyRow) (pc := 84) (st := []) (As := [.ref 62, .ref 9]) (h2 := (am_row (am_row (am_row (am_row (am_row (am_row h 4 (upd (upd (upd (upd (h 4) 0 ((h 57) 0)) 1 ((h 57) 1)) 2 ((h 57) 2)) 3 ((h 57) 3))) 5 (va_cpy (h 58) (h 5) 0 0 16)) 6 (va_cpy (h 59) (h 6) 0 0 16)) 7 (va_cpy (h 60) (h 7) 0 0 16)) 8 (va_cpy (h 61) (h 8) 0 0 16)) 9 (va_cpy (h 62) (h 9) 0 0 16))) C dX3_copyFrom_84 k3_61 v_X11_copyRow rfl rfl (by decide) (Nat.zero_le _) (Nat.zero_le _) (Nat.le_of_ble_eq_true rfl) (c_X11_copyRow hR 62 9 16 bn_62 sh_62 bn_9 sh_9 (by decide)) ?_
  refine am_aload_n (pc := 87) C dX3_copyFrom_87 rfl ?_
  refine am_getR (pc := 88) (j := 63) C dX3_copyFrom_88 f3_27 bn_57 sh_57 (rf_57_9 hR) ?_
  refine am_aload_n (pc := 91) C dX3_copyFrom_91 rfl ?_
  refine am_getR (pc := 92) (j := 10) C dX3_copyFrom_92 f3_27 bn_4 sh_4 (rf_4_9 hR) ?_
  refine am_callSNv (Y := mX11_copyRow) (pc := 95) (st := []) (As := [.ref 63, .ref 10]) (h2 := (am_row (am_row (am_row (am_row (am_row (am_row (am_row h 4 (upd (upd (upd (upd (h 4) 0 ((h 57) 0)) 1 ((h 57) 1)) 2 ((h 57) 2)) 3 ((h 57) 3))) 5 (va_cpy (h 58) (h 5) 0 0 16)) 6 (va_cpy (h 59) (h 6) 0 0 16)) 7 (va_cpy (h 60) (h 7) 0 0 16)) 8 (va_cpy (h 61) (h 8) 0 0 16)) 9 (va_cpy (h 62) (h 9) 0 0 16)) 10 (va_cpy (h 63) (h 10) 0 0 10))) C dX3_copyFrom_95 k3_61 v_X11_copyRow rfl rfl (by decide) (Nat.zero_le _) (Nat.zero_le _) (Nat.le_of_ble_eq_true rfl) (c_X11_copyRow hR 63 10 10 bn_63 sh_63 bn_10 sh_10 (by decide)) ?_
  refine am_aload_n (pc := 98) C dX3_copyFrom_98 rfl ?_
  refine am_getR (pc := 99) (j := 64) C dX3_copyFrom_99 f3_30 bn_57 sh_57 (rf_57_10 hR) ?_
  refine am_aload_n (pc := 102) C dX3_copyFrom_102 rfl ?_
  refine am_getR (pc := 103) (j := 11) C dX3_copyFrom_103 f3_30 bn_4 sh_4 (rf_4_10 hR) ?_
  refine am_callSNv (Y := mX11_copyRow) (pc := 106) (st := []) (As := [.ref 64, .ref 11]) (h2 := (am_row (am_row (am_row (am_row (am_row (am_row (am_row (am_row h 4 (upd (upd (upd (upd (h 4) 0 ((h 57) 0)) 1 ((h 57) 1)) 2 ((h 57) 2)) 3 ((h 57) 3))) 5 (va_cpy (h 58) (h 5) 0 0 16)) 6 (va_cpy (h 59) (h 6) 0 0 16)) 7 (va_cpy (h 60) (h 7) 0 0 16)) 8 (va_cpy (h 61) (h 8) 0 0 16)) 9 (va_cpy (h 62) (h 9) 0 0 16)) 10 (va_cpy (h 63) (h 10) 0 0 10)) 11 (va_cpy (h 64) (h 11) 0 0 10))) C dX3_copyFrom_106 k3_61 v_X11_copyRow rfl rfl (by decide) (Nat.zero_le _) (Nat.zero_le _) (Nat.le_of_ble_eq_true rfl) (c_X11_copyRow hR 64 11 10 bn_64 sh_64 bn_11 sh_11 (by decide)) ?_
  refine am_aload_n (pc := 109) C dX3_copyFrom_109 rfl ?_
  refine am_getR (pc := 110) (j := 65) C dX3_copyFrom_110 f3_33 bn_57 sh_57 (rf_57_11 hR) ?_
  refine am_aload_n (pc := 113) C dX3_copyFrom_113 rfl ?_
  refine am_getR (pc := 114) (j := 12) C dX3_copyFrom_114 f3_33 bn_4 sh_4 (rf_4_11 hR) ?_
  refine am_callSNv (Y := mX11_copyRow) (pc := 117) (st := []) (As := [.ref 65, .ref 12]) (h2 := (am_row (am_row (am_row (am_row (am_row (am_row (am_row (am_row (am_row h 4 (upd (upd (upd (upd (h 4) 0 ((h 57) 0)) 1 ((h 57) 1)) 2 ((h 57) 2)) 3 ((h 57) 3))) 5 (va_cpy (h 58) (h 5) 0 0 16)) 6 (va_cpy (h 59) (h 6) 0 0 16)) 7 (va_cpy (h 60) (h 7) 0 0 16)) 8 (va_cpy (h 61) (h 8) 0 0 16)) 9 (va_cpy (h 62) (h 9) 0 0 16)) 10 (va_cpy (h 63) (h 10) 0 0 10)) 11 (va_cpy (h 64) (h 11) 0 0 10)) 12 (va_cpy (h 65) (h 12) 0 0 10))) C dX3_copyFrom_117 k3_61 v_X11_copyRow rfl rfl (by decide) (Nat.zero_le _) (Nat.zero_le _) (Nat.le_of_ble_eq_true rfl) (c_X11_copyRow hR 65 12 10 bn_65 sh_65 bn_12 sh_12 (by decide)) ?_
  refine am_aload_n (pc := 120) C dX3_copyFrom_120 rfl ?_
  refine am_getR (pc := 121) (j := 66) C dX3_copyFrom_121 f3_36 bn_57 sh_57 (rf_57_12 hR) ?_
  refine am_aload_n (pc := 124) C dX3_copyFrom_124 rfl ?_
  refine am_getR (pc := 125) (j := 13) C dX3_copyFrom_125 f3_36 bn_4 sh_4 (rf_4_12 hR) ?_
  refine am_callSNv (Y := mX11_copyRow) (pc := 128) (st := []) (As := [.ref 66, .ref 13]) (h2 := (am_row (am_row (am_row (am_row (am_row (am_row (am_row (am_row (am_row (am_row h 4 (upd (upd (upd (upd (h 4) 0 ((h 57) 0)) 1 ((h 57) 1)) 2 ((h 57) 2)) 3 ((h 57) 3))) 5 (va_cpy (h 58) (h 5) 0 0 16)) 6 (va_cpy (h 59) (h 6) 0 0 16)) 7 (va_cpy (h 60) (h 7) 0 0 16)) 8 (va_cpy (h 61) (h 8) 0 0 16)) 9 (va_cpy (h 62) (h 9) 0 0 16)) 10 (va_cpy (h 63) (h 10) 0 0 10)) 11 (va_cpy (h 64) (h 11) 0 0 10)) 12 (va_cpy (h 65) (h 12) 0 0 10)) 13 (va_cpy (h 66) (h 13) 0 0 60))) C dX3_copyFrom_128 k3_61 v_X11_copyRow rfl rfl (by decide) (Nat.zero_le _) (Nat.zero_le _) (Nat.le_of_ble_eq_true rfl) (c_X11_copyRow hR 66 13 60 bn_66 sh_66 bn_13 sh_13 (by decide)) ?_
  refine am_aload_n (pc := 131) C dX3_copyFrom_131 rfl ?_
  refine am_getR (pc := 132) (j := 67) C dX3_copyFrom_132 f3_39 bn_57 sh_57 (rf_57_13 hR) ?_
  refine am_aload_n (pc := 135) C dX3_copyFrom_135 rfl ?_
  refine am_getR (pc := 136) (j := 14) C dX3_copyFrom_136 f3_39 bn_4 sh_4 (rf_4_13 hR) ?_
  refine am_callSNv (Y := mX11_copyRow) (pc := 139) (st := []) (As := [.ref 67, .ref 14]) (h2 := (am_row (am_row (am_row (am_row (am_row (am_row (am_row (am_row (am_row (am_row (am_row h 4 (upd (upd (upd (upd (h 4) 0 ((h 57) 0)) 1 ((h 57) 1)) 2 ((h 57) 2)) 3 ((h 57) 3))) 5 (va_cpy (h 58) (h 5) 0 0 16)) 6 (va_cpy (h 59) (h 6) 0 0 16)) 7 (va_cpy (h 60) (h 7) 0 0 16)) 8 (va_cpy (h 61) (h 8) 0 0 16)) 9 (va_cpy (h 62) (h 9) 0 0 16)) 10 (va_cpy (h 63) (h 10) 0 0 10)) 11 (va_cpy (h 64) (h 11) 0 0 10)) 12 (va_cpy (h 65) (h 12) 0 0 10)) 13 (va_cpy (h 66) (h 13) 0 0 60)) 14 (va_cpy (h 67) (h 14) 0 0 10))) C dX3_copyFrom_139 k3_61 v_X11_copyRow rfl rfl (by decide) (Nat.zero_le _) (Nat.zero_le _) (Nat.le_of_ble_eq_true rfl) (c_X11_copyRow hR 67 14 10 bn_67 sh_67 bn_14 sh_14 (by decide)) ?_
  refine am_aload_n (pc := 142) C dX3_copyFrom_142 rfl ?_
  refine am_getR (pc := 143) (j := 68) C dX3_copyFrom_143 f3_42 bn_57 sh_57 (rf_57_14 hR) ?_
  refine am_aload_n (pc := 146) C dX3_copyFrom_146 rfl ?_
  refine am_getR (pc := 147) (j := 15) C dX3_copyFrom_147 f3_42 bn_4 sh_4 (rf_4_14 hR) ?_
  refine am_callSNv (Y := mX11_copyRow) (pc := 150) (st := []) (As := [.ref 68, .ref 15]) (h2 := (am_row (am_row (am_row (am_row (am_row (am_row (am_row (am_row (am_row (am_row (am_row (am_row h 4 (upd (upd (upd (upd (h 4) 0 ((h 57) 0)) 1 ((h 57) 1)) 2 ((h 57) 2)) 3 ((h 57) 3))) 5 (va_cpy (h 58) (h 5) 0 0 16)) 6 (va_cpy (h 59) (h 6) 0 0 16)) 7 (va_cpy (h 60) (h 7) 0 0 16)) 8 (va_cpy (h 61) (h 8) 0 0 16)) 9 (va_cpy (h 62) (h 9) 0 0 16)) 10 (va_cpy (h 63) (h 10) 0 0 10)) 11 (va_cpy (h 64) (h 11) 0 0 10)) 12 (va_cpy (h 65) (h 12) 0 0 10)) 13 (va_cpy (h 66) (h 13) 0 0 60)) 14 (va_cpy (h 67) (h 14) 0 0 10)) 15 (va_cpy (h 68) (h 15) 0 0 10))) C dX3_copyFrom_150 k3_61 v_X11_copyRow rfl rfl (by decide) (Nat.zero_le _) (Nat.zero_le _) (Nat.le_of_ble_eq_true rfl) (c_X11_copyRow hR 68 15 10 bn_68 sh_68 bn_15 sh_15 (by decide)) ?_
  refine am_aload_n (pc := 153) C dX3_copyFrom_153 rfl ?_
  refine am_getR (pc := 154) (j := 69) C dX3_copyFrom_154 f3_45 bn_57 sh_57 (rf_57_15 hR) ?_
  refine am_aload_n (pc := 157) C dX3_copyFrom_157 rfl ?_
  refine am_getR (pc := 158) (j := 16) C dX3_copyFrom_158 f3_45 bn_4 sh_4 (rf_4_15 hR) ?_
  refine am_callSNv (Y := mX11_copyRow) (pc := 161) (st := []) (As := [.ref 69, .ref 16]) (h2 := (am_row (am_row (am_row (am_row (am_row (am_row (am_row (am_row (am_row (am_row (am_row (am_row (am_row h 4 (upd (upd (upd (upd (h 4) 0 ((h 57) 0)) 1 ((h 57) 1)) 2 ((h 57) 2)) 3 ((h 57) 3))) 5 (va_cpy (h 58) (h 5) 0 0 16)) 6 (va_cpy (h 59) (h 6) 0 0 16)) 7 (va_cpy (h 60) (h 7) 0 0 16)) 8 (va_cpy (h 61) (h 8) 0 0 16)) 9 (va_cpy (h 62) (h 9) 0 0 16)) 10 (va_cpy (h 63) (h 10) 0 0 10)) 11 (va_cpy (h 64) (h 11) 0 0 10)) 12 (va_cpy (h 65) (h 12) 0 0 10)) 13 (va_cpy (h 66) (h 13) 0 0 60)) 14 (va_cpy (h 67) (h 14) 0 0 10)) 15 (va_cpy (h 68) (h 15) 0 0 10)) 16 (va_cpy (h 69) (h 16) 0 0 2))) C dX3_copyFrom_161 k3_61 v_X11_copyRow rfl rfl (by decide) (Nat.zero_le _) (Nat.zero_le _) (Nat.le_of_ble_eq_true rfl) (c_X11_copyRow hR 69 16 2 bn_69 sh_69 bn_16 sh_16 (by decide)) ?_
  exact am_vretvr T dX3_copyFrom_164 rfl (Nat.le_refl _) (Nat.le_refl _) rfl ⟨cl_Lo_cpy hV hLo rfl rfl rfl rfl (fun k hk => va_cpy_0 hk) (fun k hk => va_cpy_0 hk) (fun k hk => va_cpy_0 hk) (fun k hk => va_cpy_0 hk) (fun k hk => va_cpy_0 hk) (fun k hk => va_cpy_0 hk) (fun k hk => va_cpy_0 hk) (fun k hk => va_cpy_0 hk) (fun k hk => va_cpy_0 hk) (fun k hk => va_cpy_0 hk) (fun k hk => va_cpy_0 hk) (fun k hk => va_cpy_0 hk), (fun i9 h9 => by rw [am_row_ne _ _ _ (by omega), am_row_ne _ _ _ (by omega), am_row_ne _ _ _ (by omega), am_row_ne _ _ _ (by omega), am_row_ne _ _ _ (by omega), am_row_ne _ _ _ (by omega), am_row_ne _ _ _ (by omega), am_row_ne _ _ _ (by omega), am_row_ne _ _ _ (by omega), am_row_ne _ _ _ (by omega), am_row_ne _ _ _ (by omega), am_row_ne _ _ _ (by omega), am_row_ne _ _ _ (by omega)])⟩

set_option maxHeartbeats 400000 in
set_option maxRecDepth 100000 in
theorem c_X1_copyFrom_nd {ad : Nat → Nat} {r : am_R} (hR : am_rs r) {h : am_H}  (w : rf_W) (hLw : rf_Lw w) (hA : cl_La (h) 70 w)  : am_CM mX1_copyFrom 3 0 0 [.ref 17, .ref 70] (am_VV ad) r h (am_pr none r (fun c9 => cl_La c9 17 w ∧ cl_fr (h) c9 17 6)) := by
  refine am_CM.of (by decide +kernel) (Nat.le_of_ble_eq_true rfl) (fun X C T => ?_)
  show am_G X (am_VV ad) (0, 0) 0 [(0, .ref 17), (1, .ref 70)] [] r h
  refine am_aload_n (pc := 0) C dX1_copyFrom_0 rfl ?_
  refine am_aload_n (pc := 1) C dX1_copyFrom_1 rfl ?_
  refine am_getI (pc := 2) C dX1_copyFrom_2 f1_9 bn_70 sh_70 ?_
  refine am_putI (pc := 5) C dX1_copyFrom_5 f1_9 bn_17 sh_17 rfl rfl ?_
  refine am_hp (show am_up h 17 0 ((h 70) 0) = am_row h 17 (upd (h 17) 0 ((h 70) 0)) from am_up_rw _ _ _ _) ?_
  refine am_aload_n (pc := 8) C dX1_copyFrom_8 rfl ?_
  refine am_aload_n (pc := 9) C dX1_copyFrom_9 rfl ?_
  refine am_getI (pc := 10) C dX1_copyFrom_10 f1_37 bn_70 sh_70 ?_
  refine am_putI (pc := 13) C dX1_copyFrom_13 f1_37 bn_17 sh_17 rfl rfl ?_
  refine am_hp (show am_up (am_row h 17 (upd (h 17) 0 ((h 70) 0))) 17 1 ((h 70) 1) = am_row (am_row h 17 (upd (h 17) 0 ((h 70) 0))) 17 (upd (upd (h 17) 0 ((h 70) 0)) 1 ((h 70) 1)) from am_up_rw _ _ _ _) ?_
  refine am_hp (show am_row (am_row h 17 (upd (h 17) 0 ((h 70) 0))) 17 (upd (upd (h 17) 0 ((h 70) 0)) 1 ((h 70) 1)) = (am_row h 17 (upd (upd (h 17) 0 ((h 70) 0)) 1 ((h 70) 1))) from am_row_s0) ?_
  refine am_aload_n (pc := 16) C dX1_copyFrom_16 rfl ?_
  refine am_getR (pc := 17) (j := 71) C dX1_copyFrom_17 f1_15 bn_70 sh_70 (rf_70_2 hR) ?_
  refine am_aload_n (pc := 20) C dX1_copyFrom_20 rfl ?_
  refine am_getR (pc := 21) (j := 18) C dX1_copyFrom_21 f1_15 bn_17 sh_17 (rf_17_2 hR) ?_
  refine am_callSNv (Y := mX11_copyRow) (pc := 24) (st := []) (As := [.ref 71, .ref 18]) (h2 := (am_row (am_row h 17 (upd (upd (h 17) 0 ((h 70) 0)) 1 ((h 70) 1))) 18 (va_cpy (h 71) (h 18) 0 0 12))) C dX1_copyFrom_24 k1_40 v_X11_copyRow rfl rfl (by decide) (Nat.zero_le _) (Nat.zero_le _) (Nat.le_of_ble_eq_true rfl) (c_X11_copyRow hR 71 18 12 bn_71 sh_71 bn_18 sh_18 (by decide)) ?_
  refine am_aload_n (pc := 27) C dX1_copyFrom_27 rfl ?_
  refine am_getR (pc := 28) (j := 72) C dX1_copyFrom_28 f1_19 bn_70 sh_70 (rf_70_3 hR) ?_
  refine am_aload_n (pc := 31) C dX1_copyFrom_31 rfl ?_
  refine am_getR (pc := 32) (j := 19) C dX1_copyFrom_32 f1_19 bn_17 sh_17 (rf_17_3 hR) ?_
  refine am_callSNv (Y := mX11_copyRow) (pc := 35) (st := []) (As := [.ref 72, .ref 19]) (h2 := (am_row (am_row (am_row h 17 (upd (upd (h 17) 0 ((h 70) 0)) 1 ((h 70) 1))) 18 (va_cpy (h 71) (h 18) 0 0 12)) 19 (va_cpy (h 72) (h 19) 0 0 12))) C dX1_copyFrom_35 k1_40 v_X11_copyRow rfl rfl (by decide) (Nat.zero_le _) (Nat.zero_le _) (Nat.le_of_ble_eq_true rfl) (c_X11_copyRow hR 72 19 12 bn_72 sh_72 bn_19 sh_19 (by decide)) ?_
  refine am_aload_n (pc := 38) C dX1_copyFrom_38 rfl ?_
  refine am_getR (pc := 39) (j := 73) C dX1_copyFrom_39 f1_22 bn_70 sh_70 (rf_70_4 hR) ?_
  refine am_aload_n (pc := 42) C dX1_copyFrom_42 rfl ?_
  refine am_getR (pc := 43) (j := 20) C dX1_copyFrom_43 f1_22 bn_17 sh_17 (rf_17_4 hR) ?_
  refine am_callSNv (Y := mX11_copyRow) (pc := 46) (st := []) (As := [.ref 73, .ref 20]) (h2 := (am_row (am_row (am_row (am_row h 17 (upd (upd (h 17) 0 ((h 70) 0)) 1 ((h 70) 1))) 18 (va_cpy (h 71) (h 18) 0 0 12)) 19 (va_cpy (h 72) (h 19) 0 0 12)) 20 (va_cpy (h 73) (h 20) 0 0 12))) C dX1_copyFrom_46 k1_40 v_X11_copyRow rfl rfl (by decide) (Nat.zero_le _) (Nat.zero_le _) (Nat.le_of_ble_eq_true rfl) (c_X11_copyRow hR 73 20 12 bn_73 sh_73 bn_20 sh_20 (by decide)) ?_
  refine am_aload_n (pc := 49) C dX1_copyFrom_49 rfl ?_
  refine am_getR (pc := 50) (j := 74) C dX1_copyFrom_50 f1_25 bn_70 sh_70 (rf_70_5 hR) ?_
  refine am_aload_n (pc := 53) C dX1_copyFrom_53 rfl ?_
  refine am_getR (pc := 54) (j := 21) C dX1_copyFrom_54 f1_25 bn_17 sh_17 (rf_17_5 hR) ?_
  refine am_callSNv (Y := mX11_copyRow) (pc := 57) (st := []) (As := [.ref 74, .ref 21]) (h2 := (am_row (am_row (am_row (am_row (am_row h 17 (upd (upd (h 17) 0 ((h 70) 0)) 1 ((h 70) 1))) 18 (va_cpy (h 71) (h 18) 0 0 12)) 19 (va_cpy (h 72) (h 19) 0 0 12)) 20 (va_cpy (h 73) (h 20) 0 0 12)) 21 (va_cpy (h 74) (h 21) 0 0 12))) C dX1_copyFrom_57 k1_40 v_X11_copyRow rfl rfl (by decide) (Nat.zero_le _) (Nat.zero_le _) (Nat.le_of_ble_eq_true rfl) (c_X11_copyRow hR 74 21 12 bn_74 sh_74 bn_21 sh_21 (by decide)) ?_
  refine am_aload_n (pc := 60) C dX1_copyFrom_60 rfl ?_
  refine am_getR (pc := 61) (j := 75) C dX1_copyFrom_61 f1_28 bn_70 sh_70 (rf_70_6 hR) ?_
  refine am_aload_n (pc := 64) C dX1_copyFrom_64 rfl ?_
  refine am_getR (pc := 65) (j := 22) C dX1_copyFrom_65 f1_28 bn_17 sh_17 (rf_17_6 hR) ?_
  refine am_callSNv (Y := mX11_copyRow) (pc := 68) (st := []) (As := [.ref 75, .ref 22]) (h2 := (am_row (am_row (am_row (am_row (am_row (am_row h 17 (upd (upd (h 17) 0 ((h 70) 0)) 1 ((h 70) 1))) 18 (va_cpy (h 71) (h 18) 0 0 12)) 19 (va_cpy (h 72) (h 19) 0 0 12)) 20 (va_cpy (h 73) (h 20) 0 0 12)) 21 (va_cpy (h 74) (h 21) 0 0 12)) 22 (va_cpy (h 75) (h 22) 0 0 400))) C dX1_copyFrom_68 k1_40 v_X11_copyRow rfl rfl (by decide) (Nat.zero_le _) (Nat.zero_le _) (Nat.le_of_ble_eq_true rfl) (c_X11_copyRow hR 75 22 400 bn_75 sh_75 bn_22 sh_22 (by decide)) ?_
  exact am_vretvr T dX1_copyFrom_71 rfl (Nat.le_refl _) (Nat.le_refl _) rfl ⟨cl_La_cpy hLw hA rfl (fun k hk => va_cpy_0 hk) (fun k hk => va_cpy_0 hk) (fun k hk => va_cpy_0 hk) (fun k hk => va_cpy_0 hk) (fun k hk => va_cpy_0 hk), (fun i9 h9 => by rw [am_row_ne _ _ _ (by omega), am_row_ne _ _ _ (by omega), am_row_ne _ _ _ (by omega), am_row_ne _ _ _ (by omega), am_row_ne _ _ _ (by omega), am_row_ne _ _ _ (by omega)])⟩

set_option maxHeartbeats 400000 in
set_option maxRecDepth 100000 in
theorem c_X5_copyFrom_d_nd {ad : Nat → Nat} {r : am_R} (hR : am_rs r) {h : am_H}  (w : rf_W) (hV : rf_I w) (hSc : cl_Sc (h) 78 w)  : am_CM mX5_copyFrom 3 0 0 [.ref 25, .ref 78] (am_VV ad) r h (am_pr none r (fun c9 => cl_Sc c9 25 w ∧ cl_fr (h) c9 25 15)) := by
  refine am_CM.of (by decide +kernel) (Nat.le_of_ble_eq_true rfl) (fun X C T => ?_)
  show am_G X (am_VV ad) (0, 0) 0 [(0, .ref 25), (1, .ref 78)] [] r h
  refine am_aload_n (pc := 0) C dX5_copyFrom_0 rfl ?_
  refine am_aload_n (pc := 1) C dX5_copyFrom_1 rfl ?_
  refine am_getI (pc := 2) C dX5_copyFrom_2 f5_58 bn_78 sh_78 ?_
  refine am_putI (pc := 5) C dX5_copyFrom_5 f5_58 bn_25 sh_25 rfl rfl ?_
  refine am_hp (show am_up h 25 0 ((h 78) 0) = am_row h 25 (upd (h 25) 0 ((h 78) 0)) from am_up_rw _ _ _ _) ?_
  refine am_aload_n (pc := 8) C dX5_copyFrom_8 rfl ?_
  refine am_aload_n (pc := 9) C dX5_copyFrom_9 rfl ?_
  refine am_getI (pc := 10) C dX5_copyFrom_10 f5_9 bn_78 sh_78 ?_
  refine am_putI (pc := 13) C dX5_copyFrom_13 f5_9 bn_25 sh_25 rfl rfl ?_
  refine am_hp (show am_up (am_row h 25 (upd (h 25) 0 ((h 78) 0))) 25 1 ((h 78) 1) = am_row (am_row h 25 (upd (h 25) 0 ((h 78) 0))) 25 (upd (upd (h 25) 0 ((h 78) 0)) 1 ((h 78) 1)) from am_up_rw _ _ _ _) ?_
  refine am_hp (show am_row (am_row h 25 (upd (h 25) 0 ((h 78) 0))) 25 (upd (upd (h 25) 0 ((h 78) 0)) 1 ((h 78) 1)) = (am_row h 25 (upd (upd (h 25) 0 ((h 78) 0)) 1 ((h 78) 1))) from am_row_s0) ?_
  refine am_aload_n (pc := 16) C dX5_copyFrom_16 rfl ?_
  refine am_aload_n (pc := 17) C dX5_copyFrom_17 rfl ?_
  refine am_getI (pc := 18) C dX5_copyFrom_18 f5_61 bn_78 sh_78 ?_
  refine am_putI (pc := 21) C dX5_copyFrom_21 f5_61 bn_25 sh_25 rfl rfl ?_
  refine am_hp (show am_up (am_row h 25 (upd (upd (h 25) 0 ((h 78) 0)) 1 ((h 78) 1))) 25 2 ((h 78) 2) = am_row (am_row h 25 (upd (upd (h 25) 0 ((h 78) 0)) 1 ((h 78) 1))) 25 (upd (upd (upd (h 25) 0 ((h 78) 0)) 1 ((h 78) 1)) 2 ((h 78) 2)) from am_up_rw _ _ _ _) ?_
  refine am_hp (show am_row (am_row h 25 (upd (upd (h 25) 0 ((h 78) 0)) 1 ((h 78) 1))) 25 (upd (upd (upd (h 25) 0 ((h 78) 0)) 1 ((h 78) 1)) 2 ((h 78) 2)) = (am_row h 25 (upd (upd (upd (h 25) 0 ((h 78) 0)) 1 ((h 78) 1)) 2 ((h 78) 2))) from am_row_s0) ?_
  refine am_aload_n (pc := 24) C dX5_copyFrom_24 rfl ?_
  refine am_aload_n (pc := 25) C dX5_copyFrom_25 rfl ?_
  refine am_getI (pc := 26) C dX5_copyFrom_26 f5_64 bn_78 sh_78 ?_
  refine am_putI (pc := 29) C dX5_copyFrom_29 f5_64 bn_25 sh_25 rfl rfl ?_
  refine am_hp (show am_up (am_row h 25 (upd (upd (upd (h 25) 0 ((h 78) 0)) 1 ((h 78) 1)) 2 ((h 78) 2))) 25 3 ((h 78) 3) = am_row (am_row h 25 (upd (upd (upd (h 25) 0 ((h 78) 0)) 1 ((h 78) 1)) 2 ((h 78) 2))) 25 (upd (upd (upd (upd (h 25) 0 ((h 78) 0)) 1 ((h 78) 1)) 2 ((h 78) 2)) 3 ((h 78) 3)) from am_up_rw _ _ _ _) ?_
  refine am_hp (show am_row (am_row h 25 (upd (upd (upd (h 25) 0 ((h 78) 0)) 1 ((h 78) 1)) 2 ((h 78) 2))) 25 (upd (upd (upd (upd (h 25) 0 ((h 78) 0)) 1 ((h 78) 1)) 2 ((h 78) 2)) 3 ((h 78) 3)) = (am_row h 25 (upd (upd (upd (upd (h 25) 0 ((h 78) 0)) 1 ((h 78) 1)) 2 ((h 78) 2)) 3 ((h 78) 3))) from am_row_s0) ?_
  refine am_aload_n (pc := 32) C dX5_copyFrom_32 rfl ?_
  refine am_aload_n (pc := 33) C dX5_copyFrom_33 rfl ?_
  refine am_getI (pc := 34) C dX5_copyFrom_34 f5_67 bn_78 sh_78 ?_
  refine am_putI (pc := 37) C dX5_copyFrom_37 f5_67 bn_25 sh_25 rfl rfl ?_
  refine am_hp (show am_up (am_row h 25 (upd (upd (upd (upd (h 25) 0 ((h 78) 0)) 1 ((h 78) 1)) 2 ((h 78) 2)) 3 ((h 78) 3))) 25 4 ((h 78) 4) = am_row (am_row h 25 (upd (upd (upd (upd (h 25) 0 ((h 78) 0)) 1 ((h 78) 1)) 2 ((h 78) 2)) 3 ((h 78) 3))) 25 (upd (upd (upd (upd (upd (h 25) 0 ((h 78) 0)) 1 ((h 78) 1)) 2 ((h 78) 2)) 3 ((h 78) 3)) 4 ((h 78) 4)) from am_up_rw _ _ _ _) ?_
  refine am_hp (show am_row (am_row h 25 (upd (upd (upd (upd (h 25) 0 ((h 78) 0)) 1 ((h 78) 1)) 2 ((h 78) 2)) 3 ((h 78) 3))) 25 (upd (upd (upd (upd (upd (h 25) 0 ((h 78) 0)) 1 ((h 78) 1)) 2 ((h 78) 2)) 3 ((h 78) 3)) 4 ((h 78) 4)) = (am_row h 25 (upd (upd (upd (upd (upd (h 25) 0 ((h 78) 0)) 1 ((h 78) 1)) 2 ((h 78) 2)) 3 ((h 78) 3)) 4 ((h 78) 4))) from am_row_s0) ?_
  refine am_aload_n (pc := 40) C dX5_copyFrom_40 rfl ?_
  refine am_getR (pc := 41) (j := 79) C dX5_copyFrom_41 f5_15 bn_78 sh_78 (rf_78_5 hR) ?_
  refine am_aload_n (pc := 44) C dX5_copyFrom_44 rfl ?_
  refine am_getR (pc := 45) (j := 26) C dX5_copyFrom_45 f5_15 bn_25 sh_25 (rf_25_5 hR) ?_
  refine am_callSNv (Y := mX11_copyRow) (pc := 48) (st := []) (As := [.ref 79, .ref 26]) (h2 := (am_row (am_row h 25 (upd (upd (upd (upd (upd (h 25) 0 ((h 78) 0)) 1 ((h 78) 1)) 2 ((h 78) 2)) 3 ((h 78) 3)) 4 ((h 78) 4))) 26 (va_cpy (h 79) (h 26) 0 0 10))) C dX5_copyFrom_48 k5_70 v_X11_copyRow rfl rfl (by decide) (Nat.zero_le _) (Nat.zero_le _) (Nat.le_of_ble_eq_true rfl) (c_X11_copyRow hR 79 26 10 bn_79 sh_79 bn_26 sh_26 (by decide)) ?_
  refine am_aload_n (pc := 51) C dX5_copyFrom_51 rfl ?_
  refine am_getR (pc := 52) (j := 80) C dX5_copyFrom_52 f5_19 bn_78 sh_78 (rf_78_6 hR) ?_
  refine am_aload_n (pc := 55) C dX5_copyFrom_55 rfl ?_
  refine am_getR (pc := 56) (j := 27) C dX5_copyFrom_56 f5_19 bn_25 sh_25 (rf_25_6 hR) ?_
  refine am_callSNv (Y := mX11_copyRow) (pc := 59) (st := []) (As := [.ref 80, .ref 27]) (h2 := (am_row (am_row (am_row h 25 (upd (upd (upd (upd (upd (h 25) 0 ((h 78) 0)) 1 ((h 78) 1)) 2 ((h 78) 2)) 3 ((h 78) 3)) 4 ((h 78) 4))) 26 (va_cpy (h 79) (h 26) 0 0 10)) 27 (va_cpy (h 80) (h 27) 0 0 10))) C dX5_copyFrom_59 k5_70 v_X11_copyRow rfl rfl (by decide) (Nat.zero_le _) (Nat.zero_le _) (Nat.le_of_ble_eq_true rfl) (c_X11_copyRow hR 80 27 10 bn_80 sh_80 bn_27 sh_27 (by decide)) ?_
  refine am_aload_n (pc := 62) C dX5_copyFrom_62 rfl ?_
  refine am_getR (pc := 63) (j := 81) C dX5_copyFrom_63 f5_22 bn_78 sh_78 (rf_78_7 hR) ?_
  refine am_aload_n (pc := 66) C dX5_copyFrom_66 rfl ?_
  refine am_getR (pc := 67) (j := 28) C dX5_copyFrom_67 f5_22 bn_25 sh_25 (rf_25_7 hR) ?_
  refine am_callSNv (Y := mX11_copyRow) (pc := 70) (st := []) (As := [.ref 81, .ref 28]) (h2 := (am_row (am_row (am_row (am_row h 25 (upd (upd (upd (upd (upd (h 25) 0 ((h 78) 0)) 1 ((h 78) 1)) 2 ((h 78) 2)) 3 ((h 78) 3)) 4 ((h 78) 4))) 26 (va_cpy (h 79) (h 26) 0 0 10)) 27 (va_cpy (h 80) (h 27) 0 0 10)) 28 (va_cpy (h 81) (h 28) 0 0 10))) C dX5_copyFrom_70 k5_70 v_X11_copyRow rfl rfl (by decide) (Nat.zero_le _) (Nat.zero_le _) (Nat.le_of_ble_eq_true rfl) (c_X11_copyRow hR 81 28 10 bn_81 sh_81 bn_28 sh_28 (by decide)) ?_
  refine am_aload_n (pc := 73) C dX5_copyFrom_73 rfl ?_
  refine am_getR (pc := 74) (j := 82) C dX5_copyFrom_74 f5_25 bn_78 sh_78 (rf_78_8 hR) ?_
  refine am_aload_n (pc := 77) C dX5_copyFrom_77 rfl ?_
  refine am_getR (pc := 78) (j := 29) C dX5_copyFrom_78 f5_25 bn_25 sh_25 (rf_25_8 hR) ?_
  refine am_callSNv (Y := mX11_copyRow) (pc := 81) (st := []) (As := [.ref 82, .ref 29]) (h2 := (am_row (am_row (am_row (am_row (am_row h 25 (upd (upd (upd (upd (upd (h 25) 0 ((h 78) 0)) 1 ((h 78) 1)) 2 ((h 78) 2)) 3 ((h 78) 3)) 4 ((h 78) 4))) 26 (va_cpy (h 79) (h 26) 0 0 10)) 27 (va_cpy (h 80) (h 27) 0 0 10)) 28 (va_cpy (h 81) (h 28) 0 0 10)) 29 (va_cpy (h 82) (h 29) 0 0 10))) C dX5_copyFrom_81 k5_70 v_X11_copyRow rfl rfl (by decide) (Nat.zero_le _) (Nat.zero_le _) (Nat.le_of_ble_eq_true rfl) (c_X11_copyRow hR 82 29 10 bn_82 sh_82 bn_29 sh_29 (by decide)) ?_
  refine am_aload_n (pc := 84) C dX5_copyFrom_84 rfl ?_
  refine am_getR (pc := 85) (j := 83) C dX5_copyFrom_85 f5_28 bn_78 sh_78 (rf_78_9 hR) ?_
  refine am_aload_n (pc := 88) C dX5_copyFrom_88 rfl ?_
  refine am_getR (pc := 89) (j := 30) C dX5_copyFrom_89 f5_28 bn_25 sh_25 (rf_25_9 hR) ?_
  refine am_callSNv (Y := mX11_copyRow) (pc := 92) (st := []) (As := [.ref 83, .ref 30]) (h2 := (am_row (am_row (am_row (am_row (am_row (am_row h 25 (upd (upd (upd (upd (upd (h 25) 0 ((h 78) 0)) 1 ((h 78) 1)) 2 ((h 78) 2)) 3 ((h 78) 3)) 4 ((h 78) 4))) 26 (va_cpy (h 79) (h 26) 0 0 10)) 27 (va_cpy (h 80) (h 27) 0 0 10)) 28 (va_cpy (h 81) (h 28) 0 0 10)) 29 (va_cpy (h 82) (h 29) 0 0 10)) 30 (va_cpy (h 83) (h 30) 0 0 10))) C dX5_copyFrom_92 k5_70 v_X11_copyRow rfl rfl (by decide) (Nat.zero_le _) (Nat.zero_le _) (Nat.le_of_ble_eq_true rfl) (c_X11_copyRow hR 83 30 10 bn_83 sh_83 bn_30 sh_30 (by decide)) ?_
  refine am_aload_n (pc := 95) C dX5_copyFrom_95 rfl ?_
  refine am_getR (pc := 96) (j := 84) C dX5_copyFrom_96 f5_31 bn_78 sh_78 (rf_78_10 hR) ?_
  refine am_aload_n (pc := 99) C dX5_copyFrom_99 rfl ?_
  refine am_getR (pc := 100) (j := 31) C dX5_copyFrom_100 f5_31 bn_25 sh_25 (rf_25_10 hR) ?_
  refine am_callSNv (Y := mX11_copyRow) (pc := 103) (st := []) (As := [.ref 84, .ref 31]) (h2 := (am_row (am_row (am_row (am_row (am_row (am_row (am_row h 25 (upd (upd (upd (upd (upd (h 25) 0 ((h 78) 0)) 1 ((h 78) 1)) 2 ((h 78) 2)) 3 ((h 78) 3)) 4 ((h 78) 4))) 26 (va_cpy (h 79) (h 26) 0 0 10)) 27 (va_cpy (h 80) (h 27) 0 0 10)) 28 (va_cpy (h 81) (h 28) 0 0 10)) 29 (va_cpy (h 82) (h 29) 0 0 10)) 30 (va_cpy (h 83) (h 30) 0 0 10)) 31 (va_cpy (h 84) (h 31) 0 0 120))) C dX5_copyFrom_103 k5_70 v_X11_copyRow rfl rfl (by decide) (Nat.zero_le _) (Nat.zero_le _) (Nat.le_of_ble_eq_true rfl) (c_X11_copyRow hR 84 31 120 bn_84 sh_84 bn_31 sh_31 (by decide)) ?_
  refine am_aload_n (pc := 106) C dX5_copyFrom_106 rfl ?_
  refine am_getR (pc := 107) (j := 85) C dX5_copyFrom_107 f5_34 bn_78 sh_78 (rf_78_11 hR) ?_
  refine am_aload_n (pc := 110) C dX5_copyFrom_110 rfl ?_
  refine am_getR (pc := 111) (j := 32) C dX5_copyFrom_111 f5_34 bn_25 sh_25 (rf_25_11 hR) ?_
  refine am_callSNv (Y := mX11_copyRow) (pc := 114) (st := []) (As := [.ref 85, .ref 32]) (h2 := (am_row (am_row (am_row (am_row (am_row (am_row (am_row (am_row h 25 (upd (upd (upd (upd (upd (h 25) 0 ((h 78) 0)) 1 ((h 78) 1)) 2 ((h 78) 2)) 3 ((h 78) 3)) 4 ((h 78) 4))) 26 (va_cpy (h 79) (h 26) 0 0 10)) 27 (va_cpy (h 80) (h 27) 0 0 10)) 28 (va_cpy (h 81) (h 28) 0 0 10)) 29 (va_cpy (h 82) (h 29) 0 0 10)) 30 (va_cpy (h 83) (h 30) 0 0 10)) 31 (va_cpy (h 84) (h 31) 0 0 120)) 32 (va_cpy (h 85) (h 32) 0 0 40))) C dX5_copyFrom_114 k5_70 v_X11_copyRow rfl rfl (by decide) (Nat.zero_le _) (Nat.zero_le _) (Nat.le_of_ble_eq_true rfl) (c_X11_copyRow hR 85 32 40 bn_85 sh_85 bn_32 sh_32 (by decide)) ?_
  refine am_aload_n (pc := 117) C dX5_copyFrom_117 rfl ?_
  refine am_getR (pc := 118) (j := 86) C dX5_copyFrom_118 f5_37 bn_78 sh_78 (rf_78_12 hR) ?_
  refine am_aload_n (pc := 121) C dX5_copyFrom_121 rfl ?_
  refine am_getR (pc := 122) (j := 33) C dX5_copyFrom_122 f5_37 bn_25 sh_25 (rf_25_12 hR) ?_
  refine am_callSNv (Y := mX11_copyRow) (pc := 125) (st := []) (As := [.ref 86, .ref 33]) (h2 := (am_row (am_row (am_row (am_row (am_row (am_row (am_row (am_row (am_row h 25 (upd (upd (upd (upd (upd (h 25) 0 ((h 78) 0)) 1 ((h 78) 1)) 2 ((h 78) 2)) 3 ((h 78) 3)) 4 ((h 78) 4))) 26 (va_cpy (h 79) (h 26) 0 0 10)) 27 (va_cpy (h 80) (h 27) 0 0 10)) 28 (va_cpy (h 81) (h 28) 0 0 10)) 29 (va_cpy (h 82) (h 29) 0 0 10)) 30 (va_cpy (h 83) (h 30) 0 0 10)) 31 (va_cpy (h 84) (h 31) 0 0 120)) 32 (va_cpy (h 85) (h 32) 0 0 40)) 33 (va_cpy (h 86) (h 33) 0 0 40))) C dX5_copyFrom_125 k5_70 v_X11_copyRow rfl rfl (by decide) (Nat.zero_le _) (Nat.zero_le _) (Nat.le_of_ble_eq_true rfl) (c_X11_copyRow hR 86 33 40 bn_86 sh_86 bn_33 sh_33 (by decide)) ?_
  refine am_aload_n (pc := 128) C dX5_copyFrom_128 rfl ?_
  refine am_getR (pc := 129) (j := 87) C dX5_copyFrom_129 f5_40 bn_78 sh_78 (rf_78_13 hR) ?_
  refine am_aload_n (pc := 132) C dX5_copyFrom_132 rfl ?_
  refine am_getR (pc := 133) (j := 34) C dX5_copyFrom_133 f5_40 bn_25 sh_25 (rf_25_13 hR) ?_
  refine am_callSNv (Y := mX11_copyRow) (pc := 136) (st := []) (As := [.ref 87, .ref 34]) (h2 := (am_row (am_row (am_row (am_row (am_row (am_row (am_row (am_row (am_row (am_row h 25 (upd (upd (upd (upd (upd (h 25) 0 ((h 78) 0)) 1 ((h 78) 1)) 2 ((h 78) 2)) 3 ((h 78) 3)) 4 ((h 78) 4))) 26 (va_cpy (h 79) (h 26) 0 0 10)) 27 (va_cpy (h 80) (h 27) 0 0 10)) 28 (va_cpy (h 81) (h 28) 0 0 10)) 29 (va_cpy (h 82) (h 29) 0 0 10)) 30 (va_cpy (h 83) (h 30) 0 0 10)) 31 (va_cpy (h 84) (h 31) 0 0 120)) 32 (va_cpy (h 85) (h 32) 0 0 40)) 33 (va_cpy (h 86) (h 33) 0 0 40)) 34 (va_cpy (h 87) (h 34) 0 0 40))) C dX5_copyFrom_136 k5_70 v_X11_copyRow rfl rfl (by decide) (Nat.zero_le _) (Nat.zero_le _) (Nat.le_of_ble_eq_true rfl) (c_X11_copyRow hR 87 34 40 bn_87 sh_87 bn_34 sh_34 (by decide)) ?_
  refine am_aload_n (pc := 139) C dX5_copyFrom_139 rfl ?_
  refine am_getR (pc := 140) (j := 88) C dX5_copyFrom_140 f5_43 bn_78 sh_78 (rf_78_14 hR) ?_
  refine am_aload_n (pc := 143) C dX5_copyFrom_143 rfl ?_
  refine am_getR (pc := 144) (j := 35) C dX5_copyFrom_144 f5_43 bn_25 sh_25 (rf_25_14 hR) ?_
  refine am_callSNv (Y := mX11_copyRow) (pc := 147) (st := []) (As := [.ref 88, .ref 35]) (h2 := (am_row (am_row (am_row (am_row (am_row (am_row (am_row (am_row (am_row (am_row (am_row h 25 (upd (upd (upd (upd (upd (h 25) 0 ((h 78) 0)) 1 ((h 78) 1)) 2 ((h 78) 2)) 3 ((h 78) 3)) 4 ((h 78) 4))) 26 (va_cpy (h 79) (h 26) 0 0 10)) 27 (va_cpy (h 80) (h 27) 0 0 10)) 28 (va_cpy (h 81) (h 28) 0 0 10)) 29 (va_cpy (h 82) (h 29) 0 0 10)) 30 (va_cpy (h 83) (h 30) 0 0 10)) 31 (va_cpy (h 84) (h 31) 0 0 120)) 32 (va_cpy (h 85) (h 32) 0 0 40)) 33 (va_cpy (h 86) (h 33) 0 0 40)) 34 (va_cpy (h 87) (h 34) 0 0 40)) 35 (va_cpy (h 88) (h 35) 0 0 60))) C dX5_copyFrom_147 k5_70 v_X11_copyRow rfl rfl (by decide) (Nat.zero_le _) (Nat.zero_le _) (Nat.le_of_ble_eq_true rfl) (c_X11_copyRow hR 88 35 60 bn_88 sh_88 bn_35 sh_35 (by decide)) ?_
  refine am_aload_n (pc := 150) C dX5_copyFrom_150 rfl ?_
  refine am_getR (pc := 151) (j := 89) C dX5_copyFrom_151 f5_46 bn_78 sh_78 (rf_78_15 hR) ?_
  refine am_aload_n (pc := 154) C dX5_copyFrom_154 rfl ?_
  refine am_getR (pc := 155) (j := 36) C dX5_copyFrom_155 f5_46 bn_25 sh_25 (rf_25_15 hR) ?_
  refine am_callSNv (Y := mX11_copyRow) (pc := 158) (st := []) (As := [.ref 89, .ref 36]) (h2 := (am_row (am_row (am_row (am_row (am_row (am_row (am_row (am_row (am_row (am_row (am_row (am_row h 25 (upd (upd (upd (upd (upd (h 25) 0 ((h 78) 0)) 1 ((h 78) 1)) 2 ((h 78) 2)) 3 ((h 78) 3)) 4 ((h 78) 4))) 26 (va_cpy (h 79) (h 26) 0 0 10)) 27 (va_cpy (h 80) (h 27) 0 0 10)) 28 (va_cpy (h 81) (h 28) 0 0 10)) 29 (va_cpy (h 82) (h 29) 0 0 10)) 30 (va_cpy (h 83) (h 30) 0 0 10)) 31 (va_cpy (h 84) (h 31) 0 0 120)) 32 (va_cpy (h 85) (h 32) 0 0 40)) 33 (va_cpy (h 86) (h 33) 0 0 40)) 34 (va_cpy (h 87) (h 34) 0 0 40)) 35 (va_cpy (h 88) (h 35) 0 0 60)) 36 (va_cpy (h 89) (h 36) 0 0 60))) C dX5_copyFrom_158 k5_70 v_X11_copyRow rfl rfl (by decide) (Nat.zero_le _) (Nat.zero_le _) (Nat.le_of_ble_eq_true rfl) (c_X11_copyRow hR 89 36 60 bn_89 sh_89 bn_36 sh_36 (by decide)) ?_
  refine am_aload_n (pc := 161) C dX5_copyFrom_161 rfl ?_
  refine am_getR (pc := 162) (j := 90) C dX5_copyFrom_162 f5_49 bn_78 sh_78 (rf_78_16 hR) ?_
  refine am_aload_n (pc := 165) C dX5_copyFrom_165 rfl ?_
  refine am_getR (pc := 166) (j := 37) C dX5_copyFrom_166 f5_49 bn_25 sh_25 (rf_25_16 hR) ?_
  refine am_callSNv (Y := mX11_copyRow) (pc := 169) (st := []) (As := [.ref 90, .ref 37]) (h2 := (am_row (am_row (am_row (am_row (am_row (am_row (am_row (am_row (am_row (am_row (am_row (am_row (am_row h 25 (upd (upd (upd (upd (upd (h 25) 0 ((h 78) 0)) 1 ((h 78) 1)) 2 ((h 78) 2)) 3 ((h 78) 3)) 4 ((h 78) 4))) 26 (va_cpy (h 79) (h 26) 0 0 10)) 27 (va_cpy (h 80) (h 27) 0 0 10)) 28 (va_cpy (h 81) (h 28) 0 0 10)) 29 (va_cpy (h 82) (h 29) 0 0 10)) 30 (va_cpy (h 83) (h 30) 0 0 10)) 31 (va_cpy (h 84) (h 31) 0 0 120)) 32 (va_cpy (h 85) (h 32) 0 0 40)) 33 (va_cpy (h 86) (h 33) 0 0 40)) 34 (va_cpy (h 87) (h 34) 0 0 40)) 35 (va_cpy (h 88) (h 35) 0 0 60)) 36 (va_cpy (h 89) (h 36) 0 0 60)) 37 (va_cpy (h 90) (h 37) 0 0 60))) C dX5_copyFrom_169 k5_70 v_X11_copyRow rfl rfl (by decide) (Nat.zero_le _) (Nat.zero_le _) (Nat.le_of_ble_eq_true rfl) (c_X11_copyRow hR 90 37 60 bn_90 sh_90 bn_37 sh_37 (by decide)) ?_
  refine am_aload_n (pc := 172) C dX5_copyFrom_172 rfl ?_
  refine am_getR (pc := 173) (j := 91) C dX5_copyFrom_173 f5_52 bn_78 sh_78 (rf_78_17 hR) ?_
  refine am_aload_n (pc := 176) C dX5_copyFrom_176 rfl ?_
  refine am_getR (pc := 177) (j := 38) C dX5_copyFrom_177 f5_52 bn_25 sh_25 (rf_25_17 hR) ?_
  refine am_callSNv (Y := mX11_copyRow) (pc := 180) (st := []) (As := [.ref 91, .ref 38]) (h2 := (am_row (am_row (am_row (am_row (am_row (am_row (am_row (am_row (am_row (am_row (am_row (am_row (am_row (am_row h 25 (upd (upd (upd (upd (upd (h 25) 0 ((h 78) 0)) 1 ((h 78) 1)) 2 ((h 78) 2)) 3 ((h 78) 3)) 4 ((h 78) 4))) 26 (va_cpy (h 79) (h 26) 0 0 10)) 27 (va_cpy (h 80) (h 27) 0 0 10)) 28 (va_cpy (h 81) (h 28) 0 0 10)) 29 (va_cpy (h 82) (h 29) 0 0 10)) 30 (va_cpy (h 83) (h 30) 0 0 10)) 31 (va_cpy (h 84) (h 31) 0 0 120)) 32 (va_cpy (h 85) (h 32) 0 0 40)) 33 (va_cpy (h 86) (h 33) 0 0 40)) 34 (va_cpy (h 87) (h 34) 0 0 40)) 35 (va_cpy (h 88) (h 35) 0 0 60)) 36 (va_cpy (h 89) (h 36) 0 0 60)) 37 (va_cpy (h 90) (h 37) 0 0 60)) 38 (va_cpy (h 91) (h 38) 0 0 60))) C dX5_copyFrom_180 k5_70 v_X11_copyRow rfl rfl (by decide) (Nat.zero_le _) (Nat.zero_le _) (Nat.le_of_ble_eq_true rfl) (c_X11_copyRow hR 91 38 60 bn_91 sh_91 bn_38 sh_38 (by decide)) ?_
  refine am_aload_n (pc := 183) C dX5_copyFrom_183 rfl ?_
  refine am_getR (pc := 184) (j := 92) C dX5_copyFrom_184 f5_55 bn_78 sh_78 (rf_78_18 hR) ?_
  refine am_aload_n (pc := 187) C dX5_copyFrom_187 rfl ?_
  refine am_getR (pc := 188) (j := 39) C dX5_copyFrom_188 f5_55 bn_25 sh_25 (rf_25_18 hR) ?_
  refine am_callSNv (Y := mX11_copyRow) (pc := 191) (st := []) (As := [.ref 92, .ref 39]) (h2 := (am_row (am_row (am_row (am_row (am_row (am_row (am_row (am_row (am_row (am_row (am_row (am_row (am_row (am_row (am_row h 25 (upd (upd (upd (upd (upd (h 25) 0 ((h 78) 0)) 1 ((h 78) 1)) 2 ((h 78) 2)) 3 ((h 78) 3)) 4 ((h 78) 4))) 26 (va_cpy (h 79) (h 26) 0 0 10)) 27 (va_cpy (h 80) (h 27) 0 0 10)) 28 (va_cpy (h 81) (h 28) 0 0 10)) 29 (va_cpy (h 82) (h 29) 0 0 10)) 30 (va_cpy (h 83) (h 30) 0 0 10)) 31 (va_cpy (h 84) (h 31) 0 0 120)) 32 (va_cpy (h 85) (h 32) 0 0 40)) 33 (va_cpy (h 86) (h 33) 0 0 40)) 34 (va_cpy (h 87) (h 34) 0 0 40)) 35 (va_cpy (h 88) (h 35) 0 0 60)) 36 (va_cpy (h 89) (h 36) 0 0 60)) 37 (va_cpy (h 90) (h 37) 0 0 60)) 38 (va_cpy (h 91) (h 38) 0 0 60)) 39 (va_cpy (h 92) (h 39) 0 0 60))) C dX5_copyFrom_191 k5_70 v_X11_copyRow rfl rfl (by decide) (Nat.zero_le _) (Nat.zero_le _) (Nat.le_of_ble_eq_true rfl) (c_X11_copyRow hR 92 39 60 bn_92 sh_92 bn_39 sh_39 (by decide)) ?_
  exact am_vretvr T dX5_copyFrom_194 rfl (Nat.le_refl _) (Nat.le_refl _) rfl ⟨cl_Sc_cpy hV hSc rfl rfl rfl rfl rfl (fun k hk => va_cpy_0 hk) (fun k hk => va_cpy_0 hk) (fun k hk => va_cpy_0 hk) (fun k hk => va_cpy_0 hk) (fun k hk => va_cpy_0 hk) (fun k hk => va_cpy_0 hk) (fun k hk => va_cpy_0 hk) (fun k hk => va_cpy_0 hk) (fun k hk => va_cpy_0 hk) (fun k hk => va_cpy_0 hk) (fun k hk => va_cpy_0 hk) (fun k hk => va_cpy_0 hk) (fun k hk => va_cpy_0 hk) (fun k hk => va_cpy_0 hk), (fun i9 h9 => by rw [am_row_ne _ _ _ (by omega), am_row_ne _ _ _ (by omega), am_row_ne _ _ _ (by omega), am_row_ne _ _ _ (by omega), am_row_ne _ _ _ (by omega), am_row_ne _ _ _ (by omega), am_row_ne _ _ _ (by omega), am_row_ne _ _ _ (by omega), am_row_ne _ _ _ (by omega), am_row_ne _ _ _ (by omega), am_row_ne _ _ _ (by omega), am_row_ne _ _ _ (by omega), am_row_ne _ _ _ (by omega), am_row_ne _ _ _ (by omega), am_row_ne _ _ _ (by omega)])⟩

set_option maxHeartbeats 400000 in
set_option maxRecDepth 100000 in
theorem c_X10_copyFrom_nd {ad : Nat → Nat} {r : am_R} (hR : am_rs r) {h : am_H}  (w : rf_W) (hV : rf_I w) (hLo : cl_Lo (h) 57 w) (hSc : cl_Sc (h) 78 w) (hLw : rf_Lw w) (hA : cl_La (h) 70 w)  : am_CM mX10_copyFrom 4 0 0 [.ref 3, .ref 56] (am_VV ad) r h (am_pr none r (fun c9 => cl_Lo c9 4 w ∧ cl_La c9 17 w ∧ cl_Sc c9 25 w ∧ cl_fr (h) c9 4 36)) := by
  refine am_CM.of (by decide +kernel) (Nat.le_of_ble_eq_true rfl) (fun X C T => ?_)
  show am_G X (am_VV ad) (0, 0) 0 [(0, .ref 3), (1, .ref 56)] [] r h
  refine am_aload_n (pc := 0) C dX10_copyFrom_0 rfl ?_
  refine am_getR (pc := 1) (j := 4) C dX10_copyFrom_1 f10_9 bn_3 sh_3 (rf_3_0 hR) ?_
  refine am_aload_n (pc := 4) C dX10_copyFrom_4 rfl ?_
  refine am_getR (pc := 5) (j := 57) C dX10_copyFrom_5 f10_9 bn_56 sh_56 (rf_56_0 hR) ?_
  refine am_callVvr (Y := mX3_copyFrom) (pc := 8) (st := []) (As := [.ref 57]) (PP := fun c9 => cl_Lo c9 4 w ∧ cl_fr (h) c9 4 13) C dX10_copyFrom_8 k10_26 v_X3_copyFrom rfl rfl bn_4 sh_4 ⟨by decide, rfl⟩ (by decide) (Nat.zero_le _) (Nat.zero_le _) (Nat.le_of_ble_eq_true rfl) (c_X3_copyFrom_nd hR w (show rf_I w from hV) (show cl_Lo (h) 57 w from hLo)) (fun g8_0 hg8_0 => ?_)
  obtain ⟨L8, F8⟩ := hg8_0
  refine am_aload_n (pc := 11) C dX10_copyFrom_11 rfl ?_
  refine am_getR (pc := 12) (j := 17) C dX10_copyFrom_12 f10_15 bn_3 sh_3 (rf_3_1 hR) ?_
  refine am_aload_n (pc := 15) C dX10_copyFrom_15 rfl ?_
  refine am_getR (pc := 16) (j := 70) C dX10_copyFrom_16 f10_15 bn_56 sh_56 (rf_56_1 hR) ?_
  refine am_callVvr (Y := mX1_copyFrom) (pc := 19) (st := []) (As := [.ref 70]) (PP := fun c9 => cl_La c9 17 w ∧ cl_fr (g8_0) c9 17 6) C dX10_copyFrom_19 k10_32 v_X1_copyFrom rfl rfl bn_17 sh_17 ⟨by decide, rfl⟩ (by decide) (Nat.zero_le _) (Nat.zero_le _) (Nat.le_of_ble_eq_true rfl) (c_X1_copyFrom_nd hR w (show rf_Lw w from hLw) (show cl_La (g8_0) 70 w from (cl_La_eq (fun i a b => F8 i (by omega)) hA))) (fun g19_1 hg19_1 => ?_)
  obtain ⟨A19, F19⟩ := hg19_1
  refine am_aload_n (pc := 22) C dX10_copyFrom_22 rfl ?_
  refine am_getR (pc := 23) (j := 25) C dX10_copyFrom_23 f10_22 bn_3 sh_3 (rf_3_2 hR) ?_
  refine am_aload_n (pc := 26) C dX10_copyFrom_26 rfl ?_
  refine am_getR (pc := 27) (j := 78) C dX10_copyFrom_27 f10_22 bn_56 sh_56 (rf_56_2 hR) ?_
  refine am_callVvr (Y := mX5_copyFrom) (pc := 30) (st := []) (As := [.ref 78]) (PP := fun c9 => cl_Sc c9 25 w ∧ cl_fr (g19_1) c9 25 15) C dX10_copyFrom_30 k10_37 v_X5_copyFrom rfl rfl bn_25 sh_25 ⟨by decide, rfl⟩ (by decide) (Nat.zero_le _) (Nat.zero_le _) (Nat.le_of_ble_eq_true rfl) (c_X5_copyFrom_d_nd hR w (show rf_I w from hV) (show cl_Sc (g19_1) 78 w from (cl_Sc_eq (fun i a b => (F19 i (by omega)).trans (F8 i (by omega))) hSc))) (fun g30_2 hg30_2 => ?_)
  obtain ⟨S30, F30⟩ := hg30_2
  exact am_vretvr T dX10_copyFrom_33 rfl (Nat.le_refl _) (Nat.le_refl _) rfl ⟨cl_Lo_eq (fun i a b => (F30 i (by omega)).trans (F19 i (by omega))) L8, cl_La_eq (fun i a b => F30 i (by omega)) A19, S30, (fun i h9 => (F30 i (by omega)).trans ((F19 i (by omega)).trans (F8 i (by omega))))⟩

set_option maxHeartbeats 400000 in
set_option maxRecDepth 100000 in
theorem c_X3_copyFrom_kn {ad : Nat → Nat} {r : am_R} (hR : am_rs r) {h : am_H}  (w : rf_W) (hV : rf_I w) (hLo : cl_Lo (h) 4 w)  : am_CM mX3_copyFrom 3 0 0 [.ref 94, .ref 4] (am_VV ad) r h (am_pr none r (fun c9 => cl_Lo c9 94 w ∧ cl_fr (h) c9 94 13)) := by
  refine am_CM.of (by decide +kernel) (Nat.le_of_ble_eq_true rfl) (fun X C T => ?_)
  show am_G X (am_VV ad) (0, 0) 0 [(0, .ref 94), (1, .ref 4)] [] r h
  refine am_aload_n (pc := 0) C dX3_copyFrom_0 rfl ?_
  refine am_aload_n (pc := 1) C dX3_copyFrom_1 rfl ?_
  refine am_getI (pc := 2) C dX3_copyFrom_2 f3_48 bn_4 sh_4 ?_
  refine am_putI (pc := 5) C dX3_copyFrom_5 f3_48 bn_94 sh_94 rfl rfl ?_
  refine am_hp (show am_up h 94 0 ((h 4) 0) = am_row h 94 (upd (h 94) 0 ((h 4) 0)) from am_up_rw _ _ _ _) ?_
  refine am_aload_n (pc := 8) C dX3_copyFrom_8 rfl ?_
  refine am_aload_n (pc := 9) C dX3_copyFrom_9 rfl ?_
  refine am_getI (pc := 10) C dX3_copyFrom_10 f3_52 bn_4 sh_4 ?_
  refine am_putI (pc := 13) C dX3_copyFrom_13 f3_52 bn_94 sh_94 rfl rfl ?_
  refine am_hp (show am_up (am_row h 94 (upd (h 94) 0 ((h 4) 0))) 94 1 ((h 4) 1) = am_row (am_row h 94 (upd (h 94) 0 ((h 4) 0))) 94 (upd (upd (h 94) 0 ((h 4) 0)) 1 ((h 4) 1)) from am_up_rw _ _ _ _) ?_
  refine am_hp (show am_row (am_row h 94 (upd (h 94) 0 ((h 4) 0))) 94 (upd (upd (h 94) 0 ((h 4) 0)) 1 ((h 4) 1)) = (am_row h 94 (upd (upd (h 94) 0 ((h 4) 0)) 1 ((h 4) 1))) from am_row_s0) ?_
  refine am_aload_n (pc := 16) C dX3_copyFrom_16 rfl ?_
  refine am_aload_n (pc := 17) C dX3_copyFrom_17 rfl ?_
  refine am_getI (pc := 18) C dX3_copyFrom_18 f3_55 bn_4 sh_4 ?_
  refine am_putI (pc := 21) C dX3_copyFrom_21 f3_55 bn_94 sh_94 rfl rfl ?_
  refine am_hp (show am_up (am_row h 94 (upd (upd (h 94) 0 ((h 4) 0)) 1 ((h 4) 1))) 94 2 ((h 4) 2) = am_row (am_row h 94 (upd (upd (h 94) 0 ((h 4) 0)) 1 ((h 4) 1))) 94 (upd (upd (upd (h 94) 0 ((h 4) 0)) 1 ((h 4) 1)) 2 ((h 4) 2)) from am_up_rw _ _ _ _) ?_
  refine am_hp (show am_row (am_row h 94 (upd (upd (h 94) 0 ((h 4) 0)) 1 ((h 4) 1))) 94 (upd (upd (upd (h 94) 0 ((h 4) 0)) 1 ((h 4) 1)) 2 ((h 4) 2)) = (am_row h 94 (upd (upd (upd (h 94) 0 ((h 4) 0)) 1 ((h 4) 1)) 2 ((h 4) 2))) from am_row_s0) ?_
  refine am_aload_n (pc := 24) C dX3_copyFrom_24 rfl ?_
  refine am_aload_n (pc := 25) C dX3_copyFrom_25 rfl ?_
  refine am_getI (pc := 26) C dX3_copyFrom_26 f3_58 bn_4 sh_4 ?_
  refine am_putI (pc := 29) C dX3_copyFrom_29 f3_58 bn_94 sh_94 rfl rfl ?_
  refine am_hp (show am_up (am_row h 94 (upd (upd (upd (h 94) 0 ((h 4) 0)) 1 ((h 4) 1)) 2 ((h 4) 2))) 94 3 ((h 4) 3) = am_row (am_row h 94 (upd (upd (upd (h 94) 0 ((h 4) 0)) 1 ((h 4) 1)) 2 ((h 4) 2))) 94 (upd (upd (upd (upd (h 94) 0 ((h 4) 0)) 1 ((h 4) 1)) 2 ((h 4) 2)) 3 ((h 4) 3)) from am_up_rw _ _ _ _) ?_
  refine am_hp (show am_row (am_row h 94 (upd (upd (upd (h 94) 0 ((h 4) 0)) 1 ((h 4) 1)) 2 ((h 4) 2))) 94 (upd (upd (upd (upd (h 94) 0 ((h 4) 0)) 1 ((h 4) 1)) 2 ((h 4) 2)) 3 ((h 4) 3)) = (am_row h 94 (upd (upd (upd (upd (h 94) 0 ((h 4) 0)) 1 ((h 4) 1)) 2 ((h 4) 2)) 3 ((h 4) 3))) from am_row_s0) ?_
  refine am_aload_n (pc := 32) C dX3_copyFrom_32 rfl ?_
  refine am_getR (pc := 33) (j := 5) C dX3_copyFrom_33 f3_9 bn_4 sh_4 (rf_4_4 hR) ?_
  refine am_aload_n (pc := 36) C dX3_copyFrom_36 rfl ?_
  refine am_getR (pc := 37) (j := 95) C dX3_copyFrom_37 f3_9 bn_94 sh_94 (rf_94_4 hR) ?_
  refine am_callSNv (Y := mX11_copyRow) (pc := 40) (st := []) (As := [.ref 5, .ref 95]) (h2 := (am_row (am_row h 94 (upd (upd (upd (upd (h 94) 0 ((h 4) 0)) 1 ((h 4) 1)) 2 ((h 4) 2)) 3 ((h 4) 3))) 95 (va_cpy (h 5) (h 95) 0 0 16))) C dX3_copyFrom_40 k3_61 v_X11_copyRow rfl rfl (by decide) (Nat.zero_le _) (Nat.zero_le _) (Nat.le_of_ble_eq_true rfl) (c_X11_copyRow hR 5 95 16 bn_5 sh_5 bn_95 sh_95 (by decide)) ?_
  refine am_aload_n (pc := 43) C dX3_copyFrom_43 rfl ?_
  refine am_getR (pc := 44) (j := 6) C dX3_copyFrom_44 f3_15 bn_4 sh_4 (rf_4_5 hR) ?_
  refine am_aload_n (pc := 47) C dX3_copyFrom_47 rfl ?_
  refine am_getR (pc := 48) (j := 96) C dX3_copyFrom_48 f3_15 bn_94 sh_94 (rf_94_5 hR) ?_
  refine am_callSNv (Y := mX11_copyRow) (pc := 51) (st := []) (As := [.ref 6, .ref 96]) (h2 := (am_row (am_row (am_row h 94 (upd (upd (upd (upd (h 94) 0 ((h 4) 0)) 1 ((h 4) 1)) 2 ((h 4) 2)) 3 ((h 4) 3))) 95 (va_cpy (h 5) (h 95) 0 0 16)) 96 (va_cpy (h 6) (h 96) 0 0 16))) C dX3_copyFrom_51 k3_61 v_X11_copyRow rfl rfl (by decide) (Nat.zero_le _) (Nat.zero_le _) (Nat.le_of_ble_eq_true rfl) (c_X11_copyRow hR 6 96 16 bn_6 sh_6 bn_96 sh_96 (by decide)) ?_
  refine am_aload_n (pc := 54) C dX3_copyFrom_54 rfl ?_
  refine am_getR (pc := 55) (j := 7) C dX3_copyFrom_55 f3_18 bn_4 sh_4 (rf_4_6 hR) ?_
  refine am_aload_n (pc := 58) C dX3_copyFrom_58 rfl ?_
  refine am_getR (pc := 59) (j := 97) C dX3_copyFrom_59 f3_18 bn_94 sh_94 (rf_94_6 hR) ?_
  refine am_callSNv (Y := mX11_copyRow) (pc := 62) (st := []) (As := [.ref 7, .ref 97]) (h2 := (am_row (am_row (am_row (am_row h 94 (upd (upd (upd (upd (h 94) 0 ((h 4) 0)) 1 ((h 4) 1)) 2 ((h 4) 2)) 3 ((h 4) 3))) 95 (va_cpy (h 5) (h 95) 0 0 16)) 96 (va_cpy (h 6) (h 96) 0 0 16)) 97 (va_cpy (h 7) (h 97) 0 0 16))) C dX3_copyFrom_62 k3_61 v_X11_copyRow rfl rfl (by decide) (Nat.zero_le _) (Nat.zero_le _) (Nat.le_of_ble_eq_true rfl) (c_X11_copyRow hR 7 97 16 bn_7 sh_7 bn_97 sh_97 (by decide)) ?_
  refine am_aload_n (pc := 65) C dX3_copyFrom_65 rfl ?_
  refine am_getR (pc := 66) (j := 8) C dX3_copyFrom_66 f3_21 bn_4 sh_4 (rf_4_7 hR) ?_
  refine am_aload_n (pc := 69) C dX3_copyFrom_69 rfl ?_
  refine am_getR (pc := 70) (j := 98) C dX3_copyFrom_70 f3_21 bn_94 sh_94 (rf_94_7 hR) ?_
  refine am_callSNv (Y := mX11_copyRow) (pc := 73) (st := []) (As := [.ref 8, .ref 98]) (h2 := (am_row (am_row (am_row (am_row (am_row h 94 (upd (upd (upd (upd (h 94) 0 ((h 4) 0)) 1 ((h 4) 1)) 2 ((h 4) 2)) 3 ((h 4) 3))) 95 (va_cpy (h 5) (h 95) 0 0 16)) 96 (va_cpy (h 6) (h 96) 0 0 16)) 97 (va_cpy (h 7) (h 97) 0 0 16)) 98 (va_cpy (h 8) (h 98) 0 0 16))) C dX3_copyFrom_73 k3_61 v_X11_copyRow rfl rfl (by decide) (Nat.zero_le _) (Nat.zero_le _) (Nat.le_of_ble_eq_true rfl) (c_X11_copyRow hR 8 98 16 bn_8 sh_8 bn_98 sh_98 (by decide)) ?_
  refine am_aload_n (pc := 76) C dX3_copyFrom_76 rfl ?_
  refine am_getR (pc := 77) (j := 9) C dX3_copyFrom_77 f3_24 bn_4 sh_4 (rf_4_8 hR) ?_
  refine am_aload_n (pc := 80) C dX3_copyFrom_80 rfl ?_
  refine am_getR (pc := 81) (j := 99) C dX3_copyFrom_81 f3_24 bn_94 sh_94 (rf_94_8 hR) ?_
  refine am_callSNv (Y := mX11_copyRow) (pc := 84) (st := []) (As := [.ref 9, .ref 99]) (h2 := (am_row (am_row (am_row (am_row (am_row (am_row h 94 (upd (upd (upd (upd (h 94) 0 ((h 4) 0)) 1 ((h 4) 1)) 2 ((h 4) 2)) 3 ((h 4) 3))) 95 (va_cpy (h 5) (h 95) 0 0 16)) 96 (va_cpy (h 6) (h 96) 0 0 16)) 97 (va_cpy (h 7) (h 97) 0 0 16)) 98 (va_cpy (h 8) (h 98) 0 0 16)) 99 (va_cpy (h 9) (h 99) 0 0 16))) C dX3_copyFrom_84 k3_61 v_X11_copyRow rfl rfl (by decide) (Nat.zero_le _) (Nat.zero_le _) (Nat.le_of_ble_eq_true rfl) (c_X11_copyRow hR 9 99 16 bn_9 sh_9 bn_99 sh_99 (by decide)) ?_
  refine am_aload_n (pc := 87) C dX3_copyFrom_87 rfl ?_
  refine am_getR (pc := 88) (j := 10) C dX3_copyFrom_88 f3_27 bn_4 sh_4 (rf_4_9 hR) ?_
  refine am_aload_n (pc := 91) C dX3_copyFrom_91 rfl ?_
  refine am_getR (pc := 92) (j := 100) C dX3_copyFrom_92 f3_27 bn_94 sh_94 (rf_94_9 hR) ?_
  refine am_callSNv (Y := mX11_copyRow) (pc := 95) (st := []) (As := [.ref 10, .ref 100]) (h2 := (am_row (am_row (am_row (am_row (am_row (am_row (am_row h 94 (upd (upd (upd (upd (h 94) 0 ((h 4) 0)) 1 ((h 4) 1)) 2 ((h 4) 2)) 3 ((h 4) 3))) 95 (va_cpy (h 5) (h 95) 0 0 16)) 96 (va_cpy (h 6) (h 96) 0 0 16)) 97 (va_cpy (h 7) (h 97) 0 0 16)) 98 (va_cpy (h 8) (h 98) 0 0 16)) 99 (va_cpy (h 9) (h 99) 0 0 16)) 100 (va_cpy (h 10) (h 100) 0 0 10))) C dX3_copyFrom_95 k3_61 v_X11_copyRow rfl rfl (by decide) (Nat.zero_le _) (Nat.zero_le _) (Nat.le_of_ble_eq_true rfl) (c_X11_copyRow hR 10 100 10 bn_10 sh_10 bn_100 sh_100 (by decide)) ?_
  refine am_aload_n (pc := 98) C dX3_copyFrom_98 rfl ?_
  refine am_getR (pc := 99) (j := 11) C dX3_copyFrom_99 f3_30 bn_4 sh_4 (rf_4_10 hR) ?_
  refine am_aload_n (pc := 102) C dX3_copyFrom_102 rfl ?_
  refine am_getR (pc := 103) (j := 101) C dX3_copyFrom_103 f3_30 bn_94 sh_94 (rf_94_10 hR) ?_
  refine am_callSNv (Y := mX11_copyRow) (pc := 106) (st := []) (As := [.ref 11, .ref 101]) (h2 := (am_row (am_row (am_row (am_row (am_row (am_row (am_row (am_row h 94 (upd (upd (upd (upd (h 94) 0 ((h 4) 0)) 1 ((h 4) 1)) 2 ((h 4) 2)) 3 ((h 4) 3))) 95 (va_cpy (h 5) (h 95) 0 0 16)) 96 (va_cpy (h 6) (h 96) 0 0 16)) 97 (va_cpy (h 7) (h 97) 0 0 16)) 98 (va_cpy (h 8) (h 98) 0 0 16)) 99 (va_cpy (h 9) (h 99) 0 0 16)) 100 (va_cpy (h 10) (h 100) 0 0 10)) 101 (va_cpy (h 11) (h 101) 0 0 10))) C dX3_copyFrom_106 k3_61 v_X11_copyRow rfl rfl (by decide) (Nat.zero_le _) (Nat.zero_le _) (Nat.le_of_ble_eq_true rfl) (c_X11_copyRow hR 11 101 10 bn_11 sh_11 bn_101 sh_101 (by decide)) ?_
  refine am_aload_n (pc := 109) C dX3_copyFrom_109 rfl ?_
  refine am_getR (pc := 110) (j := 12) C dX3_copyFrom_110 f3_33 bn_4 sh_4 (rf_4_11 hR) ?_
  refine am_aload_n (pc := 113) C dX3_copyFrom_113 rfl ?_
  refine am_getR (pc := 114) (j := 102) C dX3_copyFrom_114 f3_33 bn_94 sh_94 (rf_94_11 hR) ?_
  refine am_callSNv (Y := mX11_copyRow) (pc := 117) (st := []) (As := [.ref 12, .ref 102]) (h2 := (am_row (am_row (am_row (am_row (am_row (am_row (am_row (am_row (am_row h 94 (upd (upd (upd (upd (h 94) 0 ((h 4) 0)) 1 ((h 4) 1)) 2 ((h 4) 2)) 3 ((h 4) 3))) 95 (va_cpy (h 5) (h 95) 0 0 16)) 96 (va_cpy (h 6) (h 96) 0 0 16)) 97 (va_cpy (h 7) (h 97) 0 0 16)) 98 (va_cpy (h 8) (h 98) 0 0 16)) 99 (va_cpy (h 9) (h 99) 0 0 16)) 100 (va_cpy (h 10) (h 100) 0 0 10)) 101 (va_cpy (h 11) (h 101) 0 0 10)) 102 (va_cpy (h 12) (h 102) 0 0 10))) C dX3_copyFrom_117 k3_61 v_X11_copyRow rfl rfl (by decide) (Nat.zero_le _) (Nat.zero_le _) (Nat.le_of_ble_eq_true rfl) (c_X11_copyRow hR 12 102 10 bn_12 sh_12 bn_102 sh_102 (by decide)) ?_
  refine am_aload_n (pc := 120) C dX3_copyFrom_120 rfl ?_
  refine am_getR (pc := 121) (j := 13) C dX3_copyFrom_121 f3_36 bn_4 sh_4 (rf_4_12 hR) ?_
  refine am_aload_n (pc := 124) C dX3_copyFrom_124 rfl ?_
  refine am_getR (pc := 125) (j := 103) C dX3_copyFrom_125 f3_36 bn_94 sh_94 (rf_94_12 hR) ?_
  refine am_callSNv (Y := mX11_copyRow) (pc := 128) (st := []) (As := [.ref 13, .ref 103]) (h2 := (am_row (am_row (am_row (am_row (am_row (am_row (am_row (am_row (am_row (am_row h 94 (upd (upd (upd (upd (h 94) 0 ((h 4) 0)) 1 ((h 4) 1)) 2 ((h 4) 2)) 3 ((h 4) 3))) 95 (va_cpy (h 5) (h 95) 0 0 16)) 96 (va_cpy (h 6) (h 96) 0 0 16)) 97 (va_cpy (h 7) (h 97) 0 0 16)) 98 (va_cpy (h 8) (h 98) 0 0 16)) 99 (va_cpy (h 9) (h 99) 0 0 16)) 100 (va_cpy (h 10) (h 100) 0 0 10)) 101 (va_cpy (h 11) (h 101) 0 0 10)) 102 (va_cpy (h 12) (h 102) 0 0 10)) 103 (va_cpy (h 13) (h 103) 0 0 60))) C dX3_copyFrom_128 k3_61 v_X11_copyRow rfl rfl (by decide) (Nat.zero_le _) (Nat.zero_le _) (Nat.le_of_ble_eq_true rfl) (c_X11_copyRow hR 13 103 60 bn_13 sh_13 bn_103 sh_103 (by decide)) ?_
  refine am_aload_n (pc := 131) C dX3_copyFrom_131 rfl ?_
  refine am_getR (pc := 132) (j := 14) C dX3_copyFrom_132 f3_39 bn_4 sh_4 (rf_4_13 hR) ?_
  refine am_aload_n (pc := 135) C dX3_copyFrom_135 rfl ?_
  refine am_getR (pc := 136) (j := 104) C dX3_copyFrom_136 f3_39 bn_94 sh_94 (rf_94_13 hR) ?_
  refine am_callSNv (Y := mX11_copyRow) (pc := 139) (st := []) (As := [.ref 14, .ref 104]) (h2 := (am_row (am_row (am_row (am_row (am_row (am_row (am_row (am_row (am_row (am_row (am_row h 94 (upd (upd (upd (upd (h 94) 0 ((h 4) 0)) 1 ((h 4) 1)) 2 ((h 4) 2)) 3 ((h 4) 3))) 95 (va_cpy (h 5) (h 95) 0 0 16)) 96 (va_cpy (h 6) (h 96) 0 0 16)) 97 (va_cpy (h 7) (h 97) 0 0 16)) 98 (va_cpy (h 8) (h 98) 0 0 16)) 99 (va_cpy (h 9) (h 99) 0 0 16)) 100 (va_cpy (h 10) (h 100) 0 0 10)) 101 (va_cpy (h 11) (h 101) 0 0 10)) 102 (va_cpy (h 12) (h 102) 0 0 10)) 103 (va_cpy (h 13) (h 103) 0 0 60)) 104 (va_cpy (h 14) (h 104) 0 0 10))) C dX3_copyFrom_139 k3_61 v_X11_copyRow rfl rfl (by decide) (Nat.zero_le _) (Nat.zero_le _) (Nat.le_of_ble_eq_true rfl) (c_X11_copyRow hR 14 104 10 bn_14 sh_14 bn_104 sh_104 (by decide)) ?_
  refine am_aload_n (pc := 142) C dX3_copyFrom_142 rfl ?_
  refine am_getR (pc := 143) (j := 15) C dX3_copyFrom_143 f3_42 bn_4 sh_4 (rf_4_14 hR) ?_
  refine am_aload_n (pc := 146) C dX3_copyFrom_146 rfl ?_
  refine am_getR (pc := 147) (j := 105) C dX3_copyFrom_147 f3_42 bn_94 sh_94 (rf_94_14 hR) ?_
  refine am_callSNv (Y := mX11_copyRow) (pc := 150) (st := []) (As := [.ref 15, .ref 105]) (h2 := (am_row (am_row (am_row (am_row (am_row (am_row (am_row (am_row (am_row (am_row (am_row (am_row h 94 (upd (upd (upd (upd (h 94) 0 ((h 4) 0)) 1 ((h 4) 1)) 2 ((h 4) 2)) 3 ((h 4) 3))) 95 (va_cpy (h 5) (h 95) 0 0 16)) 96 (va_cpy (h 6) (h 96) 0 0 16)) 97 (va_cpy (h 7) (h 97) 0 0 16)) 98 (va_cpy (h 8) (h 98) 0 0 16)) 99 (va_cpy (h 9) (h 99) 0 0 16)) 100 (va_cpy (h 10) (h 100) 0 0 10)) 101 (va_cpy (h 11) (h 101) 0 0 10)) 102 (va_cpy (h 12) (h 102) 0 0 10)) 103 (va_cpy (h 13) (h 103) 0 0 60)) 104 (va_cpy (h 14) (h 104) 0 0 10)) 105 (va_cpy (h 15) (h 105) 0 0 10))) C dX3_copyFrom_150 k3_61 v_X11_copyRow rfl rfl (by decide) (Nat.zero_le _) (Nat.zero_le _) (Nat.le_of_ble_eq_true rfl) (c_X11_copyRow hR 15 105 10 bn_15 sh_15 bn_105 sh_105 (by decide)) ?_
  refine am_aload_n (pc := 153) C dX3_copyFrom_153 rfl ?_
  refine am_getR (pc := 154) (j := 16) C dX3_copyFrom_154 f3_45 bn_4 sh_4 (rf_4_15 hR) ?_
  refine am_aload_n (pc := 157) C dX3_copyFrom_157 rfl ?_
  refine am_getR (pc := 158) (j := 106) C dX3_copyFrom_158 f3_45 bn_94 sh_94 (rf_94_15 hR) ?_
  refine am_callSNv (Y := mX11_copyRow) (pc := 161) (st := []) (As := [.ref 16, .ref 106]) (h2 := (am_row (am_row (am_row (am_row (am_row (am_row (am_row (am_row (am_row (am_row (am_row (am_row (am_row h 94 (upd (upd (upd (upd (h 94) 0 ((h 4) 0)) 1 ((h 4) 1)) 2 ((h 4) 2)) 3 ((h 4) 3))) 95 (va_cpy (h 5) (h 95) 0 0 16)) 96 (va_cpy (h 6) (h 96) 0 0 16)) 97 (va_cpy (h 7) (h 97) 0 0 16)) 98 (va_cpy (h 8) (h 98) 0 0 16)) 99 (va_cpy (h 9) (h 99) 0 0 16)) 100 (va_cpy (h 10) (h 100) 0 0 10)) 101 (va_cpy (h 11) (h 101) 0 0 10)) 102 (va_cpy (h 12) (h 102) 0 0 10)) 103 (va_cpy (h 13) (h 103) 0 0 60)) 104 (va_cpy (h 14) (h 104) 0 0 10)) 105 (va_cpy (h 15) (h 105) 0 0 10)) 106 (va_cpy (h 16) (h 106) 0 0 2))) C dX3_copyFrom_161 k3_61 v_X11_copyRow rfl rfl (by decide) (Nat.zero_le _) (Nat.zero_le _) (Nat.le_of_ble_eq_true rfl) (c_X11_copyRow hR 16 106 2 bn_16 sh_16 bn_106 sh_106 (by decide)) ?_
  exact am_vretvr T dX3_copyFrom_164 rfl (Nat.le_refl _) (Nat.le_refl _) rfl ⟨cl_Lo_cpy hV hLo rfl rfl rfl rfl (fun k hk => va_cpy_0 hk) (fun k hk => va_cpy_0 hk) (fun k hk => va_cpy_0 hk) (fun k hk => va_cpy_0 hk) (fun k hk => va_cpy_0 hk) (fun k hk => va_cpy_0 hk) (fun k hk => va_cpy_0 hk) (fun k hk => va_cpy_0 hk) (fun k hk => va_cpy_0 hk) (fun k hk => va_cpy_0 hk) (fun k hk => va_cpy_0 hk) (fun k hk => va_cpy_0 hk), (fun i9 h9 => by rw [am_row_ne _ _ _ (by omega), am_row_ne _ _ _ (by omega), am_row_ne _ _ _ (by omega), am_row_ne _ _ _ (by omega), am_row_ne _ _ _ (by omega), am_row_ne _ _ _ (by omega), am_row_ne _ _ _ (by omega), am_row_ne _ _ _ (by omega), am_row_ne _ _ _ (by omega), am_row_ne _ _ _ (by omega), am_row_ne _ _ _ (by omega), am_row_ne _ _ _ (by omega), am_row_ne _ _ _ (by omega)])⟩

set_option maxHeartbeats 400000 in
set_option maxRecDepth 100000 in
theorem c_X1_copyFrom_kn {ad : Nat → Nat} {r : am_R} (hR : am_rs r) {h : am_H}  (w : rf_W) (hLw : rf_Lw w) (hA : cl_La (h) 17 w)  : am_CM mX1_copyFrom 3 0 0 [.ref 107, .ref 17] (am_VV ad) r h (am_pr none r (fun c9 => cl_La c9 107 w ∧ cl_fr (h) c9 107 6)) := by
  refine am_CM.of (by decide +kernel) (Nat.le_of_ble_eq_true rfl) (fun X C T => ?_)
  show am_G X (am_VV ad) (0, 0) 0 [(0, .ref 107), (1, .ref 17)] [] r h
  refine am_aload_n (pc := 0) C dX1_copyFrom_0 rfl ?_
  refine am_aload_n (pc := 1) C dX1_copyFrom_1 rfl ?_
  refine am_getI (pc := 2) C dX1_copyFrom_2 f1_9 bn_17 sh_17 ?_
  refine am_putI (pc := 5) C dX1_copyFrom_5 f1_9 bn_107 sh_107 rfl rfl ?_
  refine am_hp (show am_up h 107 0 ((h 17) 0) = am_row h 107 (upd (h 107) 0 ((h 17) 0)) from am_up_rw _ _ _ _) ?_
  refine am_aload_n (pc := 8) C dX1_copyFrom_8 rfl ?_
  refine am_aload_n (pc := 9) C dX1_copyFrom_9 rfl ?_
  refine am_getI (pc := 10) C dX1_copyFrom_10 f1_37 bn_17 sh_17 ?_
  refine am_putI (pc := 13) C dX1_copyFrom_13 f1_37 bn_107 sh_107 rfl rfl ?_
  refine am_hp (show am_up (am_row h 107 (upd (h 107) 0 ((h 17) 0))) 107 1 ((h 17) 1) = am_row (am_row h 107 (upd (h 107) 0 ((h 17) 0))) 107 (upd (upd (h 107) 0 ((h 17) 0)) 1 ((h 17) 1)) from am_up_rw _ _ _ _) ?_
  refine am_hp (show am_row (am_row h 107 (upd (h 107) 0 ((h 17) 0))) 107 (upd (upd (h 107) 0 ((h 17) 0)) 1 ((h 17) 1)) = (am_row h 107 (upd (upd (h 107) 0 ((h 17) 0)) 1 ((h 17) 1))) from am_row_s0) ?_
  refine am_aload_n (pc := 16) C dX1_copyFrom_16 rfl ?_
  refine am_getR (pc := 17) (j := 18) C dX1_copyFrom_17 f1_15 bn_17 sh_17 (rf_17_2 hR) ?_
  refine am_aload_n (pc := 20) C dX1_copyFrom_20 rfl ?_
  refine am_getR (pc := 21) (j := 108) C dX1_copyFrom_21 f1_15 bn_107 sh_107 (rf_107_2 hR) ?_
  refine am_callSNv (Y := mX11_copyRow) (pc := 24) (st := []) (As := [.ref 18, .ref 108]) (h2 := (am_row (am_row h 107 (upd (upd (h 107) 0 ((h 17) 0)) 1 ((h 17) 1))) 108 (va_cpy (h 18) (h 108) 0 0 12))) C dX1_copyFrom_24 k1_40 v_X11_copyRow rfl rfl (by decide) (Nat.zero_le _) (Nat.zero_le _) (Nat.le_of_ble_eq_true rfl) (c_X11_copyRow hR 18 108 12 bn_18 sh_18 bn_108 sh_108 (by decide)) ?_
  refine am_aload_n (pc := 27) C dX1_copyFrom_27 rfl ?_
  refine am_getR (pc := 28) (j := 19) C dX1_copyFrom_28 f1_19 bn_17 sh_17 (rf_17_3 hR) ?_
  refine am_aload_n (pc := 31) C dX1_copyFrom_31 rfl ?_
  refine am_getR (pc := 32) (j := 109) C dX1_copyFrom_32 f1_19 bn_107 sh_107 (rf_107_3 hR) ?_
  refine am_callSNv (Y := mX11_copyRow) (pc := 35) (st := []) (As := [.ref 19, .ref 109]) (h2 := (am_row (am_row (am_row h 107 (upd (upd (h 107) 0 ((h 17) 0)) 1 ((h 17) 1))) 108 (va_cpy (h 18) (h 108) 0 0 12)) 109 (va_cpy (h 19) (h 109) 0 0 12))) C dX1_copyFrom_35 k1_40 v_X11_copyRow rfl rfl (by decide) (Nat.zero_le _) (Nat.zero_le _) (Nat.le_of_ble_eq_true rfl) (c_X11_copyRow hR 19 109 12 bn_19 sh_19 bn_109 sh_109 (by decide)) ?_
  refine am_aload_n (pc := 38) C dX1_copyFrom_38 rfl ?_
  refine am_getR (pc := 39) (j := 20) C dX1_copyFrom_39 f1_22 bn_17 sh_17 (rf_17_4 hR) ?_
  refine am_aload_n (pc := 42) C dX1_copyFrom_42 rfl ?_
  refine am_getR (pc := 43) (j := 110) C dX1_copyFrom_43 f1_22 bn_107 sh_107 (rf_107_4 hR) ?_
  refine am_callSNv (Y := mX11_copyRow) (pc := 46) (st := []) (As := [.ref 20, .ref 110]) (h2 := (am_row (am_row (am_row (am_row h 107 (upd (upd (h 107) 0 ((h 17) 0)) 1 ((h 17) 1))) 108 (va_cpy (h 18) (h 108) 0 0 12)) 109 (va_cpy (h 19) (h 109) 0 0 12)) 110 (va_cpy (h 20) (h 110) 0 0 12))) C dX1_copyFrom_46 k1_40 v_X11_copyRow rfl rfl (by decide) (Nat.zero_le _) (Nat.zero_le _) (Nat.le_of_ble_eq_true rfl) (c_X11_copyRow hR 20 110 12 bn_20 sh_20 bn_110 sh_110 (by decide)) ?_
  refine am_aload_n (pc := 49) C dX1_copyFrom_49 rfl ?_
  refine am_getR (pc := 50) (j := 21) C dX1_copyFrom_50 f1_25 bn_17 sh_17 (rf_17_5 hR) ?_
  refine am_aload_n (pc := 53) C dX1_copyFrom_53 rfl ?_
  refine am_getR (pc := 54) (j := 111) C dX1_copyFrom_54 f1_25 bn_107 sh_107 (rf_107_5 hR) ?_
  refine am_callSNv (Y := mX11_copyRow) (pc := 57) (st := []) (As := [.ref 21, .ref 111]) (h2 := (am_row (am_row (am_row (am_row (am_row h 107 (upd (upd (h 107) 0 ((h 17) 0)) 1 ((h 17) 1))) 108 (va_cpy (h 18) (h 108) 0 0 12)) 109 (va_cpy (h 19) (h 109) 0 0 12)) 110 (va_cpy (h 20) (h 110) 0 0 12)) 111 (va_cpy (h 21) (h 111) 0 0 12))) C dX1_copyFrom_57 k1_40 v_X11_copyRow rfl rfl (by decide) (Nat.zero_le _) (Nat.zero_le _) (Nat.le_of_ble_eq_true rfl) (c_X11_copyRow hR 21 111 12 bn_21 sh_21 bn_111 sh_111 (by decide)) ?_
  refine am_aload_n (pc := 60) C dX1_copyFrom_60 rfl ?_
  refine am_getR (pc := 61) (j := 22) C dX1_copyFrom_61 f1_28 bn_17 sh_17 (rf_17_6 hR) ?_
  refine am_aload_n (pc := 64) C dX1_copyFrom_64 rfl ?_
  refine am_getR (pc := 65) (j := 112) C dX1_copyFrom_65 f1_28 bn_107 sh_107 (rf_107_6 hR) ?_
  refine am_callSNv (Y := mX11_copyRow) (pc := 68) (st := []) (As := [.ref 22, .ref 112]) (h2 := (am_row (am_row (am_row (am_row (am_row (am_row h 107 (upd (upd (h 107) 0 ((h 17) 0)) 1 ((h 17) 1))) 108 (va_cpy (h 18) (h 108) 0 0 12)) 109 (va_cpy (h 19) (h 109) 0 0 12)) 110 (va_cpy (h 20) (h 110) 0 0 12)) 111 (va_cpy (h 21) (h 111) 0 0 12)) 112 (va_cpy (h 22) (h 112) 0 0 400))) C dX1_copyFrom_68 k1_40 v_X11_copyRow rfl rfl (by decide) (Nat.zero_le _) (Nat.zero_le _) (Nat.le_of_ble_eq_true rfl) (c_X11_copyRow hR 22 112 400 bn_22 sh_22 bn_112 sh_112 (by decide)) ?_
  exact am_vretvr T dX1_copyFrom_71 rfl (Nat.le_refl _) (Nat.le_refl _) rfl ⟨cl_La_cpy hLw hA rfl (fun k hk => va_cpy_0 hk) (fun k hk => va_cpy_0 hk) (fun k hk => va_cpy_0 hk) (fun k hk => va_cpy_0 hk) (fun k hk => va_cpy_0 hk), (fun i9 h9 => by rw [am_row_ne _ _ _ (by omega), am_row_ne _ _ _ (by omega), am_row_ne _ _ _ (by omega), am_row_ne _ _ _ (by omega), am_row_ne _ _ _ (by omega), am_row_ne _ _ _ (by omega)])⟩

set_option maxHeartbeats 400000 in
set_option maxRecDepth 100000 in
theorem c_X5_copyFrom_d_kn {ad : Nat → Nat} {r : am_R} (hR : am_rs r) {h : am_H}  (w : rf_W) (hV : rf_I w) (hSc : cl_Sc (h) 25 w)  : am_CM mX5_copyFrom 3 0 0 [.ref 115, .ref 25] (am_VV ad) r h (am_pr none r (fun c9 => cl_Sc c9 115 w ∧ cl_fr (h) c9 115 15)) := by
  refine am_CM.of (by decide +kernel) (Nat.le_of_ble_eq_true rfl) (fun X C T => ?_)
  show am_G X (am_VV ad) (0, 0) 0 [(0, .ref 115), (1, .ref 25)] [] r h
  refine am_aload_n (pc := 0) C dX5_copyFrom_0 rfl ?_
  refine am_aload_n (pc := 1) C dX5_copyFrom_1 rfl ?_
  refine am_getI (pc := 2) C dX5_copyFrom_2 f5_58 bn_25 sh_25 ?_
  refine am_putI (pc := 5) C dX5_copyFrom_5 f5_58 bn_115 sh_115 rfl rfl ?_
  refine am_hp (show am_up h 115 0 ((h 25) 0) = am_row h 115 (upd (h 115) 0 ((h 25) 0)) from am_up_rw _ _ _ _) ?_
  refine am_aload_n (pc := 8) C dX5_copyFrom_8 rfl ?_
  refine am_aload_n (pc := 9) C dX5_copyFrom_9 rfl ?_
  refine am_getI (pc := 10) C dX5_copyFrom_10 f5_9 bn_25 sh_25 ?_
  refine am_putI (pc := 13) C dX5_copyFrom_13 f5_9 bn_115 sh_115 rfl rfl ?_
  refine am_hp (show am_up (am_row h 115 (upd (h 115) 0 ((h 25) 0))) 115 1 ((h 25) 1) = am_row (am_row h 115 (upd (h 115) 0 ((h 25) 0))) 115 (upd (upd (h 115) 0 ((h 25) 0)) 1 ((h 25) 1)) from am_up_rw _ _ _ _) ?_
  refine am_hp (show am_row (am_row h 115 (upd (h 115) 0 ((h 25) 0))) 115 (upd (upd (h 115) 0 ((h 25) 0)) 1 ((h 25) 1)) = (am_row h 115 (upd (upd (h 115) 0 ((h 25) 0)) 1 ((h 25) 1))) from am_row_s0) ?_
  refine am_aload_n (pc := 16) C dX5_copyFrom_16 rfl ?_
  refine am_aload_n (pc := 17) C dX5_copyFrom_17 rfl ?_
  refine am_getI (pc := 18) C dX5_copyFrom_18 f5_61 bn_25 sh_25 ?_
  refine am_putI (pc := 21) C dX5_copyFrom_21 f5_61 bn_115 sh_115 rfl rfl ?_
  refine am_hp (show am_up (am_row h 115 (upd (upd (h 115) 0 ((h 25) 0)) 1 ((h 25) 1))) 115 2 ((h 25) 2) = am_row (am_row h 115 (upd (upd (h 115) 0 ((h 25) 0)) 1 ((h 25) 1))) 115 (upd (upd (upd (h 115) 0 ((h 25) 0)) 1 ((h 25) 1)) 2 ((h 25) 2)) from am_up_rw _ _ _ _) ?_
  refine am_hp (show am_row (am_row h 115 (upd (upd (h 115) 0 ((h 25) 0)) 1 ((h 25) 1))) 115 (upd (upd (upd (h 115) 0 ((h 25) 0)) 1 ((h 25) 1)) 2 ((h 25) 2)) = (am_row h 115 (upd (upd (upd (h 115) 0 ((h 25) 0)) 1 ((h 25) 1)) 2 ((h 25) 2))) from am_row_s0) ?_
  refine am_aload_n (pc := 24) C dX5_copyFrom_24 rfl ?_
  refine am_aload_n (pc := 25) C dX5_copyFrom_25 rfl ?_
  refine am_getI (pc := 26) C dX5_copyFrom_26 f5_64 bn_25 sh_25 ?_
  refine am_putI (pc := 29) C dX5_copyFrom_29 f5_64 bn_115 sh_115 rfl rfl ?_
  refine am_hp (show am_up (am_row h 115 (upd (upd (upd (h 115) 0 ((h 25) 0)) 1 ((h 25) 1)) 2 ((h 25) 2))) 115 3 ((h 25) 3) = am_row (am_row h 115 (upd (upd (upd (h 115) 0 ((h 25) 0)) 1 ((h 25) 1)) 2 ((h 25) 2))) 115 (upd (upd (upd (upd (h 115) 0 ((h 25) 0)) 1 ((h 25) 1)) 2 ((h 25) 2)) 3 ((h 25) 3)) from am_up_rw _ _ _ _) ?_
  refine am_hp (show am_row (am_row h 115 (upd (upd (upd (h 115) 0 ((h 25) 0)) 1 ((h 25) 1)) 2 ((h 25) 2))) 115 (upd (upd (upd (upd (h 115) 0 ((h 25) 0)) 1 ((h 25) 1)) 2 ((h 25) 2)) 3 ((h 25) 3)) = (am_row h 115 (upd (upd (upd (upd (h 115) 0 ((h 25) 0)) 1 ((h 25) 1)) 2 ((h 25) 2)) 3 ((h 25) 3))) from am_row_s0) ?_
  refine am_aload_n (pc := 32) C dX5_copyFrom_32 rfl ?_
  refine am_aload_n (pc := 33) C dX5_copyFrom_33 rfl ?_
  refine am_getI (pc := 34) C dX5_copyFrom_34 f5_67 bn_25 sh_25 ?_
  refine am_putI (pc := 37) C dX5_copyFrom_37 f5_67 bn_115 sh_115 rfl rfl ?_
  refine am_hp (show am_up (am_row h 115 (upd (upd (upd (upd (h 115) 0 ((h 25) 0)) 1 ((h 25) 1)) 2 ((h 25) 2)) 3 ((h 25) 3))) 115 4 ((h 25) 4) = am_row (am_row h 115 (upd (upd (upd (upd (h 115) 0 ((h 25) 0)) 1 ((h 25) 1)) 2 ((h 25) 2)) 3 ((h 25) 3))) 115 (upd (upd (upd (upd (upd (h 115) 0 ((h 25) 0)) 1 ((h 25) 1)) 2 ((h 25) 2)) 3 ((h 25) 3)) 4 ((h 25) 4)) from am_up_rw _ _ _ _) ?_
  refine am_hp (show am_row (am_row h 115 (upd (upd (upd (upd (h 115) 0 ((h 25) 0)) 1 ((h 25) 1)) 2 ((h 25) 2)) 3 ((h 25) 3))) 115 (upd (upd (upd (upd (upd (h 115) 0 ((h 25) 0)) 1 ((h 25) 1)) 2 ((h 25) 2)) 3 ((h 25) 3)) 4 ((h 25) 4)) = (am_row h 115 (upd (upd (upd (upd (upd (h 115) 0 ((h 25) 0)) 1 ((h 25) 1)) 2 ((h 25) 2)) 3 ((h 25) 3)) 4 ((h 25) 4))) from am_row_s0) ?_
  refine am_aload_n (pc := 40) C dX5_copyFrom_40 rfl ?_
  refine am_getR (pc := 41) (j := 26) C dX5_copyFrom_41 f5_15 bn_25 sh_25 (rf_25_5 hR) ?_
  refine am_aload_n (pc := 44) C dX5_copyFrom_44 rfl ?_
  refine am_getR (pc := 45) (j := 116) C dX5_copyFrom_45 f5_15 bn_115 sh_115 (rf_115_5 hR) ?_
  refine am_callSNv (Y := mX11_copyRow) (pc := 48) (st := []) (As := [.ref 26, .ref 116]) (h2 := (am_row (am_row h 115 (upd (upd (upd (upd (upd (h 115) 0 ((h 25) 0)) 1 ((h 25) 1)) 2 ((h 25) 2)) 3 ((h 25) 3)) 4 ((h 25) 4))) 116 (va_cpy (h 26) (h 116) 0 0 10))) C dX5_copyFrom_48 k5_70 v_X11_copyRow rfl rfl (by decide) (Nat.zero_le _) (Nat.zero_le _) (Nat.le_of_ble_eq_true rfl) (c_X11_copyRow hR 26 116 10 bn_26 sh_26 bn_116 sh_116 (by decide)) ?_
  refine am_aload_n (pc := 51) C dX5_copyFrom_51 rfl ?_
  refine am_getR (pc := 52) (j := 27) C dX5_copyFrom_52 f5_19 bn_25 sh_25 (rf_25_6 hR) ?_
  refine am_aload_n (pc := 55) C dX5_copyFrom_55 rfl ?_
  refine am_getR (pc := 56) (j := 117) C dX5_copyFrom_56 f5_19 bn_115 sh_115 (rf_115_6 hR) ?_
  refine am_callSNv (Y := mX11_copyRow) (pc := 59) (st := []) (As := [.ref 27, .ref 117]) (h2 := (am_row (am_row (am_row h 115 (upd (upd (upd (upd (upd (h 115) 0 ((h 25) 0)) 1 ((h 25) 1)) 2 ((h 25) 2)) 3 ((h 25) 3)) 4 ((h 25) 4))) 116 (va_cpy (h 26) (h 116) 0 0 10)) 117 (va_cpy (h 27) (h 117) 0 0 10))) C dX5_copyFrom_59 k5_70 v_X11_copyRow rfl rfl (by decide) (Nat.zero_le _) (Nat.zero_le _) (Nat.le_of_ble_eq_true rfl) (c_X11_copyRow hR 27 117 10 bn_27 sh_27 bn_117 sh_117 (by decide)) ?_
  refine am_aload_n (pc := 62) C dX5_copyFrom_62 rfl ?_
  refine am_getR (pc := 63) (j := 28) C dX5_copyFrom_63 f5_22 bn_25 sh_25 (rf_25_7 hR) ?_
  refine am_aload_n (pc := 66) C dX5_copyFrom_66 rfl ?_
  refine am_getR (pc := 67) (j := 118) C dX5_copyFrom_67 f5_22 bn_115 sh_115 (rf_115_7 hR) ?_
  refine am_callSNv (Y := mX11_copyRow) (pc := 70) (st := []) (As := [.ref 28, .ref 118]) (h2 := (am_row (am_row (am_row (am_row h 115 (upd (upd (upd (upd (upd (h 115) 0 ((h 25) 0)) 1 ((h 25) 1)) 2 ((h 25) 2)) 3 ((h 25) 3)) 4 ((h 25) 4))) 116 (va_cpy (h 26) (h 116) 0 0 10)) 117 (va_cpy (h 27) (h 117) 0 0 10)) 118 (va_cpy (h 28) (h 118) 0 0 10))) C dX5_copyFrom_70 k5_70 v_X11_copyRow rfl rfl (by decide) (Nat.zero_le _) (Nat.zero_le _) (Nat.le_of_ble_eq_true rfl) (c_X11_copyRow hR 28 118 10 bn_28 sh_28 bn_118 sh_118 (by decide)) ?_
  refine am_aload_n (pc := 73) C dX5_copyFrom_73 rfl ?_
  refine am_getR (pc := 74) (j := 29) C dX5_copyFrom_74 f5_25 bn_25 sh_25 (rf_25_8 hR) ?_
  refine am_aload_n (pc := 77) C dX5_copyFrom_77 rfl ?_
  refine am_getR (pc := 78) (j := 119) C dX5_copyFrom_78 f5_25 bn_115 sh_115 (rf_115_8 hR) ?_
  refine am_callSNv (Y := mX11_copyRow) (pc := 81) (st := []) (As := [.ref 29, .ref 119]) (h2 := (am_row (am_row (am_row (am_row (am_row h 115 (upd (upd (upd (upd (upd (h 115) 0 ((h 25) 0)) 1 ((h 25) 1)) 2 ((h 25) 2)) 3 ((h 25) 3)) 4 ((h 25) 4))) 116 (va_cpy (h 26) (h 116) 0 0 10)) 117 (va_cpy (h 27) (h 117) 0 0 10)) 118 (va_cpy (h 28) (h 118) 0 0 10)) 119 (va_cpy (h 29) (h 119) 0 0 10))) C dX5_copyFrom_81 k5_70 v_X11_copyRow rfl rfl (by decide) (Nat.zero_le _) (Nat.zero_le _) (Nat.le_of_ble_eq_true rfl) (c_X11_copyRow hR 29 119 10 bn_29 sh_29 bn_119 sh_119 (by decide)) ?_
  refine am_aload_n (pc := 84) C dX5_copyFrom_84 rfl ?_
  refine am_getR (pc := 85) (j := 30) C dX5_copyFrom_85 f5_28 bn_25 sh_25 (rf_25_9 hR) ?_
  refine am_aload_n (pc := 88) C dX5_copyFrom_88 rfl ?_
  refine am_getR (pc := 89) (j := 120) C dX5_copyFrom_89 f5_28 bn_115 sh_115 (rf_115_9 hR) ?_
  refine am_callSNv (Y := mX11_copyRow) (pc := 92) (st := []) (As := [.ref 30, .ref 120]) (h2 := (am_row (am_row (am_row (am_row (am_row (am_row h 115 (upd (upd (upd (upd (upd (h 115) 0 ((h 25) 0)) 1 ((h 25) 1)) 2 ((h 25) 2)) 3 ((h 25) 3)) 4 ((h 25) 4))) 116 (va_cpy (h 26) (h 116) 0 0 10)) 117 (va_cpy (h 27) (h 117) 0 0 10)) 118 (va_cpy (h 28) (h 118) 0 0 10)) 119 (va_cpy (h 29) (h 119) 0 0 10)) 120 (va_cpy (h 30) (h 120) 0 0 10))) C dX5_copyFrom_92 k5_70 v_X11_copyRow rfl rfl (by decide) (Nat.zero_le _) (Nat.zero_le _) (Nat.le_of_ble_eq_true rfl) (c_X11_copyRow hR 30 120 10 bn_30 sh_30 bn_120 sh_120 (by decide)) ?_
  refine am_aload_n (pc := 95) C dX5_copyFrom_95 rfl ?_
  refine am_getR (pc := 96) (j := 31) C dX5_copyFrom_96 f5_31 bn_25 sh_25 (rf_25_10 hR) ?_
  refine am_aload_n (pc := 99) C dX5_copyFrom_99 rfl ?_
  refine am_getR (pc := 100) (j := 121) C dX5_copyFrom_100 f5_31 bn_115 sh_115 (rf_115_10 hR) ?_
  refine am_callSNv (Y := mX11_copyRow) (pc := 103) (st := []) (As := [.ref 31, .ref 121]) (h2 := (am_row (am_row (am_row (am_row (am_row (am_row (am_row h 115 (upd (upd (upd (upd (upd (h 115) 0 ((h 25) 0)) 1 ((h 25) 1)) 2 ((h 25) 2)) 3 ((h 25) 3)) 4 ((h 25) 4))) 116 (va_cpy (h 26) (h 116) 0 0 10)) 117 (va_cpy (h 27) (h 117) 0 0 10)) 118 (va_cpy (h 28) (h 118) 0 0 10)) 119 (va_cpy (h 29) (h 119) 0 0 10)) 120 (va_cpy (h 30) (h 120) 0 0 10)) 121 (va_cpy (h 31) (h 121) 0 0 120))) C dX5_copyFrom_103 k5_70 v_X11_copyRow rfl rfl (by decide) (Nat.zero_le _) (Nat.zero_le _) (Nat.le_of_ble_eq_true rfl) (c_X11_copyRow hR 31 121 120 bn_31 sh_31 bn_121 sh_121 (by decide)) ?_
  refine am_aload_n (pc := 106) C dX5_copyFrom_106 rfl ?_
  refine am_getR (pc := 107) (j := 32) C dX5_copyFrom_107 f5_34 bn_25 sh_25 (rf_25_11 hR) ?_
  refine am_aload_n (pc := 110) C dX5_copyFrom_110 rfl ?_
  refine am_getR (pc := 111) (j := 122) C dX5_copyFrom_111 f5_34 bn_115 sh_115 (rf_115_11 hR) ?_
  refine am_callSNv (Y := mX11_copyRow) (pc := 114) (st := []) (As := [.ref 32, .ref 122]) (h2 := (am_row (am_row (am_row (am_row (am_row (am_row (am_row (am_row h 115 (upd (upd (upd (upd (upd (h 115) 0 ((h 25) 0)) 1 ((h 25) 1)) 2 ((h 25) 2)) 3 ((h 25) 3)) 4 ((h 25) 4))) 116 (va_cpy (h 26) (h 116) 0 0 10)) 117 (va_cpy (h 27) (h 117) 0 0 10)) 118 (va_cpy (h 28) (h 118) 0 0 10)) 119 (va_cpy (h 29) (h 119) 0 0 10)) 120 (va_cpy (h 30) (h 120) 0 0 10)) 121 (va_cpy (h 31) (h 121) 0 0 120)) 122 (va_cpy (h 32) (h 122) 0 0 40))) C dX5_copyFrom_114 k5_70 v_X11_copyRow rfl rfl (by decide) (Nat.zero_le _) (Nat.zero_le _) (Nat.le_of_ble_eq_true rfl) (c_X11_copyRow hR 32 122 40 bn_32 sh_32 bn_122 sh_122 (by decide)) ?_
  refine am_aload_n (pc := 117) C dX5_copyFrom_117 rfl ?_
  refine am_getR (pc := 118) (j := 33) C dX5_copyFrom_118 f5_37 bn_25 sh_25 (rf_25_12 hR) ?_
  refine am_aload_n (pc := 121) C dX5_copyFrom_121 rfl ?_
  refine am_getR (pc := 122) (j := 123) C dX5_copyFrom_122 f5_37 bn_115 sh_115 (rf_115_12 hR) ?_
  refine am_callSNv (Y := mX11_copyRow) (pc := 125) (st := []) (As := [.ref 33, .ref 123]) (h2 := (am_row (am_row (am_row (am_row (am_row (am_row (am_row (am_row (am_row h 115 (upd (upd (upd (upd (upd (h 115) 0 ((h 25) 0)) 1 ((h 25) 1)) 2 ((h 25) 2)) 3 ((h 25) 3)) 4 ((h 25) 4))) 116 (va_cpy (h 26) (h 116) 0 0 10)) 117 (va_cpy (h 27) (h 117) 0 0 10)) 118 (va_cpy (h 28) (h 118) 0 0 10)) 119 (va_cpy (h 29) (h 119) 0 0 10)) 120 (va_cpy (h 30) (h 120) 0 0 10)) 121 (va_cpy (h 31) (h 121) 0 0 120)) 122 (va_cpy (h 32) (h 122) 0 0 40)) 123 (va_cpy (h 33) (h 123) 0 0 40))) C dX5_copyFrom_125 k5_70 v_X11_copyRow rfl rfl (by decide) (Nat.zero_le _) (Nat.zero_le _) (Nat.le_of_ble_eq_true rfl) (c_X11_copyRow hR 33 123 40 bn_33 sh_33 bn_123 sh_123 (by decide)) ?_
  refine am_aload_n (pc := 128) C dX5_copyFrom_128 rfl ?_
  refine am_getR (pc := 129) (j := 34) C dX5_copyFrom_129 f5_40 bn_25 sh_25 (rf_25_13 hR) ?_
  refine am_aload_n (pc := 132) C dX5_copyFrom_132 rfl ?_
  refine am_getR (pc := 133) (j := 124) C dX5_copyFrom_133 f5_40 bn_115 sh_115 (rf_115_13 hR) ?_
  refine am_callSNv (Y := mX11_copyRow) (pc := 136) (st := []) (As := [.ref 34, .ref 124]) (h2 := (am_row (am_row (am_row (am_row (am_row (am_row (am_row (am_row (am_row (am_row h 115 (upd (upd (upd (upd (upd (h 115) 0 ((h 25) 0)) 1 ((h 25) 1)) 2 ((h 25) 2)) 3 ((h 25) 3)) 4 ((h 25) 4))) 116 (va_cpy (h 26) (h 116) 0 0 10)) 117 (va_cpy (h 27) (h 117) 0 0 10)) 118 (va_cpy (h 28) (h 118) 0 0 10)) 119 (va_cpy (h 29) (h 119) 0 0 10)) 120 (va_cpy (h 30) (h 120) 0 0 10)) 121 (va_cpy (h 31) (h 121) 0 0 120)) 122 (va_cpy (h 32) (h 122) 0 0 40)) 123 (va_cpy (h 33) (h 123) 0 0 40)) 124 (va_cpy (h 34) (h 124) 0 0 40))) C dX5_copyFrom_136 k5_70 v_X11_copyRow rfl rfl (by decide) (Nat.zero_le _) (Nat.zero_le _) (Nat.le_of_ble_eq_true rfl) (c_X11_copyRow hR 34 124 40 bn_34 sh_34 bn_124 sh_124 (by decide)) ?_
  refine am_aload_n (pc := 139) C dX5_copyFrom_139 rfl ?_
  refine am_getR (pc := 140) (j := 35) C dX5_copyFrom_140 f5_43 bn_25 sh_25 (rf_25_14 hR) ?_
  refine am_aload_n (pc := 143) C dX5_copyFrom_143 rfl ?_
  refine am_getR (pc := 144) (j := 125) C dX5_copyFrom_144 f5_43 bn_115 sh_115 (rf_115_14 hR) ?_
  refine am_callSNv (Y := mX11_copyRow) (pc := 147) (st := []) (As := [.ref 35, .ref 125]) (h2 := (am_row (am_row (am_row (am_row (am_row (am_row (am_row (am_row (am_row (am_row (am_row h 115 (upd (upd (upd (upd (upd (h 115) 0 ((h 25) 0)) 1 ((h 25) 1)) 2 ((h 25) 2)) 3 ((h 25) 3)) 4 ((h 25) 4))) 116 (va_cpy (h 26) (h 116) 0 0 10)) 117 (va_cpy (h 27) (h 117) 0 0 10)) 118 (va_cpy (h 28) (h 118) 0 0 10)) 119 (va_cpy (h 29) (h 119) 0 0 10)) 120 (va_cpy (h 30) (h 120) 0 0 10)) 121 (va_cpy (h 31) (h 121) 0 0 120)) 122 (va_cpy (h 32) (h 122) 0 0 40)) 123 (va_cpy (h 33) (h 123) 0 0 40)) 124 (va_cpy (h 34) (h 124) 0 0 40)) 125 (va_cpy (h 35) (h 125) 0 0 60))) C dX5_copyFrom_147 k5_70 v_X11_copyRow rfl rfl (by decide) (Nat.zero_le _) (Nat.zero_le _) (Nat.le_of_ble_eq_true rfl) (c_X11_copyRow hR 35 125 60 bn_35 sh_35 bn_125 sh_125 (by decide)) ?_
  refine am_aload_n (pc := 150) C dX5_copyFrom_150 rfl ?_
  refine am_getR (pc := 151) (j := 36) C dX5_copyFrom_151 f5_46 bn_25 sh_25 (rf_25_15 hR) ?_
  refine am_aload_n (pc := 154) C dX5_copyFrom_154 rfl ?_
  refine am_getR (pc := 155) (j := 126) C dX5_copyFrom_155 f5_46 bn_115 sh_115 (rf_115_15 hR) ?_
  refine am_callSNv (Y := mX11_copyRow) (pc := 158) (st := []) (As := [.ref 36, .ref 126]) (h2 := (am_row (am_row (am_row (am_row (am_row (am_row (am_row (am_row (am_row (am_row (am_row (am_row h 115 (upd (upd (upd (upd (upd (h 115) 0 ((h 25) 0)) 1 ((h 25) 1)) 2 ((h 25) 2)) 3 ((h 25) 3)) 4 ((h 25) 4))) 116 (va_cpy (h 26) (h 116) 0 0 10)) 117 (va_cpy (h 27) (h 117) 0 0 10)) 118 (va_cpy (h 28) (h 118) 0 0 10)) 119 (va_cpy (h 29) (h 119) 0 0 10)) 120 (va_cpy (h 30) (h 120) 0 0 10)) 121 (va_cpy (h 31) (h 121) 0 0 120)) 122 (va_cpy (h 32) (h 122) 0 0 40)) 123 (va_cpy (h 33) (h 123) 0 0 40)) 124 (va_cpy (h 34) (h 124) 0 0 40)) 125 (va_cpy (h 35) (h 125) 0 0 60)) 126 (va_cpy (h 36) (h 126) 0 0 60))) C dX5_copyFrom_158 k5_70 v_X11_copyRow rfl rfl (by decide) (Nat.zero_le _) (Nat.zero_le _) (Nat.le_of_ble_eq_true rfl) (c_X11_copyRow hR 36 126 60 bn_36 sh_36 bn_126 sh_126 (by decide)) ?_
  refine am_aload_n (pc := 161) C dX5_copyFrom_161 rfl ?_
  refine am_getR (pc := 162) (j := 37) C dX5_copyFrom_162 f5_49 bn_25 sh_25 (rf_25_16 hR) ?_
  refine am_aload_n (pc := 165) C dX5_copyFrom_165 rfl ?_
  refine am_getR (pc := 166) (j := 127) C dX5_copyFrom_166 f5_49 bn_115 sh_115 (rf_115_16 hR) ?_
  refine am_callSNv (Y := mX11_copyRow) (pc := 169) (st := []) (As := [.ref 37, .ref 127]) (h2 := (am_row (am_row (am_row (am_row (am_row (am_row (am_row (am_row (am_row (am_row (am_row (am_row (am_row h 115 (upd (upd (upd (upd (upd (h 115) 0 ((h 25) 0)) 1 ((h 25) 1)) 2 ((h 25) 2)) 3 ((h 25) 3)) 4 ((h 25) 4))) 116 (va_cpy (h 26) (h 116) 0 0 10)) 117 (va_cpy (h 27) (h 117) 0 0 10)) 118 (va_cpy (h 28) (h 118) 0 0 10)) 119 (va_cpy (h 29) (h 119) 0 0 10)) 120 (va_cpy (h 30) (h 120) 0 0 10)) 121 (va_cpy (h 31) (h 121) 0 0 120)) 122 (va_cpy (h 32) (h 122) 0 0 40)) 123 (va_cpy (h 33) (h 123) 0 0 40)) 124 (va_cpy (h 34) (h 124) 0 0 40)) 125 (va_cpy (h 35) (h 125) 0 0 60)) 126 (va_cpy (h 36) (h 126) 0 0 60)) 127 (va_cpy (h 37) (h 127) 0 0 60))) C dX5_copyFrom_169 k5_70 v_X11_copyRow rfl rfl (by decide) (Nat.zero_le _) (Nat.zero_le _) (Nat.le_of_ble_eq_true rfl) (c_X11_copyRow hR 37 127 60 bn_37 sh_37 bn_127 sh_127 (by decide)) ?_
  refine am_aload_n (pc := 172) C dX5_copyFrom_172 rfl ?_
  refine am_getR (pc := 173) (j := 38) C dX5_copyFrom_173 f5_52 bn_25 sh_25 (rf_25_17 hR) ?_
  refine am_aload_n (pc := 176) C dX5_copyFrom_176 rfl ?_
  refine am_getR (pc := 177) (j := 128) C dX5_copyFrom_177 f5_52 bn_115 sh_115 (rf_115_17 hR) ?_
  refine am_callSNv (Y := mX11_copyRow) (pc := 180) (st := []) (As := [.ref 38, .ref 128]) (h2 := (am_row (am_row (am_row (am_row (am_row (am_row (am_row (am_row (am_row (am_row (am_row (am_row (am_row (am_row h 115 (upd (upd (upd (upd (upd (h 115) 0 ((h 25) 0)) 1 ((h 25) 1)) 2 ((h 25) 2)) 3 ((h 25) 3)) 4 ((h 25) 4))) 116 (va_cpy (h 26) (h 116) 0 0 10)) 117 (va_cpy (h 27) (h 117) 0 0 10)) 118 (va_cpy (h 28) (h 118) 0 0 10)) 119 (va_cpy (h 29) (h 119) 0 0 10)) 120 (va_cpy (h 30) (h 120) 0 0 10)) 121 (va_cpy (h 31) (h 121) 0 0 120)) 122 (va_cpy (h 32) (h 122) 0 0 40)) 123 (va_cpy (h 33) (h 123) 0 0 40)) 124 (va_cpy (h 34) (h 124) 0 0 40)) 125 (va_cpy (h 35) (h 125) 0 0 60)) 126 (va_cpy (h 36) (h 126) 0 0 60)) 127 (va_cpy (h 37) (h 127) 0 0 60)) 128 (va_cpy (h 38) (h 128) 0 0 60))) C dX5_copyFrom_180 k5_70 v_X11_copyRow rfl rfl (by decide) (Nat.zero_le _) (Nat.zero_le _) (Nat.le_of_ble_eq_true rfl) (c_X11_copyRow hR 38 128 60 bn_38 sh_38 bn_128 sh_128 (by decide)) ?_
  refine am_aload_n (pc := 183) C dX5_copyFrom_183 rfl ?_
  refine am_getR (pc := 184) (j := 39) C dX5_copyFrom_184 f5_55 bn_25 sh_25 (rf_25_18 hR) ?_
  refine am_aload_n (pc := 187) C dX5_copyFrom_187 rfl ?_
  refine am_getR (pc := 188) (j := 129) C dX5_copyFrom_188 f5_55 bn_115 sh_115 (rf_115_18 hR) ?_
  refine am_callSNv (Y := mX11_copyRow) (pc := 191) (st := []) (As := [.ref 39, .ref 129]) (h2 := (am_row (am_row (am_row (am_row (am_row (am_row (am_row (am_row (am_row (am_row (am_row (am_row (am_row (am_row (am_row h 115 (upd (upd (upd (upd (upd (h 115) 0 ((h 25) 0)) 1 ((h 25) 1)) 2 ((h 25) 2)) 3 ((h 25) 3)) 4 ((h 25) 4))) 116 (va_cpy (h 26) (h 116) 0 0 10)) 117 (va_cpy (h 27) (h 117) 0 0 10)) 118 (va_cpy (h 28) (h 118) 0 0 10)) 119 (va_cpy (h 29) (h 119) 0 0 10)) 120 (va_cpy (h 30) (h 120) 0 0 10)) 121 (va_cpy (h 31) (h 121) 0 0 120)) 122 (va_cpy (h 32) (h 122) 0 0 40)) 123 (va_cpy (h 33) (h 123) 0 0 40)) 124 (va_cpy (h 34) (h 124) 0 0 40)) 125 (va_cpy (h 35) (h 125) 0 0 60)) 126 (va_cpy (h 36) (h 126) 0 0 60)) 127 (va_cpy (h 37) (h 127) 0 0 60)) 128 (va_cpy (h 38) (h 128) 0 0 60)) 129 (va_cpy (h 39) (h 129) 0 0 60))) C dX5_copyFrom_191 k5_70 v_X11_copyRow rfl rfl (by decide) (Nat.zero_le _) (Nat.zero_le _) (Nat.le_of_ble_eq_true rfl) (c_X11_copyRow hR 39 129 60 bn_39 sh_39 bn_129 sh_129 (by decide)) ?_
  exact am_vretvr T dX5_copyFrom_194 rfl (Nat.le_refl _) (Nat.le_refl _) rfl ⟨cl_Sc_cpy hV hSc rfl rfl rfl rfl rfl (fun k hk => va_cpy_0 hk) (fun k hk => va_cpy_0 hk) (fun k hk => va_cpy_0 hk) (fun k hk => va_cpy_0 hk) (fun k hk => va_cpy_0 hk) (fun k hk => va_cpy_0 hk) (fun k hk => va_cpy_0 hk) (fun k hk => va_cpy_0 hk) (fun k hk => va_cpy_0 hk) (fun k hk => va_cpy_0 hk) (fun k hk => va_cpy_0 hk) (fun k hk => va_cpy_0 hk) (fun k hk => va_cpy_0 hk) (fun k hk => va_cpy_0 hk), (fun i9 h9 => by rw [am_row_ne _ _ _ (by omega), am_row_ne _ _ _ (by omega), am_row_ne _ _ _ (by omega), am_row_ne _ _ _ (by omega), am_row_ne _ _ _ (by omega), am_row_ne _ _ _ (by omega), am_row_ne _ _ _ (by omega), am_row_ne _ _ _ (by omega), am_row_ne _ _ _ (by omega), am_row_ne _ _ _ (by omega), am_row_ne _ _ _ (by omega), am_row_ne _ _ _ (by omega), am_row_ne _ _ _ (by omega), am_row_ne _ _ _ (by omega), am_row_ne _ _ _ (by omega)])⟩

set_option maxHeartbeats 400000 in
set_option maxRecDepth 100000 in
theorem c_X10_copyFrom_kn {ad : Nat → Nat} {r : am_R} (hR : am_rs r) {h : am_H}  (w : rf_W) (hV : rf_I w) (hLo : cl_Lo (h) 4 w) (hSc : cl_Sc (h) 25 w) (hLw : rf_Lw w) (hA : cl_La (h) 17 w)  : am_CM mX10_copyFrom 4 0 0 [.ref 93, .ref 3] (am_VV ad) r h (am_pr none r (fun c9 => cl_Lo c9 94 w ∧ cl_La c9 107 w ∧ cl_Sc c9 115 w ∧ cl_fr (h) c9 94 36)) := by
  refine am_CM.of (by decide +kernel) (Nat.le_of_ble_eq_true rfl) (fun X C T => ?_)
  show am_G X (am_VV ad) (0, 0) 0 [(0, .ref 93), (1, .ref 3)] [] r h
  refine am_aload_n (pc := 0) C dX10_copyFrom_0 rfl ?_
  refine am_getR (pc := 1) (j := 94) C dX10_copyFrom_1 f10_9 bn_93 sh_93 (rf_93_0 hR) ?_
  refine am_aload_n (pc := 4) C dX10_copyFrom_4 rfl ?_
  refine am_getR (pc := 5) (j := 4) C dX10_copyFrom_5 f10_9 bn_3 sh_3 (rf_3_0 hR) ?_
  refine am_callVvr (Y := mX3_copyFrom) (pc := 8) (st := []) (As := [.ref 4]) (PP := fun c9 => cl_Lo c9 94 w ∧ cl_fr (h) c9 94 13) C dX10_copyFrom_8 k10_26 v_X3_copyFrom rfl rfl bn_94 sh_94 ⟨by decide, rfl⟩ (by decide) (Nat.zero_le _) (Nat.zero_le _) (Nat.le_of_ble_eq_true rfl) (c_X3_copyFrom_kn hR w (show rf_I w from hV) (show cl_Lo (h) 4 w from hLo)) (fun g8_0 hg8_0 => ?_)
  obtain ⟨L8, F8⟩ := hg8_0
  refine am_aload_n (pc := 11) C dX10_copyFrom_11 rfl ?_
  refine am_getR (pc := 12) (j := 107) C dX10_copyFrom_12 f10_15 bn_93 sh_93 (rf_93_1 hR) ?_
  refine am_aload_n (pc := 15) C dX10_copyFrom_15 rfl ?_
  refine am_getR (pc := 16) (j := 17) C dX10_copyFrom_16 f10_15 bn_3 sh_3 (rf_3_1 hR) ?_
  refine am_callVvr (Y := mX1_copyFrom) (pc := 19) (st := []) (As := [.ref 17]) (PP := fun c9 => cl_La c9 107 w ∧ cl_fr (g8_0) c9 107 6) C dX10_copyFrom_19 k10_32 v_X1_copyFrom rfl rfl bn_107 sh_107 ⟨by decide, rfl⟩ (by decide) (Nat.zero_le _) (Nat.zero_le _) (Nat.le_of_ble_eq_true rfl) (c_X1_copyFrom_kn hR w (show rf_Lw w from hLw) (show cl_La (g8_0) 17 w from (cl_La_eq (fun i a b => F8 i (by omega)) hA))) (fun g19_1 hg19_1 => ?_)
  obtain ⟨A19, F19⟩ := hg19_1
  refine am_aload_n (pc := 22) C dX10_copyFrom_22 rfl ?_
  refine am_getR (pc := 23) (j := 115) C dX10_copyFrom_23 f10_22 bn_93 sh_93 (rf_93_2 hR) ?_
  refine am_aload_n (pc := 26) C dX10_copyFrom_26 rfl ?_
  refine am_getR (pc := 27) (j := 25) C dX10_copyFrom_27 f10_22 bn_3 sh_3 (rf_3_2 hR) ?_
  refine am_callVvr (Y := mX5_copyFrom) (pc := 30) (st := []) (As := [.ref 25]) (PP := fun c9 => cl_Sc c9 115 w ∧ cl_fr (g19_1) c9 115 15) C dX10_copyFrom_30 k10_37 v_X5_copyFrom rfl rfl bn_115 sh_115 ⟨by decide, rfl⟩ (by decide) (Nat.zero_le _) (Nat.zero_le _) (Nat.le_of_ble_eq_true rfl) (c_X5_copyFrom_d_kn hR w (show rf_I w from hV) (show cl_Sc (g19_1) 25 w from (cl_Sc_eq (fun i a b => (F19 i (by omega)).trans (F8 i (by omega))) hSc))) (fun g30_2 hg30_2 => ?_)
  obtain ⟨S30, F30⟩ := hg30_2
  exact am_vretvr T dX10_copyFrom_33 rfl (Nat.le_refl _) (Nat.le_refl _) rfl ⟨cl_Lo_eq (fun i a b => (F30 i (by omega)).trans (F19 i (by omega))) L8, cl_La_eq (fun i a b => F30 i (by omega)) A19, S30, (fun i h9 => (F30 i (by omega)).trans ((F19 i (by omega)).trans (F8 i (by omega))))⟩

set_option maxHeartbeats 400000 in
set_option maxRecDepth 100000 in
theorem c_X3_copyFrom_nk {ad : Nat → Nat} {r : am_R} (hR : am_rs r) {h : am_H}  (w : rf_W) (hV : rf_I w) (hLo : cl_Lo (h) 94 w)  : am_CM mX3_copyFrom 3 0 0 [.ref 4, .ref 94] (am_VV ad) r h (am_pr none r (fun c9 => cl_Lo c9 4 w ∧ cl_fr (h) c9 4 13)) := by
  refine am_CM.of (by decide +kernel) (Nat.le_of_ble_eq_true rfl) (fun X C T => ?_)
  show am_G X (am_VV ad) (0, 0) 0 [(0, .ref 4), (1, .ref 94)] [] r h
  refine am_aload_n (pc := 0) C dX3_copyFrom_0 rfl ?_
  refine am_aload_n (pc := 1) C dX3_copyFrom_1 rfl ?_
  refine am_getI (pc := 2) C dX3_copyFrom_2 f3_48 bn_94 sh_94 ?_
  refine am_putI (pc := 5) C dX3_copyFrom_5 f3_48 bn_4 sh_4 rfl rfl ?_
  refine am_hp (show am_up h 4 0 ((h 94) 0) = am_row h 4 (upd (h 4) 0 ((h 94) 0)) from am_up_rw _ _ _ _) ?_
  refine am_aload_n (pc := 8) C dX3_copyFrom_8 rfl ?_
  refine am_aload_n (pc := 9) C dX3_copyFrom_9 rfl ?_
  refine am_getI (pc := 10) C dX3_copyFrom_10 f3_52 bn_94 sh_94 ?_
  refine am_putI (pc := 13) C dX3_copyFrom_13 f3_52 bn_4 sh_4 rfl rfl ?_
  refine am_hp (show am_up (am_row h 4 (upd (h 4) 0 ((h 94) 0))) 4 1 ((h 94) 1) = am_row (am_row h 4 (upd (h 4) 0 ((h 94) 0))) 4 (upd (upd (h 4) 0 ((h 94) 0)) 1 ((h 94) 1)) from am_up_rw _ _ _ _) ?_
  refine am_hp (show am_row (am_row h 4 (upd (h 4) 0 ((h 94) 0))) 4 (upd (upd (h 4) 0 ((h 94) 0)) 1 ((h 94) 1)) = (am_row h 4 (upd (upd (h 4) 0 ((h 94) 0)) 1 ((h 94) 1))) from am_row_s0) ?_
  refine am_aload_n (pc := 16) C dX3_copyFrom_16 rfl ?_
  refine am_aload_n (pc := 17) C dX3_copyFrom_17 rfl ?_
  refine am_getI (pc := 18) C dX3_copyFrom_18 f3_55 bn_94 sh_94 ?_
  refine am_putI (pc := 21) C dX3_copyFrom_21 f3_55 bn_4 sh_4 rfl rfl ?_
  refine am_hp (show am_up (am_row h 4 (upd (upd (h 4) 0 ((h 94) 0)) 1 ((h 94) 1))) 4 2 ((h 94) 2) = am_row (am_row h 4 (upd (upd (h 4) 0 ((h 94) 0)) 1 ((h 94) 1))) 4 (upd (upd (upd (h 4) 0 ((h 94) 0)) 1 ((h 94) 1)) 2 ((h 94) 2)) from am_up_rw _ _ _ _) ?_
  refine am_hp (show am_row (am_row h 4 (upd (upd (h 4) 0 ((h 94) 0)) 1 ((h 94) 1))) 4 (upd (upd (upd (h 4) 0 ((h 94) 0)) 1 ((h 94) 1)) 2 ((h 94) 2)) = (am_row h 4 (upd (upd (upd (h 4) 0 ((h 94) 0)) 1 ((h 94) 1)) 2 ((h 94) 2))) from am_row_s0) ?_
  refine am_aload_n (pc := 24) C dX3_copyFrom_24 rfl ?_
  refine am_aload_n (pc := 25) C dX3_copyFrom_25 rfl ?_
  refine am_getI (pc := 26) C dX3_copyFrom_26 f3_58 bn_94 sh_94 ?_
  refine am_putI (pc := 29) C dX3_copyFrom_29 f3_58 bn_4 sh_4 rfl rfl ?_
  refine am_hp (show am_up (am_row h 4 (upd (upd (upd (h 4) 0 ((h 94) 0)) 1 ((h 94) 1)) 2 ((h 94) 2))) 4 3 ((h 94) 3) = am_row (am_row h 4 (upd (upd (upd (h 4) 0 ((h 94) 0)) 1 ((h 94) 1)) 2 ((h 94) 2))) 4 (upd (upd (upd (upd (h 4) 0 ((h 94) 0)) 1 ((h 94) 1)) 2 ((h 94) 2)) 3 ((h 94) 3)) from am_up_rw _ _ _ _) ?_
  refine am_hp (show am_row (am_row h 4 (upd (upd (upd (h 4) 0 ((h 94) 0)) 1 ((h 94) 1)) 2 ((h 94) 2))) 4 (upd (upd (upd (upd (h 4) 0 ((h 94) 0)) 1 ((h 94) 1)) 2 ((h 94) 2)) 3 ((h 94) 3)) = (am_row h 4 (upd (upd (upd (upd (h 4) 0 ((h 94) 0)) 1 ((h 94) 1)) 2 ((h 94) 2)) 3 ((h 94) 3))) from am_row_s0) ?_
  refine am_aload_n (pc := 32) C dX3_copyFrom_32 rfl ?_
  refine am_getR (pc := 33) (j := 95) C dX3_copyFrom_33 f3_9 bn_94 sh_94 (rf_94_4 hR) ?_
  refine am_aload_n (pc := 36) C dX3_copyFrom_36 rfl ?_
  refine am_getR (pc := 37) (j := 5) C dX3_copyFrom_37 f3_9 bn_4 sh_4 (rf_4_4 hR) ?_
  refine am_callSNv (Y := mX11_copyRow) (pc := 40) (st := []) (As := [.ref 95, .ref 5]) (h2 := (am_row (am_row h 4 (upd (upd (upd (upd (h 4) 0 ((h 94) 0)) 1 ((h 94) 1)) 2 ((h 94) 2)) 3 ((h 94) 3))) 5 (va_cpy (h 95) (h 5) 0 0 16))) C dX3_copyFrom_40 k3_61 v_X11_copyRow rfl rfl (by decide) (Nat.zero_le _) (Nat.zero_le _) (Nat.le_of_ble_eq_true rfl) (c_X11_copyRow hR 95 5 16 bn_95 sh_95 bn_5 sh_5 (by decide)) ?_
  refine am_aload_n (pc := 43) C dX3_copyFrom_43 rfl ?_
  refine am_getR (pc := 44) (j := 96) C dX3_copyFrom_44 f3_15 bn_94 sh_94 (rf_94_5 hR) ?_
  refine am_aload_n (pc := 47) C dX3_copyFrom_47 rfl ?_
  refine am_getR (pc := 48) (j := 6) C dX3_copyFrom_48 f3_15 bn_4 sh_4 (rf_4_5 hR) ?_
  refine am_callSNv (Y := mX11_copyRow) (pc := 51) (st := []) (As := [.ref 96, .ref 6]) (h2 := (am_row (am_row (am_row h 4 (upd (upd (upd (upd (h 4) 0 ((h 94) 0)) 1 ((h 94) 1)) 2 ((h 94) 2)) 3 ((h 94) 3))) 5 (va_cpy (h 95) (h 5) 0 0 16)) 6 (va_cpy (h 96) (h 6) 0 0 16))) C dX3_copyFrom_51 k3_61 v_X11_copyRow rfl rfl (by decide) (Nat.zero_le _) (Nat.zero_le _) (Nat.le_of_ble_eq_true rfl) (c_X11_copyRow hR 96 6 16 bn_96 sh_96 bn_6 sh_6 (by decide)) ?_
  refine am_aload_n (pc := 54) C dX3_copyFrom_54 rfl ?_
  refine am_getR (pc := 55) (j := 97) C dX3_copyFrom_55 f3_18 bn_94 sh_94 (rf_94_6 hR) ?_
  refine am_aload_n (pc := 58) C dX3_copyFrom_58 rfl ?_
  refine am_getR (pc := 59) (j := 7) C dX3_copyFrom_59 f3_18 bn_4 sh_4 (rf_4_6 hR) ?_
  refine am_callSNv (Y := mX11_copyRow) (pc := 62) (st := []) (As := [.ref 97, .ref 7]) (h2 := (am_row (am_row (am_row (am_row h 4 (upd (upd (upd (upd (h 4) 0 ((h 94) 0)) 1 ((h 94) 1)) 2 ((h 94) 2)) 3 ((h 94) 3))) 5 (va_cpy (h 95) (h 5) 0 0 16)) 6 (va_cpy (h 96) (h 6) 0 0 16)) 7 (va_cpy (h 97) (h 7) 0 0 16))) C dX3_copyFrom_62 k3_61 v_X11_copyRow rfl rfl (by decide) (Nat.zero_le _) (Nat.zero_le _) (Nat.le_of_ble_eq_true rfl) (c_X11_copyRow hR 97 7 16 bn_97 sh_97 bn_7 sh_7 (by decide)) ?_
  refine am_aload_n (pc := 65) C dX3_copyFrom_65 rfl ?_
  refine am_getR (pc := 66) (j := 98) C dX3_copyFrom_66 f3_21 bn_94 sh_94 (rf_94_7 hR) ?_
  refine am_aload_n (pc := 69) C dX3_copyFrom_69 rfl ?_
  refine am_getR (pc := 70) (j := 8) C dX3_copyFrom_70 f3_21 bn_4 sh_4 (rf_4_7 hR) ?_
  refine am_callSNv (Y := mX11_copyRow) (pc := 73) (st := []) (As := [.ref 98, .ref 8]) (h2 := (am_row (am_row (am_row (am_row (am_row h 4 (upd (upd (upd (upd (h 4) 0 ((h 94) 0)) 1 ((h 94) 1)) 2 ((h 94) 2)) 3 ((h 94) 3))) 5 (va_cpy (h 95) (h 5) 0 0 16)) 6 (va_cpy (h 96) (h 6) 0 0 16)) 7 (va_cpy (h 97) (h 7) 0 0 16)) 8 (va_cpy (h 98) (h 8) 0 0 16))) C dX3_copyFrom_73 k3_61 v_X11_copyRow rfl rfl (by decide) (Nat.zero_le _) (Nat.zero_le _) (Nat.le_of_ble_eq_true rfl) (c_X11_copyRow hR 98 8 16 bn_98 sh_98 bn_8 sh_8 (by decide)) ?_
  refine am_aload_n (pc := 76) C dX3_copyFrom_76 rfl ?_
  refine am_getR (pc := 77) (j := 99) C dX3_copyFrom_77 f3_24 bn_94 sh_94 (rf_94_8 hR) ?_
  refine am_aload_n (pc := 80) C dX3_copyFrom_80 rfl ?_
  refine am_getR (pc := 81) (j := 9) C dX3_copyFrom_81 f3_24 bn_4 sh_4 (rf_4_8 hR) ?_
  refine am_callSNv (Y := mX11_copyRow) (pc := 84) (st := []) (As := [.ref 99, .ref 9]) (h2 := (am_row (am_row (am_row (am_row (am_row (am_row h 4 (upd (upd (upd (upd (h 4) 0 ((h 94) 0)) 1 ((h 94) 1)) 2 ((h 94) 2)) 3 ((h 94) 3))) 5 (va_cpy (h 95) (h 5) 0 0 16)) 6 (va_cpy (h 96) (h 6) 0 0 16)) 7 (va_cpy (h 97) (h 7) 0 0 16)) 8 (va_cpy (h 98) (h 8) 0 0 16)) 9 (va_cpy (h 99) (h 9) 0 0 16))) C dX3_copyFrom_84 k3_61 v_X11_copyRow rfl rfl (by decide) (Nat.zero_le _) (Nat.zero_le _) (Nat.le_of_ble_eq_true rfl) (c_X11_copyRow hR 99 9 16 bn_99 sh_99 bn_9 sh_9 (by decide)) ?_
  refine am_aload_n (pc := 87) C dX3_copyFrom_87 rfl ?_
  refine am_getR (pc := 88) (j := 100) C dX3_copyFrom_88 f3_27 bn_94 sh_94 (rf_94_9 hR) ?_
  refine am_aload_n (pc := 91) C dX3_copyFrom_91 rfl ?_
  refine am_getR (pc := 92) (j := 10) C dX3_copyFrom_92 f3_27 bn_4 sh_4 (rf_4_9 hR) ?_
  refine am_callSNv (Y := mX11_copyRow) (pc := 95) (st := []) (As := [.ref 100, .ref 10]) (h2 := (am_row (am_row (am_row (am_row (am_row (am_row (am_row h 4 (upd (upd (upd (upd (h 4) 0 ((h 94) 0)) 1 ((h 94) 1)) 2 ((h 94) 2)) 3 ((h 94) 3))) 5 (va_cpy (h 95) (h 5) 0 0 16)) 6 (va_cpy (h 96) (h 6) 0 0 16)) 7 (va_cpy (h 97) (h 7) 0 0 16)) 8 (va_cpy (h 98) (h 8) 0 0 16)) 9 (va_cpy (h 99) (h 9) 0 0 16)) 10 (va_cpy (h 100) (h 10) 0 0 10))) C dX3_copyFrom_95 k3_61 v_X11_copyRow rfl rfl (by decide) (Nat.zero_le _) (Nat.zero_le _) (Nat.le_of_ble_eq_true rfl) (c_X11_copyRow hR 100 10 10 bn_100 sh_100 bn_10 sh_10 (by decide)) ?_
  refine am_aload_n (pc := 98) C dX3_copyFrom_98 rfl ?_
  refine am_getR (pc := 99) (j := 101) C dX3_copyFrom_99 f3_30 bn_94 sh_94 (rf_94_10 hR) ?_
  refine am_aload_n (pc := 102) C dX3_copyFrom_102 rfl ?_
  refine am_getR (pc := 103) (j := 11) C dX3_copyFrom_103 f3_30 bn_4 sh_4 (rf_4_10 hR) ?_
  refine am_callSNv (Y := mX11_copyRow) (pc := 106) (st := []) (As := [.ref 101, .ref 11]) (h2 := (am_row (am_row (am_row (am_row (am_row (am_row (am_row (am_row h 4 (upd (upd (upd (upd (h 4) 0 ((h 94) 0)) 1 ((h 94) 1)) 2 ((h 94) 2)) 3 ((h 94) 3))) 5 (va_cpy (h 95) (h 5) 0 0 16)) 6 (va_cpy (h 96) (h 6) 0 0 16)) 7 (va_cpy (h 97) (h 7) 0 0 16)) 8 (va_cpy (h 98) (h 8) 0 0 16)) 9 (va_cpy (h 99) (h 9) 0 0 16)) 10 (va_cpy (h 100) (h 10) 0 0 10)) 11 (va_cpy (h 101) (h 11) 0 0 10))) C dX3_copyFrom_106 k3_61 v_X11_copyRow rfl rfl (by decide) (Nat.zero_le _) (Nat.zero_le _) (Nat.le_of_ble_eq_true rfl) (c_X11_copyRow hR 101 11 10 bn_101 sh_101 bn_11 sh_11 (by decide)) ?_
  refine am_aload_n (pc := 109) C dX3_copyFrom_109 rfl ?_
  refine am_getR (pc := 110) (j := 102) C dX3_copyFrom_110 f3_33 bn_94 sh_94 (rf_94_11 hR) ?_
  refine am_aload_n (pc := 113) C dX3_copyFrom_113 rfl ?_
  refine am_getR (pc := 114) (j := 12) C dX3_copyFrom_114 f3_33 bn_4 sh_4 (rf_4_11 hR) ?_
  refine am_callSNv (Y := mX11_copyRow) (pc := 117) (st := []) (As := [.ref 102, .ref 12]) (h2 := (am_row (am_row (am_row (am_row (am_row (am_row (am_row (am_row (am_row h 4 (upd (upd (upd (upd (h 4) 0 ((h 94) 0)) 1 ((h 94) 1)) 2 ((h 94) 2)) 3 ((h 94) 3))) 5 (va_cpy (h 95) (h 5) 0 0 16)) 6 (va_cpy (h 96) (h 6) 0 0 16)) 7 (va_cpy (h 97) (h 7) 0 0 16)) 8 (va_cpy (h 98) (h 8) 0 0 16)) 9 (va_cpy (h 99) (h 9) 0 0 16)) 10 (va_cpy (h 100) (h 10) 0 0 10)) 11 (va_cpy (h 101) (h 11) 0 0 10)) 12 (va_cpy (h 102) (h 12) 0 0 10))) C dX3_copyFrom_117 k3_61 v_X11_copyRow rfl rfl (by decide) (Nat.zero_le _) (Nat.zero_le _) (Nat.le_of_ble_eq_true rfl) (c_X11_copyRow hR 102 12 10 bn_102 sh_102 bn_12 sh_12 (by decide)) ?_
  refine am_aload_n (pc := 120) C dX3_copyFrom_120 rfl ?_
  refine am_getR (pc := 121) (j := 103) C dX3_copyFrom_121 f3_36 bn_94 sh_94 (rf_94_12 hR) ?_
  refine am_aload_n (pc := 124) C dX3_copyFrom_124 rfl ?_
  refine am_getR (pc := 125) (j := 13) C dX3_copyFrom_125 f3_36 bn_4 sh_4 (rf_4_12 hR) ?_
  refine am_callSNv (Y := mX11_copyRow) (pc := 128) (st := []) (As := [.ref 103, .ref 13]) (h2 := (am_row (am_row (am_row (am_row (am_row (am_row (am_row (am_row (am_row (am_row h 4 (upd (upd (upd (upd (h 4) 0 ((h 94) 0)) 1 ((h 94) 1)) 2 ((h 94) 2)) 3 ((h 94) 3))) 5 (va_cpy (h 95) (h 5) 0 0 16)) 6 (va_cpy (h 96) (h 6) 0 0 16)) 7 (va_cpy (h 97) (h 7) 0 0 16)) 8 (va_cpy (h 98) (h 8) 0 0 16)) 9 (va_cpy (h 99) (h 9) 0 0 16)) 10 (va_cpy (h 100) (h 10) 0 0 10)) 11 (va_cpy (h 101) (h 11) 0 0 10)) 12 (va_cpy (h 102) (h 12) 0 0 10)) 13 (va_cpy (h 103) (h 13) 0 0 60))) C dX3_copyFrom_128 k3_61 v_X11_copyRow rfl rfl (by decide) (Nat.zero_le _) (Nat.zero_le _) (Nat.le_of_ble_eq_true rfl) (c_X11_copyRow hR 103 13 60 bn_103 sh_103 bn_13 sh_13 (by decide)) ?_
  refine am_aload_n (pc := 131) C dX3_copyFrom_131 rfl ?_
  refine am_getR (pc := 132) (j := 104) C dX3_copyFrom_132 f3_39 bn_94 sh_94 (rf_94_13 hR) ?_
  refine am_aload_n (pc := 135) C dX3_copyFrom_135 rfl ?_
  refine am_getR (pc := 136) (j := 14) C dX3_copyFrom_136 f3_39 bn_4 sh_4 (rf_4_13 hR) ?_
  refine am_callSNv (Y := mX11_copyRow) (pc := 139) (st := []) (As := [.ref 104, .ref 14]) (h2 := (am_row (am_row (am_row (am_row (am_row (am_row (am_row (am_row (am_row (am_row (am_row h 4 (upd (upd (upd (upd (h 4) 0 ((h 94) 0)) 1 ((h 94) 1)) 2 ((h 94) 2)) 3 ((h 94) 3))) 5 (va_cpy (h 95) (h 5) 0 0 16)) 6 (va_cpy (h 96) (h 6) 0 0 16)) 7 (va_cpy (h 97) (h 7) 0 0 16)) 8 (va_cpy (h 98) (h 8) 0 0 16)) 9 (va_cpy (h 99) (h 9) 0 0 16)) 10 (va_cpy (h 100) (h 10) 0 0 10)) 11 (va_cpy (h 101) (h 11) 0 0 10)) 12 (va_cpy (h 102) (h 12) 0 0 10)) 13 (va_cpy (h 103) (h 13) 0 0 60)) 14 (va_cpy (h 104) (h 14) 0 0 10))) C dX3_copyFrom_139 k3_61 v_X11_copyRow rfl rfl (by decide) (Nat.zero_le _) (Nat.zero_le _) (Nat.le_of_ble_eq_true rfl) (c_X11_copyRow hR 104 14 10 bn_104 sh_104 bn_14 sh_14 (by decide)) ?_
  refine am_aload_n (pc := 142) C dX3_copyFrom_142 rfl ?_
  refine am_getR (pc := 143) (j := 105) C dX3_copyFrom_143 f3_42 bn_94 sh_94 (rf_94_14 hR) ?_
  refine am_aload_n (pc := 146) C dX3_copyFrom_146 rfl ?_
  refine am_getR (pc := 147) (j := 15) C dX3_copyFrom_147 f3_42 bn_4 sh_4 (rf_4_14 hR) ?_
  refine am_callSNv (Y := mX11_copyRow) (pc := 150) (st := []) (As := [.ref 105, .ref 15]) (h2 := (am_row (am_row (am_row (am_row (am_row (am_row (am_row (am_row (am_row (am_row (am_row (am_row h 4 (upd (upd (upd (upd (h 4) 0 ((h 94) 0)) 1 ((h 94) 1)) 2 ((h 94) 2)) 3 ((h 94) 3))) 5 (va_cpy (h 95) (h 5) 0 0 16)) 6 (va_cpy (h 96) (h 6) 0 0 16)) 7 (va_cpy (h 97) (h 7) 0 0 16)) 8 (va_cpy (h 98) (h 8) 0 0 16)) 9 (va_cpy (h 99) (h 9) 0 0 16)) 10 (va_cpy (h 100) (h 10) 0 0 10)) 11 (va_cpy (h 101) (h 11) 0 0 10)) 12 (va_cpy (h 102) (h 12) 0 0 10)) 13 (va_cpy (h 103) (h 13) 0 0 60)) 14 (va_cpy (h 104) (h 14) 0 0 10)) 15 (va_cpy (h 105) (h 15) 0 0 10))) C dX3_copyFrom_150 k3_61 v_X11_copyRow rfl rfl (by decide) (Nat.zero_le _) (Nat.zero_le _) (Nat.le_of_ble_eq_true rfl) (c_X11_copyRow hR 105 15 10 bn_105 sh_105 bn_15 sh_15 (by decide)) ?_
  refine am_aload_n (pc := 153) C dX3_copyFrom_153 rfl ?_
  refine am_getR (pc := 154) (j := 106) C dX3_copyFrom_154 f3_45 bn_94 sh_94 (rf_94_15 hR) ?_
  refine am_aload_n (pc := 157) C dX3_copyFrom_157 rfl ?_
  refine am_getR (pc := 158) (j := 16) C dX3_copyFrom_158 f3_45 bn_4 sh_4 (rf_4_15 hR) ?_
  refine am_callSNv (Y := mX11_copyRow) (pc := 161) (st := []) (As := [.ref 106, .ref 16]) (h2 := (am_row (am_row (am_row (am_row (am_row (am_row (am_row (am_row (am_row (am_row (am_row (am_row (am_row h 4 (upd (upd (upd (upd (h 4) 0 ((h 94) 0)) 1 ((h 94) 1)) 2 ((h 94) 2)) 3 ((h 94) 3))) 5 (va_cpy (h 95) (h 5) 0 0 16)) 6 (va_cpy (h 96) (h 6) 0 0 16)) 7 (va_cpy (h 97) (h 7) 0 0 16)) 8 (va_cpy (h 98) (h 8) 0 0 16)) 9 (va_cpy (h 99) (h 9) 0 0 16)) 10 (va_cpy (h 100) (h 10) 0 0 10)) 11 (va_cpy (h 101) (h 11) 0 0 10)) 12 (va_cpy (h 102) (h 12) 0 0 10)) 13 (va_cpy (h 103) (h 13) 0 0 60)) 14 (va_cpy (h 104) (h 14) 0 0 10)) 15 (va_cpy (h 105) (h 15) 0 0 10)) 16 (va_cpy (h 106) (h 16) 0 0 2))) C dX3_copyFrom_161 k3_61 v_X11_copyRow rfl rfl (by decide) (Nat.zero_le _) (Nat.zero_le _) (Nat.le_of_ble_eq_true rfl) (c_X11_copyRow hR 106 16 2 bn_106 sh_106 bn_16 sh_16 (by decide)) ?_
  exact am_vretvr T dX3_copyFrom_164 rfl (Nat.le_refl _) (Nat.le_refl _) rfl ⟨cl_Lo_cpy hV hLo rfl rfl rfl rfl (fun k hk => va_cpy_0 hk) (fun k hk => va_cpy_0 hk) (fun k hk => va_cpy_0 hk) (fun k hk => va_cpy_0 hk) (fun k hk => va_cpy_0 hk) (fun k hk => va_cpy_0 hk) (fun k hk => va_cpy_0 hk) (fun k hk => va_cpy_0 hk) (fun k hk => va_cpy_0 hk) (fun k hk => va_cpy_0 hk) (fun k hk => va_cpy_0 hk) (fun k hk => va_cpy_0 hk), (fun i9 h9 => by rw [am_row_ne _ _ _ (by omega), am_row_ne _ _ _ (by omega), am_row_ne _ _ _ (by omega), am_row_ne _ _ _ (by omega), am_row_ne _ _ _ (by omega), am_row_ne _ _ _ (by omega), am_row_ne _ _ _ (by omega), am_row_ne _ _ _ (by omega), am_row_ne _ _ _ (by omega), am_row_ne _ _ _ (by omega), am_row_ne _ _ _ (by omega), am_row_ne _ _ _ (by omega), am_row_ne _ _ _ (by omega)])⟩

set_option maxHeartbeats 400000 in
set_option maxRecDepth 100000 in
theorem c_X1_copyFrom_nk {ad : Nat → Nat} {r : am_R} (hR : am_rs r) {h : am_H}  (w : rf_W) (hLw : rf_Lw w) (hA : cl_La (h) 107 w)  : am_CM mX1_copyFrom 3 0 0 [.ref 17, .ref 107] (am_VV ad) r h (am_pr none r (fun c9 => cl_La c9 17 w ∧ cl_fr (h) c9 17 6)) := by
  refine am_CM.of (by decide +kernel) (Nat.le_of_ble_eq_true rfl) (fun X C T => ?_)
  show am_G X (am_VV ad) (0, 0) 0 [(0, .ref 17), (1, .ref 107)] [] r h
  refine am_aload_n (pc := 0) C dX1_copyFrom_0 rfl ?_
  refine am_aload_n (pc := 1) C dX1_copyFrom_1 rfl ?_
  refine am_getI (pc := 2) C dX1_copyFrom_2 f1_9 bn_107 sh_107 ?_
  refine am_putI (pc := 5) C dX1_copyFrom_5 f1_9 bn_17 sh_17 rfl rfl ?_
  refine am_hp (show am_up h 17 0 ((h 107) 0) = am_row h 17 (upd (h 17) 0 ((h 107) 0)) from am_up_rw _ _ _ _) ?_
  refine am_aload_n (pc := 8) C dX1_copyFrom_8 rfl ?_
  refine am_aload_n (pc := 9) C dX1_copyFrom_9 rfl ?_
  refine am_getI (pc := 10) C dX1_copyFrom_10 f1_37 bn_107 sh_107 ?_
  refine am_putI (pc := 13) C dX1_copyFrom_13 f1_37 bn_17 sh_17 rfl rfl ?_
  refine am_hp (show am_up (am_row h 17 (upd (h 17) 0 ((h 107) 0))) 17 1 ((h 107) 1) = am_row (am_row h 17 (upd (h 17) 0 ((h 107) 0))) 17 (upd (upd (h 17) 0 ((h 107) 0)) 1 ((h 107) 1)) from am_up_rw _ _ _ _) ?_
  refine am_hp (show am_row (am_row h 17 (upd (h 17) 0 ((h 107) 0))) 17 (upd (upd (h 17) 0 ((h 107) 0)) 1 ((h 107) 1)) = (am_row h 17 (upd (upd (h 17) 0 ((h 107) 0)) 1 ((h 107) 1))) from am_row_s0) ?_
  refine am_aload_n (pc := 16) C dX1_copyFrom_16 rfl ?_
  refine am_getR (pc := 17) (j := 108) C dX1_copyFrom_17 f1_15 bn_107 sh_107 (rf_107_2 hR) ?_
  refine am_aload_n (pc := 20) C dX1_copyFrom_20 rfl ?_
  refine am_getR (pc := 21) (j := 18) C dX1_copyFrom_21 f1_15 bn_17 sh_17 (rf_17_2 hR) ?_
  refine am_callSNv (Y := mX11_copyRow) (pc := 24) (st := []) (As := [.ref 108, .ref 18]) (h2 := (am_row (am_row h 17 (upd (upd (h 17) 0 ((h 107) 0)) 1 ((h 107) 1))) 18 (va_cpy (h 108) (h 18) 0 0 12))) C dX1_copyFrom_24 k1_40 v_X11_copyRow rfl rfl (by decide) (Nat.zero_le _) (Nat.zero_le _) (Nat.le_of_ble_eq_true rfl) (c_X11_copyRow hR 108 18 12 bn_108 sh_108 bn_18 sh_18 (by decide)) ?_
  refine am_aload_n (pc := 27) C dX1_copyFrom_27 rfl ?_
  refine am_getR (pc := 28) (j := 109) C dX1_copyFrom_28 f1_19 bn_107 sh_107 (rf_107_3 hR) ?_
  refine am_aload_n (pc := 31) C dX1_copyFrom_31 rfl ?_
  refine am_getR (pc := 32) (j := 19) C dX1_copyFrom_32 f1_19 bn_17 sh_17 (rf_17_3 hR) ?_
  refine am_callSNv (Y := mX11_copyRow) (pc := 35) (st := []) (As := [.ref 109, .ref 19]) (h2 := (am_row (am_row (am_row h 17 (upd (upd (h 17) 0 ((h 107) 0)) 1 ((h 107) 1))) 18 (va_cpy (h 108) (h 18) 0 0 12)) 19 (va_cpy (h 109) (h 19) 0 0 12))) C dX1_copyFrom_35 k1_40 v_X11_copyRow rfl rfl (by decide) (Nat.zero_le _) (Nat.zero_le _) (Nat.le_of_ble_eq_true rfl) (c_X11_copyRow hR 109 19 12 bn_109 sh_109 bn_19 sh_19 (by decide)) ?_
  refine am_aload_n (pc := 38) C dX1_copyFrom_38 rfl ?_
  refine am_getR (pc := 39) (j := 110) C dX1_copyFrom_39 f1_22 bn_107 sh_107 (rf_107_4 hR) ?_
  refine am_aload_n (pc := 42) C dX1_copyFrom_42 rfl ?_
  refine am_getR (pc := 43) (j := 20) C dX1_copyFrom_43 f1_22 bn_17 sh_17 (rf_17_4 hR) ?_
  refine am_callSNv (Y := mX11_copyRow) (pc := 46) (st := []) (As := [.ref 110, .ref 20]) (h2 := (am_row (am_row (am_row (am_row h 17 (upd (upd (h 17) 0 ((h 107) 0)) 1 ((h 107) 1))) 18 (va_cpy (h 108) (h 18) 0 0 12)) 19 (va_cpy (h 109) (h 19) 0 0 12)) 20 (va_cpy (h 110) (h 20) 0 0 12))) C dX1_copyFrom_46 k1_40 v_X11_copyRow rfl rfl (by decide) (Nat.zero_le _) (Nat.zero_le _) (Nat.le_of_ble_eq_true rfl) (c_X11_copyRow hR 110 20 12 bn_110 sh_110 bn_20 sh_20 (by decide)) ?_
  refine am_aload_n (pc := 49) C dX1_copyFrom_49 rfl ?_
  refine am_getR (pc := 50) (j := 111) C dX1_copyFrom_50 f1_25 bn_107 sh_107 (rf_107_5 hR) ?_
  refine am_aload_n (pc := 53) C dX1_copyFrom_53 rfl ?_
  refine am_getR (pc := 54) (j := 21) C dX1_copyFrom_54 f1_25 bn_17 sh_17 (rf_17_5 hR) ?_
  refine am_callSNv (Y := mX11_copyRow) (pc := 57) (st := []) (As := [.ref 111, .ref 21]) (h2 := (am_row (am_row (am_row (am_row (am_row h 17 (upd (upd (h 17) 0 ((h 107) 0)) 1 ((h 107) 1))) 18 (va_cpy (h 108) (h 18) 0 0 12)) 19 (va_cpy (h 109) (h 19) 0 0 12)) 20 (va_cpy (h 110) (h 20) 0 0 12)) 21 (va_cpy (h 111) (h 21) 0 0 12))) C dX1_copyFrom_57 k1_40 v_X11_copyRow rfl rfl (by decide) (Nat.zero_le _) (Nat.zero_le _) (Nat.le_of_ble_eq_true rfl) (c_X11_copyRow hR 111 21 12 bn_111 sh_111 bn_21 sh_21 (by decide)) ?_
  refine am_aload_n (pc := 60) C dX1_copyFrom_60 rfl ?_
  refine am_getR (pc := 61) (j := 112) C dX1_copyFrom_61 f1_28 bn_107 sh_107 (rf_107_6 hR) ?_
  refine am_aload_n (pc := 64) C dX1_copyFrom_64 rfl ?_
  refine am_getR (pc := 65) (j := 22) C dX1_copyFrom_65 f1_28 bn_17 sh_17 (rf_17_6 hR) ?_
  refine am_callSNv (Y := mX11_copyRow) (pc := 68) (st := []) (As := [.ref 112, .ref 22]) (h2 := (am_row (am_row (am_row (am_row (am_row (am_row h 17 (upd (upd (h 17) 0 ((h 107) 0)) 1 ((h 107) 1))) 18 (va_cpy (h 108) (h 18) 0 0 12)) 19 (va_cpy (h 109) (h 19) 0 0 12)) 20 (va_cpy (h 110) (h 20) 0 0 12)) 21 (va_cpy (h 111) (h 21) 0 0 12)) 22 (va_cpy (h 112) (h 22) 0 0 400))) C dX1_copyFrom_68 k1_40 v_X11_copyRow rfl rfl (by decide) (Nat.zero_le _) (Nat.zero_le _) (Nat.le_of_ble_eq_true rfl) (c_X11_copyRow hR 112 22 400 bn_112 sh_112 bn_22 sh_22 (by decide)) ?_
  exact am_vretvr T dX1_copyFrom_71 rfl (Nat.le_refl _) (Nat.le_refl _) rfl ⟨cl_La_cpy hLw hA rfl (fun k hk => va_cpy_0 hk) (fun k hk => va_cpy_0 hk) (fun k hk => va_cpy_0 hk) (fun k hk => va_cpy_0 hk) (fun k hk => va_cpy_0 hk), (fun i9 h9 => by rw [am_row_ne _ _ _ (by omega), am_row_ne _ _ _ (by omega), am_row_ne _ _ _ (by omega), am_row_ne _ _ _ (by omega), am_row_ne _ _ _ (by omega), am_row_ne _ _ _ (by omega)])⟩

set_option maxHeartbeats 400000 in
set_option maxRecDepth 100000 in
theorem c_X5_copyFrom_d_nk {ad : Nat → Nat} {r : am_R} (hR : am_rs r) {h : am_H}  (w : rf_W) (hV : rf_I w) (hSc : cl_Sc (h) 115 w)  : am_CM mX5_copyFrom 3 0 0 [.ref 25, .ref 115] (am_VV ad) r h (am_pr none r (fun c9 => cl_Sc c9 25 w ∧ cl_fr (h) c9 25 15)) := by
  refine am_CM.of (by decide +kernel) (Nat.le_of_ble_eq_true rfl) (fun X C T => ?_)
  show am_G X (am_VV ad) (0, 0) 0 [(0, .ref 25), (1, .ref 115)] [] r h
  refine am_aload_n (pc := 0) C dX5_copyFrom_0 rfl ?_
  refine am_aload_n (pc := 1) C dX5_copyFrom_1 rfl ?_
  refine am_getI (pc := 2) C dX5_copyFrom_2 f5_58 bn_115 sh_115 ?_
  refine am_putI (pc := 5) C dX5_copyFrom_5 f5_58 bn_25 sh_25 rfl rfl ?_
  refine am_hp (show am_up h 25 0 ((h 115) 0) = am_row h 25 (upd (h 25) 0 ((h 115) 0)) from am_up_rw _ _ _ _) ?_
  refine am_aload_n (pc := 8) C dX5_copyFrom_8 rfl ?_
  refine am_aload_n (pc := 9) C dX5_copyFrom_9 rfl ?_
  refine am_getI (pc := 10) C dX5_copyFrom_10 f5_9 bn_115 sh_115 ?_
  refine am_putI (pc := 13) C dX5_copyFrom_13 f5_9 bn_25 sh_25 rfl rfl ?_
  refine am_hp (show am_up (am_row h 25 (upd (h 25) 0 ((h 115) 0))) 25 1 ((h 115) 1) = am_row (am_row h 25 (upd (h 25) 0 ((h 115) 0))) 25 (upd (upd (h 25) 0 ((h 115) 0)) 1 ((h 115) 1)) from am_up_rw _ _ _ _) ?_
  refine am_hp (show am_row (am_row h 25 (upd (h 25) 0 ((h 115) 0))) 25 (upd (upd (h 25) 0 ((h 115) 0)) 1 ((h 115) 1)) = (am_row h 25 (upd (upd (h 25) 0 ((h 115) 0)) 1 ((h 115) 1))) from am_row_s0) ?_
  refine am_aload_n (pc := 16) C dX5_copyFrom_16 rfl ?_
  refine am_aload_n (pc := 17) C dX5_copyFrom_17 rfl ?_
  refine am_getI (pc := 18) C dX5_copyFrom_18 f5_61 bn_115 sh_115 ?_
  refine am_putI (pc := 21) C dX5_copyFrom_21 f5_61 bn_25 sh_25 rfl rfl ?_
  refine am_hp (show am_up (am_row h 25 (upd (upd (h 25) 0 ((h 115) 0)) 1 ((h 115) 1))) 25 2 ((h 115) 2) = am_row (am_row h 25 (upd (upd (h 25) 0 ((h 115) 0)) 1 ((h 115) 1))) 25 (upd (upd (upd (h 25) 0 ((h 115) 0)) 1 ((h 115) 1)) 2 ((h 115) 2)) from am_up_rw _ _ _ _) ?_
  refine am_hp (show am_row (am_row h 25 (upd (upd (h 25) 0 ((h 115) 0)) 1 ((h 115) 1))) 25 (upd (upd (upd (h 25) 0 ((h 115) 0)) 1 ((h 115) 1)) 2 ((h 115) 2)) = (am_row h 25 (upd (upd (upd (h 25) 0 ((h 115) 0)) 1 ((h 115) 1)) 2 ((h 115) 2))) from am_row_s0) ?_
  refine am_aload_n (pc := 24) C dX5_copyFrom_24 rfl ?_
  refine am_aload_n (pc := 25) C dX5_copyFrom_25 rfl ?_
  refine am_getI (pc := 26) C dX5_copyFrom_26 f5_64 bn_115 sh_115 ?_
  refine am_putI (pc := 29) C dX5_copyFrom_29 f5_64 bn_25 sh_25 rfl rfl ?_
  refine am_hp (show am_up (am_row h 25 (upd (upd (upd (h 25) 0 ((h 115) 0)) 1 ((h 115) 1)) 2 ((h 115) 2))) 25 3 ((h 115) 3) = am_row (am_row h 25 (upd (upd (upd (h 25) 0 ((h 115) 0)) 1 ((h 115) 1)) 2 ((h 115) 2))) 25 (upd (upd (upd (upd (h 25) 0 ((h 115) 0)) 1 ((h 115) 1)) 2 ((h 115) 2)) 3 ((h 115) 3)) from am_up_rw _ _ _ _) ?_
  refine am_hp (show am_row (am_row h 25 (upd (upd (upd (h 25) 0 ((h 115) 0)) 1 ((h 115) 1)) 2 ((h 115) 2))) 25 (upd (upd (upd (upd (h 25) 0 ((h 115) 0)) 1 ((h 115) 1)) 2 ((h 115) 2)) 3 ((h 115) 3)) = (am_row h 25 (upd (upd (upd (upd (h 25) 0 ((h 115) 0)) 1 ((h 115) 1)) 2 ((h 115) 2)) 3 ((h 115) 3))) from am_row_s0) ?_
  refine am_aload_n (pc := 32) C dX5_copyFrom_32 rfl ?_
  refine am_aload_n (pc := 33) C dX5_copyFrom_33 rfl ?_
  refine am_getI (pc := 34) C dX5_copyFrom_34 f5_67 bn_115 sh_115 ?_
  refine am_putI (pc := 37) C dX5_copyFrom_37 f5_67 bn_25 sh_25 rfl rfl ?_
  refine am_hp (show am_up (am_row h 25 (upd (upd (upd (upd (h 25) 0 ((h 115) 0)) 1 ((h 115) 1)) 2 ((h 115) 2)) 3 ((h 115) 3))) 25 4 ((h 115) 4) = am_row (am_row h 25 (upd (upd (upd (upd (h 25) 0 ((h 115) 0)) 1 ((h 115) 1)) 2 ((h 115) 2)) 3 ((h 115) 3))) 25 (upd (upd (upd (upd (upd (h 25) 0 ((h 115) 0)) 1 ((h 115) 1)) 2 ((h 115) 2)) 3 ((h 115) 3)) 4 ((h 115) 4)) from am_up_rw _ _ _ _) ?_
  refine am_hp (show am_row (am_row h 25 (upd (upd (upd (upd (h 25) 0 ((h 115) 0)) 1 ((h 115) 1)) 2 ((h 115) 2)) 3 ((h 115) 3))) 25 (upd (upd (upd (upd (upd (h 25) 0 ((h 115) 0)) 1 ((h 115) 1)) 2 ((h 115) 2)) 3 ((h 115) 3)) 4 ((h 115) 4)) = (am_row h 25 (upd (upd (upd (upd (upd (h 25) 0 ((h 115) 0)) 1 ((h 115) 1)) 2 ((h 115) 2)) 3 ((h 115) 3)) 4 ((h 115) 4))) from am_row_s0) ?_
  refine am_aload_n (pc := 40) C dX5_copyFrom_40 rfl ?_
  refine am_getR (pc := 41) (j := 116) C dX5_copyFrom_41 f5_15 bn_115 sh_115 (rf_115_5 hR) ?_
  refine am_aload_n (pc := 44) C dX5_copyFrom_44 rfl ?_
  refine am_getR (pc := 45) (j := 26) C dX5_copyFrom_45 f5_15 bn_25 sh_25 (rf_25_5 hR) ?_
  refine am_callSNv (Y := mX11_copyRow) (pc := 48) (st := []) (As := [.ref 116, .ref 26]) (h2 := (am_row (am_row h 25 (upd (upd (upd (upd (upd (h 25) 0 ((h 115) 0)) 1 ((h 115) 1)) 2 ((h 115) 2)) 3 ((h 115) 3)) 4 ((h 115) 4))) 26 (va_cpy (h 116) (h 26) 0 0 10))) C dX5_copyFrom_48 k5_70 v_X11_copyRow rfl rfl (by decide) (Nat.zero_le _) (Nat.zero_le _) (Nat.le_of_ble_eq_true rfl) (c_X11_copyRow hR 116 26 10 bn_116 sh_116 bn_26 sh_26 (by decide)) ?_
  refine am_aload_n (pc := 51) C dX5_copyFrom_51 rfl ?_
  refine am_getR (pc := 52) (j := 117) C dX5_copyFrom_52 f5_19 bn_115 sh_115 (rf_115_6 hR) ?_
  refine am_aload_n (pc := 55) C dX5_copyFrom_55 rfl ?_
  refine am_getR (pc := 56) (j := 27) C dX5_copyFrom_56 f5_19 bn_25 sh_25 (rf_25_6 hR) ?_
  refine am_callSNv (Y := mX11_copyRow) (pc := 59) (st := []) (As := [.ref 117, .ref 27]) (h2 := (am_row (am_row (am_row h 25 (upd (upd (upd (upd (upd (h 25) 0 ((h 115) 0)) 1 ((h 115) 1)) 2 ((h 115) 2)) 3 ((h 115) 3)) 4 ((h 115) 4))) 26 (va_cpy (h 116) (h 26) 0 0 10)) 27 (va_cpy (h 117) (h 27) 0 0 10))) C dX5_copyFrom_59 k5_70 v_X11_copyRow rfl rfl (by decide) (Nat.zero_le _) (Nat.zero_le _) (Nat.le_of_ble_eq_true rfl) (c_X11_copyRow hR 117 27 10 bn_117 sh_117 bn_27 sh_27 (by decide)) ?_
  refine am_aload_n (pc := 62) C dX5_copyFrom_62 rfl ?_
  refine am_getR (pc := 63) (j := 118) C dX5_copyFrom_63 f5_22 bn_115 sh_115 (rf_115_7 hR) ?_
  refine am_aload_n (pc := 66) C dX5_copyFrom_66 rfl ?_
  refine am_getR (pc := 67) (j := 28) C dX5_copyFrom_67 f5_22 bn_25 sh_25 (rf_25_7 hR) ?_
  refine am_callSNv (Y := mX11_copyRow) (pc := 70) (st := []) (As := [.ref 118, .ref 28]) (h2 := (am_row (am_row (am_row (am_row h 25 (upd (upd (upd (upd (upd (h 25) 0 ((h 115) 0)) 1 ((h 115) 1)) 2 ((h 115) 2)) 3 ((h 115) 3)) 4 ((h 115) 4))) 26 (va_cpy (h 116) (h 26) 0 0 10)) 27 (va_cpy (h 117) (h 27) 0 0 10)) 28 (va_cpy (h 118) (h 28) 0 0 10))) C dX5_copyFrom_70 k5_70 v_X11_copyRow rfl rfl (by decide) (Nat.zero_le _) (Nat.zero_le _) (Nat.le_of_ble_eq_true rfl) (c_X11_copyRow hR 118 28 10 bn_118 sh_118 bn_28 sh_28 (by decide)) ?_
  refine am_aload_n (pc := 73) C dX5_copyFrom_73 rfl ?_
  refine am_getR (pc := 74) (j := 119) C dX5_copyFrom_74 f5_25 bn_115 sh_115 (rf_115_8 hR) ?_
  refine am_aload_n (pc := 77) C dX5_copyFrom_77 rfl ?_
  refine am_getR (pc := 78) (j := 29) C dX5_copyFrom_78 f5_25 bn_25 sh_25 (rf_25_8 hR) ?_
  refine am_callSNv (Y := mX11_copyRow) (pc := 81) (st := []) (As := [.ref 119, .ref 29]) (h2 := (am_row (am_row (am_row (am_row (am_row h 25 (upd (upd (upd (upd (upd (h 25) 0 ((h 115) 0)) 1 ((h 115) 1)) 2 ((h 115) 2)) 3 ((h 115) 3)) 4 ((h 115) 4))) 26 (va_cpy (h 116) (h 26) 0 0 10)) 27 (va_cpy (h 117) (h 27) 0 0 10)) 28 (va_cpy (h 118) (h 28) 0 0 10)) 29 (va_cpy (h 119) (h 29) 0 0 10))) C dX5_copyFrom_81 k5_70 v_X11_copyRow rfl rfl (by decide) (Nat.zero_le _) (Nat.zero_le _) (Nat.le_of_ble_eq_true rfl) (c_X11_copyRow hR 119 29 10 bn_119 sh_119 bn_29 sh_29 (by decide)) ?_
  refine am_aload_n (pc := 84) C dX5_copyFrom_84 rfl ?_
  refine am_getR (pc := 85) (j := 120) C dX5_copyFrom_85 f5_28 bn_115 sh_115 (rf_115_9 hR) ?_
  refine am_aload_n (pc := 88) C dX5_copyFrom_88 rfl ?_
  refine am_getR (pc := 89) (j := 30) C dX5_copyFrom_89 f5_28 bn_25 sh_25 (rf_25_9 hR) ?_
  refine am_callSNv (Y := mX11_copyRow) (pc := 92) (st := []) (As := [.ref 120, .ref 30]) (h2 := (am_row (am_row (am_row (am_row (am_row (am_row h 25 (upd (upd (upd (upd (upd (h 25) 0 ((h 115) 0)) 1 ((h 115) 1)) 2 ((h 115) 2)) 3 ((h 115) 3)) 4 ((h 115) 4))) 26 (va_cpy (h 116) (h 26) 0 0 10)) 27 (va_cpy (h 117) (h 27) 0 0 10)) 28 (va_cpy (h 118) (h 28) 0 0 10)) 29 (va_cpy (h 119) (h 29) 0 0 10)) 30 (va_cpy (h 120) (h 30) 0 0 10))) C dX5_copyFrom_92 k5_70 v_X11_copyRow rfl rfl (by decide) (Nat.zero_le _) (Nat.zero_le _) (Nat.le_of_ble_eq_true rfl) (c_X11_copyRow hR 120 30 10 bn_120 sh_120 bn_30 sh_30 (by decide)) ?_
  refine am_aload_n (pc := 95) C dX5_copyFrom_95 rfl ?_
  refine am_getR (pc := 96) (j := 121) C dX5_copyFrom_96 f5_31 bn_115 sh_115 (rf_115_10 hR) ?_
  refine am_aload_n (pc := 99) C dX5_copyFrom_99 rfl ?_
  refine am_getR (pc := 100) (j := 31) C dX5_copyFrom_100 f5_31 bn_25 sh_25 (rf_25_10 hR) ?_
  refine am_callSNv (Y := mX11_copyRow) (pc := 103) (st := []) (As := [.ref 121, .ref 31]) (h2 := (am_row (am_row (am_row (am_row (am_row (am_row (am_row h 25 (upd (upd (upd (upd (upd (h 25) 0 ((h 115) 0)) 1 ((h 115) 1)) 2 ((h 115) 2)) 3 ((h 115) 3)) 4 ((h 115) 4))) 26 (va_cpy (h 116) (h 26) 0 0 10)) 27 (va_cpy (h 117) (h 27) 0 0 10)) 28 (va_cpy (h 118) (h 28) 0 0 10)) 29 (va_cpy (h 119) (h 29) 0 0 10)) 30 (va_cpy (h 120) (h 30) 0 0 10)) 31 (va_cpy (h 121) (h 31) 0 0 120))) C dX5_copyFrom_103 k5_70 v_X11_copyRow rfl rfl (by decide) (Nat.zero_le _) (Nat.zero_le _) (Nat.le_of_ble_eq_true rfl) (c_X11_copyRow hR 121 31 120 bn_121 sh_121 bn_31 sh_31 (by decide)) ?_
  refine am_aload_n (pc := 106) C dX5_copyFrom_106 rfl ?_
  refine am_getR (pc := 107) (j := 122) C dX5_copyFrom_107 f5_34 bn_115 sh_115 (rf_115_11 hR) ?_
  refine am_aload_n (pc := 110) C dX5_copyFrom_110 rfl ?_
  refine am_getR (pc := 111) (j := 32) C dX5_copyFrom_111 f5_34 bn_25 sh_25 (rf_25_11 hR) ?_
  refine am_callSNv (Y := mX11_copyRow) (pc := 114) (st := []) (As := [.ref 122, .ref 32]) (h2 := (am_row (am_row (am_row (am_row (am_row (am_row (am_row (am_row h 25 (upd (upd (upd (upd (upd (h 25) 0 ((h 115) 0)) 1 ((h 115) 1)) 2 ((h 115) 2)) 3 ((h 115) 3)) 4 ((h 115) 4))) 26 (va_cpy (h 116) (h 26) 0 0 10)) 27 (va_cpy (h 117) (h 27) 0 0 10)) 28 (va_cpy (h 118) (h 28) 0 0 10)) 29 (va_cpy (h 119) (h 29) 0 0 10)) 30 (va_cpy (h 120) (h 30) 0 0 10)) 31 (va_cpy (h 121) (h 31) 0 0 120)) 32 (va_cpy (h 122) (h 32) 0 0 40))) C dX5_copyFrom_114 k5_70 v_X11_copyRow rfl rfl (by decide) (Nat.zero_le _) (Nat.zero_le _) (Nat.le_of_ble_eq_true rfl) (c_X11_copyRow hR 122 32 40 bn_122 sh_122 bn_32 sh_32 (by decide)) ?_
  refine am_aload_n (pc := 117) C dX5_copyFrom_117 rfl ?_
  refine am_getR (pc := 118) (j := 123) C dX5_copyFrom_118 f5_37 bn_115 sh_115 (rf_115_12 hR) ?_
  refine am_aload_n (pc := 121) C dX5_copyFrom_121 rfl ?_
  refine am_getR (pc := 122) (j := 33) C dX5_copyFrom_122 f5_37 bn_25 sh_25 (rf_25_12 hR) ?_
  refine am_callSNv (Y := mX11_copyRow) (pc := 125) (st := []) (As := [.ref 123, .ref 33]) (h2 := (am_row (am_row (am_row (am_row (am_row (am_row (am_row (am_row (am_row h 25 (upd (upd (upd (upd (upd (h 25) 0 ((h 115) 0)) 1 ((h 115) 1)) 2 ((h 115) 2)) 3 ((h 115) 3)) 4 ((h 115) 4))) 26 (va_cpy (h 116) (h 26) 0 0 10)) 27 (va_cpy (h 117) (h 27) 0 0 10)) 28 (va_cpy (h 118) (h 28) 0 0 10)) 29 (va_cpy (h 119) (h 29) 0 0 10)) 30 (va_cpy (h 120) (h 30) 0 0 10)) 31 (va_cpy (h 121) (h 31) 0 0 120)) 32 (va_cpy (h 122) (h 32) 0 0 40)) 33 (va_cpy (h 123) (h 33) 0 0 40))) C dX5_copyFrom_125 k5_70 v_X11_copyRow rfl rfl (by decide) (Nat.zero_le _) (Nat.zero_le _) (Nat.le_of_ble_eq_true rfl) (c_X11_copyRow hR 123 33 40 bn_123 sh_123 bn_33 sh_33 (by decide)) ?_
  refine am_aload_n (pc := 128) C dX5_copyFrom_128 rfl ?_
  refine am_getR (pc := 129) (j := 124) C dX5_copyFrom_129 f5_40 bn_115 sh_115 (rf_115_13 hR) ?_
  refine am_aload_n (pc := 132) C dX5_copyFrom_132 rfl ?_
  refine am_getR (pc := 133) (j := 34) C dX5_copyFrom_133 f5_40 bn_25 sh_25 (rf_25_13 hR) ?_
  refine am_callSNv (Y := mX11_copyRow) (pc := 136) (st := []) (As := [.ref 124, .ref 34]) (h2 := (am_row (am_row (am_row (am_row (am_row (am_row (am_row (am_row (am_row (am_row h 25 (upd (upd (upd (upd (upd (h 25) 0 ((h 115) 0)) 1 ((h 115) 1)) 2 ((h 115) 2)) 3 ((h 115) 3)) 4 ((h 115) 4))) 26 (va_cpy (h 116) (h 26) 0 0 10)) 27 (va_cpy (h 117) (h 27) 0 0 10)) 28 (va_cpy (h 118) (h 28) 0 0 10)) 29 (va_cpy (h 119) (h 29) 0 0 10)) 30 (va_cpy (h 120) (h 30) 0 0 10)) 31 (va_cpy (h 121) (h 31) 0 0 120)) 32 (va_cpy (h 122) (h 32) 0 0 40)) 33 (va_cpy (h 123) (h 33) 0 0 40)) 34 (va_cpy (h 124) (h 34) 0 0 40))) C dX5_copyFrom_136 k5_70 v_X11_copyRow rfl rfl (by decide) (Nat.zero_le _) (Nat.zero_le _) (Nat.le_of_ble_eq_true rfl) (c_X11_copyRow hR 124 34 40 bn_124 sh_124 bn_34 sh_34 (by decide)) ?_
  refine am_aload_n (pc := 139) C dX5_copyFrom_139 rfl ?_
  refine am_getR (pc := 140) (j := 125) C dX5_copyFrom_140 f5_43 bn_115 sh_115 (rf_115_14 hR) ?_
  refine am_aload_n (pc := 143) C dX5_copyFrom_143 rfl ?_
  refine am_getR (pc := 144) (j := 35) C dX5_copyFrom_144 f5_43 bn_25 sh_25 (rf_25_14 hR) ?_
  refine am_callSNv (Y := mX11_copyRow) (pc := 147) (st := []) (As := [.ref 125, .ref 35]) (h2 := (am_row (am_row (am_row (am_row (am_row (am_row (am_row (am_row (am_row (am_row (am_row h 25 (upd (upd (upd (upd (upd (h 25) 0 ((h 115) 0)) 1 ((h 115) 1)) 2 ((h 115) 2)) 3 ((h 115) 3)) 4 ((h 115) 4))) 26 (va_cpy (h 116) (h 26) 0 0 10)) 27 (va_cpy (h 117) (h 27) 0 0 10)) 28 (va_cpy (h 118) (h 28) 0 0 10)) 29 (va_cpy (h 119) (h 29) 0 0 10)) 30 (va_cpy (h 120) (h 30) 0 0 10)) 31 (va_cpy (h 121) (h 31) 0 0 120)) 32 (va_cpy (h 122) (h 32) 0 0 40)) 33 (va_cpy (h 123) (h 33) 0 0 40)) 34 (va_cpy (h 124) (h 34) 0 0 40)) 35 (va_cpy (h 125) (h 35) 0 0 60))) C dX5_copyFrom_147 k5_70 v_X11_copyRow rfl rfl (by decide) (Nat.zero_le _) (Nat.zero_le _) (Nat.le_of_ble_eq_true rfl) (c_X11_copyRow hR 125 35 60 bn_125 sh_125 bn_35 sh_35 (by decide)) ?_
  refine am_aload_n (pc := 150) C dX5_copyFrom_150 rfl ?_
  refine am_getR (pc := 151) (j := 126) C dX5_copyFrom_151 f5_46 bn_115 sh_115 (rf_115_15 hR) ?_
  refine am_aload_n (pc := 154) C dX5_copyFrom_154 rfl ?_
  refine am_getR (pc := 155) (j := 36) C dX5_copyFrom_155 f5_46 bn_25 sh_25 (rf_25_15 hR) ?_
  refine am_callSNv (Y := mX11_copyRow) (pc := 158) (st := []) (As := [.ref 126, .ref 36]) (h2 := (am_row (am_row (am_row (am_row (am_row (am_row (am_row (am_row (am_row (am_row (am_row (am_row h 25 (upd (upd (upd (upd (upd (h 25) 0 ((h 115) 0)) 1 ((h 115) 1)) 2 ((h 115) 2)) 3 ((h 115) 3)) 4 ((h 115) 4))) 26 (va_cpy (h 116) (h 26) 0 0 10)) 27 (va_cpy (h 117) (h 27) 0 0 10)) 28 (va_cpy (h 118) (h 28) 0 0 10)) 29 (va_cpy (h 119) (h 29) 0 0 10)) 30 (va_cpy (h 120) (h 30) 0 0 10)) 31 (va_cpy (h 121) (h 31) 0 0 120)) 32 (va_cpy (h 122) (h 32) 0 0 40)) 33 (va_cpy (h 123) (h 33) 0 0 40)) 34 (va_cpy (h 124) (h 34) 0 0 40)) 35 (va_cpy (h 125) (h 35) 0 0 60)) 36 (va_cpy (h 126) (h 36) 0 0 60))) C dX5_copyFrom_158 k5_70 v_X11_copyRow rfl rfl (by decide) (Nat.zero_le _) (Nat.zero_le _) (Nat.le_of_ble_eq_true rfl) (c_X11_copyRow hR 126 36 60 bn_126 sh_126 bn_36 sh_36 (by decide)) ?_
  refine am_aload_n (pc := 161) C dX5_copyFrom_161 rfl ?_
  refine am_getR (pc := 162) (j := 127) C dX5_copyFrom_162 f5_49 bn_115 sh_115 (rf_115_16 hR) ?_
  refine am_aload_n (pc := 165) C dX5_copyFrom_165 rfl ?_
  refine am_getR (pc := 166) (j := 37) C dX5_copyFrom_166 f5_49 bn_25 sh_25 (rf_25_16 hR) ?_
  refine am_callSNv (Y := mX11_copyRow) (pc := 169) (st := []) (As := [.ref 127, .ref 37]) (h2 := (am_row (am_row (am_row (am_row (am_row (am_row (am_row (am_row (am_row (am_row (am_row (am_row (am_row h 25 (upd (upd (upd (upd (upd (h 25) 0 ((h 115) 0)) 1 ((h 115) 1)) 2 ((h 115) 2)) 3 ((h 115) 3)) 4 ((h 115) 4))) 26 (va_cpy (h 116) (h 26) 0 0 10)) 27 (va_cpy (h 117) (h 27) 0 0 10)) 28 (va_cpy (h 118) (h 28) 0 0 10)) 29 (va_cpy (h 119) (h 29) 0 0 10)) 30 (va_cpy (h 120) (h 30) 0 0 10)) 31 (va_cpy (h 121) (h 31) 0 0 120)) 32 (va_cpy (h 122) (h 32) 0 0 40)) 33 (va_cpy (h 123) (h 33) 0 0 40)) 34 (va_cpy (h 124) (h 34) 0 0 40)) 35 (va_cpy (h 125) (h 35) 0 0 60)) 36 (va_cpy (h 126) (h 36) 0 0 60)) 37 (va_cpy (h 127) (h 37) 0 0 60))) C dX5_copyFrom_169 k5_70 v_X11_copyRow rfl rfl (by decide) (Nat.zero_le _) (Nat.zero_le _) (Nat.le_of_ble_eq_true rfl) (c_X11_copyRow hR 127 37 60 bn_127 sh_127 bn_37 sh_37 (by decide)) ?_
  refine am_aload_n (pc := 172) C dX5_copyFrom_172 rfl ?_
  refine am_getR (pc := 173) (j := 128) C dX5_copyFrom_173 f5_52 bn_115 sh_115 (rf_115_17 hR) ?_
  refine am_aload_n (pc := 176) C dX5_copyFrom_176 rfl ?_
  refine am_getR (pc := 177) (j := 38) C dX5_copyFrom_177 f5_52 bn_25 sh_25 (rf_25_17 hR) ?_
  refine am_callSNv (Y := mX11_copyRow) (pc := 180) (st := []) (As := [.ref 128, .ref 38]) (h2 := (am_row (am_row (am_row (am_row (am_row (am_row (am_row (am_row (am_row (am_row (am_row (am_row (am_row (am_row h 25 (upd (upd (upd (upd (upd (h 25) 0 ((h 115) 0)) 1 ((h 115) 1)) 2 ((h 115) 2)) 3 ((h 115) 3)) 4 ((h 115) 4))) 26 (va_cpy (h 116) (h 26) 0 0 10)) 27 (va_cpy (h 117) (h 27) 0 0 10)) 28 (va_cpy (h 118) (h 28) 0 0 10)) 29 (va_cpy (h 119) (h 29) 0 0 10)) 30 (va_cpy (h 120) (h 30) 0 0 10)) 31 (va_cpy (h 121) (h 31) 0 0 120)) 32 (va_cpy (h 122) (h 32) 0 0 40)) 33 (va_cpy (h 123) (h 33) 0 0 40)) 34 (va_cpy (h 124) (h 34) 0 0 40)) 35 (va_cpy (h 125) (h 35) 0 0 60)) 36 (va_cpy (h 126) (h 36) 0 0 60)) 37 (va_cpy (h 127) (h 37) 0 0 60)) 38 (va_cpy (h 128) (h 38) 0 0 60))) C dX5_copyFrom_180 k5_70 v_X11_copyRow rfl rfl (by decide) (Nat.zero_le _) (Nat.zero_le _) (Nat.le_of_ble_eq_true rfl) (c_X11_copyRow hR 128 38 60 bn_128 sh_128 bn_38 sh_38 (by decide)) ?_
  refine am_aload_n (pc := 183) C dX5_copyFrom_183 rfl ?_
  refine am_getR (pc := 184) (j := 129) C dX5_copyFrom_184 f5_55 bn_115 sh_115 (rf_115_18 hR) ?_
  refine am_aload_n (pc := 187) C dX5_copyFrom_187 rfl ?_
  refine am_getR (pc := 188) (j := 39) C dX5_copyFrom_188 f5_55 bn_25 sh_25 (rf_25_18 hR) ?_
  refine am_callSNv (Y := mX11_copyRow) (pc := 191) (st := []) (As := [.ref 129, .ref 39]) (h2 := (am_row (am_row (am_row (am_row (am_row (am_row (am_row (am_row (am_row (am_row (am_row (am_row (am_row (am_row (am_row h 25 (upd (upd (upd (upd (upd (h 25) 0 ((h 115) 0)) 1 ((h 115) 1)) 2 ((h 115) 2)) 3 ((h 115) 3)) 4 ((h 115) 4))) 26 (va_cpy (h 116) (h 26) 0 0 10)) 27 (va_cpy (h 117) (h 27) 0 0 10)) 28 (va_cpy (h 118) (h 28) 0 0 10)) 29 (va_cpy (h 119) (h 29) 0 0 10)) 30 (va_cpy (h 120) (h 30) 0 0 10)) 31 (va_cpy (h 121) (h 31) 0 0 120)) 32 (va_cpy (h 122) (h 32) 0 0 40)) 33 (va_cpy (h 123) (h 33) 0 0 40)) 34 (va_cpy (h 124) (h 34) 0 0 40)) 35 (va_cpy (h 125) (h 35) 0 0 60)) 36 (va_cpy (h 126) (h 36) 0 0 60)) 37 (va_cpy (h 127) (h 37) 0 0 60)) 38 (va_cpy (h 128) (h 38) 0 0 60)) 39 (va_cpy (h 129) (h 39) 0 0 60))) C dX5_copyFrom_191 k5_70 v_X11_copyRow rfl rfl (by decide) (Nat.zero_le _) (Nat.zero_le _) (Nat.le_of_ble_eq_true rfl) (c_X11_copyRow hR 129 39 60 bn_129 sh_129 bn_39 sh_39 (by decide)) ?_
  exact am_vretvr T dX5_copyFrom_194 rfl (Nat.le_refl _) (Nat.le_refl _) rfl ⟨cl_Sc_cpy hV hSc rfl rfl rfl rfl rfl (fun k hk => va_cpy_0 hk) (fun k hk => va_cpy_0 hk) (fun k hk => va_cpy_0 hk) (fun k hk => va_cpy_0 hk) (fun k hk => va_cpy_0 hk) (fun k hk => va_cpy_0 hk) (fun k hk => va_cpy_0 hk) (fun k hk => va_cpy_0 hk) (fun k hk => va_cpy_0 hk) (fun k hk => va_cpy_0 hk) (fun k hk => va_cpy_0 hk) (fun k hk => va_cpy_0 hk) (fun k hk => va_cpy_0 hk) (fun k hk => va_cpy_0 hk), (fun i9 h9 => by rw [am_row_ne _ _ _ (by omega), am_row_ne _ _ _ (by omega), am_row_ne _ _ _ (by omega), am_row_ne _ _ _ (by omega), am_row_ne _ _ _ (by omega), am_row_ne _ _ _ (by omega), am_row_ne _ _ _ (by omega), am_row_ne _ _ _ (by omega), am_row_ne _ _ _ (by omega), am_row_ne _ _ _ (by omega), am_row_ne _ _ _ (by omega), am_row_ne _ _ _ (by omega), am_row_ne _ _ _ (by omega), am_row_ne _ _ _ (by omega), am_row_ne _ _ _ (by omega)])⟩

set_option maxHeartbeats 400000 in
set_option maxRecDepth 100000 in
theorem c_X10_copyFrom_nk {ad : Nat → Nat} {r : am_R} (hR : am_rs r) {h : am_H}  (w : rf_W) (hV : rf_I w) (hLo : cl_Lo (h) 94 w) (hSc : cl_Sc (h) 115 w) (hLw : rf_Lw w) (hA : cl_La (h) 107 w)  : am_CM mX10_copyFrom 4 0 0 [.ref 3, .ref 93] (am_VV ad) r h (am_pr none r (fun c9 => cl_Lo c9 4 w ∧ cl_La c9 17 w ∧ cl_Sc c9 25 w ∧ cl_fr (h) c9 4 36)) := by
  refine am_CM.of (by decide +kernel) (Nat.le_of_ble_eq_true rfl) (fun X C T => ?_)
  show am_G X (am_VV ad) (0, 0) 0 [(0, .ref 3), (1, .ref 93)] [] r h
  refine am_aload_n (pc := 0) C dX10_copyFrom_0 rfl ?_
  refine am_getR (pc := 1) (j := 4) C dX10_copyFrom_1 f10_9 bn_3 sh_3 (rf_3_0 hR) ?_
  refine am_aload_n (pc := 4) C dX10_copyFrom_4 rfl ?_
  refine am_getR (pc := 5) (j := 94) C dX10_copyFrom_5 f10_9 bn_93 sh_93 (rf_93_0 hR) ?_
  refine am_callVvr (Y := mX3_copyFrom) (pc := 8) (st := []) (As := [.ref 94]) (PP := fun c9 => cl_Lo c9 4 w ∧ cl_fr (h) c9 4 13) C dX10_copyFrom_8 k10_26 v_X3_copyFrom rfl rfl bn_4 sh_4 ⟨by decide, rfl⟩ (by decide) (Nat.zero_le _) (Nat.zero_le _) (Nat.le_of_ble_eq_true rfl) (c_X3_copyFrom_nk hR w (show rf_I w from hV) (show cl_Lo (h) 94 w from hLo)) (fun g8_0 hg8_0 => ?_)
  obtain ⟨L8, F8⟩ := hg8_0
  refine am_aload_n (pc := 11) C dX10_copyFrom_11 rfl ?_
  refine am_getR (pc := 12) (j := 17) C dX10_copyFrom_12 f10_15 bn_3 sh_3 (rf_3_1 hR) ?_
  refine am_aload_n (pc := 15) C dX10_copyFrom_15 rfl ?_
  refine am_getR (pc := 16) (j := 107) C dX10_copyFrom_16 f10_15 bn_93 sh_93 (rf_93_1 hR) ?_
  refine am_callVvr (Y := mX1_copyFrom) (pc := 19) (st := []) (As := [.ref 107]) (PP := fun c9 => cl_La c9 17 w ∧ cl_fr (g8_0) c9 17 6) C dX10_copyFrom_19 k10_32 v_X1_copyFrom rfl rfl bn_17 sh_17 ⟨by decide, rfl⟩ (by decide) (Nat.zero_le _) (Nat.zero_le _) (Nat.le_of_ble_eq_true rfl) (c_X1_copyFrom_nk hR w (show rf_Lw w from hLw) (show cl_La (g8_0) 107 w from (cl_La_eq (fun i a b => F8 i (by omega)) hA))) (fun g19_1 hg19_1 => ?_)
  obtain ⟨A19, F19⟩ := hg19_1
  refine am_aload_n (pc := 22) C dX10_copyFrom_22 rfl ?_
  refine am_getR (pc := 23) (j := 25) C dX10_copyFrom_23 f10_22 bn_3 sh_3 (rf_3_2 hR) ?_
  refine am_aload_n (pc := 26) C dX10_copyFrom_26 rfl ?_
  refine am_getR (pc := 27) (j := 115) C dX10_copyFrom_27 f10_22 bn_93 sh_93 (rf_93_2 hR) ?_
  refine am_callVvr (Y := mX5_copyFrom) (pc := 30) (st := []) (As := [.ref 115]) (PP := fun c9 => cl_Sc c9 25 w ∧ cl_fr (g19_1) c9 25 15) C dX10_copyFrom_30 k10_37 v_X5_copyFrom rfl rfl bn_25 sh_25 ⟨by decide, rfl⟩ (by decide) (Nat.zero_le _) (Nat.zero_le _) (Nat.le_of_ble_eq_true rfl) (c_X5_copyFrom_d_nk hR w (show rf_I w from hV) (show cl_Sc (g19_1) 115 w from (cl_Sc_eq (fun i a b => (F19 i (by omega)).trans (F8 i (by omega))) hSc))) (fun g30_2 hg30_2 => ?_)
  obtain ⟨S30, F30⟩ := hg30_2
  exact am_vretvr T dX10_copyFrom_33 rfl (Nat.le_refl _) (Nat.le_refl _) rfl ⟨cl_Lo_eq (fun i a b => (F30 i (by omega)).trans (F19 i (by omega))) L8, cl_La_eq (fun i a b => F30 i (by omega)) A19, S30, (fun i h9 => (F30 i (by omega)).trans ((F19 i (by omega)).trans (F8 i (by omega))))⟩

