/-! THE CLASS: scenes kept and given back -/

set_option maxHeartbeats 400000 in
set_option maxRecDepth 100000 in
theorem c_X5_copyFrom_d_s0 {ad : Nat → Nat} {r : am_R} (hR : am_rs r) {h : am_H}  (w : rf_W) (hV : rf_I w) (hSc : cl_Sc (h) 25 w)  : am_CM mX5_copyFrom 3 0 0 [.ref 134, .ref 25] (am_VV ad) r h (am_pr none r (fun c9 => cl_Sc c9 134 w ∧ cl_fr (h) c9 134 15)) := by
  refine am_CM.of (by decide +kernel) (Nat.le_of_ble_eq_true rfl) (fun X C T => ?_)
  show am_G X (am_VV ad) (0, 0) 0 [(0, .ref 134), (1, .ref 25)] [] r h
  refine am_aload_n (pc := 0) C dX5_copyFrom_0 rfl ?_
  refine am_aload_n (pc := 1) C dX5_copyFrom_1 rfl ?_
  refine am_getI (pc := 2) C dX5_copyFrom_2 f5_58 bn_25 sh_25 ?_
  refine am_putI (pc := 5) C dX5_copyFrom_5 f5_58 bn_134 sh_134 rfl rfl ?_
  refine am_hp (show am_up h 134 0 ((h 25) 0) = am_row h 134 (upd (h 134) 0 ((h 25) 0)) from am_up_rw _ _ _ _) ?_
  refine am_aload_n (pc := 8) C dX5_copyFrom_8 rfl ?_
  refine am_aload_n (pc := 9) C dX5_copyFrom_9 rfl ?_
  refine am_getI (pc := 10) C dX5_copyFrom_10 f5_9 bn_25 sh_25 ?_
  refine am_putI (pc := 13) C dX5_copyFrom_13 f5_9 bn_134 sh_134 rfl rfl ?_
  refine am_hp (show am_up (am_row h 134 (upd (h 134) 0 ((h 25) 0))) 134 1 ((h 25) 1) = am_row (am_row h 134 (upd (h 134) 0 ((h 25) 0))) 134 (upd (upd (h 134) 0 ((h 25) 0)) 1 ((h 25) 1)) from am_up_rw _ _ _ _) ?_
  refine am_hp (show am_row (am_row h 134 (upd (h 134) 0 ((h 25) 0))) 134 (upd (upd (h 134) 0 ((h 25) 0)) 1 ((h 25) 1)) = (am_row h 134 (upd (upd (h 134) 0 ((h 25) 0)) 1 ((h 25) 1))) from am_row_s0) ?_
  refine am_aload_n (pc := 16) C dX5_copyFrom_16 rfl ?_
  refine am_aload_n (pc := 17) C dX5_copyFrom_17 rfl ?_
  refine am_getI (pc := 18) C dX5_copyFrom_18 f5_61 bn_25 sh_25 ?_
  refine am_putI (pc := 21) C dX5_copyFrom_21 f5_61 bn_134 sh_134 rfl rfl ?_
  refine am_hp (show am_up (am_row h 134 (upd (upd (h 134) 0 ((h 25) 0)) 1 ((h 25) 1))) 134 2 ((h 25) 2) = am_row (am_row h 134 (upd (upd (h 134) 0 ((h 25) 0)) 1 ((h 25) 1))) 134 (upd (upd (upd (h 134) 0 ((h 25) 0)) 1 ((h 25) 1)) 2 ((h 25) 2)) from am_up_rw _ _ _ _) ?_
  refine am_hp (show am_row (am_row h 134 (upd (upd (h 134) 0 ((h 25) 0)) 1 ((h 25) 1))) 134 (upd (upd (upd (h 134) 0 ((h 25) 0)) 1 ((h 25) 1)) 2 ((h 25) 2)) = (am_row h 134 (upd (upd (upd (h 134) 0 ((h 25) 0)) 1 ((h 25) 1)) 2 ((h 25) 2))) from am_row_s0) ?_
  refine am_aload_n (pc := 24) C dX5_copyFrom_24 rfl ?_
  refine am_aload_n (pc := 25) C dX5_copyFrom_25 rfl ?_
  refine am_getI (pc := 26) C dX5_copyFrom_26 f5_64 bn_25 sh_25 ?_
  refine am_putI (pc := 29) C dX5_copyFrom_29 f5_64 bn_134 sh_134 rfl rfl ?_
  refine am_hp (show am_up (am_row h 134 (upd (upd (upd (h 134) 0 ((h 25) 0)) 1 ((h 25) 1)) 2 ((h 25) 2))) 134 3 ((h 25) 3) = am_row (am_row h 134 (upd (upd (upd (h 134) 0 ((h 25) 0)) 1 ((h 25) 1)) 2 ((h 25) 2))) 134 (upd (upd (upd (upd (h 134) 0 ((h 25) 0)) 1 ((h 25) 1)) 2 ((h 25) 2)) 3 ((h 25) 3)) from am_up_rw _ _ _ _) ?_
  refine am_hp (show am_row (am_row h 134 (upd (upd (upd (h 134) 0 ((h 25) 0)) 1 ((h 25) 1)) 2 ((h 25) 2))) 134 (upd (upd (upd (upd (h 134) 0 ((h 25) 0)) 1 ((h 25) 1)) 2 ((h 25) 2)) 3 ((h 25) 3)) = (am_row h 134 (upd (upd (upd (upd (h 134) 0 ((h 25) 0)) 1 ((h 25) 1)) 2 ((h 25) 2)) 3 ((h 25) 3))) from am_row_s0) ?_
  refine am_aload_n (pc := 32) C dX5_copyFrom_32 rfl ?_
  refine am_aload_n (pc := 33) C dX5_copyFrom_33 rfl ?_
  refine am_getI (pc := 34) C dX5_copyFrom_34 f5_67 bn_25 sh_25 ?_
  refine am_putI (pc := 37) C dX5_copyFrom_37 f5_67 bn_134 sh_134 rfl rfl ?_
  refine am_hp (show am_up (am_row h 134 (upd (upd (upd (upd (h 134) 0 ((h 25) 0)) 1 ((h 25) 1)) 2 ((h 25) 2)) 3 ((h 25) 3))) 134 4 ((h 25) 4) = am_row (am_row h 134 (upd (upd (upd (upd (h 134) 0 ((h 25) 0)) 1 ((h 25) 1)) 2 ((h 25) 2)) 3 ((h 25) 3))) 134 (upd (upd (upd (upd (upd (h 134) 0 ((h 25) 0)) 1 ((h 25) 1)) 2 ((h 25) 2)) 3 ((h 25) 3)) 4 ((h 25) 4)) from am_up_rw _ _ _ _) ?_
  refine am_hp (show am_row (am_row h 134 (upd (upd (upd (upd (h 134) 0 ((h 25) 0)) 1 ((h 25) 1)) 2 ((h 25) 2)) 3 ((h 25) 3))) 134 (upd (upd (upd (upd (upd (h 134) 0 ((h 25) 0)) 1 ((h 25) 1)) 2 ((h 25) 2)) 3 ((h 25) 3)) 4 ((h 25) 4)) = (am_row h 134 (upd (upd (upd (upd (upd (h 134) 0 ((h 25) 0)) 1 ((h 25) 1)) 2 ((h 25) 2)) 3 ((h 25) 3)) 4 ((h 25) 4))) from am_row_s0) ?_
  refine am_aload_n (pc := 40) C dX5_copyFrom_40 rfl ?_
  refine am_getR (pc := 41) (j := 26) C dX5_copyFrom_41 f5_15 bn_25 sh_25 (rf_25_5 hR) ?_
  refine am_aload_n (pc := 44) C dX5_copyFrom_44 rfl ?_
  refine am_getR (pc := 45) (j := 135) C dX5_copyFrom_45 f5_15 bn_134 sh_134 (rf_134_5 hR) ?_
  refine am_callSNv (Y := mX11_copyRow) (pc := 48) (st := []) (As := [.ref 26, .ref 135]) (h2 := (am_row (am_row h 134 (upd (upd (upd (upd (upd (h 134) 0 ((h 25) 0)) 1 ((h 25) 1)) 2 ((h 25) 2)) 3 ((h 25) 3)) 4 ((h 25) 4))) 135 (va_cpy (h 26) (h 135) 0 0 10))) C dX5_copyFrom_48 k5_70 v_X11_copyRow rfl rfl (by decide) (Nat.zero_le _) (Nat.zero_le _) (Nat.le_of_ble_eq_true rfl) (c_X11_copyRow hR 26 135 10 bn_26 sh_26 bn_135 sh_135 (by decide)) ?_
  refine am_aload_n (pc := 51) C dX5_copyFrom_51 rfl ?_
  refine am_getR (pc := 52) (j := 27) C dX5_copyFrom_52 f5_19 bn_25 sh_25 (rf_25_6 hR) ?_
  refine am_aload_n (pc := 55) C dX5_copyFrom_55 rfl ?_
  refine am_getR (pc := 56) (j := 136) C dX5_copyFrom_56 f5_19 bn_134 sh_134 (rf_134_6 hR) ?_
  refine am_callSNv (Y := mX11_copyRow) (pc := 59) (st := []) (As := [.ref 27, .ref 136]) (h2 := (am_row (am_row (am_row h 134 (upd (upd (upd (upd (upd (h 134) 0 ((h 25) 0)) 1 ((h 25) 1)) 2 ((h 25) 2)) 3 ((h 25) 3)) 4 ((h 25) 4))) 135 (va_cpy (h 26) (h 135) 0 0 10)) 136 (va_cpy (h 27) (h 136) 0 0 10))) C dX5_copyFrom_59 k5_70 v_X11_copyRow rfl rfl (by decide) (Nat.zero_le _) (Nat.zero_le _) (Nat.le_of_ble_eq_true rfl) (c_X11_copyRow hR 27 136 10 bn_27 sh_27 bn_136 sh_136 (by decide)) ?_
  refine am_aload_n (pc := 62) C dX5_copyFrom_62 rfl ?_
  refine am_getR (pc := 63) (j := 28) C dX5_copyFrom_63 f5_22 bn_25 sh_25 (rf_25_7 hR) ?_
  refine am_aload_n (pc := 66) C dX5_copyFrom_66 rfl ?_
  refine am_getR (pc := 67) (j := 137) C dX5_copyFrom_67 f5_22 bn_134 sh_134 (rf_134_7 hR) ?_
  refine am_callSNv (Y := mX11_copyRow) (pc := 70) (st := []) (As := [.ref 28, .ref 137]) (h2 := (am_row (am_row (am_row (am_row h 134 (upd (upd (upd (upd (upd (h 134) 0 ((h 25) 0)) 1 ((h 25) 1)) 2 ((h 25) 2)) 3 ((h 25) 3)) 4 ((h 25) 4))) 135 (va_cpy (h 26) (h 135) 0 0 10)) 136 (va_cpy (h 27) (h 136) 0 0 10)) 137 (va_cpy (h 28) (h 137) 0 0 10))) C dX5_copyFrom_70 k5_70 v_X11_copyRow rfl rfl (by decide) (Nat.zero_le _) (Nat.zero_le _) (Nat.le_of_ble_eq_true rfl) (c_X11_copyRow hR 28 137 10 bn_28 sh_28 bn_137 sh_137 (by decide)) ?_
  refine am_aload_n (pc := 73) C dX5_copyFrom_73 rfl ?_
  refine am_getR (pc := 74) (j := 29) C dX5_copyFrom_74 f5_25 bn_25 sh_25 (rf_25_8 hR) ?_
  refine am_aload_n (pc := 77) C dX5_copyFrom_77 rfl ?_
  refine am_getR (pc := 78) (j := 138) C dX5_copyFrom_78 f5_25 bn_134 sh_134 (rf_134_8 hR) ?_
  refine am_callSNv (Y := mX11_copyRow) (pc := 81) (st := []) (As := [.ref 29, .ref 138]) (h2 := (am_row (am_row (am_row (am_row (am_row h 134 (upd (upd (upd (upd (upd (h 134) 0 ((h 25) 0)) 1 ((h 25) 1)) 2 ((h 25) 2)) 3 ((h 25) 3)) 4 ((h 25) 4))) 135 (va_cpy (h 26) (h 135) 0 0 10)) 136 (va_cpy (h 27) (h 136) 0 0 10)) 137 (va_cpy (h 28) (h 137) 0 0 10)) 138 (va_cpy (h 29) (h 138) 0 0 10))) C dX5_copyFrom_81 k5_70 v_X11_copyRow rfl rfl (by decide) (Nat.zero_le _) (Nat.zero_le _) (Nat.le_of_ble_eq_true rfl) (c_X11_copyRow hR 29 138 10 bn_29 sh_29 bn_138 sh_138 (by decide)) ?_
  refine am_aload_n (pc := 84) C dX5_copyFrom_84 rfl ?_
  refine am_getR (pc := 85) (j := 30) C dX5_copyFrom_85 f5_28 bn_25 sh_25 (rf_25_9 hR) ?_
  refine am_aload_n (pc := 88) C dX5_copyFrom_88 rfl ?_
  refine am_getR (pc := 89) (j := 139) C dX5_copyFrom_89 f5_28 bn_134 sh_134 (rf_134_9 hR) ?_
  refine am_callSNv (Y := mX11_copyRow) (pc := 92) (st := []) (As := [.ref 30, .ref 139]) (h2 := (am_row (am_row (am_row (am_row (am_row (am_row h 134 (upd (upd (upd (upd (upd (h 134) 0 ((h 25) 0)) 1 ((h 25) 1)) 2 ((h 25) 2)) 3 ((h 25) 3)) 4 ((h 25) 4))) 135 (va_cpy (h 26) (h 135) 0 0 10)) 136 (va_cpy (h 27) (h 136) 0 0 10)) 137 (va_cpy (h 28) (h 137) 0 0 10)) 138 (va_cpy (h 29) (h 138) 0 0 10)) 139 (va_cpy (h 30) (h 139) 0 0 10))) C dX5_copyFrom_92 k5_70 v_X11_copyRow rfl rfl (by decide) (Nat.zero_le _) (Nat.zero_le _) (Nat.le_of_ble_eq_true rfl) (c_X11_copyRow hR 30 139 10 bn_30 sh_30 bn_139 sh_139 (by decide)) ?_
  refine am_aload_n (pc := 95) C dX5_copyFrom_95 rfl ?_
  refine am_getR (pc := 96) (j := 31) C dX5_copyFrom_96 f5_31 bn_25 sh_25 (rf_25_10 hR) ?_
  refine am_aload_n (pc := 99) C dX5_copyFrom_99 rfl ?_
  refine am_getR (pc := 100) (j := 140) C dX5_copyFrom_100 f5_31 bn_134 sh_134 (rf_134_10 hR) ?_
  refine am_callSNv (Y := mX11_copyRow) (pc := 103) (st := []) (As := [.ref 31, .ref 140]) (h2 := (am_row (am_row (am_row (am_row (am_row (am_row (am_row h 134 (upd (upd (upd (upd (upd (h 134) 0 ((h 25) 0)) 1 ((h 25) 1)) 2 ((h 25) 2)) 3 ((h 25) 3)) 4 ((h 25) 4))) 135 (va_cpy (h 26) (h 135) 0 0 10)) 136 (va_cpy (h 27) (h 136) 0 0 10)) 137 (va_cpy (h 28) (h 137) 0 0 10)) 138 (va_cpy (h 29) (h 138) 0 0 10)) 139 (va_cpy (h 30) (h 139) 0 0 10)) 140 (va_cpy (h 31) (h 140) 0 0 120))) C dX5_copyFrom_103 k5_70 v_X11_copyRow rfl rfl (by decide) (Nat.zero_le _) (Nat.zero_le _) (Nat.le_of_ble_eq_true rfl) (c_X11_copyRow hR 31 140 120 bn_31 sh_31 bn_140 sh_140 (by decide)) ?_
  refine am_aload_n (pc := 106) C dX5_copyFrom_106 rfl ?_
  refine am_getR (pc := 107) (j := 32) C dX5_copyFrom_107 f5_34 bn_25 sh_25 (rf_25_11 hR) ?_
  refine am_aload_n (pc := 110) C dX5_copyFrom_110 rfl ?_
  refine am_getR (pc := 111) (j := 141) C dX5_copyFrom_111 f5_34 bn_134 sh_134 (rf_134_11 hR) ?_
  refine am_callSNv (Y := mX11_copyRow) (pc := 114) (st := []) (As := [.ref 32, .ref 141]) (h2 := (am_row (am_row (am_row (am_row (am_row (am_row (am_row (am_row h 134 (upd (upd (upd (upd (upd (h 134) 0 ((h 25) 0)) 1 ((h 25) 1)) 2 ((h 25) 2)) 3 ((h 25) 3)) 4 ((h 25) 4))) 135 (va_cpy (h 26) (h 135) 0 0 10)) 136 (va_cpy (h 27) (h 136) 0 0 10)) 137 (va_cpy (h 28) (h 137) 0 0 10)) 138 (va_cpy (h 29) (h 138) 0 0 10)) 139 (va_cpy (h 30) (h 139) 0 0 10)) 140 (va_cpy (h 31) (h 140) 0 0 120)) 141 (va_cpy (h 32) (h 141) 0 0 40))) C dX5_copyFrom_114 k5_70 v_X11_copyRow rfl rfl (by decide) (Nat.zero_le _) (Nat.zero_le _) (Nat.le_of_ble_eq_true rfl) (c_X11_copyRow hR 32 141 40 bn_32 sh_32 bn_141 sh_141 (by decide)) ?_
  refine am_aload_n (pc := 117) C dX5_copyFrom_117 rfl ?_
  refine am_getR (pc := 118) (j := 33) C dX5_copyFrom_118 f5_37 bn_25 sh_25 (rf_25_12 hR) ?_
  refine am_aload_n (pc := 121) C dX5_copyFrom_121 rfl ?_
  refine am_getR (pc := 122) (j := 142) C dX5_copyFrom_122 f5_37 bn_134 sh_134 (rf_134_12 hR) ?_
  refine am_callSNv (Y := mX11_copyRow) (pc := 125) (st := []) (As := [.ref 33, .ref 142]) (h2 := (am_row (am_row (am_row (am_row (am_row (am_row (am_row (am_row (am_row h 134 (upd (upd (upd (upd (upd (h 134) 0 ((h 25) 0)) 1 ((h 25) 1)) 2 ((h 25) 2)) 3 ((h 25) 3)) 4 ((h 25) 4))) 135 (va_cpy (h 26) (h 135) 0 0 10)) 136 (va_cpy (h 27) (h 136) 0 0 10)) 137 (va_cpy (h 28) (h 137) 0 0 10)) 138 (va_cpy (h 29) (h 138) 0 0 10)) 139 (va_cpy (h 30) (h 139) 0 0 10)) 140 (va_cpy (h 31) (h 140) 0 0 120)) 141 (va_cpy (h 32) (h 141) 0 0 40)) 142 (va_cpy (h 33) (h 142) 0 0 40))) C dX5_copyFrom_125 k5_70 v_X11_copyRow rfl rfl (by decide) (Nat.zero_le _) (Nat.zero_le _) (Nat.le_of_ble_eq_true rfl) (c_X11_copyRow hR 33 142 40 bn_33 sh_33 bn_142 sh_142 (by decide)) ?_
  refine am_aload_n (pc := 128) C dX5_copyFrom_128 rfl ?_
  refine am_getR (pc := 129) (j := 34) C dX5_copyFrom_129 f5_40 bn_25 sh_25 (rf_25_13 hR) ?_
  refine am_aload_n (pc := 132) C dX5_copyFrom_132 rfl ?_
  refine am_getR (pc := 133) (j := 143) C dX5_copyFrom_133 f5_40 bn_134 sh_134 (rf_134_13 hR) ?_
  refine am_callSNv (Y := mX11_copyRow) (pc := 136) (st := []) (As := [.ref 34, .ref 143]) (h2 := (am_row (am_row (am_row (am_row (am_row (am_row (am_row (am_row (am_row (am_row h 134 (upd (upd (upd (upd (upd (h 134) 0 ((h 25) 0)) 1 ((h 25) 1)) 2 ((h 25) 2)) 3 ((h 25) 3)) 4 ((h 25) 4))) 135 (va_cpy (h 26) (h 135) 0 0 10)) 136 (va_cpy (h 27) (h 136) 0 0 10)) 137 (va_cpy (h 28) (h 137) 0 0 10)) 138 (va_cpy (h 29) (h 138) 0 0 10)) 139 (va_cpy (h 30) (h 139) 0 0 10)) 140 (va_cpy (h 31) (h 140) 0 0 120)) 141 (va_cpy (h 32) (h 141) 0 0 40)) 142 (va_cpy (h 33) (h 142) 0 0 40)) 143 (va_cpy (h 34) (h 143) 0 0 40))) C dX5_copyFrom_136 k5_70 v_X11_copyRow rfl rfl (by decide) (Nat.zero_le _) (Nat.zero_le _) (Nat.le_of_ble_eq_true rfl) (c_X11_copyRow hR 34 143 40 bn_34 sh_34 bn_143 sh_143 (by decide)) ?_
  refine am_aload_n (pc := 139) C dX5_copyFrom_139 rfl ?_
  refine am_getR (pc := 140) (j := 35) C dX5_copyFrom_140 f5_43 bn_25 sh_25 (rf_25_14 hR) ?_
  refine am_aload_n (pc := 143) C dX5_copyFrom_143 rfl ?_
  refine am_getR (pc := 144) (j := 144) C dX5_copyFrom_144 f5_43 bn_134 sh_134 (rf_134_14 hR) ?_
  refine am_callSNv (Y := mX11_copyRow) (pc := 147) (st := []) (As := [.ref 35, .ref 144]) (h2 := (am_row (am_row (am_row (am_row (am_row (am_row (am_row (am_row (am_row (am_row (am_row h 134 (upd (upd (upd (upd (upd (h 134) 0 ((h 25) 0)) 1 ((h 25) 1)) 2 ((h 25) 2)) 3 ((h 25) 3)) 4 ((h 25) 4))) 135 (va_cpy (h 26) (h 135) 0 0 10)) 136 (va_cpy (h 27) (h 136) 0 0 10)) 137 (va_cpy (h 28) (h 137) 0 0 10)) 138 (va_cpy (h 29) (h 138) 0 0 10)) 139 (va_cpy (h 30) (h 139) 0 0 10)) 140 (va_cpy (h 31) (h 140) 0 0 120)) 141 (va_cpy (h 32) (h 141) 0 0 40)) 142 (va_cpy (h 33) (h 142) 0 0 40)) 143 (va_cpy (h 34) (h 143) 0 0 40)) 144 (va_cpy (h 35) (h 144) 0 0 60))) C dX5_copyFrom_147 k5_70 v_X11_copyRow rfl rfl (by decide) (Nat.zero_le _) (Nat.zero_le _) (Nat.le_of_ble_eq_true rfl) (c_X11_copyRow hR 35 144 60 bn_35 sh_35 bn_144 sh_144 (by decide)) ?_
  refine am_aload_n (pc := 150) C dX5_copyFrom_150 rfl ?_
  refine am_getR (pc := 151) (j := 36) C dX5_copyFrom_151 f5_46 bn_25 sh_25 (rf_25_15 hR) ?_
  refine am_aload_n (pc := 154) C dX5_copyFrom_154 rfl ?_
  refine am_getR (pc := 155) (j := 145) C dX5_copyFrom_155 f5_46 bn_134 sh_134 (rf_134_15 hR) ?_
  refine am_callSNv (Y := mX11_copyRow) (pc := 158) (st := []) (As := [.ref 36, .ref 145]) (h2 := (am_row (am_row (am_row (am_row (am_row (am_row (am_row (am_row (am_row (am_row (am_row (am_row h 134 (upd (upd (upd (upd (upd (h 134) 0 ((h 25) 0)) 1 ((h 25) 1)) 2 ((h 25) 2)) 3 ((h 25) 3)) 4 ((h 25) 4))) 135 (va_cpy (h 26) (h 135) 0 0 10)) 136 (va_cpy (h 27) (h 136) 0 0 10)) 137 (va_cpy (h 28) (h 137) 0 0 10)) 138 (va_cpy (h 29) (h 138) 0 0 10)) 139 (va_cpy (h 30) (h 139) 0 0 10)) 140 (va_cpy (h 31) (h 140) 0 0 120)) 141 (va_cpy (h 32) (h 141) 0 0 40)) 142 (va_cpy (h 33) (h 142) 0 0 40)) 143 (va_cpy (h 34) (h 143) 0 0 40)) 144 (va_cpy (h 35) (h 144) 0 0 60)) 145 (va_cpy (h 36) (h 145) 0 0 60))) C dX5_copyFrom_158 k5_70 v_X11_copyRow rfl rfl (by decide) (Nat.zero_le _) (Nat.zero_le _) (Nat.le_of_ble_eq_true rfl) (c_X11_copyRow hR 36 145 60 bn_36 sh_36 bn_145 sh_145 (by decide)) ?_
  refine am_aload_n (pc := 161) C dX5_copyFrom_161 rfl ?_
  refine am_getR (pc := 162) (j := 37) C dX5_copyFrom_162 f5_49 bn_25 sh_25 (rf_25_16 hR) ?_
  refine am_aload_n (pc := 165) C dX5_copyFrom_165 rfl ?_
  refine am_getR (pc := 166) (j := 146) C dX5_copyFrom_166 f5_49 bn_134 sh_134 (rf_134_16 hR) ?_
  refine am_callSNv (Y := mX11_copyRow) (pc := 169) (st := []) (As := [.ref 37, .ref 146]) (h2 := (am_row (am_row (am_row (am_row (am_row (am_row (am_row (am_row (am_row (am_row (am_row (am_row (am_row h 134 (upd (upd (upd (upd (upd (h 134) 0 ((h 25) 0)) 1 ((h 25) 1)) 2 ((h 25) 2)) 3 ((h 25) 3)) 4 ((h 25) 4))) 135 (va_cpy (h 26) (h 135) 0 0 10)) 136 (va_cpy (h 27) (h 136) 0 0 10)) 137 (va_cpy (h 28) (h 137) 0 0 10)) 138 (va_cpy (h 29) (h 138) 0 0 10)) 139 (va_cpy (h 30) (h 139) 0 0 10)) 140 (va_cpy (h 31) (h 140) 0 0 120)) 141 (va_cpy (h 32) (h 141) 0 0 40)) 142 (va_cpy (h 33) (h 142) 0 0 40)) 143 (va_cpy (h 34) (h 143) 0 0 40)) 144 (va_cpy (h 35) (h 144) 0 0 60)) 145 (va_cpy (h 36) (h 145) 0 0 60)) 146 (va_cpy (h 37) (h 146) 0 0 60))) C dX5_copyFrom_169 k5_70 v_X11_copyRow rfl rfl (by decide) (Nat.zero_le _) (Nat.zero_le _) (Nat.le_of_ble_eq_true rfl) (c_X11_copyRow hR 37 146 60 bn_37 sh_37 bn_146 sh_146 (by decide)) ?_
  refine am_aload_n (pc := 172) C dX5_copyFrom_172 rfl ?_
  refine am_getR (pc := 173) (j := 38) C dX5_copyFrom_173 f5_52 bn_25 sh_25 (rf_25_17 hR) ?_
  refine am_aload_n (pc := 176) C dX5_copyFrom_176 rfl ?_
  refine am_getR (pc := 177) (j := 147) C dX5_copyFrom_177 f5_52 bn_134 sh_134 (rf_134_17 hR) ?_
  refine am_callSNv (Y := mX11_copyRow) (pc := 180) (st := []) (As := [.ref 38, .ref 147]) (h2 := (am_row (am_row (am_row (am_row (am_row (am_row (am_row (am_row (am_row (am_row (am_row (am_row (am_row (am_row h 134 (upd (upd (upd (upd (upd (h 134) 0 ((h 25) 0)) 1 ((h 25) 1)) 2 ((h 25) 2)) 3 ((h 25) 3)) 4 ((h 25) 4))) 135 (va_cpy (h 26) (h 135) 0 0 10)) 136 (va_cpy (h 27) (h 136) 0 0 10)) 137 (va_cpy (h 28) (h 137) 0 0 10)) 138 (va_cpy (h 29) (h 138) 0 0 10)) 139 (va_cpy (h 30) (h 139) 0 0 10)) 140 (va_cpy (h 31) (h 140) 0 0 120)) 141 (va_cpy (h 32) (h 141) 0 0 40)) 142 (va_cpy (h 33) (h 142) 0 0 40)) 143 (va_cpy (h 34) (h 143) 0 0 40)) 144 (va_cpy (h 35) (h 144) 0 0 60)) 145 (va_cpy (h 36) (h 145) 0 0 60)) 146 (va_cpy (h 37) (h 146) 0 0 60)) 147 (va_cpy (h 38) (h 147) 0 0 60))) C dX5_copyFrom_180 k5_70 v_X11_copyRow rfl rfl (by decide) (Nat.zero_le _) (Nat.zero_le _) (Nat.le_of_ble_eq_true rfl) (c_X11_copyRow hR 38 147 60 bn_38 sh_38 bn_147 sh_147 (by decide)) ?_
  refine am_aload_n (pc := 183) C dX5_copyFrom_183 rfl ?_
  refine am_getR (pc := 184) (j := 39) C dX5_copyFrom_184 f5_55 bn_25 sh_25 (rf_25_18 hR) ?_
  refine am_aload_n (pc := 187) C dX5_copyFrom_187 rfl ?_
  refine am_getR (pc := 188) (j := 148) C dX5_copyFrom_188 f5_55 bn_134 sh_134 (rf_134_18 hR) ?_
  refine am_callSNv (Y := mX11_copyRow) (pc := 191) (st := []) (As := [.ref 39, .ref 148]) (h2 := (am_row (am_row (am_row (am_row (am_row (am_row (am_row (am_row (am_row (am_row (am_row (am_row (am_row (am_row (am_row h 134 (upd (upd (upd (upd (upd (h 134) 0 ((h 25) 0)) 1 ((h 25) 1)) 2 ((h 25) 2)) 3 ((h 25) 3)) 4 ((h 25) 4))) 135 (va_cpy (h 26) (h 135) 0 0 10)) 136 (va_cpy (h 27) (h 136) 0 0 10)) 137 (va_cpy (h 28) (h 137) 0 0 10)) 138 (va_cpy (h 29) (h 138) 0 0 10)) 139 (va_cpy (h 30) (h 139) 0 0 10)) 140 (va_cpy (h 31) (h 140) 0 0 120)) 141 (va_cpy (h 32) (h 141) 0 0 40)) 142 (va_cpy (h 33) (h 142) 0 0 40)) 143 (va_cpy (h 34) (h 143) 0 0 40)) 144 (va_cpy (h 35) (h 144) 0 0 60)) 145 (va_cpy (h 36) (h 145) 0 0 60)) 146 (va_cpy (h 37) (h 146) 0 0 60)) 147 (va_cpy (h 38) (h 147) 0 0 60)) 148 (va_cpy (h 39) (h 148) 0 0 60))) C dX5_copyFrom_191 k5_70 v_X11_copyRow rfl rfl (by decide) (Nat.zero_le _) (Nat.zero_le _) (Nat.le_of_ble_eq_true rfl) (c_X11_copyRow hR 39 148 60 bn_39 sh_39 bn_148 sh_148 (by decide)) ?_
  exact am_vretvr T dX5_copyFrom_194 rfl (Nat.le_refl _) (Nat.le_refl _) rfl ⟨cl_Sc_cpy hV hSc rfl rfl rfl rfl rfl (fun k hk => va_cpy_0 hk) (fun k hk => va_cpy_0 hk) (fun k hk => va_cpy_0 hk) (fun k hk => va_cpy_0 hk) (fun k hk => va_cpy_0 hk) (fun k hk => va_cpy_0 hk) (fun k hk => va_cpy_0 hk) (fun k hk => va_cpy_0 hk) (fun k hk => va_cpy_0 hk) (fun k hk => va_cpy_0 hk) (fun k hk => va_cpy_0 hk) (fun k hk => va_cpy_0 hk) (fun k hk => va_cpy_0 hk) (fun k hk => va_cpy_0 hk), (fun i9 h9 => by rw [am_row_ne _ _ _ (by omega), am_row_ne _ _ _ (by omega), am_row_ne _ _ _ (by omega), am_row_ne _ _ _ (by omega), am_row_ne _ _ _ (by omega), am_row_ne _ _ _ (by omega), am_row_ne _ _ _ (by omega), am_row_ne _ _ _ (by omega), am_row_ne _ _ _ (by omega), am_row_ne _ _ _ (by omega), am_row_ne _ _ _ (by omega), am_row_ne _ _ _ (by omega), am_row_ne _ _ _ (by omega), am_row_ne _ _ _ (by omega), am_row_ne _ _ _ (by omega)])⟩

set_option maxHeartbeats 400000 in
set_option maxRecDepth 100000 in
theorem c_X5_copyFrom_d_s1 {ad : Nat → Nat} {r : am_R} (hR : am_rs r) {h : am_H}  (w : rf_W) (hV : rf_I w) (hSc : cl_Sc (h) 25 w)  : am_CM mX5_copyFrom 3 0 0 [.ref 149, .ref 25] (am_VV ad) r h (am_pr none r (fun c9 => cl_Sc c9 149 w ∧ cl_fr (h) c9 149 15)) := by
  refine am_CM.of (by decide +kernel) (Nat.le_of_ble_eq_true rfl) (fun X C T => ?_)
  show am_G X (am_VV ad) (0, 0) 0 [(0, .ref 149), (1, .ref 25)] [] r h
  refine am_aload_n (pc := 0) C dX5_copyFrom_0 rfl ?_
  refine am_aload_n (pc := 1) C dX5_copyFrom_1 rfl ?_
  refine am_getI (pc := 2) C dX5_copyFrom_2 f5_58 bn_25 sh_25 ?_
  refine am_putI (pc := 5) C dX5_copyFrom_5 f5_58 bn_149 sh_149 rfl rfl ?_
  refine am_hp (show am_up h 149 0 ((h 25) 0) = am_row h 149 (upd (h 149) 0 ((h 25) 0)) from am_up_rw _ _ _ _) ?_
  refine am_aload_n (pc := 8) C dX5_copyFrom_8 rfl ?_
  refine am_aload_n (pc := 9) C dX5_copyFrom_9 rfl ?_
  refine am_getI (pc := 10) C dX5_copyFrom_10 f5_9 bn_25 sh_25 ?_
  refine am_putI (pc := 13) C dX5_copyFrom_13 f5_9 bn_149 sh_149 rfl rfl ?_
  refine am_hp (show am_up (am_row h 149 (upd (h 149) 0 ((h 25) 0))) 149 1 ((h 25) 1) = am_row (am_row h 149 (upd (h 149) 0 ((h 25) 0))) 149 (upd (upd (h 149) 0 ((h 25) 0)) 1 ((h 25) 1)) from am_up_rw _ _ _ _) ?_
  refine am_hp (show am_row (am_row h 149 (upd (h 149) 0 ((h 25) 0))) 149 (upd (upd (h 149) 0 ((h 25) 0)) 1 ((h 25) 1)) = (am_row h 149 (upd (upd (h 149) 0 ((h 25) 0)) 1 ((h 25) 1))) from am_row_s0) ?_
  refine am_aload_n (pc := 16) C dX5_copyFrom_16 rfl ?_
  refine am_aload_n (pc := 17) C dX5_copyFrom_17 rfl ?_
  refine am_getI (pc := 18) C dX5_copyFrom_18 f5_61 bn_25 sh_25 ?_
  refine am_putI (pc := 21) C dX5_copyFrom_21 f5_61 bn_149 sh_149 rfl rfl ?_
  refine am_hp (show am_up (am_row h 149 (upd (upd (h 149) 0 ((h 25) 0)) 1 ((h 25) 1))) 149 2 ((h 25) 2) = am_row (am_row h 149 (upd (upd (h 149) 0 ((h 25) 0)) 1 ((h 25) 1))) 149 (upd (upd (upd (h 149) 0 ((h 25) 0)) 1 ((h 25) 1)) 2 ((h 25) 2)) from am_up_rw _ _ _ _) ?_
  refine am_hp (show am_row (am_row h 149 (upd (upd (h 149) 0 ((h 25) 0)) 1 ((h 25) 1))) 149 (upd (upd (upd (h 149) 0 ((h 25) 0)) 1 ((h 25) 1)) 2 ((h 25) 2)) = (am_row h 149 (upd (upd (upd (h 149) 0 ((h 25) 0)) 1 ((h 25) 1)) 2 ((h 25) 2))) from am_row_s0) ?_
  refine am_aload_n (pc := 24) C dX5_copyFrom_24 rfl ?_
  refine am_aload_n (pc := 25) C dX5_copyFrom_25 rfl ?_
  refine am_getI (pc := 26) C dX5_copyFrom_26 f5_64 bn_25 sh_25 ?_
  refine am_putI (pc := 29) C dX5_copyFrom_29 f5_64 bn_149 sh_149 rfl rfl ?_
  refine am_hp (show am_up (am_row h 149 (upd (upd (upd (h 149) 0 ((h 25) 0)) 1 ((h 25) 1)) 2 ((h 25) 2))) 149 3 ((h 25) 3) = am_row (am_row h 149 (upd (upd (upd (h 149) 0 ((h 25) 0)) 1 ((h 25) 1)) 2 ((h 25) 2))) 149 (upd (upd (upd (upd (h 149) 0 ((h 25) 0)) 1 ((h 25) 1)) 2 ((h 25) 2)) 3 ((h 25) 3)) from am_up_rw _ _ _ _) ?_
  refine am_hp (show am_row (am_row h 149 (upd (upd (upd (h 149) 0 ((h 25) 0)) 1 ((h 25) 1)) 2 ((h 25) 2))) 149 (upd (upd (upd (upd (h 149) 0 ((h 25) 0)) 1 ((h 25) 1)) 2 ((h 25) 2)) 3 ((h 25) 3)) = (am_row h 149 (upd (upd (upd (upd (h 149) 0 ((h 25) 0)) 1 ((h 25) 1)) 2 ((h 25) 2)) 3 ((h 25) 3))) from am_row_s0) ?_
  refine am_aload_n (pc := 32) C dX5_copyFrom_32 rfl ?_
  refine am_aload_n (pc := 33) C dX5_copyFrom_33 rfl ?_
  refine am_getI (pc := 34) C dX5_copyFrom_34 f5_67 bn_25 sh_25 ?_
  refine am_putI (pc := 37) C dX5_copyFrom_37 f5_67 bn_149 sh_149 rfl rfl ?_
  refine am_hp (show am_up (am_row h 149 (upd (upd (upd (upd (h 149) 0 ((h 25) 0)) 1 ((h 25) 1)) 2 ((h 25) 2)) 3 ((h 25) 3))) 149 4 ((h 25) 4) = am_row (am_row h 149 (upd (upd (upd (upd (h 149) 0 ((h 25) 0)) 1 ((h 25) 1)) 2 ((h 25) 2)) 3 ((h 25) 3))) 149 (upd (upd (upd (upd (upd (h 149) 0 ((h 25) 0)) 1 ((h 25) 1)) 2 ((h 25) 2)) 3 ((h 25) 3)) 4 ((h 25) 4)) from am_up_rw _ _ _ _) ?_
  refine am_hp (show am_row (am_row h 149 (upd (upd (upd (upd (h 149) 0 ((h 25) 0)) 1 ((h 25) 1)) 2 ((h 25) 2)) 3 ((h 25) 3))) 149 (upd (upd (upd (upd (upd (h 149) 0 ((h 25) 0)) 1 ((h 25) 1)) 2 ((h 25) 2)) 3 ((h 25) 3)) 4 ((h 25) 4)) = (am_row h 149 (upd (upd (upd (upd (upd (h 149) 0 ((h 25) 0)) 1 ((h 25) 1)) 2 ((h 25) 2)) 3 ((h 25) 3)) 4 ((h 25) 4))) from am_row_s0) ?_
  refine am_aload_n (pc := 40) C dX5_copyFrom_40 rfl ?_
  refine am_getR (pc := 41) (j := 26) C dX5_copyFrom_41 f5_15 bn_25 sh_25 (rf_25_5 hR) ?_
  refine am_aload_n (pc := 44) C dX5_copyFrom_44 rfl ?_
  refine am_getR (pc := 45) (j := 150) C dX5_copyFrom_45 f5_15 bn_149 sh_149 (rf_149_5 hR) ?_
  refine am_callSNv (Y := mX11_copyRow) (pc := 48) (st := []) (As := [.ref 26, .ref 150]) (h2 := (am_row (am_row h 149 (upd (upd (upd (upd (upd (h 149) 0 ((h 25) 0)) 1 ((h 25) 1)) 2 ((h 25) 2)) 3 ((h 25) 3)) 4 ((h 25) 4))) 150 (va_cpy (h 26) (h 150) 0 0 10))) C dX5_copyFrom_48 k5_70 v_X11_copyRow rfl rfl (by decide) (Nat.zero_le _) (Nat.zero_le _) (Nat.le_of_ble_eq_true rfl) (c_X11_copyRow hR 26 150 10 bn_26 sh_26 bn_150 sh_150 (by decide)) ?_
  refine am_aload_n (pc := 51) C dX5_copyFrom_51 rfl ?_
  refine am_getR (pc := 52) (j := 27) C dX5_copyFrom_52 f5_19 bn_25 sh_25 (rf_25_6 hR) ?_
  refine am_aload_n (pc := 55) C dX5_copyFrom_55 rfl ?_
  refine am_getR (pc := 56) (j := 151) C dX5_copyFrom_56 f5_19 bn_149 sh_149 (rf_149_6 hR) ?_
  refine am_callSNv (Y := mX11_copyRow) (pc := 59) (st := []) (As := [.ref 27, .ref 151]) (h2 := (am_row (am_row (am_row h 149 (upd (upd (upd (upd (upd (h 149) 0 ((h 25) 0)) 1 ((h 25) 1)) 2 ((h 25) 2)) 3 ((h 25) 3)) 4 ((h 25) 4))) 150 (va_cpy (h 26) (h 150) 0 0 10)) 151 (va_cpy (h 27) (h 151) 0 0 10))) C dX5_copyFrom_59 k5_70 v_X11_copyRow rfl rfl (by decide) (Nat.zero_le _) (Nat.zero_le _) (Nat.le_of_ble_eq_true rfl) (c_X11_copyRow hR 27 151 10 bn_27 sh_27 bn_151 sh_151 (by decide)) ?_
  refine am_aload_n (pc := 62) C dX5_copyFrom_62 rfl ?_
  refine am_getR (pc := 63) (j := 28) C dX5_copyFrom_63 f5_22 bn_25 sh_25 (rf_25_7 hR) ?_
  refine am_aload_n (pc := 66) C dX5_copyFrom_66 rfl ?_
  refine am_getR (pc := 67) (j := 152) C dX5_copyFrom_67 f5_22 bn_149 sh_149 (rf_149_7 hR) ?_
  refine am_callSNv (Y := mX11_copyRow) (pc := 70) (st := []) (As := [.ref 28, .ref 152]) (h2 := (am_row (am_row (am_row (am_row h 149 (upd (upd (upd (upd (upd (h 149) 0 ((h 25) 0)) 1 ((h 25) 1)) 2 ((h 25) 2)) 3 ((h 25) 3)) 4 ((h 25) 4))) 150 (va_cpy (h 26) (h 150) 0 0 10)) 151 (va_cpy (h 27) (h 151) 0 0 10)) 152 (va_cpy (h 28) (h 152) 0 0 10))) C dX5_copyFrom_70 k5_70 v_X11_copyRow rfl rfl (by decide) (Nat.zero_le _) (Nat.zero_le _) (Nat.le_of_ble_eq_true rfl) (c_X11_copyRow hR 28 152 10 bn_28 sh_28 bn_152 sh_152 (by decide)) ?_
  refine am_aload_n (pc := 73) C dX5_copyFrom_73 rfl ?_
  refine am_getR (pc := 74) (j := 29) C dX5_copyFrom_74 f5_25 bn_25 sh_25 (rf_25_8 hR) ?_
  refine am_aload_n (pc := 77) C dX5_copyFrom_77 rfl ?_
  refine am_getR (pc := 78) (j := 153) C dX5_copyFrom_78 f5_25 bn_149 sh_149 (rf_149_8 hR) ?_
  refine am_callSNv (Y := mX11_copyRow) (pc := 81) (st := []) (As := [.ref 29, .ref 153]) (h2 := (am_row (am_row (am_row (am_row (am_row h 149 (upd (upd (upd (upd (upd (h 149) 0 ((h 25) 0)) 1 ((h 25) 1)) 2 ((h 25) 2)) 3 ((h 25) 3)) 4 ((h 25) 4))) 150 (va_cpy (h 26) (h 150) 0 0 10)) 151 (va_cpy (h 27) (h 151) 0 0 10)) 152 (va_cpy (h 28) (h 152) 0 0 10)) 153 (va_cpy (h 29) (h 153) 0 0 10))) C dX5_copyFrom_81 k5_70 v_X11_copyRow rfl rfl (by decide) (Nat.zero_le _) (Nat.zero_le _) (Nat.le_of_ble_eq_true rfl) (c_X11_copyRow hR 29 153 10 bn_29 sh_29 bn_153 sh_153 (by decide)) ?_
  refine am_aload_n (pc := 84) C dX5_copyFrom_84 rfl ?_
  refine am_getR (pc := 85) (j := 30) C dX5_copyFrom_85 f5_28 bn_25 sh_25 (rf_25_9 hR) ?_
  refine am_aload_n (pc := 88) C dX5_copyFrom_88 rfl ?_
  refine am_getR (pc := 89) (j := 154) C dX5_copyFrom_89 f5_28 bn_149 sh_149 (rf_149_9 hR) ?_
  refine am_callSNv (Y := mX11_copyRow) (pc := 92) (st := []) (As := [.ref 30, .ref 154]) (h2 := (am_row (am_row (am_row (am_row (am_row (am_row h 149 (upd (upd (upd (upd (upd (h 149) 0 ((h 25) 0)) 1 ((h 25) 1)) 2 ((h 25) 2)) 3 ((h 25) 3)) 4 ((h 25) 4))) 150 (va_cpy (h 26) (h 150) 0 0 10)) 151 (va_cpy (h 27) (h 151) 0 0 10)) 152 (va_cpy (h 28) (h 152) 0 0 10)) 153 (va_cpy (h 29) (h 153) 0 0 10)) 154 (va_cpy (h 30) (h 154) 0 0 10))) C dX5_copyFrom_92 k5_70 v_X11_copyRow rfl rfl (by decide) (Nat.zero_le _) (Nat.zero_le _) (Nat.le_of_ble_eq_true rfl) (c_X11_copyRow hR 30 154 10 bn_30 sh_30 bn_154 sh_154 (by decide)) ?_
  refine am_aload_n (pc := 95) C dX5_copyFrom_95 rfl ?_
  refine am_getR (pc := 96) (j := 31) C dX5_copyFrom_96 f5_31 bn_25 sh_25 (rf_25_10 hR) ?_
  refine am_aload_n (pc := 99) C dX5_copyFrom_99 rfl ?_
  refine am_getR (pc := 100) (j := 155) C dX5_copyFrom_100 f5_31 bn_149 sh_149 (rf_149_10 hR) ?_
  refine am_callSNv (Y := mX11_copyRow) (pc := 103) (st := []) (As := [.ref 31, .ref 155]) (h2 := (am_row (am_row (am_row (am_row (am_row (am_row (am_row h 149 (upd (upd (upd (upd (upd (h 149) 0 ((h 25) 0)) 1 ((h 25) 1)) 2 ((h 25) 2)) 3 ((h 25) 3)) 4 ((h 25) 4))) 150 (va_cpy (h 26) (h 150) 0 0 10)) 151 (va_cpy (h 27) (h 151) 0 0 10)) 152 (va_cpy (h 28) (h 152) 0 0 10)) 153 (va_cpy (h 29) (h 153) 0 0 10)) 154 (va_cpy (h 30) (h 154) 0 0 10)) 155 (va_cpy (h 31) (h 155) 0 0 120))) C dX5_copyFrom_103 k5_70 v_X11_copyRow rfl rfl (by decide) (Nat.zero_le _) (Nat.zero_le _) (Nat.le_of_ble_eq_true rfl) (c_X11_copyRow hR 31 155 120 bn_31 sh_31 bn_155 sh_155 (by decide)) ?_
  refine am_aload_n (pc := 106) C dX5_copyFrom_106 rfl ?_
  refine am_getR (pc := 107) (j := 32) C dX5_copyFrom_107 f5_34 bn_25 sh_25 (rf_25_11 hR) ?_
  refine am_aload_n (pc := 110) C dX5_copyFrom_110 rfl ?_
  refine am_getR (pc := 111) (j := 156) C dX5_copyFrom_111 f5_34 bn_149 sh_149 (rf_149_11 hR) ?_
  refine am_callSNv (Y := mX11_copyRow) (pc := 114) (st := []) (As := [.ref 32, .ref 156]) (h2 := (am_row (am_row (am_row (am_row (am_row (am_row (am_row (am_row h 149 (upd (upd (upd (upd (upd (h 149) 0 ((h 25) 0)) 1 ((h 25) 1)) 2 ((h 25) 2)) 3 ((h 25) 3)) 4 ((h 25) 4))) 150 (va_cpy (h 26) (h 150) 0 0 10)) 151 (va_cpy (h 27) (h 151) 0 0 10)) 152 (va_cpy (h 28) (h 152) 0 0 10)) 153 (va_cpy (h 29) (h 153) 0 0 10)) 154 (va_cpy (h 30) (h 154) 0 0 10)) 155 (va_cpy (h 31) (h 155) 0 0 120)) 156 (va_cpy (h 32) (h 156) 0 0 40))) C dX5_copyFrom_114 k5_70 v_X11_copyRow rfl rfl (by decide) (Nat.zero_le _) (Nat.zero_le _) (Nat.le_of_ble_eq_true rfl) (c_X11_copyRow hR 32 156 40 bn_32 sh_32 bn_156 sh_156 (by decide)) ?_
  refine am_aload_n (pc := 117) C dX5_copyFrom_117 rfl ?_
  refine am_getR (pc := 118) (j := 33) C dX5_copyFrom_118 f5_37 bn_25 sh_25 (rf_25_12 hR) ?_
  refine am_aload_n (pc := 121) C dX5_copyFrom_121 rfl ?_
  refine am_getR (pc := 122) (j := 157) C dX5_copyFrom_122 f5_37 bn_149 sh_149 (rf_149_12 hR) ?_
  refine am_callSNv (Y := mX11_copyRow) (pc := 125) (st := []) (As := [.ref 33, .ref 157]) (h2 := (am_row (am_row (am_row (am_row (am_row (am_row (am_row (am_row (am_row h 149 (upd (upd (upd (upd (upd (h 149) 0 ((h 25) 0)) 1 ((h 25) 1)) 2 ((h 25) 2)) 3 ((h 25) 3)) 4 ((h 25) 4))) 150 (va_cpy (h 26) (h 150) 0 0 10)) 151 (va_cpy (h 27) (h 151) 0 0 10)) 152 (va_cpy (h 28) (h 152) 0 0 10)) 153 (va_cpy (h 29) (h 153) 0 0 10)) 154 (va_cpy (h 30) (h 154) 0 0 10)) 155 (va_cpy (h 31) (h 155) 0 0 120)) 156 (va_cpy (h 32) (h 156) 0 0 40)) 157 (va_cpy (h 33) (h 157) 0 0 40))) C dX5_copyFrom_125 k5_70 v_X11_copyRow rfl rfl (by decide) (Nat.zero_le _) (Nat.zero_le _) (Nat.le_of_ble_eq_true rfl) (c_X11_copyRow hR 33 157 40 bn_33 sh_33 bn_157 sh_157 (by decide)) ?_
  refine am_aload_n (pc := 128) C dX5_copyFrom_128 rfl ?_
  refine am_getR (pc := 129) (j := 34) C dX5_copyFrom_129 f5_40 bn_25 sh_25 (rf_25_13 hR) ?_
  refine am_aload_n (pc := 132) C dX5_copyFrom_132 rfl ?_
  refine am_getR (pc := 133) (j := 158) C dX5_copyFrom_133 f5_40 bn_149 sh_149 (rf_149_13 hR) ?_
  refine am_callSNv (Y := mX11_copyRow) (pc := 136) (st := []) (As := [.ref 34, .ref 158]) (h2 := (am_row (am_row (am_row (am_row (am_row (am_row (am_row (am_row (am_row (am_row h 149 (upd (upd (upd (upd (upd (h 149) 0 ((h 25) 0)) 1 ((h 25) 1)) 2 ((h 25) 2)) 3 ((h 25) 3)) 4 ((h 25) 4))) 150 (va_cpy (h 26) (h 150) 0 0 10)) 151 (va_cpy (h 27) (h 151) 0 0 10)) 152 (va_cpy (h 28) (h 152) 0 0 10)) 153 (va_cpy (h 29) (h 153) 0 0 10)) 154 (va_cpy (h 30) (h 154) 0 0 10)) 155 (va_cpy (h 31) (h 155) 0 0 120)) 156 (va_cpy (h 32) (h 156) 0 0 40)) 157 (va_cpy (h 33) (h 157) 0 0 40)) 158 (va_cpy (h 34) (h 158) 0 0 40))) C dX5_copyFrom_136 k5_70 v_X11_copyRow rfl rfl (by decide) (Nat.zero_le _) (Nat.zero_le _) (Nat.le_of_ble_eq_true rfl) (c_X11_copyRow hR 34 158 40 bn_34 sh_34 bn_158 sh_158 (by decide)) ?_
  refine am_aload_n (pc := 139) C dX5_copyFrom_139 rfl ?_
  refine am_getR (pc := 140) (j := 35) C dX5_copyFrom_140 f5_43 bn_25 sh_25 (rf_25_14 hR) ?_
  refine am_aload_n (pc := 143) C dX5_copyFrom_143 rfl ?_
  refine am_getR (pc := 144) (j := 159) C dX5_copyFrom_144 f5_43 bn_149 sh_149 (rf_149_14 hR) ?_
  refine am_callSNv (Y := mX11_copyRow) (pc := 147) (st := []) (As := [.ref 35, .ref 159]) (h2 := (am_row (am_row (am_row (am_row (am_row (am_row (am_row (am_row (am_row (am_row (am_row h 149 (upd (upd (upd (upd (upd (h 149) 0 ((h 25) 0)) 1 ((h 25) 1)) 2 ((h 25) 2)) 3 ((h 25) 3)) 4 ((h 25) 4))) 150 (va_cpy (h 26) (h 150) 0 0 10)) 151 (va_cpy (h 27) (h 151) 0 0 10)) 152 (va_cpy (h 28) (h 152) 0 0 10)) 153 (va_cpy (h 29) (h 153) 0 0 10)) 154 (va_cpy (h 30) (h 154) 0 0 10)) 155 (va_cpy (h 31) (h 155) 0 0 120)) 156 (va_cpy (h 32) (h 156) 0 0 40)) 157 (va_cpy (h 33) (h 157) 0 0 40)) 158 (va_cpy (h 34) (h 158) 0 0 40)) 159 (va_cpy (h 35) (h 159) 0 0 60))) C dX5_copyFrom_147 k5_70 v_X11_copyRow rfl rfl (by decide) (Nat.zero_le _) (Nat.zero_le _) (Nat.le_of_ble_eq_true rfl) (c_X11_copyRow hR 35 159 60 bn_35 sh_35 bn_159 sh_159 (by decide)) ?_
  refine am_aload_n (pc := 150) C dX5_copyFrom_150 rfl ?_
  refine am_getR (pc := 151) (j := 36) C dX5_copyFrom_151 f5_46 bn_25 sh_25 (rf_25_15 hR) ?_
  refine am_aload_n (pc := 154) C dX5_copyFrom_154 rfl ?_
  refine am_getR (pc := 155) (j := 160) C dX5_copyFrom_155 f5_46 bn_149 sh_149 (rf_149_15 hR) ?_
  refine am_callSNv (Y := mX11_copyRow) (pc := 158) (st := []) (As := [.ref 36, .ref 160]) (h2 := (am_row (am_row (am_row (am_row (am_row (am_row (am_row (am_row (am_row (am_row (am_row (am_row h 149 (upd (upd (upd (upd (upd (h 149) 0 ((h 25) 0)) 1 ((h 25) 1)) 2 ((h 25) 2)) 3 ((h 25) 3)) 4 ((h 25) 4))) 150 (va_cpy (h 26) (h 150) 0 0 10)) 151 (va_cpy (h 27) (h 151) 0 0 10)) 152 (va_cpy (h 28) (h 152) 0 0 10)) 153 (va_cpy (h 29) (h 153) 0 0 10)) 154 (va_cpy (h 30) (h 154) 0 0 10)) 155 (va_cpy (h 31) (h 155) 0 0 120)) 156 (va_cpy (h 32) (h 156) 0 0 40)) 157 (va_cpy (h 33) (h 157) 0 0 40)) 158 (va_cpy (h 34) (h 158) 0 0 40)) 159 (va_cpy (h 35) (h 159) 0 0 60)) 160 (va_cpy (h 36) (h 160) 0 0 60))) C dX5_copyFrom_158 k5_70 v_X11_copyRow rfl rfl (by decide) (Nat.zero_le _) (Nat.zero_le _) (Nat.le_of_ble_eq_true rfl) (c_X11_copyRow hR 36 160 60 bn_36 sh_36 bn_160 sh_160 (by decide)) ?_
  refine am_aload_n (pc := 161) C dX5_copyFrom_161 rfl ?_
  refine am_getR (pc := 162) (j := 37) C dX5_copyFrom_162 f5_49 bn_25 sh_25 (rf_25_16 hR) ?_
  refine am_aload_n (pc := 165) C dX5_copyFrom_165 rfl ?_
  refine am_getR (pc := 166) (j := 161) C dX5_copyFrom_166 f5_49 bn_149 sh_149 (rf_149_16 hR) ?_
  refine am_callSNv (Y := mX11_copyRow) (pc := 169) (st := []) (As := [.ref 37, .ref 161]) (h2 := (am_row (am_row (am_row (am_row (am_row (am_row (am_row (am_row (am_row (am_row (am_row (am_row (am_row h 149 (upd (upd (upd (upd (upd (h 149) 0 ((h 25) 0)) 1 ((h 25) 1)) 2 ((h 25) 2)) 3 ((h 25) 3)) 4 ((h 25) 4))) 150 (va_cpy (h 26) (h 150) 0 0 10)) 151 (va_cpy (h 27) (h 151) 0 0 10)) 152 (va_cpy (h 28) (h 152) 0 0 10)) 153 (va_cpy (h 29) (h 153) 0 0 10)) 154 (va_cpy (h 30) (h 154) 0 0 10)) 155 (va_cpy (h 31) (h 155) 0 0 120)) 156 (va_cpy (h 32) (h 156) 0 0 40)) 157 (va_cpy (h 33) (h 157) 0 0 40)) 158 (va_cpy (h 34) (h 158) 0 0 40)) 159 (va_cpy (h 35) (h 159) 0 0 60)) 160 (va_cpy (h 36) (h 160) 0 0 60)) 161 (va_cpy (h 37) (h 161) 0 0 60))) C dX5_copyFrom_169 k5_70 v_X11_copyRow rfl rfl (by decide) (Nat.zero_le _) (Nat.zero_le _) (Nat.le_of_ble_eq_true rfl) (c_X11_copyRow hR 37 161 60 bn_37 sh_37 bn_161 sh_161 (by decide)) ?_
  refine am_aload_n (pc := 172) C dX5_copyFrom_172 rfl ?_
  refine am_getR (pc := 173) (j := 38) C dX5_copyFrom_173 f5_52 bn_25 sh_25 (rf_25_17 hR) ?_
  refine am_aload_n (pc := 176) C dX5_copyFrom_176 rfl ?_
  refine am_getR (pc := 177) (j := 162) C dX5_copyFrom_177 f5_52 bn_149 sh_149 (rf_149_17 hR) ?_
  refine am_callSNv (Y := mX11_copyRow) (pc := 180) (st := []) (As := [.ref 38, .ref 162]) (h2 := (am_row (am_row (am_row (am_row (am_row (am_row (am_row (am_row (am_row (am_row (am_row (am_row (am_row (am_row h 149 (upd (upd (upd (upd (upd (h 149) 0 ((h 25) 0)) 1 ((h 25) 1)) 2 ((h 25) 2)) 3 ((h 25) 3)) 4 ((h 25) 4))) 150 (va_cpy (h 26) (h 150) 0 0 10)) 151 (va_cpy (h 27) (h 151) 0 0 10)) 152 (va_cpy (h 28) (h 152) 0 0 10)) 153 (va_cpy (h 29) (h 153) 0 0 10)) 154 (va_cpy (h 30) (h 154) 0 0 10)) 155 (va_cpy (h 31) (h 155) 0 0 120)) 156 (va_cpy (h 32) (h 156) 0 0 40)) 157 (va_cpy (h 33) (h 157) 0 0 40)) 158 (va_cpy (h 34) (h 158) 0 0 40)) 159 (va_cpy (h 35) (h 159) 0 0 60)) 160 (va_cpy (h 36) (h 160) 0 0 60)) 161 (va_cpy (h 37) (h 161) 0 0 60)) 162 (va_cpy (h 38) (h 162) 0 0 60))) C dX5_copyFrom_180 k5_70 v_X11_copyRow rfl rfl (by decide) (Nat.zero_le _) (Nat.zero_le _) (Nat.le_of_ble_eq_true rfl) (c_X11_copyRow hR 38 162 60 bn_38 sh_38 bn_162 sh_162 (by decide)) ?_
  refine am_aload_n (pc := 183) C dX5_copyFrom_183 rfl ?_
  refine am_getR (pc := 184) (j := 39) C dX5_copyFrom_184 f5_55 bn_25 sh_25 (rf_25_18 hR) ?_
  refine am_aload_n (pc := 187) C dX5_copyFrom_187 rfl ?_
  refine am_getR (pc := 188) (j := 163) C dX5_copyFrom_188 f5_55 bn_149 sh_149 (rf_149_18 hR) ?_
  refine am_callSNv (Y := mX11_copyRow) (pc := 191) (st := []) (As := [.ref 39, .ref 163]) (h2 := (am_row (am_row (am_row (am_row (am_row (am_row (am_row (am_row (am_row (am_row (am_row (am_row (am_row (am_row (am_row h 149 (upd (upd (upd (upd (upd (h 149) 0 ((h 25) 0)) 1 ((h 25) 1)) 2 ((h 25) 2)) 3 ((h 25) 3)) 4 ((h 25) 4))) 150 (va_cpy (h 26) (h 150) 0 0 10)) 151 (va_cpy (h 27) (h 151) 0 0 10)) 152 (va_cpy (h 28) (h 152) 0 0 10)) 153 (va_cpy (h 29) (h 153) 0 0 10)) 154 (va_cpy (h 30) (h 154) 0 0 10)) 155 (va_cpy (h 31) (h 155) 0 0 120)) 156 (va_cpy (h 32) (h 156) 0 0 40)) 157 (va_cpy (h 33) (h 157) 0 0 40)) 158 (va_cpy (h 34) (h 158) 0 0 40)) 159 (va_cpy (h 35) (h 159) 0 0 60)) 160 (va_cpy (h 36) (h 160) 0 0 60)) 161 (va_cpy (h 37) (h 161) 0 0 60)) 162 (va_cpy (h 38) (h 162) 0 0 60)) 163 (va_cpy (h 39) (h 163) 0 0 60))) C dX5_copyFrom_191 k5_70 v_X11_copyRow rfl rfl (by decide) (Nat.zero_le _) (Nat.zero_le _) (Nat.le_of_ble_eq_true rfl) (c_X11_copyRow hR 39 163 60 bn_39 sh_39 bn_163 sh_163 (by decide)) ?_
  exact am_vretvr T dX5_copyFrom_194 rfl (Nat.le_refl _) (Nat.le_refl _) rfl ⟨cl_Sc_cpy hV hSc rfl rfl rfl rfl rfl (fun k hk => va_cpy_0 hk) (fun k hk => va_cpy_0 hk) (fun k hk => va_cpy_0 hk) (fun k hk => va_cpy_0 hk) (fun k hk => va_cpy_0 hk) (fun k hk => va_cpy_0 hk) (fun k hk => va_cpy_0 hk) (fun k hk => va_cpy_0 hk) (fun k hk => va_cpy_0 hk) (fun k hk => va_cpy_0 hk) (fun k hk => va_cpy_0 hk) (fun k hk => va_cpy_0 hk) (fun k hk => va_cpy_0 hk) (fun k hk => va_cpy_0 hk), (fun i9 h9 => by rw [am_row_ne _ _ _ (by omega), am_row_ne _ _ _ (by omega), am_row_ne _ _ _ (by omega), am_row_ne _ _ _ (by omega), am_row_ne _ _ _ (by omega), am_row_ne _ _ _ (by omega), am_row_ne _ _ _ (by omega), am_row_ne _ _ _ (by omega), am_row_ne _ _ _ (by omega), am_row_ne _ _ _ (by omega), am_row_ne _ _ _ (by omega), am_row_ne _ _ _ (by omega), am_row_ne _ _ _ (by omega), am_row_ne _ _ _ (by omega), am_row_ne _ _ _ (by omega)])⟩

set_option maxHeartbeats 400000 in
set_option maxRecDepth 100000 in
theorem c_X5_copyFrom_d_s2 {ad : Nat → Nat} {r : am_R} (hR : am_rs r) {h : am_H}  (w : rf_W) (hV : rf_I w) (hSc : cl_Sc (h) 25 w)  : am_CM mX5_copyFrom 3 0 0 [.ref 164, .ref 25] (am_VV ad) r h (am_pr none r (fun c9 => cl_Sc c9 164 w ∧ cl_fr (h) c9 164 15)) := by
  refine am_CM.of (by decide +kernel) (Nat.le_of_ble_eq_true rfl) (fun X C T => ?_)
  show am_G X (am_VV ad) (0, 0) 0 [(0, .ref 164), (1, .ref 25)] [] r h
  refine am_aload_n (pc := 0) C dX5_copyFrom_0 rfl ?_
  refine am_aload_n (pc := 1) C dX5_copyFrom_1 rfl ?_
  refine am_getI (pc := 2) C dX5_copyFrom_2 f5_58 bn_25 sh_25 ?_
  refine am_putI (pc := 5) C dX5_copyFrom_5 f5_58 bn_164 sh_164 rfl rfl ?_
  refine am_hp (show am_up h 164 0 ((h 25) 0) = am_row h 164 (upd (h 164) 0 ((h 25) 0)) from am_up_rw _ _ _ _) ?_
  refine am_aload_n (pc := 8) C dX5_copyFrom_8 rfl ?_
  refine am_aload_n (pc := 9) C dX5_copyFrom_9 rfl ?_
  refine am_getI (pc := 10) C dX5_copyFrom_10 f5_9 bn_25 sh_25 ?_
  refine am_putI (pc := 13) C dX5_copyFrom_13 f5_9 bn_164 sh_164 rfl rfl ?_
  refine am_hp (show am_up (am_row h 164 (upd (h 164) 0 ((h 25) 0))) 164 1 ((h 25) 1) = am_row (am_row h 164 (upd (h 164) 0 ((h 25) 0))) 164 (upd (upd (h 164) 0 ((h 25) 0)) 1 ((h 25) 1)) from am_up_rw _ _ _ _) ?_
  refine am_hp (show am_row (am_row h 164 (upd (h 164) 0 ((h 25) 0))) 164 (upd (upd (h 164) 0 ((h 25) 0)) 1 ((h 25) 1)) = (am_row h 164 (upd (upd (h 164) 0 ((h 25) 0)) 1 ((h 25) 1))) from am_row_s0) ?_
  refine am_aload_n (pc := 16) C dX5_copyFrom_16 rfl ?_
  refine am_aload_n (pc := 17) C dX5_copyFrom_17 rfl ?_
  refine am_getI (pc := 18) C dX5_copyFrom_18 f5_61 bn_25 sh_25 ?_
  refine am_putI (pc := 21) C dX5_copyFrom_21 f5_61 bn_164 sh_164 rfl rfl ?_
  refine am_hp (show am_up (am_row h 164 (upd (upd (h 164) 0 ((h 25) 0)) 1 ((h 25) 1))) 164 2 ((h 25) 2) = am_row (am_row h 164 (upd (upd (h 164) 0 ((h 25) 0)) 1 ((h 25) 1))) 164 (upd (upd (upd (h 164) 0 ((h 25) 0)) 1 ((h 25) 1)) 2 ((h 25) 2)) from am_up_rw _ _ _ _) ?_
  refine am_hp (show am_row (am_row h 164 (upd (upd (h 164) 0 ((h 25) 0)) 1 ((h 25) 1))) 164 (upd (upd (upd (h 164) 0 ((h 25) 0)) 1 ((h 25) 1)) 2 ((h 25) 2)) = (am_row h 164 (upd (upd (upd (h 164) 0 ((h 25) 0)) 1 ((h 25) 1)) 2 ((h 25) 2))) from am_row_s0) ?_
  refine am_aload_n (pc := 24) C dX5_copyFrom_24 rfl ?_
  refine am_aload_n (pc := 25) C dX5_copyFrom_25 rfl ?_
  refine am_getI (pc := 26) C dX5_copyFrom_26 f5_64 bn_25 sh_25 ?_
  refine am_putI (pc := 29) C dX5_copyFrom_29 f5_64 bn_164 sh_164 rfl rfl ?_
  refine am_hp (show am_up (am_row h 164 (upd (upd (upd (h 164) 0 ((h 25) 0)) 1 ((h 25) 1)) 2 ((h 25) 2))) 164 3 ((h 25) 3) = am_row (am_row h 164 (upd (upd (upd (h 164) 0 ((h 25) 0)) 1 ((h 25) 1)) 2 ((h 25) 2))) 164 (upd (upd (upd (upd (h 164) 0 ((h 25) 0)) 1 ((h 25) 1)) 2 ((h 25) 2)) 3 ((h 25) 3)) from am_up_rw _ _ _ _) ?_
  refine am_hp (show am_row (am_row h 164 (upd (upd (upd (h 164) 0 ((h 25) 0)) 1 ((h 25) 1)) 2 ((h 25) 2))) 164 (upd (upd (upd (upd (h 164) 0 ((h 25) 0)) 1 ((h 25) 1)) 2 ((h 25) 2)) 3 ((h 25) 3)) = (am_row h 164 (upd (upd (upd (upd (h 164) 0 ((h 25) 0)) 1 ((h 25) 1)) 2 ((h 25) 2)) 3 ((h 25) 3))) from am_row_s0) ?_
  refine am_aload_n (pc := 32) C dX5_copyFrom_32 rfl ?_
  refine am_aload_n (pc := 33) C dX5_copyFrom_33 rfl ?_
  refine am_getI (pc := 34) C dX5_copyFrom_34 f5_67 bn_25 sh_25 ?_
  refine am_putI (pc := 37) C dX5_copyFrom_37 f5_67 bn_164 sh_164 rfl rfl ?_
  refine am_hp (show am_up (am_row h 164 (upd (upd (upd (upd (h 164) 0 ((h 25) 0)) 1 ((h 25) 1)) 2 ((h 25) 2)) 3 ((h 25) 3))) 164 4 ((h 25) 4) = am_row (am_row h 164 (upd (upd (upd (upd (h 164) 0 ((h 25) 0)) 1 ((h 25) 1)) 2 ((h 25) 2)) 3 ((h 25) 3))) 164 (upd (upd (upd (upd (upd (h 164) 0 ((h 25) 0)) 1 ((h 25) 1)) 2 ((h 25) 2)) 3 ((h 25) 3)) 4 ((h 25) 4)) from am_up_rw _ _ _ _) ?_
  refine am_hp (show am_row (am_row h 164 (upd (upd (upd (upd (h 164) 0 ((h 25) 0)) 1 ((h 25) 1)) 2 ((h 25) 2)) 3 ((h 25) 3))) 164 (upd (upd (upd (upd (upd (h 164) 0 ((h 25) 0)) 1 ((h 25) 1)) 2 ((h 25) 2)) 3 ((h 25) 3)) 4 ((h 25) 4)) = (am_row h 164 (upd (upd (upd (upd (upd (h 164) 0 ((h 25) 0)) 1 ((h 25) 1)) 2 ((h 25) 2)) 3 ((h 25) 3)) 4 ((h 25) 4))) from am_row_s0) ?_
  refine am_aload_n (pc := 40) C dX5_copyFrom_40 rfl ?_
  refine am_getR (pc := 41) (j := 26) C dX5_copyFrom_41 f5_15 bn_25 sh_25 (rf_25_5 hR) ?_
  refine am_aload_n (pc := 44) C dX5_copyFrom_44 rfl ?_
  refine am_getR (pc := 45) (j := 165) C dX5_copyFrom_45 f5_15 bn_164 sh_164 (rf_164_5 hR) ?_
  refine am_callSNv (Y := mX11_copyRow) (pc := 48) (st := []) (As := [.ref 26, .ref 165]) (h2 := (am_row (am_row h 164 (upd (upd (upd (upd (upd (h 164) 0 ((h 25) 0)) 1 ((h 25) 1)) 2 ((h 25) 2)) 3 ((h 25) 3)) 4 ((h 25) 4))) 165 (va_cpy (h 26) (h 165) 0 0 10))) C dX5_copyFrom_48 k5_70 v_X11_copyRow rfl rfl (by decide) (Nat.zero_le _) (Nat.zero_le _) (Nat.le_of_ble_eq_true rfl) (c_X11_copyRow hR 26 165 10 bn_26 sh_26 bn_165 sh_165 (by decide)) ?_
  refine am_aload_n (pc := 51) C dX5_copyFrom_51 rfl ?_
  refine am_getR (pc := 52) (j := 27) C dX5_copyFrom_52 f5_19 bn_25 sh_25 (rf_25_6 hR) ?_
  refine am_aload_n (pc := 55) C dX5_copyFrom_55 rfl ?_
  refine am_getR (pc := 56) (j := 166) C dX5_copyFrom_56 f5_19 bn_164 sh_164 (rf_164_6 hR) ?_
  refine am_callSNv (Y := mX11_copyRow) (pc := 59) (st := []) (As := [.ref 27, .ref 166]) (h2 := (am_row (am_row (am_row h 164 (upd (upd (upd (upd (upd (h 164) 0 ((h 25) 0)) 1 ((h 25) 1)) 2 ((h 25) 2)) 3 ((h 25) 3)) 4 ((h 25) 4))) 165 (va_cpy (h 26) (h 165) 0 0 10)) 166 (va_cpy (h 27) (h 166) 0 0 10))) C dX5_copyFrom_59 k5_70 v_X11_copyRow rfl rfl (by decide) (Nat.zero_le _) (Nat.zero_le _) (Nat.le_of_ble_eq_true rfl) (c_X11_copyRow hR 27 166 10 bn_27 sh_27 bn_166 sh_166 (by decide)) ?_
  refine am_aload_n (pc := 62) C dX5_copyFrom_62 rfl ?_
  refine am_getR (pc := 63) (j := 28) C dX5_copyFrom_63 f5_22 bn_25 sh_25 (rf_25_7 hR) ?_
  refine am_aload_n (pc := 66) C dX5_copyFrom_66 rfl ?_
  refine am_getR (pc := 67) (j := 167) C dX5_copyFrom_67 f5_22 bn_164 sh_164 (rf_164_7 hR) ?_
  refine am_callSNv (Y := mX11_copyRow) (pc := 70) (st := []) (As := [.ref 28, .ref 167]) (h2 := (am_row (am_row (am_row (am_row h 164 (upd (upd (upd (upd (upd (h 164) 0 ((h 25) 0)) 1 ((h 25) 1)) 2 ((h 25) 2)) 3 ((h 25) 3)) 4 ((h 25) 4))) 165 (va_cpy (h 26) (h 165) 0 0 10)) 166 (va_cpy (h 27) (h 166) 0 0 10)) 167 (va_cpy (h 28) (h 167) 0 0 10))) C dX5_copyFrom_70 k5_70 v_X11_copyRow rfl rfl (by decide) (Nat.zero_le _) (Nat.zero_le _) (Nat.le_of_ble_eq_true rfl) (c_X11_copyRow hR 28 167 10 bn_28 sh_28 bn_167 sh_167 (by decide)) ?_
  refine am_aload_n (pc := 73) C dX5_copyFrom_73 rfl ?_
  refine am_getR (pc := 74) (j := 29) C dX5_copyFrom_74 f5_25 bn_25 sh_25 (rf_25_8 hR) ?_
  refine am_aload_n (pc := 77) C dX5_copyFrom_77 rfl ?_
  refine am_getR (pc := 78) (j := 168) C dX5_copyFrom_78 f5_25 bn_164 sh_164 (rf_164_8 hR) ?_
  refine am_callSNv (Y := mX11_copyRow) (pc := 81) (st := []) (As := [.ref 29, .ref 168]) (h2 := (am_row (am_row (am_row (am_row (am_row h 164 (upd (upd (upd (upd (upd (h 164) 0 ((h 25) 0)) 1 ((h 25) 1)) 2 ((h 25) 2)) 3 ((h 25) 3)) 4 ((h 25) 4))) 165 (va_cpy (h 26) (h 165) 0 0 10)) 166 (va_cpy (h 27) (h 166) 0 0 10)) 167 (va_cpy (h 28) (h 167) 0 0 10)) 168 (va_cpy (h 29) (h 168) 0 0 10))) C dX5_copyFrom_81 k5_70 v_X11_copyRow rfl rfl (by decide) (Nat.zero_le _) (Nat.zero_le _) (Nat.le_of_ble_eq_true rfl) (c_X11_copyRow hR 29 168 10 bn_29 sh_29 bn_168 sh_168 (by decide)) ?_
  refine am_aload_n (pc := 84) C dX5_copyFrom_84 rfl ?_
  refine am_getR (pc := 85) (j := 30) C dX5_copyFrom_85 f5_28 bn_25 sh_25 (rf_25_9 hR) ?_
  refine am_aload_n (pc := 88) C dX5_copyFrom_88 rfl ?_
  refine am_getR (pc := 89) (j := 169) C dX5_copyFrom_89 f5_28 bn_164 sh_164 (rf_164_9 hR) ?_
  refine am_callSNv (Y := mX11_copyRow) (pc := 92) (st := []) (As := [.ref 30, .ref 169]) (h2 := (am_row (am_row (am_row (am_row (am_row (am_row h 164 (upd (upd (upd (upd (upd (h 164) 0 ((h 25) 0)) 1 ((h 25) 1)) 2 ((h 25) 2)) 3 ((h 25) 3)) 4 ((h 25) 4))) 165 (va_cpy (h 26) (h 165) 0 0 10)) 166 (va_cpy (h 27) (h 166) 0 0 10)) 167 (va_cpy (h 28) (h 167) 0 0 10)) 168 (va_cpy (h 29) (h 168) 0 0 10)) 169 (va_cpy (h 30) (h 169) 0 0 10))) C dX5_copyFrom_92 k5_70 v_X11_copyRow rfl rfl (by decide) (Nat.zero_le _) (Nat.zero_le _) (Nat.le_of_ble_eq_true rfl) (c_X11_copyRow hR 30 169 10 bn_30 sh_30 bn_169 sh_169 (by decide)) ?_
  refine am_aload_n (pc := 95) C dX5_copyFrom_95 rfl ?_
  refine am_getR (pc := 96) (j := 31) C dX5_copyFrom_96 f5_31 bn_25 sh_25 (rf_25_10 hR) ?_
  refine am_aload_n (pc := 99) C dX5_copyFrom_99 rfl ?_
  refine am_getR (pc := 100) (j := 170) C dX5_copyFrom_100 f5_31 bn_164 sh_164 (rf_164_10 hR) ?_
  refine am_callSNv (Y := mX11_copyRow) (pc := 103) (st := []) (As := [.ref 31, .ref 170]) (h2 := (am_row (am_row (am_row (am_row (am_row (am_row (am_row h 164 (upd (upd (upd (upd (upd (h 164) 0 ((h 25) 0)) 1 ((h 25) 1)) 2 ((h 25) 2)) 3 ((h 25) 3)) 4 ((h 25) 4))) 165 (va_cpy (h 26) (h 165) 0 0 10)) 166 (va_cpy (h 27) (h 166) 0 0 10)) 167 (va_cpy (h 28) (h 167) 0 0 10)) 168 (va_cpy (h 29) (h 168) 0 0 10)) 169 (va_cpy (h 30) (h 169) 0 0 10)) 170 (va_cpy (h 31) (h 170) 0 0 120))) C dX5_copyFrom_103 k5_70 v_X11_copyRow rfl rfl (by decide) (Nat.zero_le _) (Nat.zero_le _) (Nat.le_of_ble_eq_true rfl) (c_X11_copyRow hR 31 170 120 bn_31 sh_31 bn_170 sh_170 (by decide)) ?_
  refine am_aload_n (pc := 106) C dX5_copyFrom_106 rfl ?_
  refine am_getR (pc := 107) (j := 32) C dX5_copyFrom_107 f5_34 bn_25 sh_25 (rf_25_11 hR) ?_
  refine am_aload_n (pc := 110) C dX5_copyFrom_110 rfl ?_
  refine am_getR (pc := 111) (j := 171) C dX5_copyFrom_111 f5_34 bn_164 sh_164 (rf_164_11 hR) ?_
  refine am_callSNv (Y := mX11_copyRow) (pc := 114) (st := []) (As := [.ref 32, .ref 171]) (h2 := (am_row (am_row (am_row (am_row (am_row (am_row (am_row (am_row h 164 (upd (upd (upd (upd (upd (h 164) 0 ((h 25) 0)) 1 ((h 25) 1)) 2 ((h 25) 2)) 3 ((h 25) 3)) 4 ((h 25) 4))) 165 (va_cpy (h 26) (h 165) 0 0 10)) 166 (va_cpy (h 27) (h 166) 0 0 10)) 167 (va_cpy (h 28) (h 167) 0 0 10)) 168 (va_cpy (h 29) (h 168) 0 0 10)) 169 (va_cpy (h 30) (h 169) 0 0 10)) 170 (va_cpy (h 31) (h 170) 0 0 120)) 171 (va_cpy (h 32) (h 171) 0 0 40))) C dX5_copyFrom_114 k5_70 v_X11_copyRow rfl rfl (by decide) (Nat.zero_le _) (Nat.zero_le _) (Nat.le_of_ble_eq_true rfl) (c_X11_copyRow hR 32 171 40 bn_32 sh_32 bn_171 sh_171 (by decide)) ?_
  refine am_aload_n (pc := 117) C dX5_copyFrom_117 rfl ?_
  refine am_getR (pc := 118) (j := 33) C dX5_copyFrom_118 f5_37 bn_25 sh_25 (rf_25_12 hR) ?_
  refine am_aload_n (pc := 121) C dX5_copyFrom_121 rfl ?_
  refine am_getR (pc := 122) (j := 172) C dX5_copyFrom_122 f5_37 bn_164 sh_164 (rf_164_12 hR) ?_
  refine am_callSNv (Y := mX11_copyRow) (pc := 125) (st := []) (As := [.ref 33, .ref 172]) (h2 := (am_row (am_row (am_row (am_row (am_row (am_row (am_row (am_row (am_row h 164 (upd (upd (upd (upd (upd (h 164) 0 ((h 25) 0)) 1 ((h 25) 1)) 2 ((h 25) 2)) 3 ((h 25) 3)) 4 ((h 25) 4))) 165 (va_cpy (h 26) (h 165) 0 0 10)) 166 (va_cpy (h 27) (h 166) 0 0 10)) 167 (va_cpy (h 28) (h 167) 0 0 10)) 168 (va_cpy (h 29) (h 168) 0 0 10)) 169 (va_cpy (h 30) (h 169) 0 0 10)) 170 (va_cpy (h 31) (h 170) 0 0 120)) 171 (va_cpy (h 32) (h 171) 0 0 40)) 172 (va_cpy (h 33) (h 172) 0 0 40))) C dX5_copyFrom_125 k5_70 v_X11_copyRow rfl rfl (by decide) (Nat.zero_le _) (Nat.zero_le _) (Nat.le_of_ble_eq_true rfl) (c_X11_copyRow hR 33 172 40 bn_33 sh_33 bn_172 sh_172 (by decide)) ?_
  refine am_aload_n (pc := 128) C dX5_copyFrom_128 rfl ?_
  refine am_getR (pc := 129) (j := 34) C dX5_copyFrom_129 f5_40 bn_25 sh_25 (rf_25_13 hR) ?_
  refine am_aload_n (pc := 132) C dX5_copyFrom_132 rfl ?_
  refine am_getR (pc := 133) (j := 173) C dX5_copyFrom_133 f5_40 bn_164 sh_164 (rf_164_13 hR) ?_
  refine am_callSNv (Y := mX11_copyRow) (pc := 136) (st := []) (As := [.ref 34, .ref 173]) (h2 := (am_row (am_row (am_row (am_row (am_row (am_row (am_row (am_row (am_row (am_row h 164 (upd (upd (upd (upd (upd (h 164) 0 ((h 25) 0)) 1 ((h 25) 1)) 2 ((h 25) 2)) 3 ((h 25) 3)) 4 ((h 25) 4))) 165 (va_cpy (h 26) (h 165) 0 0 10)) 166 (va_cpy (h 27) (h 166) 0 0 10)) 167 (va_cpy (h 28) (h 167) 0 0 10)) 168 (va_cpy (h 29) (h 168) 0 0 10)) 169 (va_cpy (h 30) (h 169) 0 0 10)) 170 (va_cpy (h 31) (h 170) 0 0 120)) 171 (va_cpy (h 32) (h 171) 0 0 40)) 172 (va_cpy (h 33) (h 172) 0 0 40)) 173 (va_cpy (h 34) (h 173) 0 0 40))) C dX5_copyFrom_136 k5_70 v_X11_copyRow rfl rfl (by decide) (Nat.zero_le _) (Nat.zero_le _) (Nat.le_of_ble_eq_true rfl) (c_X11_copyRow hR 34 173 40 bn_34 sh_34 bn_173 sh_173 (by decide)) ?_
  refine am_aload_n (pc := 139) C dX5_copyFrom_139 rfl ?_
  refine am_getR (pc := 140) (j := 35) C dX5_copyFrom_140 f5_43 bn_25 sh_25 (rf_25_14 hR) ?_
  refine am_aload_n (pc := 143) C dX5_copyFrom_143 rfl ?_
  refine am_getR (pc := 144) (j := 174) C dX5_copyFrom_144 f5_43 bn_164 sh_164 (rf_164_14 hR) ?_
  refine am_callSNv (Y := mX11_copyRow) (pc := 147) (st := []) (As := [.ref 35, .ref 174]) (h2 := (am_row (am_row (am_row (am_row (am_row (am_row (am_row (am_row (am_row (am_row (am_row h 164 (upd (upd (upd (upd (upd (h 164) 0 ((h 25) 0)) 1 ((h 25) 1)) 2 ((h 25) 2)) 3 ((h 25) 3)) 4 ((h 25) 4))) 165 (va_cpy (h 26) (h 165) 0 0 10)) 166 (va_cpy (h 27) (h 166) 0 0 10)) 167 (va_cpy (h 28) (h 167) 0 0 10)) 168 (va_cpy (h 29) (h 168) 0 0 10)) 169 (va_cpy (h 30) (h 169) 0 0 10)) 170 (va_cpy (h 31) (h 170) 0 0 120)) 171 (va_cpy (h 32) (h 171) 0 0 40)) 172 (va_cpy (h 33) (h 172) 0 0 40)) 173 (va_cpy (h 34) (h 173) 0 0 40)) 174 (va_cpy (h 35) (h 174) 0 0 60))) C dX5_copyFrom_147 k5_70 v_X11_copyRow rfl rfl (by decide) (Nat.zero_le _) (Nat.zero_le _) (Nat.le_of_ble_eq_true rfl) (c_X11_copyRow hR 35 174 60 bn_35 sh_35 bn_174 sh_174 (by decide)) ?_
  refine am_aload_n (pc := 150) C dX5_copyFrom_150 rfl ?_
  refine am_getR (pc := 151) (j := 36) C dX5_copyFrom_151 f5_46 bn_25 sh_25 (rf_25_15 hR) ?_
  refine am_aload_n (pc := 154) C dX5_copyFrom_154 rfl ?_
  refine am_getR (pc := 155) (j := 175) C dX5_copyFrom_155 f5_46 bn_164 sh_164 (rf_164_15 hR) ?_
  refine am_callSNv (Y := mX11_copyRow) (pc := 158) (st := []) (As := [.ref 36, .ref 175]) (h2 := (am_row (am_row (am_row (am_row (am_row (am_row (am_row (am_row (am_row (am_row (am_row (am_row h 164 (upd (upd (upd (upd (upd (h 164) 0 ((h 25) 0)) 1 ((h 25) 1)) 2 ((h 25) 2)) 3 ((h 25) 3)) 4 ((h 25) 4))) 165 (va_cpy (h 26) (h 165) 0 0 10)) 166 (va_cpy (h 27) (h 166) 0 0 10)) 167 (va_cpy (h 28) (h 167) 0 0 10)) 168 (va_cpy (h 29) (h 168) 0 0 10)) 169 (va_cpy (h 30) (h 169) 0 0 10)) 170 (va_cpy (h 31) (h 170) 0 0 120)) 171 (va_cpy (h 32) (h 171) 0 0 40)) 172 (va_cpy (h 33) (h 172) 0 0 40)) 173 (va_cpy (h 34) (h 173) 0 0 40)) 174 (va_cpy (h 35) (h 174) 0 0 60)) 175 (va_cpy (h 36) (h 175) 0 0 60))) C dX5_copyFrom_158 k5_70 v_X11_copyRow rfl rfl (by decide) (Nat.zero_le _) (Nat.zero_le _) (Nat.le_of_ble_eq_true rfl) (c_X11_copyRow hR 36 175 60 bn_36 sh_36 bn_175 sh_175 (by decide)) ?_
  refine am_aload_n (pc := 161) C dX5_copyFrom_161 rfl ?_
  refine am_getR (pc := 162) (j := 37) C dX5_copyFrom_162 f5_49 bn_25 sh_25 (rf_25_16 hR) ?_
  refine am_aload_n (pc := 165) C dX5_copyFrom_165 rfl ?_
  refine am_getR (pc := 166) (j := 176) C dX5_copyFrom_166 f5_49 bn_164 sh_164 (rf_164_16 hR) ?_
  refine am_callSNv (Y := mX11_copyRow) (pc := 169) (st := []) (As := [.ref 37, .ref 176]) (h2 := (am_row (am_row (am_row (am_row (am_row (am_row (am_row (am_row (am_row (am_row (am_row (am_row (am_row h 164 (upd (upd (upd (upd (upd (h 164) 0 ((h 25) 0)) 1 ((h 25) 1)) 2 ((h 25) 2)) 3 ((h 25) 3)) 4 ((h 25) 4))) 165 (va_cpy (h 26) (h 165) 0 0 10)) 166 (va_cpy (h 27) (h 166) 0 0 10)) 167 (va_cpy (h 28) (h 167) 0 0 10)) 168 (va_cpy (h 29) (h 168) 0 0 10)) 169 (va_cpy (h 30) (h 169) 0 0 10)) 170 (va_cpy (h 31) (h 170) 0 0 120)) 171 (va_cpy (h 32) (h 171) 0 0 40)) 172 (va_cpy (h 33) (h 172) 0 0 40)) 173 (va_cpy (h 34) (h 173) 0 0 40)) 174 (va_cpy (h 35) (h 174) 0 0 60)) 175 (va_cpy (h 36) (h 175) 0 0 60)) 176 (va_cpy (h 37) (h 176) 0 0 60))) C dX5_copyFrom_169 k5_70 v_X11_copyRow rfl rfl (by decide) (Nat.zero_le _) (Nat.zero_le _) (Nat.le_of_ble_eq_true rfl) (c_X11_copyRow hR 37 176 60 bn_37 sh_37 bn_176 sh_176 (by decide)) ?_
  refine am_aload_n (pc := 172) C dX5_copyFrom_172 rfl ?_
  refine am_getR (pc := 173) (j := 38) C dX5_copyFrom_173 f5_52 bn_25 sh_25 (rf_25_17 hR) ?_
  refine am_aload_n (pc := 176) C dX5_copyFrom_176 rfl ?_
  refine am_getR (pc := 177) (j := 177) C dX5_copyFrom_177 f5_52 bn_164 sh_164 (rf_164_17 hR) ?_
  refine am_callSNv (Y := mX11_copyRow) (pc := 180) (st := []) (As := [.ref 38, .ref 177]) (h2 := (am_row (am_row (am_row (am_row (am_row (am_row (am_row (am_row (am_row (am_row (am_row (am_row (am_row (am_row h 164 (upd (upd (upd (upd (upd (h 164) 0 ((h 25) 0)) 1 ((h 25) 1)) 2 ((h 25) 2)) 3 ((h 25) 3)) 4 ((h 25) 4))) 165 (va_cpy (h 26) (h 165) 0 0 10)) 166 (va_cpy (h 27) (h 166) 0 0 10)) 167 (va_cpy (h 28) (h 167) 0 0 10)) 168 (va_cpy (h 29) (h 168) 0 0 10)) 169 (va_cpy (h 30) (h 169) 0 0 10)) 170 (va_cpy (h 31) (h 170) 0 0 120)) 171 (va_cpy (h 32) (h 171) 0 0 40)) 172 (va_cpy (h 33) (h 172) 0 0 40)) 173 (va_cpy (h 34) (h 173) 0 0 40)) 174 (va_cpy (h 35) (h 174) 0 0 60)) 175 (va_cpy (h 36) (h 175) 0 0 60)) 176 (va_cpy (h 37) (h 176) 0 0 60)) 177 (va_cpy (h 38) (h 177) 0 0 60))) C dX5_copyFrom_180 k5_70 v_X11_copyRow rfl rfl (by decide) (Nat.zero_le _) (Nat.zero_le _) (Nat.le_of_ble_eq_true rfl) (c_X11_copyRow hR 38 177 60 bn_38 sh_38 bn_177 sh_177 (by decide)) ?_
  refine am_aload_n (pc := 183) C dX5_copyFrom_183 rfl ?_
  refine am_getR (pc := 184) (j := 39) C dX5_copyFrom_184 f5_55 bn_25 sh_25 (rf_25_18 hR) ?_
  refine am_aload_n (pc := 187) C dX5_copyFrom_187 rfl ?_
  refine am_getR (pc := 188) (j := 178) C dX5_copyFrom_188 f5_55 bn_164 sh_164 (rf_164_18 hR) ?_
  refine am_callSNv (Y := mX11_copyRow) (pc := 191) (st := []) (As := [.ref 39, .ref 178]) (h2 := (am_row (am_row (am_row (am_row (am_row (am_row (am_row (am_row (am_row (am_row (am_row (am_row (am_row (am_row (am_row h 164 (upd (upd (upd (upd (upd (h 164) 0 ((h 25) 0)) 1 ((h 25) 1)) 2 ((h 25) 2)) 3 ((h 25) 3)) 4 ((h 25) 4))) 165 (va_cpy (h 26) (h 165) 0 0 10)) 166 (va_cpy (h 27) (h 166) 0 0 10)) 167 (va_cpy (h 28) (h 167) 0 0 10)) 168 (va_cpy (h 29) (h 168) 0 0 10)) 169 (va_cpy (h 30) (h 169) 0 0 10)) 170 (va_cpy (h 31) (h 170) 0 0 120)) 171 (va_cpy (h 32) (h 171) 0 0 40)) 172 (va_cpy (h 33) (h 172) 0 0 40)) 173 (va_cpy (h 34) (h 173) 0 0 40)) 174 (va_cpy (h 35) (h 174) 0 0 60)) 175 (va_cpy (h 36) (h 175) 0 0 60)) 176 (va_cpy (h 37) (h 176) 0 0 60)) 177 (va_cpy (h 38) (h 177) 0 0 60)) 178 (va_cpy (h 39) (h 178) 0 0 60))) C dX5_copyFrom_191 k5_70 v_X11_copyRow rfl rfl (by decide) (Nat.zero_le _) (Nat.zero_le _) (Nat.le_of_ble_eq_true rfl) (c_X11_copyRow hR 39 178 60 bn_39 sh_39 bn_178 sh_178 (by decide)) ?_
  exact am_vretvr T dX5_copyFrom_194 rfl (Nat.le_refl _) (Nat.le_refl _) rfl ⟨cl_Sc_cpy hV hSc rfl rfl rfl rfl rfl (fun k hk => va_cpy_0 hk) (fun k hk => va_cpy_0 hk) (fun k hk => va_cpy_0 hk) (fun k hk => va_cpy_0 hk) (fun k hk => va_cpy_0 hk) (fun k hk => va_cpy_0 hk) (fun k hk => va_cpy_0 hk) (fun k hk => va_cpy_0 hk) (fun k hk => va_cpy_0 hk) (fun k hk => va_cpy_0 hk) (fun k hk => va_cpy_0 hk) (fun k hk => va_cpy_0 hk) (fun k hk => va_cpy_0 hk) (fun k hk => va_cpy_0 hk), (fun i9 h9 => by rw [am_row_ne _ _ _ (by omega), am_row_ne _ _ _ (by omega), am_row_ne _ _ _ (by omega), am_row_ne _ _ _ (by omega), am_row_ne _ _ _ (by omega), am_row_ne _ _ _ (by omega), am_row_ne _ _ _ (by omega), am_row_ne _ _ _ (by omega), am_row_ne _ _ _ (by omega), am_row_ne _ _ _ (by omega), am_row_ne _ _ _ (by omega), am_row_ne _ _ _ (by omega), am_row_ne _ _ _ (by omega), am_row_ne _ _ _ (by omega), am_row_ne _ _ _ (by omega)])⟩

set_option maxHeartbeats 400000 in
set_option maxRecDepth 100000 in
theorem c_X5_copyFrom_d_s3 {ad : Nat → Nat} {r : am_R} (hR : am_rs r) {h : am_H}  (w : rf_W) (hV : rf_I w) (hSc : cl_Sc (h) 25 w)  : am_CM mX5_copyFrom 3 0 0 [.ref 179, .ref 25] (am_VV ad) r h (am_pr none r (fun c9 => cl_Sc c9 179 w ∧ cl_fr (h) c9 179 15)) := by
  refine am_CM.of (by decide +kernel) (Nat.le_of_ble_eq_true rfl) (fun X C T => ?_)
  show am_G X (am_VV ad) (0, 0) 0 [(0, .ref 179), (1, .ref 25)] [] r h
  refine am_aload_n (pc := 0) C dX5_copyFrom_0 rfl ?_
  refine am_aload_n (pc := 1) C dX5_copyFrom_1 rfl ?_
  refine am_getI (pc := 2) C dX5_copyFrom_2 f5_58 bn_25 sh_25 ?_
  refine am_putI (pc := 5) C dX5_copyFrom_5 f5_58 bn_179 sh_179 rfl rfl ?_
  refine am_hp (show am_up h 179 0 ((h 25) 0) = am_row h 179 (upd (h 179) 0 ((h 25) 0)) from am_up_rw _ _ _ _) ?_
  refine am_aload_n (pc := 8) C dX5_copyFrom_8 rfl ?_
  refine am_aload_n (pc := 9) C dX5_copyFrom_9 rfl ?_
  refine am_getI (pc := 10) C dX5_copyFrom_10 f5_9 bn_25 sh_25 ?_
  refine am_putI (pc := 13) C dX5_copyFrom_13 f5_9 bn_179 sh_179 rfl rfl ?_
  refine am_hp (show am_up (am_row h 179 (upd (h 179) 0 ((h 25) 0))) 179 1 ((h 25) 1) = am_row (am_row h 179 (upd (h 179) 0 ((h 25) 0))) 179 (upd (upd (h 179) 0 ((h 25) 0)) 1 ((h 25) 1)) from am_up_rw _ _ _ _) ?_
  refine am_hp (show am_row (am_row h 179 (upd (h 179) 0 ((h 25) 0))) 179 (upd (upd (h 179) 0 ((h 25) 0)) 1 ((h 25) 1)) = (am_row h 179 (upd (upd (h 179) 0 ((h 25) 0)) 1 ((h 25) 1))) from am_row_s0) ?_
  refine am_aload_n (pc := 16) C dX5_copyFrom_16 rfl ?_
  refine am_aload_n (pc := 17) C dX5_copyFrom_17 rfl ?_
  refine am_getI (pc := 18) C dX5_copyFrom_18 f5_61 bn_25 sh_25 ?_
  refine am_putI (pc := 21) C dX5_copyFrom_21 f5_61 bn_179 sh_179 rfl rfl ?_
  refine am_hp (show am_up (am_row h 179 (upd (upd (h 179) 0 ((h 25) 0)) 1 ((h 25) 1))) 179 2 ((h 25) 2) = am_row (am_row h 179 (upd (upd (h 179) 0 ((h 25) 0)) 1 ((h 25) 1))) 179 (upd (upd (upd (h 179) 0 ((h 25) 0)) 1 ((h 25) 1)) 2 ((h 25) 2)) from am_up_rw _ _ _ _) ?_
  refine am_hp (show am_row (am_row h 179 (upd (upd (h 179) 0 ((h 25) 0)) 1 ((h 25) 1))) 179 (upd (upd (upd (h 179) 0 ((h 25) 0)) 1 ((h 25) 1)) 2 ((h 25) 2)) = (am_row h 179 (upd (upd (upd (h 179) 0 ((h 25) 0)) 1 ((h 25) 1)) 2 ((h 25) 2))) from am_row_s0) ?_
  refine am_aload_n (pc := 24) C dX5_copyFrom_24 rfl ?_
  refine am_aload_n (pc := 25) C dX5_copyFrom_25 rfl ?_
  refine am_getI (pc := 26) C dX5_copyFrom_26 f5_64 bn_25 sh_25 ?_
  refine am_putI (pc := 29) C dX5_copyFrom_29 f5_64 bn_179 sh_179 rfl rfl ?_
  refine am_hp (show am_up (am_row h 179 (upd (upd (upd (h 179) 0 ((h 25) 0)) 1 ((h 25) 1)) 2 ((h 25) 2))) 179 3 ((h 25) 3) = am_row (am_row h 179 (upd (upd (upd (h 179) 0 ((h 25) 0)) 1 ((h 25) 1)) 2 ((h 25) 2))) 179 (upd (upd (upd (upd (h 179) 0 ((h 25) 0)) 1 ((h 25) 1)) 2 ((h 25) 2)) 3 ((h 25) 3)) from am_up_rw _ _ _ _) ?_
  refine am_hp (show am_row (am_row h 179 (upd (upd (upd (h 179) 0 ((h 25) 0)) 1 ((h 25) 1)) 2 ((h 25) 2))) 179 (upd (upd (upd (upd (h 179) 0 ((h 25) 0)) 1 ((h 25) 1)) 2 ((h 25) 2)) 3 ((h 25) 3)) = (am_row h 179 (upd (upd (upd (upd (h 179) 0 ((h 25) 0)) 1 ((h 25) 1)) 2 ((h 25) 2)) 3 ((h 25) 3))) from am_row_s0) ?_
  refine am_aload_n (pc := 32) C dX5_copyFrom_32 rfl ?_
  refine am_aload_n (pc := 33) C dX5_copyFrom_33 rfl ?_
  refine am_getI (pc := 34) C dX5_copyFrom_34 f5_67 bn_25 sh_25 ?_
  refine am_putI (pc := 37) C dX5_copyFrom_37 f5_67 bn_179 sh_179 rfl rfl ?_
  refine am_hp (show am_up (am_row h 179 (upd (upd (upd (upd (h 179) 0 ((h 25) 0)) 1 ((h 25) 1)) 2 ((h 25) 2)) 3 ((h 25) 3))) 179 4 ((h 25) 4) = am_row (am_row h 179 (upd (upd (upd (upd (h 179) 0 ((h 25) 0)) 1 ((h 25) 1)) 2 ((h 25) 2)) 3 ((h 25) 3))) 179 (upd (upd (upd (upd (upd (h 179) 0 ((h 25) 0)) 1 ((h 25) 1)) 2 ((h 25) 2)) 3 ((h 25) 3)) 4 ((h 25) 4)) from am_up_rw _ _ _ _) ?_
  refine am_hp (show am_row (am_row h 179 (upd (upd (upd (upd (h 179) 0 ((h 25) 0)) 1 ((h 25) 1)) 2 ((h 25) 2)) 3 ((h 25) 3))) 179 (upd (upd (upd (upd (upd (h 179) 0 ((h 25) 0)) 1 ((h 25) 1)) 2 ((h 25) 2)) 3 ((h 25) 3)) 4 ((h 25) 4)) = (am_row h 179 (upd (upd (upd (upd (upd (h 179) 0 ((h 25) 0)) 1 ((h 25) 1)) 2 ((h 25) 2)) 3 ((h 25) 3)) 4 ((h 25) 4))) from am_row_s0) ?_
  refine am_aload_n (pc := 40) C dX5_copyFrom_40 rfl ?_
  refine am_getR (pc := 41) (j := 26) C dX5_copyFrom_41 f5_15 bn_25 sh_25 (rf_25_5 hR) ?_
  refine am_aload_n (pc := 44) C dX5_copyFrom_44 rfl ?_
  refine am_getR (pc := 45) (j := 180) C dX5_copyFrom_45 f5_15 bn_179 sh_179 (rf_179_5 hR) ?_
  refine am_callSNv (Y := mX11_copyRow) (pc := 48) (st := []) (As := [.ref 26, .ref 180]) (h2 := (am_row (am_row h 179 (upd (upd (upd (upd (upd (h 179) 0 ((h 25) 0)) 1 ((h 25) 1)) 2 ((h 25) 2)) 3 ((h 25) 3)) 4 ((h 25) 4))) 180 (va_cpy (h 26) (h 180) 0 0 10))) C dX5_copyFrom_48 k5_70 v_X11_copyRow rfl rfl (by decide) (Nat.zero_le _) (Nat.zero_le _) (Nat.le_of_ble_eq_true rfl) (c_X11_copyRow hR 26 180 10 bn_26 sh_26 bn_180 sh_180 (by decide)) ?_
  refine am_aload_n (pc := 51) C dX5_copyFrom_51 rfl ?_
  refine am_getR (pc := 52) (j := 27) C dX5_copyFrom_52 f5_19 bn_25 sh_25 (rf_25_6 hR) ?_
  refine am_aload_n (pc := 55) C dX5_copyFrom_55 rfl ?_
  refine am_getR (pc := 56) (j := 181) C dX5_copyFrom_56 f5_19 bn_179 sh_179 (rf_179_6 hR) ?_
  refine am_callSNv (Y := mX11_copyRow) (pc := 59) (st := []) (As := [.ref 27, .ref 181]) (h2 := (am_row (am_row (am_row h 179 (upd (upd (upd (upd (upd (h 179) 0 ((h 25) 0)) 1 ((h 25) 1)) 2 ((h 25) 2)) 3 ((h 25) 3)) 4 ((h 25) 4))) 180 (va_cpy (h 26) (h 180) 0 0 10)) 181 (va_cpy (h 27) (h 181) 0 0 10))) C dX5_copyFrom_59 k5_70 v_X11_copyRow rfl rfl (by decide) (Nat.zero_le _) (Nat.zero_le _) (Nat.le_of_ble_eq_true rfl) (c_X11_copyRow hR 27 181 10 bn_27 sh_27 bn_181 sh_181 (by decide)) ?_
  refine am_aload_n (pc := 62) C dX5_copyFrom_62 rfl ?_
  refine am_getR (pc := 63) (j := 28) C dX5_copyFrom_63 f5_22 bn_25 sh_25 (rf_25_7 hR) ?_
  refine am_aload_n (pc := 66) C dX5_copyFrom_66 rfl ?_
  refine am_getR (pc := 67) (j := 182) C dX5_copyFrom_67 f5_22 bn_179 sh_179 (rf_179_7 hR) ?_
  refine am_callSNv (Y := mX11_copyRow) (pc := 70) (st := []) (As := [.ref 28, .ref 182]) (h2 := (am_row (am_row (am_row (am_row h 179 (upd (upd (upd (upd (upd (h 179) 0 ((h 25) 0)) 1 ((h 25) 1)) 2 ((h 25) 2)) 3 ((h 25) 3)) 4 ((h 25) 4))) 180 (va_cpy (h 26) (h 180) 0 0 10)) 181 (va_cpy (h 27) (h 181) 0 0 10)) 182 (va_cpy (h 28) (h 182) 0 0 10))) C dX5_copyFrom_70 k5_70 v_X11_copyRow rfl rfl (by decide) (Nat.zero_le _) (Nat.zero_le _) (Nat.le_of_ble_eq_true rfl) (c_X11_copyRow hR 28 182 10 bn_28 sh_28 bn_182 sh_182 (by decide)) ?_
  refine am_aload_n (pc := 73) C dX5_copyFrom_73 rfl ?_
  refine am_getR (pc := 74) (j := 29) C dX5_copyFrom_74 f5_25 bn_25 sh_25 (rf_25_8 hR) ?_
  refine am_aload_n (pc := 77) C dX5_copyFrom_77 rfl ?_
  refine am_getR (pc := 78) (j := 183) C dX5_copyFrom_78 f5_25 bn_179 sh_179 (rf_179_8 hR) ?_
  refine am_callSNv (Y := mX11_copyRow) (pc := 81) (st := []) (As := [.ref 29, .ref 183]) (h2 := (am_row (am_row (am_row (am_row (am_row h 179 (upd (upd (upd (upd (upd (h 179) 0 ((h 25) 0)) 1 ((h 25) 1)) 2 ((h 25) 2)) 3 ((h 25) 3)) 4 ((h 25) 4))) 180 (va_cpy (h 26) (h 180) 0 0 10)) 181 (va_cpy (h 27) (h 181) 0 0 10)) 182 (va_cpy (h 28) (h 182) 0 0 10)) 183 (va_cpy (h 29) (h 183) 0 0 10))) C dX5_copyFrom_81 k5_70 v_X11_copyRow rfl rfl (by decide) (Nat.zero_le _) (Nat.zero_le _) (Nat.le_of_ble_eq_true rfl) (c_X11_copyRow hR 29 183 10 bn_29 sh_29 bn_183 sh_183 (by decide)) ?_
  refine am_aload_n (pc := 84) C dX5_copyFrom_84 rfl ?_
  refine am_getR (pc := 85) (j := 30) C dX5_copyFrom_85 f5_28 bn_25 sh_25 (rf_25_9 hR) ?_
  refine am_aload_n (pc := 88) C dX5_copyFrom_88 rfl ?_
  refine am_getR (pc := 89) (j := 184) C dX5_copyFrom_89 f5_28 bn_179 sh_179 (rf_179_9 hR) ?_
  refine am_callSNv (Y := mX11_copyRow) (pc := 92) (st := []) (As := [.ref 30, .ref 184]) (h2 := (am_row (am_row (am_row (am_row (am_row (am_row h 179 (upd (upd (upd (upd (upd (h 179) 0 ((h 25) 0)) 1 ((h 25) 1)) 2 ((h 25) 2)) 3 ((h 25) 3)) 4 ((h 25) 4))) 180 (va_cpy (h 26) (h 180) 0 0 10)) 181 (va_cpy (h 27) (h 181) 0 0 10)) 182 (va_cpy (h 28) (h 182) 0 0 10)) 183 (va_cpy (h 29) (h 183) 0 0 10)) 184 (va_cpy (h 30) (h 184) 0 0 10))) C dX5_copyFrom_92 k5_70 v_X11_copyRow rfl rfl (by decide) (Nat.zero_le _) (Nat.zero_le _) (Nat.le_of_ble_eq_true rfl) (c_X11_copyRow hR 30 184 10 bn_30 sh_30 bn_184 sh_184 (by decide)) ?_
  refine am_aload_n (pc := 95) C dX5_copyFrom_95 rfl ?_
  refine am_getR (pc := 96) (j := 31) C dX5_copyFrom_96 f5_31 bn_25 sh_25 (rf_25_10 hR) ?_
  refine am_aload_n (pc := 99) C dX5_copyFrom_99 rfl ?_
  refine am_getR (pc := 100) (j := 185) C dX5_copyFrom_100 f5_31 bn_179 sh_179 (rf_179_10 hR) ?_
  refine am_callSNv (Y := mX11_copyRow) (pc := 103) (st := []) (As := [.ref 31, .ref 185]) (h2 := (am_row (am_row (am_row (am_row (am_row (am_row (am_row h 179 (upd (upd (upd (upd (upd (h 179) 0 ((h 25) 0)) 1 ((h 25) 1)) 2 ((h 25) 2)) 3 ((h 25) 3)) 4 ((h 25) 4))) 180 (va_cpy (h 26) (h 180) 0 0 10)) 181 (va_cpy (h 27) (h 181) 0 0 10)) 182 (va_cpy (h 28) (h 182) 0 0 10)) 183 (va_cpy (h 29) (h 183) 0 0 10)) 184 (va_cpy (h 30) (h 184) 0 0 10)) 185 (va_cpy (h 31) (h 185) 0 0 120))) C dX5_copyFrom_103 k5_70 v_X11_copyRow rfl rfl (by decide) (Nat.zero_le _) (Nat.zero_le _) (Nat.le_of_ble_eq_true rfl) (c_X11_copyRow hR 31 185 120 bn_31 sh_31 bn_185 sh_185 (by decide)) ?_
  refine am_aload_n (pc := 106) C dX5_copyFrom_106 rfl ?_
  refine am_getR (pc := 107) (j := 32) C dX5_copyFrom_107 f5_34 bn_25 sh_25 (rf_25_11 hR) ?_
  refine am_aload_n (pc := 110) C dX5_copyFrom_110 rfl ?_
  refine am_getR (pc := 111) (j := 186) C dX5_copyFrom_111 f5_34 bn_179 sh_179 (rf_179_11 hR) ?_
  refine am_callSNv (Y := mX11_copyRow) (pc := 114) (st := []) (As := [.ref 32, .ref 186]) (h2 := (am_row (am_row (am_row (am_row (am_row (am_row (am_row (am_row h 179 (upd (upd (upd (upd (upd (h 179) 0 ((h 25) 0)) 1 ((h 25) 1)) 2 ((h 25) 2)) 3 ((h 25) 3)) 4 ((h 25) 4))) 180 (va_cpy (h 26) (h 180) 0 0 10)) 181 (va_cpy (h 27) (h 181) 0 0 10)) 182 (va_cpy (h 28) (h 182) 0 0 10)) 183 (va_cpy (h 29) (h 183) 0 0 10)) 184 (va_cpy (h 30) (h 184) 0 0 10)) 185 (va_cpy (h 31) (h 185) 0 0 120)) 186 (va_cpy (h 32) (h 186) 0 0 40))) C dX5_copyFrom_114 k5_70 v_X11_copyRow rfl rfl (by decide) (Nat.zero_le _) (Nat.zero_le _) (Nat.le_of_ble_eq_true rfl) (c_X11_copyRow hR 32 186 40 bn_32 sh_32 bn_186 sh_186 (by decide)) ?_
  refine am_aload_n (pc := 117) C dX5_copyFrom_117 rfl ?_
  refine am_getR (pc := 118) (j := 33) C dX5_copyFrom_118 f5_37 bn_25 sh_25 (rf_25_12 hR) ?_
  refine am_aload_n (pc := 121) C dX5_copyFrom_121 rfl ?_
  refine am_getR (pc := 122) (j := 187) C dX5_copyFrom_122 f5_37 bn_179 sh_179 (rf_179_12 hR) ?_
  refine am_callSNv (Y := mX11_copyRow) (pc := 125) (st := []) (As := [.ref 33, .ref 187]) (h2 := (am_row (am_row (am_row (am_row (am_row (am_row (am_row (am_row (am_row h 179 (upd (upd (upd (upd (upd (h 179) 0 ((h 25) 0)) 1 ((h 25) 1)) 2 ((h 25) 2)) 3 ((h 25) 3)) 4 ((h 25) 4))) 180 (va_cpy (h 26) (h 180) 0 0 10)) 181 (va_cpy (h 27) (h 181) 0 0 10)) 182 (va_cpy (h 28) (h 182) 0 0 10)) 183 (va_cpy (h 29) (h 183) 0 0 10)) 184 (va_cpy (h 30) (h 184) 0 0 10)) 185 (va_cpy (h 31) (h 185) 0 0 120)) 186 (va_cpy (h 32) (h 186) 0 0 40)) 187 (va_cpy (h 33) (h 187) 0 0 40))) C dX5_copyFrom_125 k5_70 v_X11_copyRow rfl rfl (by decide) (Nat.zero_le _) (Nat.zero_le _) (Nat.le_of_ble_eq_true rfl) (c_X11_copyRow hR 33 187 40 bn_33 sh_33 bn_187 sh_187 (by decide)) ?_
  refine am_aload_n (pc := 128) C dX5_copyFrom_128 rfl ?_
  refine am_getR (pc := 129) (j := 34) C dX5_copyFrom_129 f5_40 bn_25 sh_25 (rf_25_13 hR) ?_
  refine am_aload_n (pc := 132) C dX5_copyFrom_132 rfl ?_
  refine am_getR (pc := 133) (j := 188) C dX5_copyFrom_133 f5_40 bn_179 sh_179 (rf_179_13 hR) ?_
  refine am_callSNv (Y := mX11_copyRow) (pc := 136) (st := []) (As := [.ref 34, .ref 188]) (h2 := (am_row (am_row (am_row (am_row (am_row (am_row (am_row (am_row (am_row (am_row h 179 (upd (upd (upd (upd (upd (h 179) 0 ((h 25) 0)) 1 ((h 25) 1)) 2 ((h 25) 2)) 3 ((h 25) 3)) 4 ((h 25) 4))) 180 (va_cpy (h 26) (h 180) 0 0 10)) 181 (va_cpy (h 27) (h 181) 0 0 10)) 182 (va_cpy (h 28) (h 182) 0 0 10)) 183 (va_cpy (h 29) (h 183) 0 0 10)) 184 (va_cpy (h 30) (h 184) 0 0 10)) 185 (va_cpy (h 31) (h 185) 0 0 120)) 186 (va_cpy (h 32) (h 186) 0 0 40)) 187 (va_cpy (h 33) (h 187) 0 0 40)) 188 (va_cpy (h 34) (h 188) 0 0 40))) C dX5_copyFrom_136 k5_70 v_X11_copyRow rfl rfl (by decide) (Nat.zero_le _) (Nat.zero_le _) (Nat.le_of_ble_eq_true rfl) (c_X11_copyRow hR 34 188 40 bn_34 sh_34 bn_188 sh_188 (by decide)) ?_
  refine am_aload_n (pc := 139) C dX5_copyFrom_139 rfl ?_
  refine am_getR (pc := 140) (j := 35) C dX5_copyFrom_140 f5_43 bn_25 sh_25 (rf_25_14 hR) ?_
  refine am_aload_n (pc := 143) C dX5_copyFrom_143 rfl ?_
  refine am_getR (pc := 144) (j := 189) C dX5_copyFrom_144 f5_43 bn_179 sh_179 (rf_179_14 hR) ?_
  refine am_callSNv (Y := mX11_copyRow) (pc := 147) (st := []) (As := [.ref 35, .ref 189]) (h2 := (am_row (am_row (am_row (am_row (am_row (am_row (am_row (am_row (am_row (am_row (am_row h 179 (upd (upd (upd (upd (upd (h 179) 0 ((h 25) 0)) 1 ((h 25) 1)) 2 ((h 25) 2)) 3 ((h 25) 3)) 4 ((h 25) 4))) 180 (va_cpy (h 26) (h 180) 0 0 10)) 181 (va_cpy (h 27) (h 181) 0 0 10)) 182 (va_cpy (h 28) (h 182) 0 0 10)) 183 (va_cpy (h 29) (h 183) 0 0 10)) 184 (va_cpy (h 30) (h 184) 0 0 10)) 185 (va_cpy (h 31) (h 185) 0 0 120)) 186 (va_cpy (h 32) (h 186) 0 0 40)) 187 (va_cpy (h 33) (h 187) 0 0 40)) 188 (va_cpy (h 34) (h 188) 0 0 40)) 189 (va_cpy (h 35) (h 189) 0 0 60))) C dX5_copyFrom_147 k5_70 v_X11_copyRow rfl rfl (by decide) (Nat.zero_le _) (Nat.zero_le _) (Nat.le_of_ble_eq_true rfl) (c_X11_copyRow hR 35 189 60 bn_35 sh_35 bn_189 sh_189 (by decide)) ?_
  refine am_aload_n (pc := 150) C dX5_copyFrom_150 rfl ?_
  refine am_getR (pc := 151) (j := 36) C dX5_copyFrom_151 f5_46 bn_25 sh_25 (rf_25_15 hR) ?_
  refine am_aload_n (pc := 154) C dX5_copyFrom_154 rfl ?_
  refine am_getR (pc := 155) (j := 190) C dX5_copyFrom_155 f5_46 bn_179 sh_179 (rf_179_15 hR) ?_
  refine am_callSNv (Y := mX11_copyRow) (pc := 158) (st := []) (As := [.ref 36, .ref 190]) (h2 := (am_row (am_row (am_row (am_row (am_row (am_row (am_row (am_row (am_row (am_row (am_row (am_row h 179 (upd (upd (upd (upd (upd (h 179) 0 ((h 25) 0)) 1 ((h 25) 1)) 2 ((h 25) 2)) 3 ((h 25) 3)) 4 ((h 25) 4))) 180 (va_cpy (h 26) (h 180) 0 0 10)) 181 (va_cpy (h 27) (h 181) 0 0 10)) 182 (va_cpy (h 28) (h 182) 0 0 10)) 183 (va_cpy (h 29) (h 183) 0 0 10)) 184 (va_cpy (h 30) (h 184) 0 0 10)) 185 (va_cpy (h 31) (h 185) 0 0 120)) 186 (va_cpy (h 32) (h 186) 0 0 40)) 187 (va_cpy (h 33) (h 187) 0 0 40)) 188 (va_cpy (h 34) (h 188) 0 0 40)) 189 (va_cpy (h 35) (h 189) 0 0 60)) 190 (va_cpy (h 36) (h 190) 0 0 60))) C dX5_copyFrom_158 k5_70 v_X11_copyRow rfl rfl (by decide) (Nat.zero_le _) (Nat.zero_le _) (Nat.le_of_ble_eq_true rfl) (c_X11_copyRow hR 36 190 60 bn_36 sh_36 bn_190 sh_190 (by decide)) ?_
  refine am_aload_n (pc := 161) C dX5_copyFrom_161 rfl ?_
  refine am_getR (pc := 162) (j := 37) C dX5_copyFrom_162 f5_49 bn_25 sh_25 (rf_25_16 hR) ?_
  refine am_aload_n (pc := 165) C dX5_copyFrom_165 rfl ?_
  refine am_getR (pc := 166) (j := 191) C dX5_copyFrom_166 f5_49 bn_179 sh_179 (rf_179_16 hR) ?_
  refine am_callSNv (Y := mX11_copyRow) (pc := 169) (st := []) (As := [.ref 37, .ref 191]) (h2 := (am_row (am_row (am_row (am_row (am_row (am_row (am_row (am_row (am_row (am_row (am_row (am_row (am_row h 179 (upd (upd (upd (upd (upd (h 179) 0 ((h 25) 0)) 1 ((h 25) 1)) 2 ((h 25) 2)) 3 ((h 25) 3)) 4 ((h 25) 4))) 180 (va_cpy (h 26) (h 180) 0 0 10)) 181 (va_cpy (h 27) (h 181) 0 0 10)) 182 (va_cpy (h 28) (h 182) 0 0 10)) 183 (va_cpy (h 29) (h 183) 0 0 10)) 184 (va_cpy (h 30) (h 184) 0 0 10)) 185 (va_cpy (h 31) (h 185) 0 0 120)) 186 (va_cpy (h 32) (h 186) 0 0 40)) 187 (va_cpy (h 33) (h 187) 0 0 40)) 188 (va_cpy (h 34) (h 188) 0 0 40)) 189 (va_cpy (h 35) (h 189) 0 0 60)) 190 (va_cpy (h 36) (h 190) 0 0 60)) 191 (va_cpy (h 37) (h 191) 0 0 60))) C dX5_copyFrom_169 k5_70 v_X11_copyRow rfl rfl (by decide) (Nat.zero_le _) (Nat.zero_le _) (Nat.le_of_ble_eq_true rfl) (c_X11_copyRow hR 37 191 60 bn_37 sh_37 bn_191 sh_191 (by decide)) ?_
  refine am_aload_n (pc := 172) C dX5_copyFrom_172 rfl ?_
  refine am_getR (pc := 173) (j := 38) C dX5_copyFrom_173 f5_52 bn_25 sh_25 (rf_25_17 hR) ?_
  refine am_aload_n (pc := 176) C dX5_copyFrom_176 rfl ?_
  refine am_getR (pc := 177) (j := 192) C dX5_copyFrom_177 f5_52 bn_179 sh_179 (rf_179_17 hR) ?_
  refine am_callSNv (Y := mX11_copyRow) (pc := 180) (st := []) (As := [.ref 38, .ref 192]) (h2 := (am_row (am_row (am_row (am_row (am_row (am_row (am_row (am_row (am_row (am_row (am_row (am_row (am_row (am_row h 179 (upd (upd (upd (upd (upd (h 179) 0 ((h 25) 0)) 1 ((h 25) 1)) 2 ((h 25) 2)) 3 ((h 25) 3)) 4 ((h 25) 4))) 180 (va_cpy (h 26) (h 180) 0 0 10)) 181 (va_cpy (h 27) (h 181) 0 0 10)) 182 (va_cpy (h 28) (h 182) 0 0 10)) 183 (va_cpy (h 29) (h 183) 0 0 10)) 184 (va_cpy (h 30) (h 184) 0 0 10)) 185 (va_cpy (h 31) (h 185) 0 0 120)) 186 (va_cpy (h 32) (h 186) 0 0 40)) 187 (va_cpy (h 33) (h 187) 0 0 40)) 188 (va_cpy (h 34) (h 188) 0 0 40)) 189 (va_cpy (h 35) (h 189) 0 0 60)) 190 (va_cpy (h 36) (h 190) 0 0 60)) 191 (va_cpy (h 37) (h 191) 0 0 60)) 192 (va_cpy (h 38) (h 192) 0 0 60))) C dX5_copyFrom_180 k5_70 v_X11_copyRow rfl rfl (by decide) (Nat.zero_le _) (Nat.zero_le _) (Nat.le_of_ble_eq_true rfl) (c_X11_copyRow hR 38 192 60 bn_38 sh_38 bn_192 sh_192 (by decide)) ?_
  refine am_aload_n (pc := 183) C dX5_copyFrom_183 rfl ?_
  refine am_getR (pc := 184) (j := 39) C dX5_copyFrom_184 f5_55 bn_25 sh_25 (rf_25_18 hR) ?_
  refine am_aload_n (pc := 187) C dX5_copyFrom_187 rfl ?_
  refine am_getR (pc := 188) (j := 193) C dX5_copyFrom_188 f5_55 bn_179 sh_179 (rf_179_18 hR) ?_
  refine am_callSNv (Y := mX11_copyRow) (pc := 191) (st := []) (As := [.ref 39, .ref 193]) (h2 := (am_row (am_row (am_row (am_row (am_row (am_row (am_row (am_row (am_row (am_row (am_row (am_row (am_row (am_row (am_row h 179 (upd (upd (upd (upd (upd (h 179) 0 ((h 25) 0)) 1 ((h 25) 1)) 2 ((h 25) 2)) 3 ((h 25) 3)) 4 ((h 25) 4))) 180 (va_cpy (h 26) (h 180) 0 0 10)) 181 (va_cpy (h 27) (h 181) 0 0 10)) 182 (va_cpy (h 28) (h 182) 0 0 10)) 183 (va_cpy (h 29) (h 183) 0 0 10)) 184 (va_cpy (h 30) (h 184) 0 0 10)) 185 (va_cpy (h 31) (h 185) 0 0 120)) 186 (va_cpy (h 32) (h 186) 0 0 40)) 187 (va_cpy (h 33) (h 187) 0 0 40)) 188 (va_cpy (h 34) (h 188) 0 0 40)) 189 (va_cpy (h 35) (h 189) 0 0 60)) 190 (va_cpy (h 36) (h 190) 0 0 60)) 191 (va_cpy (h 37) (h 191) 0 0 60)) 192 (va_cpy (h 38) (h 192) 0 0 60)) 193 (va_cpy (h 39) (h 193) 0 0 60))) C dX5_copyFrom_191 k5_70 v_X11_copyRow rfl rfl (by decide) (Nat.zero_le _) (Nat.zero_le _) (Nat.le_of_ble_eq_true rfl) (c_X11_copyRow hR 39 193 60 bn_39 sh_39 bn_193 sh_193 (by decide)) ?_
  exact am_vretvr T dX5_copyFrom_194 rfl (Nat.le_refl _) (Nat.le_refl _) rfl ⟨cl_Sc_cpy hV hSc rfl rfl rfl rfl rfl (fun k hk => va_cpy_0 hk) (fun k hk => va_cpy_0 hk) (fun k hk => va_cpy_0 hk) (fun k hk => va_cpy_0 hk) (fun k hk => va_cpy_0 hk) (fun k hk => va_cpy_0 hk) (fun k hk => va_cpy_0 hk) (fun k hk => va_cpy_0 hk) (fun k hk => va_cpy_0 hk) (fun k hk => va_cpy_0 hk) (fun k hk => va_cpy_0 hk) (fun k hk => va_cpy_0 hk) (fun k hk => va_cpy_0 hk) (fun k hk => va_cpy_0 hk), (fun i9 h9 => by rw [am_row_ne _ _ _ (by omega), am_row_ne _ _ _ (by omega), am_row_ne _ _ _ (by omega), am_row_ne _ _ _ (by omega), am_row_ne _ _ _ (by omega), am_row_ne _ _ _ (by omega), am_row_ne _ _ _ (by omega), am_row_ne _ _ _ (by omega), am_row_ne _ _ _ (by omega), am_row_ne _ _ _ (by omega), am_row_ne _ _ _ (by omega), am_row_ne _ _ _ (by omega), am_row_ne _ _ _ (by omega), am_row_ne _ _ _ (by omega), am_row_ne _ _ _ (by omega)])⟩

set_option maxHeartbeats 400000 in
set_option maxRecDepth 100000 in
theorem c_X5_copyFrom_d_s4 {ad : Nat → Nat} {r : am_R} (hR : am_rs r) {h : am_H}  (w : rf_W) (hV : rf_I w) (hSc : cl_Sc (h) 25 w)  : am_CM mX5_copyFrom 3 0 0 [.ref 194, .ref 25] (am_VV ad) r h (am_pr none r (fun c9 => cl_Sc c9 194 w ∧ cl_fr (h) c9 194 15)) := by
  refine am_CM.of (by decide +kernel) (Nat.le_of_ble_eq_true rfl) (fun X C T => ?_)
  show am_G X (am_VV ad) (0, 0) 0 [(0, .ref 194), (1, .ref 25)] [] r h
  refine am_aload_n (pc := 0) C dX5_copyFrom_0 rfl ?_
  refine am_aload_n (pc := 1) C dX5_copyFrom_1 rfl ?_
  refine am_getI (pc := 2) C dX5_copyFrom_2 f5_58 bn_25 sh_25 ?_
  refine am_putI (pc := 5) C dX5_copyFrom_5 f5_58 bn_194 sh_194 rfl rfl ?_
  refine am_hp (show am_up h 194 0 ((h 25) 0) = am_row h 194 (upd (h 194) 0 ((h 25) 0)) from am_up_rw _ _ _ _) ?_
  refine am_aload_n (pc := 8) C dX5_copyFrom_8 rfl ?_
  refine am_aload_n (pc := 9) C dX5_copyFrom_9 rfl ?_
  refine am_getI (pc := 10) C dX5_copyFrom_10 f5_9 bn_25 sh_25 ?_
  refine am_putI (pc := 13) C dX5_copyFrom_13 f5_9 bn_194 sh_194 rfl rfl ?_
  refine am_hp (show am_up (am_row h 194 (upd (h 194) 0 ((h 25) 0))) 194 1 ((h 25) 1) = am_row (am_row h 194 (upd (h 194) 0 ((h 25) 0))) 194 (upd (upd (h 194) 0 ((h 25) 0)) 1 ((h 25) 1)) from am_up_rw _ _ _ _) ?_
  refine am_hp (show am_row (am_row h 194 (upd (h 194) 0 ((h 25) 0))) 194 (upd (upd (h 194) 0 ((h 25) 0)) 1 ((h 25) 1)) = (am_row h 194 (upd (upd (h 194) 0 ((h 25) 0)) 1 ((h 25) 1))) from am_row_s0) ?_
  refine am_aload_n (pc := 16) C dX5_copyFrom_16 rfl ?_
  refine am_aload_n (pc := 17) C dX5_copyFrom_17 rfl ?_
  refine am_getI (pc := 18) C dX5_copyFrom_18 f5_61 bn_25 sh_25 ?_
  refine am_putI (pc := 21) C dX5_copyFrom_21 f5_61 bn_194 sh_194 rfl rfl ?_
  refine am_hp (show am_up (am_row h 194 (upd (upd (h 194) 0 ((h 25) 0)) 1 ((h 25) 1))) 194 2 ((h 25) 2) = am_row (am_row h 194 (upd (upd (h 194) 0 ((h 25) 0)) 1 ((h 25) 1))) 194 (upd (upd (upd (h 194) 0 ((h 25) 0)) 1 ((h 25) 1)) 2 ((h 25) 2)) from am_up_rw _ _ _ _) ?_
  refine am_hp (show am_row (am_row h 194 (upd (upd (h 194) 0 ((h 25) 0)) 1 ((h 25) 1))) 194 (upd (upd (upd (h 194) 0 ((h 25) 0)) 1 ((h 25) 1)) 2 ((h 25) 2)) = (am_row h 194 (upd (upd (upd (h 194) 0 ((h 25) 0)) 1 ((h 25) 1)) 2 ((h 25) 2))) from am_row_s0) ?_
  refine am_aload_n (pc := 24) C dX5_copyFrom_24 rfl ?_
  refine am_aload_n (pc := 25) C dX5_copyFrom_25 rfl ?_
  refine am_getI (pc := 26) C dX5_copyFrom_26 f5_64 bn_25 sh_25 ?_
  refine am_putI (pc := 29) C dX5_copyFrom_29 f5_64 bn_194 sh_194 rfl rfl ?_
  refine am_hp (show am_up (am_row h 194 (upd (upd (upd (h 194) 0 ((h 25) 0)) 1 ((h 25) 1)) 2 ((h 25) 2))) 194 3 ((h 25) 3) = am_row (am_row h 194 (upd (upd (upd (h 194) 0 ((h 25) 0)) 1 ((h 25) 1)) 2 ((h 25) 2))) 194 (upd (upd (upd (upd (h 194) 0 ((h 25) 0)) 1 ((h 25) 1)) 2 ((h 25) 2)) 3 ((h 25) 3)) from am_up_rw _ _ _ _) ?_
  refine am_hp (show am_row (am_row h 194 (upd (upd (upd (h 194) 0 ((h 25) 0)) 1 ((h 25) 1)) 2 ((h 25) 2))) 194 (upd (upd (upd (upd (h 194) 0 ((h 25) 0)) 1 ((h 25) 1)) 2 ((h 25) 2)) 3 ((h 25) 3)) = (am_row h 194 (upd (upd (upd (upd (h 194) 0 ((h 25) 0)) 1 ((h 25) 1)) 2 ((h 25) 2)) 3 ((h 25) 3))) from am_row_s0) ?_
  refine am_aload_n (pc := 32) C dX5_copyFrom_32 rfl ?_
  refine am_aload_n (pc := 33) C dX5_copyFrom_33 rfl ?_
  refine am_getI (pc := 34) C dX5_copyFrom_34 f5_67 bn_25 sh_25 ?_
  refine am_putI (pc := 37) C dX5_copyFrom_37 f5_67 bn_194 sh_194 rfl rfl ?_
  refine am_hp (show am_up (am_row h 194 (upd (upd (upd (upd (h 194) 0 ((h 25) 0)) 1 ((h 25) 1)) 2 ((h 25) 2)) 3 ((h 25) 3))) 194 4 ((h 25) 4) = am_row (am_row h 194 (upd (upd (upd (upd (h 194) 0 ((h 25) 0)) 1 ((h 25) 1)) 2 ((h 25) 2)) 3 ((h 25) 3))) 194 (upd (upd (upd (upd (upd (h 194) 0 ((h 25) 0)) 1 ((h 25) 1)) 2 ((h 25) 2)) 3 ((h 25) 3)) 4 ((h 25) 4)) from am_up_rw _ _ _ _) ?_
  refine am_hp (show am_row (am_row h 194 (upd (upd (upd (upd (h 194) 0 ((h 25) 0)) 1 ((h 25) 1)) 2 ((h 25) 2)) 3 ((h 25) 3))) 194 (upd (upd (upd (upd (upd (h 194) 0 ((h 25) 0)) 1 ((h 25) 1)) 2 ((h 25) 2)) 3 ((h 25) 3)) 4 ((h 25) 4)) = (am_row h 194 (upd (upd (upd (upd (upd (h 194) 0 ((h 25) 0)) 1 ((h 25) 1)) 2 ((h 25) 2)) 3 ((h 25) 3)) 4 ((h 25) 4))) from am_row_s0) ?_
  refine am_aload_n (pc := 40) C dX5_copyFrom_40 rfl ?_
  refine am_getR (pc := 41) (j := 26) C dX5_copyFrom_41 f5_15 bn_25 sh_25 (rf_25_5 hR) ?_
  refine am_aload_n (pc := 44) C dX5_copyFrom_44 rfl ?_
  refine am_getR (pc := 45) (j := 195) C dX5_copyFrom_45 f5_15 bn_194 sh_194 (rf_194_5 hR) ?_
  refine am_callSNv (Y := mX11_copyRow) (pc := 48) (st := []) (As := [.ref 26, .ref 195]) (h2 := (am_row (am_row h 194 (upd (upd (upd (upd (upd (h 194) 0 ((h 25) 0)) 1 ((h 25) 1)) 2 ((h 25) 2)) 3 ((h 25) 3)) 4 ((h 25) 4))) 195 (va_cpy (h 26) (h 195) 0 0 10))) C dX5_copyFrom_48 k5_70 v_X11_copyRow rfl rfl (by decide) (Nat.zero_le _) (Nat.zero_le _) (Nat.le_of_ble_eq_true rfl) (c_X11_copyRow hR 26 195 10 bn_26 sh_26 bn_195 sh_195 (by decide)) ?_
  refine am_aload_n (pc := 51) C dX5_copyFrom_51 rfl ?_
  refine am_getR (pc := 52) (j := 27) C dX5_copyFrom_52 f5_19 bn_25 sh_25 (rf_25_6 hR) ?_
  refine am_aload_n (pc := 55) C dX5_copyFrom_55 rfl ?_
  refine am_getR (pc := 56) (j := 196) C dX5_copyFrom_56 f5_19 bn_194 sh_194 (rf_194_6 hR) ?_
  refine am_callSNv (Y := mX11_copyRow) (pc := 59) (st := []) (As := [.ref 27, .ref 196]) (h2 := (am_row (am_row (am_row h 194 (upd (upd (upd (upd (upd (h 194) 0 ((h 25) 0)) 1 ((h 25) 1)) 2 ((h 25) 2)) 3 ((h 25) 3)) 4 ((h 25) 4))) 195 (va_cpy (h 26) (h 195) 0 0 10)) 196 (va_cpy (h 27) (h 196) 0 0 10))) C dX5_copyFrom_59 k5_70 v_X11_copyRow rfl rfl (by decide) (Nat.zero_le _) (Nat.zero_le _) (Nat.le_of_ble_eq_true rfl) (c_X11_copyRow hR 27 196 10 bn_27 sh_27 bn_196 sh_196 (by decide)) ?_
  refine am_aload_n (pc := 62) C dX5_copyFrom_62 rfl ?_
  refine am_getR (pc := 63) (j := 28) C dX5_copyFrom_63 f5_22 bn_25 sh_25 (rf_25_7 hR) ?_
  refine am_aload_n (pc := 66) C dX5_copyFrom_66 rfl ?_
  refine am_getR (pc := 67) (j := 197) C dX5_copyFrom_67 f5_22 bn_194 sh_194 (rf_194_7 hR) ?_
  refine am_callSNv (Y := mX11_copyRow) (pc := 70) (st := []) (As := [.ref 28, .ref 197]) (h2 := (am_row (am_row (am_row (am_row h 194 (upd (upd (upd (upd (upd (h 194) 0 ((h 25) 0)) 1 ((h 25) 1)) 2 ((h 25) 2)) 3 ((h 25) 3)) 4 ((h 25) 4))) 195 (va_cpy (h 26) (h 195) 0 0 10)) 196 (va_cpy (h 27) (h 196) 0 0 10)) 197 (va_cpy (h 28) (h 197) 0 0 10))) C dX5_copyFrom_70 k5_70 v_X11_copyRow rfl rfl (by decide) (Nat.zero_le _) (Nat.zero_le _) (Nat.le_of_ble_eq_true rfl) (c_X11_copyRow hR 28 197 10 bn_28 sh_28 bn_197 sh_197 (by decide)) ?_
  refine am_aload_n (pc := 73) C dX5_copyFrom_73 rfl ?_
  refine am_getR (pc := 74) (j := 29) C dX5_copyFrom_74 f5_25 bn_25 sh_25 (rf_25_8 hR) ?_
  refine am_aload_n (pc := 77) C dX5_copyFrom_77 rfl ?_
  refine am_getR (pc := 78) (j := 198) C dX5_copyFrom_78 f5_25 bn_194 sh_194 (rf_194_8 hR) ?_
  refine am_callSNv (Y := mX11_copyRow) (pc := 81) (st := []) (As := [.ref 29, .ref 198]) (h2 := (am_row (am_row (am_row (am_row (am_row h 194 (upd (upd (upd (upd (upd (h 194) 0 ((h 25) 0)) 1 ((h 25) 1)) 2 ((h 25) 2)) 3 ((h 25) 3)) 4 ((h 25) 4))) 195 (va_cpy (h 26) (h 195) 0 0 10)) 196 (va_cpy (h 27) (h 196) 0 0 10)) 197 (va_cpy (h 28) (h 197) 0 0 10)) 198 (va_cpy (h 29) (h 198) 0 0 10))) C dX5_copyFrom_81 k5_70 v_X11_copyRow rfl rfl (by decide) (Nat.zero_le _) (Nat.zero_le _) (Nat.le_of_ble_eq_true rfl) (c_X11_copyRow hR 29 198 10 bn_29 sh_29 bn_198 sh_198 (by decide)) ?_
  refine am_aload_n (pc := 84) C dX5_copyFrom_84 rfl ?_
  refine am_getR (pc := 85) (j := 30) C dX5_copyFrom_85 f5_28 bn_25 sh_25 (rf_25_9 hR) ?_
  refine am_aload_n (pc := 88) C dX5_copyFrom_88 rfl ?_
  refine am_getR (pc := 89) (j := 199) C dX5_copyFrom_89 f5_28 bn_194 sh_194 (rf_194_9 hR) ?_
  refine am_callSNv (Y := mX11_copyRow) (pc := 92) (st := []) (As := [.ref 30, .ref 199]) (h2 := (am_row (am_row (am_row (am_row (am_row (am_row h 194 (upd (upd (upd (upd (upd (h 194) 0 ((h 25) 0)) 1 ((h 25) 1)) 2 ((h 25) 2)) 3 ((h 25) 3)) 4 ((h 25) 4))) 195 (va_cpy (h 26) (h 195) 0 0 10)) 196 (va_cpy (h 27) (h 196) 0 0 10)) 197 (va_cpy (h 28) (h 197) 0 0 10)) 198 (va_cpy (h 29) (h 198) 0 0 10)) 199 (va_cpy (h 30) (h 199) 0 0 10))) C dX5_copyFrom_92 k5_70 v_X11_copyRow rfl rfl (by decide) (Nat.zero_le _) (Nat.zero_le _) (Nat.le_of_ble_eq_true rfl) (c_X11_copyRow hR 30 199 10 bn_30 sh_30 bn_199 sh_199 (by decide)) ?_
  refine am_aload_n (pc := 95) C dX5_copyFrom_95 rfl ?_
  refine am_getR (pc := 96) (j := 31) C dX5_copyFrom_96 f5_31 bn_25 sh_25 (rf_25_10 hR) ?_
  refine am_aload_n (pc := 99) C dX5_copyFrom_99 rfl ?_
  refine am_getR (pc := 100) (j := 200) C dX5_copyFrom_100 f5_31 bn_194 sh_194 (rf_194_10 hR) ?_
  refine am_callSNv (Y := mX11_copyRow) (pc := 103) (st := []) (As := [.ref 31, .ref 200]) (h2 := (am_row (am_row (am_row (am_row (am_row (am_row (am_row h 194 (upd (upd (upd (upd (upd (h 194) 0 ((h 25) 0)) 1 ((h 25) 1)) 2 ((h 25) 2)) 3 ((h 25) 3)) 4 ((h 25) 4))) 195 (va_cpy (h 26) (h 195) 0 0 10)) 196 (va_cpy (h 27) (h 196) 0 0 10)) 197 (va_cpy (h 28) (h 197) 0 0 10)) 198 (va_cpy (h 29) (h 198) 0 0 10)) 199 (va_cpy (h 30) (h 199) 0 0 10)) 200 (va_cpy (h 31) (h 200) 0 0 120))) C dX5_copyFrom_103 k5_70 v_X11_copyRow rfl rfl (by decide) (Nat.zero_le _) (Nat.zero_le _) (Nat.le_of_ble_eq_true rfl) (c_X11_copyRow hR 31 200 120 bn_31 sh_31 bn_200 sh_200 (by decide)) ?_
  refine am_aload_n (pc := 106) C dX5_copyFrom_106 rfl ?_
  refine am_getR (pc := 107) (j := 32) C dX5_copyFrom_107 f5_34 bn_25 sh_25 (rf_25_11 hR) ?_
  refine am_aload_n (pc := 110) C dX5_copyFrom_110 rfl ?_
  refine am_getR (pc := 111) (j := 201) C dX5_copyFrom_111 f5_34 bn_194 sh_194 (rf_194_11 hR) ?_
  refine am_callSNv (Y := mX11_copyRow) (pc := 114) (st := []) (As := [.ref 32, .ref 201]) (h2 := (am_row (am_row (am_row (am_row (am_row (am_row (am_row (am_row h 194 (upd (upd (upd (upd (upd (h 194) 0 ((h 25) 0)) 1 ((h 25) 1)) 2 ((h 25) 2)) 3 ((h 25) 3)) 4 ((h 25) 4))) 195 (va_cpy (h 26) (h 195) 0 0 10)) 196 (va_cpy (h 27) (h 196) 0 0 10)) 197 (va_cpy (h 28) (h 197) 0 0 10)) 198 (va_cpy (h 29) (h 198) 0 0 10)) 199 (va_cpy (h 30) (h 199) 0 0 10)) 200 (va_cpy (h 31) (h 200) 0 0 120)) 201 (va_cpy (h 32) (h 201) 0 0 40))) C dX5_copyFrom_114 k5_70 v_X11_copyRow rfl rfl (by decide) (Nat.zero_le _) (Nat.zero_le _) (Nat.le_of_ble_eq_true rfl) (c_X11_copyRow hR 32 201 40 bn_32 sh_32 bn_201 sh_201 (by decide)) ?_
  refine am_aload_n (pc := 117) C dX5_copyFrom_117 rfl ?_
  refine am_getR (pc := 118) (j := 33) C dX5_copyFrom_118 f5_37 bn_25 sh_25 (rf_25_12 hR) ?_
  refine am_aload_n (pc := 121) C dX5_copyFrom_121 rfl ?_
  refine am_getR (pc := 122) (j := 202) C dX5_copyFrom_122 f5_37 bn_194 sh_194 (rf_194_12 hR) ?_
  refine am_callSNv (Y := mX11_copyRow) (pc := 125) (st := []) (As := [.ref 33, .ref 202]) (h2 := (am_row (am_row (am_row (am_row (am_row (am_row (am_row (am_row (am_row h 194 (upd (upd (upd (upd (upd (h 194) 0 ((h 25) 0)) 1 ((h 25) 1)) 2 ((h 25) 2)) 3 ((h 25) 3)) 4 ((h 25) 4))) 195 (va_cpy (h 26) (h 195) 0 0 10)) 196 (va_cpy (h 27) (h 196) 0 0 10)) 197 (va_cpy (h 28) (h 197) 0 0 10)) 198 (va_cpy (h 29) (h 198) 0 0 10)) 199 (va_cpy (h 30) (h 199) 0 0 10)) 200 (va_cpy (h 31) (h 200) 0 0 120)) 201 (va_cpy (h 32) (h 201) 0 0 40)) 202 (va_cpy (h 33) (h 202) 0 0 40))) C dX5_copyFrom_125 k5_70 v_X11_copyRow rfl rfl (by decide) (Nat.zero_le _) (Nat.zero_le _) (Nat.le_of_ble_eq_true rfl) (c_X11_copyRow hR 33 202 40 bn_33 sh_33 bn_202 sh_202 (by decide)) ?_
  refine am_aload_n (pc := 128) C dX5_copyFrom_128 rfl ?_
  refine am_getR (pc := 129) (j := 34) C dX5_copyFrom_129 f5_40 bn_25 sh_25 (rf_25_13 hR) ?_
  refine am_aload_n (pc := 132) C dX5_copyFrom_132 rfl ?_
  refine am_getR (pc := 133) (j := 203) C dX5_copyFrom_133 f5_40 bn_194 sh_194 (rf_194_13 hR) ?_
  refine am_callSNv (Y := mX11_copyRow) (pc := 136) (st := []) (As := [.ref 34, .ref 203]) (h2 := (am_row (am_row (am_row (am_row (am_row (am_row (am_row (am_row (am_row (am_row h 194 (upd (upd (upd (upd (upd (h 194) 0 ((h 25) 0)) 1 ((h 25) 1)) 2 ((h 25) 2)) 3 ((h 25) 3)) 4 ((h 25) 4))) 195 (va_cpy (h 26) (h 195) 0 0 10)) 196 (va_cpy (h 27) (h 196) 0 0 10)) 197 (va_cpy (h 28) (h 197) 0 0 10)) 198 (va_cpy (h 29) (h 198) 0 0 10)) 199 (va_cpy (h 30) (h 199) 0 0 10)) 200 (va_cpy (h 31) (h 200) 0 0 120)) 201 (va_cpy (h 32) (h 201) 0 0 40)) 202 (va_cpy (h 33) (h 202) 0 0 40)) 203 (va_cpy (h 34) (h 203) 0 0 40))) C dX5_copyFrom_136 k5_70 v_X11_copyRow rfl rfl (by decide) (Nat.zero_le _) (Nat.zero_le _) (Nat.le_of_ble_eq_true rfl) (c_X11_copyRow hR 34 203 40 bn_34 sh_34 bn_203 sh_203 (by decide)) ?_
  refine am_aload_n (pc := 139) C dX5_copyFrom_139 rfl ?_
  refine am_getR (pc := 140) (j := 35) C dX5_copyFrom_140 f5_43 bn_25 sh_25 (rf_25_14 hR) ?_
  refine am_aload_n (pc := 143) C dX5_copyFrom_143 rfl ?_
  refine am_getR (pc := 144) (j := 204) C dX5_copyFrom_144 f5_43 bn_194 sh_194 (rf_194_14 hR) ?_
  refine am_callSNv (Y := mX11_copyRow) (pc := 147) (st := []) (As := [.ref 35, .ref 204]) (h2 := (am_row (am_row (am_row (am_row (am_row (am_row (am_row (am_row (am_row (am_row (am_row h 194 (upd (upd (upd (upd (upd (h 194) 0 ((h 25) 0)) 1 ((h 25) 1)) 2 ((h 25) 2)) 3 ((h 25) 3)) 4 ((h 25) 4))) 195 (va_cpy (h 26) (h 195) 0 0 10)) 196 (va_cpy (h 27) (h 196) 0 0 10)) 197 (va_cpy (h 28) (h 197) 0 0 10)) 198 (va_cpy (h 29) (h 198) 0 0 10)) 199 (va_cpy (h 30) (h 199) 0 0 10)) 200 (va_cpy (h 31) (h 200) 0 0 120)) 201 (va_cpy (h 32) (h 201) 0 0 40)) 202 (va_cpy (h 33) (h 202) 0 0 40)) 203 (va_cpy (h 34) (h 203) 0 0 40)) 204 (va_cpy (h 35) (h 204) 0 0 60))) C dX5_copyFrom_147 k5_70 v_X11_copyRow rfl rfl (by decide) (Nat.zero_le _) (Nat.zero_le _) (Nat.le_of_ble_eq_true rfl) (c_X11_copyRow hR 35 204 60 bn_35 sh_35 bn_204 sh_204 (by decide)) ?_
  refine am_aload_n (pc := 150) C dX5_copyFrom_150 rfl ?_
  refine am_getR (pc := 151) (j := 36) C dX5_copyFrom_151 f5_46 bn_25 sh_25 (rf_25_15 hR) ?_
  refine am_aload_n (pc := 154) C dX5_copyFrom_154 rfl ?_
  refine am_getR (pc := 155) (j := 205) C dX5_copyFrom_155 f5_46 bn_194 sh_194 (rf_194_15 hR) ?_
  refine am_callSNv (Y := mX11_copyRow) (pc := 158) (st := []) (As := [.ref 36, .ref 205]) (h2 := (am_row (am_row (am_row (am_row (am_row (am_row (am_row (am_row (am_row (am_row (am_row (am_row h 194 (upd (upd (upd (upd (upd (h 194) 0 ((h 25) 0)) 1 ((h 25) 1)) 2 ((h 25) 2)) 3 ((h 25) 3)) 4 ((h 25) 4))) 195 (va_cpy (h 26) (h 195) 0 0 10)) 196 (va_cpy (h 27) (h 196) 0 0 10)) 197 (va_cpy (h 28) (h 197) 0 0 10)) 198 (va_cpy (h 29) (h 198) 0 0 10)) 199 (va_cpy (h 30) (h 199) 0 0 10)) 200 (va_cpy (h 31) (h 200) 0 0 120)) 201 (va_cpy (h 32) (h 201) 0 0 40)) 202 (va_cpy (h 33) (h 202) 0 0 40)) 203 (va_cpy (h 34) (h 203) 0 0 40)) 204 (va_cpy (h 35) (h 204) 0 0 60)) 205 (va_cpy (h 36) (h 205) 0 0 60))) C dX5_copyFrom_158 k5_70 v_X11_copyRow rfl rfl (by decide) (Nat.zero_le _) (Nat.zero_le _) (Nat.le_of_ble_eq_true rfl) (c_X11_copyRow hR 36 205 60 bn_36 sh_36 bn_205 sh_205 (by decide)) ?_
  refine am_aload_n (pc := 161) C dX5_copyFrom_161 rfl ?_
  refine am_getR (pc := 162) (j := 37) C dX5_copyFrom_162 f5_49 bn_25 sh_25 (rf_25_16 hR) ?_
  refine am_aload_n (pc := 165) C dX5_copyFrom_165 rfl ?_
  refine am_getR (pc := 166) (j := 206) C dX5_copyFrom_166 f5_49 bn_194 sh_194 (rf_194_16 hR) ?_
  refine am_callSNv (Y := mX11_copyRow) (pc := 169) (st := []) (As := [.ref 37, .ref 206]) (h2 := (am_row (am_row (am_row (am_row (am_row (am_row (am_row (am_row (am_row (am_row (am_row (am_row (am_row h 194 (upd (upd (upd (upd (upd (h 194) 0 ((h 25) 0)) 1 ((h 25) 1)) 2 ((h 25) 2)) 3 ((h 25) 3)) 4 ((h 25) 4))) 195 (va_cpy (h 26) (h 195) 0 0 10)) 196 (va_cpy (h 27) (h 196) 0 0 10)) 197 (va_cpy (h 28) (h 197) 0 0 10)) 198 (va_cpy (h 29) (h 198) 0 0 10)) 199 (va_cpy (h 30) (h 199) 0 0 10)) 200 (va_cpy (h 31) (h 200) 0 0 120)) 201 (va_cpy (h 32) (h 201) 0 0 40)) 202 (va_cpy (h 33) (h 202) 0 0 40)) 203 (va_cpy (h 34) (h 203) 0 0 40)) 204 (va_cpy (h 35) (h 204) 0 0 60)) 205 (va_cpy (h 36) (h 205) 0 0 60)) 206 (va_cpy (h 37) (h 206) 0 0 60))) C dX5_copyFrom_169 k5_70 v_X11_copyRow rfl rfl (by decide) (Nat.zero_le _) (Nat.zero_le _) (Nat.le_of_ble_eq_true rfl) (c_X11_copyRow hR 37 206 60 bn_37 sh_37 bn_206 sh_206 (by decide)) ?_
  refine am_aload_n (pc := 172) C dX5_copyFrom_172 rfl ?_
  refine am_getR (pc := 173) (j := 38) C dX5_copyFrom_173 f5_52 bn_25 sh_25 (rf_25_17 hR) ?_
  refine am_aload_n (pc := 176) C dX5_copyFrom_176 rfl ?_
  refine am_getR (pc := 177) (j := 207) C dX5_copyFrom_177 f5_52 bn_194 sh_194 (rf_194_17 hR) ?_
  refine am_callSNv (Y := mX11_copyRow) (pc := 180) (st := []) (As := [.ref 38, .ref 207]) (h2 := (am_row (am_row (am_row (am_row (am_row (am_row (am_row (am_row (am_row (am_row (am_row (am_row (am_row (am_row h 194 (upd (upd (upd (upd (upd (h 194) 0 ((h 25) 0)) 1 ((h 25) 1)) 2 ((h 25) 2)) 3 ((h 25) 3)) 4 ((h 25) 4))) 195 (va_cpy (h 26) (h 195) 0 0 10)) 196 (va_cpy (h 27) (h 196) 0 0 10)) 197 (va_cpy (h 28) (h 197) 0 0 10)) 198 (va_cpy (h 29) (h 198) 0 0 10)) 199 (va_cpy (h 30) (h 199) 0 0 10)) 200 (va_cpy (h 31) (h 200) 0 0 120)) 201 (va_cpy (h 32) (h 201) 0 0 40)) 202 (va_cpy (h 33) (h 202) 0 0 40)) 203 (va_cpy (h 34) (h 203) 0 0 40)) 204 (va_cpy (h 35) (h 204) 0 0 60)) 205 (va_cpy (h 36) (h 205) 0 0 60)) 206 (va_cpy (h 37) (h 206) 0 0 60)) 207 (va_cpy (h 38) (h 207) 0 0 60))) C dX5_copyFrom_180 k5_70 v_X11_copyRow rfl rfl (by decide) (Nat.zero_le _) (Nat.zero_le _) (Nat.le_of_ble_eq_true rfl) (c_X11_copyRow hR 38 207 60 bn_38 sh_38 bn_207 sh_207 (by decide)) ?_
  refine am_aload_n (pc := 183) C dX5_copyFrom_183 rfl ?_
  refine am_getR (pc := 184) (j := 39) C dX5_copyFrom_184 f5_55 bn_25 sh_25 (rf_25_18 hR) ?_
  refine am_aload_n (pc := 187) C dX5_copyFrom_187 rfl ?_
  refine am_getR (pc := 188) (j := 208) C dX5_copyFrom_188 f5_55 bn_194 sh_194 (rf_194_18 hR) ?_
  refine am_callSNv (Y := mX11_copyRow) (pc := 191) (st := []) (As := [.ref 39, .ref 208]) (h2 := (am_row (am_row (am_row (am_row (am_row (am_row (am_row (am_row (am_row (am_row (am_row (am_row (am_row (am_row (am_row h 194 (upd (upd (upd (upd (upd (h 194) 0 ((h 25) 0)) 1 ((h 25) 1)) 2 ((h 25) 2)) 3 ((h 25) 3)) 4 ((h 25) 4))) 195 (va_cpy (h 26) (h 195) 0 0 10)) 196 (va_cpy (h 27) (h 196) 0 0 10)) 197 (va_cpy (h 28) (h 197) 0 0 10)) 198 (va_cpy (h 29) (h 198) 0 0 10)) 199 (va_cpy (h 30) (h 199) 0 0 10)) 200 (va_cpy (h 31) (h 200) 0 0 120)) 201 (va_cpy (h 32) (h 201) 0 0 40)) 202 (va_cpy (h 33) (h 202) 0 0 40)) 203 (va_cpy (h 34) (h 203) 0 0 40)) 204 (va_cpy (h 35) (h 204) 0 0 60)) 205 (va_cpy (h 36) (h 205) 0 0 60)) 206 (va_cpy (h 37) (h 206) 0 0 60)) 207 (va_cpy (h 38) (h 207) 0 0 60)) 208 (va_cpy (h 39) (h 208) 0 0 60))) C dX5_copyFrom_191 k5_70 v_X11_copyRow rfl rfl (by decide) (Nat.zero_le _) (Nat.zero_le _) (Nat.le_of_ble_eq_true rfl) (c_X11_copyRow hR 39 208 60 bn_39 sh_39 bn_208 sh_208 (by decide)) ?_
  exact am_vretvr T dX5_copyFrom_194 rfl (Nat.le_refl _) (Nat.le_refl _) rfl ⟨cl_Sc_cpy hV hSc rfl rfl rfl rfl rfl (fun k hk => va_cpy_0 hk) (fun k hk => va_cpy_0 hk) (fun k hk => va_cpy_0 hk) (fun k hk => va_cpy_0 hk) (fun k hk => va_cpy_0 hk) (fun k hk => va_cpy_0 hk) (fun k hk => va_cpy_0 hk) (fun k hk => va_cpy_0 hk) (fun k hk => va_cpy_0 hk) (fun k hk => va_cpy_0 hk) (fun k hk => va_cpy_0 hk) (fun k hk => va_cpy_0 hk) (fun k hk => va_cpy_0 hk) (fun k hk => va_cpy_0 hk), (fun i9 h9 => by rw [am_row_ne _ _ _ (by omega), am_row_ne _ _ _ (by omega), am_row_ne _ _ _ (by omega), am_row_ne _ _ _ (by omega), am_row_ne _ _ _ (by omega), am_row_ne _ _ _ (by omega), am_row_ne _ _ _ (by omega), am_row_ne _ _ _ (by omega), am_row_ne _ _ _ (by omega), am_row_ne _ _ _ (by omega), am_row_ne _ _ _ (by omega), am_row_ne _ _ _ (by omega), am_row_ne _ _ _ (by omega), am_row_ne _ _ _ (by omega), am_row_ne _ _ _ (by omega)])⟩

set_option maxHeartbeats 400000 in
set_option maxRecDepth 100000 in
theorem c_X5_copyFrom_d_s5 {ad : Nat → Nat} {r : am_R} (hR : am_rs r) {h : am_H}  (w : rf_W) (hV : rf_I w) (hSc : cl_Sc (h) 25 w)  : am_CM mX5_copyFrom 3 0 0 [.ref 209, .ref 25] (am_VV ad) r h (am_pr none r (fun c9 => cl_Sc c9 209 w ∧ cl_fr (h) c9 209 15)) := by
  refine am_CM.of (by decide +kernel) (Nat.le_of_ble_eq_true rfl) (fun X C T => ?_)
  show am_G X (am_VV ad) (0, 0) 0 [(0, .ref 209), (1, .ref 25)] [] r h
  refine am_aload_n (pc := 0) C dX5_copyFrom_0 rfl ?_
  refine am_aload_n (pc := 1) C dX5_copyFrom_1 rfl ?_
  refine am_getI (pc := 2) C dX5_copyFrom_2 f5_58 bn_25 sh_25 ?_
  refine am_putI (pc := 5) C dX5_copyFrom_5 f5_58 bn_209 sh_209 rfl rfl ?_
  refine am_hp (show am_up h 209 0 ((h 25) 0) = am_row h 209 (upd (h 209) 0 ((h 25) 0)) from am_up_rw _ _ _ _) ?_
  refine am_aload_n (pc := 8) C dX5_copyFrom_8 rfl ?_
  refine am_aload_n (pc := 9) C dX5_copyFrom_9 rfl ?_
  refine am_getI (pc := 10) C dX5_copyFrom_10 f5_9 bn_25 sh_25 ?_
  refine am_putI (pc := 13) C dX5_copyFrom_13 f5_9 bn_209 sh_209 rfl rfl ?_
  refine am_hp (show am_up (am_row h 209 (upd (h 209) 0 ((h 25) 0))) 209 1 ((h 25) 1) = am_row (am_row h 209 (upd (h 209) 0 ((h 25) 0))) 209 (upd (upd (h 209) 0 ((h 25) 0)) 1 ((h 25) 1)) from am_up_rw _ _ _ _) ?_
  refine am_hp (show am_row (am_row h 209 (upd (h 209) 0 ((h 25) 0))) 209 (upd (upd (h 209) 0 ((h 25) 0)) 1 ((h 25) 1)) = (am_row h 209 (upd (upd (h 209) 0 ((h 25) 0)) 1 ((h 25) 1))) from am_row_s0) ?_
  refine am_aload_n (pc := 16) C dX5_copyFrom_16 rfl ?_
  refine am_aload_n (pc := 17) C dX5_copyFrom_17 rfl ?_
  refine am_getI (pc := 18) C dX5_copyFrom_18 f5_61 bn_25 sh_25 ?_
  refine am_putI (pc := 21) C dX5_copyFrom_21 f5_61 bn_209 sh_209 rfl rfl ?_
  refine am_hp (show am_up (am_row h 209 (upd (upd (h 209) 0 ((h 25) 0)) 1 ((h 25) 1))) 209 2 ((h 25) 2) = am_row (am_row h 209 (upd (upd (h 209) 0 ((h 25) 0)) 1 ((h 25) 1))) 209 (upd (upd (upd (h 209) 0 ((h 25) 0)) 1 ((h 25) 1)) 2 ((h 25) 2)) from am_up_rw _ _ _ _) ?_
  refine am_hp (show am_row (am_row h 209 (upd (upd (h 209) 0 ((h 25) 0)) 1 ((h 25) 1))) 209 (upd (upd (upd (h 209) 0 ((h 25) 0)) 1 ((h 25) 1)) 2 ((h 25) 2)) = (am_row h 209 (upd (upd (upd (h 209) 0 ((h 25) 0)) 1 ((h 25) 1)) 2 ((h 25) 2))) from am_row_s0) ?_
  refine am_aload_n (pc := 24) C dX5_copyFrom_24 rfl ?_
  refine am_aload_n (pc := 25) C dX5_copyFrom_25 rfl ?_
  refine am_getI (pc := 26) C dX5_copyFrom_26 f5_64 bn_25 sh_25 ?_
  refine am_putI (pc := 29) C dX5_copyFrom_29 f5_64 bn_209 sh_209 rfl rfl ?_
  refine am_hp (show am_up (am_row h 209 (upd (upd (upd (h 209) 0 ((h 25) 0)) 1 ((h 25) 1)) 2 ((h 25) 2))) 209 3 ((h 25) 3) = am_row (am_row h 209 (upd (upd (upd (h 209) 0 ((h 25) 0)) 1 ((h 25) 1)) 2 ((h 25) 2))) 209 (upd (upd (upd (upd (h 209) 0 ((h 25) 0)) 1 ((h 25) 1)) 2 ((h 25) 2)) 3 ((h 25) 3)) from am_up_rw _ _ _ _) ?_
  refine am_hp (show am_row (am_row h 209 (upd (upd (upd (h 209) 0 ((h 25) 0)) 1 ((h 25) 1)) 2 ((h 25) 2))) 209 (upd (upd (upd (upd (h 209) 0 ((h 25) 0)) 1 ((h 25) 1)) 2 ((h 25) 2)) 3 ((h 25) 3)) = (am_row h 209 (upd (upd (upd (upd (h 209) 0 ((h 25) 0)) 1 ((h 25) 1)) 2 ((h 25) 2)) 3 ((h 25) 3))) from am_row_s0) ?_
  refine am_aload_n (pc := 32) C dX5_copyFrom_32 rfl ?_
  refine am_aload_n (pc := 33) C dX5_copyFrom_33 rfl ?_
  refine am_getI (pc := 34) C dX5_copyFrom_34 f5_67 bn_25 sh_25 ?_
  refine am_putI (pc := 37) C dX5_copyFrom_37 f5_67 bn_209 sh_209 rfl rfl ?_
  refine am_hp (show am_up (am_row h 209 (upd (upd (upd (upd (h 209) 0 ((h 25) 0)) 1 ((h 25) 1)) 2 ((h 25) 2)) 3 ((h 25) 3))) 209 4 ((h 25) 4) = am_row (am_row h 209 (upd (upd (upd (upd (h 209) 0 ((h 25) 0)) 1 ((h 25) 1)) 2 ((h 25) 2)) 3 ((h 25) 3))) 209 (upd (upd (upd (upd (upd (h 209) 0 ((h 25) 0)) 1 ((h 25) 1)) 2 ((h 25) 2)) 3 ((h 25) 3)) 4 ((h 25) 4)) from am_up_rw _ _ _ _) ?_
  refine am_hp (show am_row (am_row h 209 (upd (upd (upd (upd (h 209) 0 ((h 25) 0)) 1 ((h 25) 1)) 2 ((h 25) 2)) 3 ((h 25) 3))) 209 (upd (upd (upd (upd (upd (h 209) 0 ((h 25) 0)) 1 ((h 25) 1)) 2 ((h 25) 2)) 3 ((h 25) 3)) 4 ((h 25) 4)) = (am_row h 209 (upd (upd (upd (upd (upd (h 209) 0 ((h 25) 0)) 1 ((h 25) 1)) 2 ((h 25) 2)) 3 ((h 25) 3)) 4 ((h 25) 4))) from am_row_s0) ?_
  refine am_aload_n (pc := 40) C dX5_copyFrom_40 rfl ?_
  refine am_getR (pc := 41) (j := 26) C dX5_copyFrom_41 f5_15 bn_25 sh_25 (rf_25_5 hR) ?_
  refine am_aload_n (pc := 44) C dX5_copyFrom_44 rfl ?_
  refine am_getR (pc := 45) (j := 210) C dX5_copyFrom_45 f5_15 bn_209 sh_209 (rf_209_5 hR) ?_
  refine am_callSNv (Y := mX11_copyRow) (pc := 48) (st := []) (As := [.ref 26, .ref 210]) (h2 := (am_row (am_row h 209 (upd (upd (upd (upd (upd (h 209) 0 ((h 25) 0)) 1 ((h 25) 1)) 2 ((h 25) 2)) 3 ((h 25) 3)) 4 ((h 25) 4))) 210 (va_cpy (h 26) (h 210) 0 0 10))) C dX5_copyFrom_48 k5_70 v_X11_copyRow rfl rfl (by decide) (Nat.zero_le _) (Nat.zero_le _) (Nat.le_of_ble_eq_true rfl) (c_X11_copyRow hR 26 210 10 bn_26 sh_26 bn_210 sh_210 (by decide)) ?_
  refine am_aload_n (pc := 51) C dX5_copyFrom_51 rfl ?_
  refine am_getR (pc := 52) (j := 27) C dX5_copyFrom_52 f5_19 bn_25 sh_25 (rf_25_6 hR) ?_
  refine am_aload_n (pc := 55) C dX5_copyFrom_55 rfl ?_
  refine am_getR (pc := 56) (j := 211) C dX5_copyFrom_56 f5_19 bn_209 sh_209 (rf_209_6 hR) ?_
  refine am_callSNv (Y := mX11_copyRow) (pc := 59) (st := []) (As := [.ref 27, .ref 211]) (h2 := (am_row (am_row (am_row h 209 (upd (upd (upd (upd (upd (h 209) 0 ((h 25) 0)) 1 ((h 25) 1)) 2 ((h 25) 2)) 3 ((h 25) 3)) 4 ((h 25) 4))) 210 (va_cpy (h 26) (h 210) 0 0 10)) 211 (va_cpy (h 27) (h 211) 0 0 10))) C dX5_copyFrom_59 k5_70 v_X11_copyRow rfl rfl (by decide) (Nat.zero_le _) (Nat.zero_le _) (Nat.le_of_ble_eq_true rfl) (c_X11_copyRow hR 27 211 10 bn_27 sh_27 bn_211 sh_211 (by decide)) ?_
  refine am_aload_n (pc := 62) C dX5_copyFrom_62 rfl ?_
  refine am_getR (pc := 63) (j := 28) C dX5_copyFrom_63 f5_22 bn_25 sh_25 (rf_25_7 hR) ?_
  refine am_aload_n (pc := 66) C dX5_copyFrom_66 rfl ?_
  refine am_getR (pc := 67) (j := 212) C dX5_copyFrom_67 f5_22 bn_209 sh_209 (rf_209_7 hR) ?_
  refine am_callSNv (Y := mX11_copyRow) (pc := 70) (st := []) (As := [.ref 28, .ref 212]) (h2 := (am_row (am_row (am_row (am_row h 209 (upd (upd (upd (upd (upd (h 209) 0 ((h 25) 0)) 1 ((h 25) 1)) 2 ((h 25) 2)) 3 ((h 25) 3)) 4 ((h 25) 4))) 210 (va_cpy (h 26) (h 210) 0 0 10)) 211 (va_cpy (h 27) (h 211) 0 0 10)) 212 (va_cpy (h 28) (h 212) 0 0 10))) C dX5_copyFrom_70 k5_70 v_X11_copyRow rfl rfl (by decide) (Nat.zero_le _) (Nat.zero_le _) (Nat.le_of_ble_eq_true rfl) (c_X11_copyRow hR 28 212 10 bn_28 sh_28 bn_212 sh_212 (by decide)) ?_
  refine am_aload_n (pc := 73) C dX5_copyFrom_73 rfl ?_
  refine am_getR (pc := 74) (j := 29) C dX5_copyFrom_74 f5_25 bn_25 sh_25 (rf_25_8 hR) ?_
  refine am_aload_n (pc := 77) C dX5_copyFrom_77 rfl ?_
  refine am_getR (pc := 78) (j := 213) C dX5_copyFrom_78 f5_25 bn_209 sh_209 (rf_209_8 hR) ?_
  refine am_callSNv (Y := mX11_copyRow) (pc := 81) (st := []) (As := [.ref 29, .ref 213]) (h2 := (am_row (am_row (am_row (am_row (am_row h 209 (upd (upd (upd (upd (upd (h 209) 0 ((h 25) 0)) 1 ((h 25) 1)) 2 ((h 25) 2)) 3 ((h 25) 3)) 4 ((h 25) 4))) 210 (va_cpy (h 26) (h 210) 0 0 10)) 211 (va_cpy (h 27) (h 211) 0 0 10)) 212 (va_cpy (h 28) (h 212) 0 0 10)) 213 (va_cpy (h 29) (h 213) 0 0 10))) C dX5_copyFrom_81 k5_70 v_X11_copyRow rfl rfl (by decide) (Nat.zero_le _) (Nat.zero_le _) (Nat.le_of_ble_eq_true rfl) (c_X11_copyRow hR 29 213 10 bn_29 sh_29 bn_213 sh_213 (by decide)) ?_
  refine am_aload_n (pc := 84) C dX5_copyFrom_84 rfl ?_
  refine am_getR (pc := 85) (j := 30) C dX5_copyFrom_85 f5_28 bn_25 sh_25 (rf_25_9 hR) ?_
  refine am_aload_n (pc := 88) C dX5_copyFrom_88 rfl ?_
  refine am_getR (pc := 89) (j := 214) C dX5_copyFrom_89 f5_28 bn_209 sh_209 (rf_209_9 hR) ?_
  refine am_callSNv (Y := mX11_copyRow) (pc := 92) (st := []) (As := [.ref 30, .ref 214]) (h2 := (am_row (am_row (am_row (am_row (am_row (am_row h 209 (upd (upd (upd (upd (upd (h 209) 0 ((h 25) 0)) 1 ((h 25) 1)) 2 ((h 25) 2)) 3 ((h 25) 3)) 4 ((h 25) 4))) 210 (va_cpy (h 26) (h 210) 0 0 10)) 211 (va_cpy (h 27) (h 211) 0 0 10)) 212 (va_cpy (h 28) (h 212) 0 0 10)) 213 (va_cpy (h 29) (h 213) 0 0 10)) 214 (va_cpy (h 30) (h 214) 0 0 10))) C dX5_copyFrom_92 k5_70 v_X11_copyRow rfl rfl (by decide) (Nat.zero_le _) (Nat.zero_le _) (Nat.le_of_ble_eq_true rfl) (c_X11_copyRow hR 30 214 10 bn_30 sh_30 bn_214 sh_214 (by decide)) ?_
  refine am_aload_n (pc := 95) C dX5_copyFrom_95 rfl ?_
  refine am_getR (pc := 96) (j := 31) C dX5_copyFrom_96 f5_31 bn_25 sh_25 (rf_25_10 hR) ?_
  refine am_aload_n (pc := 99) C dX5_copyFrom_99 rfl ?_
  refine am_getR (pc := 100) (j := 215) C dX5_copyFrom_100 f5_31 bn_209 sh_209 (rf_209_10 hR) ?_
  refine am_callSNv (Y := mX11_copyRow) (pc := 103) (st := []) (As := [.ref 31, .ref 215]) (h2 := (am_row (am_row (am_row (am_row (am_row (am_row (am_row h 209 (upd (upd (upd (upd (upd (h 209) 0 ((h 25) 0)) 1 ((h 25) 1)) 2 ((h 25) 2)) 3 ((h 25) 3)) 4 ((h 25) 4))) 210 (va_cpy (h 26) (h 210) 0 0 10)) 211 (va_cpy (h 27) (h 211) 0 0 10)) 212 (va_cpy (h 28) (h 212) 0 0 10)) 213 (va_cpy (h 29) (h 213) 0 0 10)) 214 (va_cpy (h 30) (h 214) 0 0 10)) 215 (va_cpy (h 31) (h 215) 0 0 120))) C dX5_copyFrom_103 k5_70 v_X11_copyRow rfl rfl (by decide) (Nat.zero_le _) (Nat.zero_le _) (Nat.le_of_ble_eq_true rfl) (c_X11_copyRow hR 31 215 120 bn_31 sh_31 bn_215 sh_215 (by decide)) ?_
  refine am_aload_n (pc := 106) C dX5_copyFrom_106 rfl ?_
  refine am_getR (pc := 107) (j := 32) C dX5_copyFrom_107 f5_34 bn_25 sh_25 (rf_25_11 hR) ?_
  refine am_aload_n (pc := 110) C dX5_copyFrom_110 rfl ?_
  refine am_getR (pc := 111) (j := 216) C dX5_copyFrom_111 f5_34 bn_209 sh_209 (rf_209_11 hR) ?_
  refine am_callSNv (Y := mX11_copyRow) (pc := 114) (st := []) (As := [.ref 32, .ref 216]) (h2 := (am_row (am_row (am_row (am_row (am_row (am_row (am_row (am_row h 209 (upd (upd (upd (upd (upd (h 209) 0 ((h 25) 0)) 1 ((h 25) 1)) 2 ((h 25) 2)) 3 ((h 25) 3)) 4 ((h 25) 4))) 210 (va_cpy (h 26) (h 210) 0 0 10)) 211 (va_cpy (h 27) (h 211) 0 0 10)) 212 (va_cpy (h 28) (h 212) 0 0 10)) 213 (va_cpy (h 29) (h 213) 0 0 10)) 214 (va_cpy (h 30) (h 214) 0 0 10)) 215 (va_cpy (h 31) (h 215) 0 0 120)) 216 (va_cpy (h 32) (h 216) 0 0 40))) C dX5_copyFrom_114 k5_70 v_X11_copyRow rfl rfl (by decide) (Nat.zero_le _) (Nat.zero_le _) (Nat.le_of_ble_eq_true rfl) (c_X11_copyRow hR 32 216 40 bn_32 sh_32 bn_216 sh_216 (by decide)) ?_
  refine am_aload_n (pc := 117) C dX5_copyFrom_117 rfl ?_
  refine am_getR (pc := 118) (j := 33) C dX5_copyFrom_118 f5_37 bn_25 sh_25 (rf_25_12 hR) ?_
  refine am_aload_n (pc := 121) C dX5_copyFrom_121 rfl ?_
  refine am_getR (pc := 122) (j := 217) C dX5_copyFrom_122 f5_37 bn_209 sh_209 (rf_209_12 hR) ?_
  refine am_callSNv (Y := mX11_copyRow) (pc := 125) (st := []) (As := [.ref 33, .ref 217]) (h2 := (am_row (am_row (am_row (am_row (am_row (am_row (am_row (am_row (am_row h 209 (upd (upd (upd (upd (upd (h 209) 0 ((h 25) 0)) 1 ((h 25) 1)) 2 ((h 25) 2)) 3 ((h 25) 3)) 4 ((h 25) 4))) 210 (va_cpy (h 26) (h 210) 0 0 10)) 211 (va_cpy (h 27) (h 211) 0 0 10)) 212 (va_cpy (h 28) (h 212) 0 0 10)) 213 (va_cpy (h 29) (h 213) 0 0 10)) 214 (va_cpy (h 30) (h 214) 0 0 10)) 215 (va_cpy (h 31) (h 215) 0 0 120)) 216 (va_cpy (h 32) (h 216) 0 0 40)) 217 (va_cpy (h 33) (h 217) 0 0 40))) C dX5_copyFrom_125 k5_70 v_X11_copyRow rfl rfl (by decide) (Nat.zero_le _) (Nat.zero_le _) (Nat.le_of_ble_eq_true rfl) (c_X11_copyRow hR 33 217 40 bn_33 sh_33 bn_217 sh_217 (by decide)) ?_
  refine am_aload_n (pc := 128) C dX5_copyFrom_128 rfl ?_
  refine am_getR (pc := 129) (j := 34) C dX5_copyFrom_129 f5_40 bn_25 sh_25 (rf_25_13 hR) ?_
  refine am_aload_n (pc := 132) C dX5_copyFrom_132 rfl ?_
  refine am_getR (pc := 133) (j := 218) C dX5_copyFrom_133 f5_40 bn_209 sh_209 (rf_209_13 hR) ?_
  refine am_callSNv (Y := mX11_copyRow) (pc := 136) (st := []) (As := [.ref 34, .ref 218]) (h2 := (am_row (am_row (am_row (am_row (am_row (am_row (am_row (am_row (am_row (am_row h 209 (upd (upd (upd (upd (upd (h 209) 0 ((h 25) 0)) 1 ((h 25) 1)) 2 ((h 25) 2)) 3 ((h 25) 3)) 4 ((h 25) 4))) 210 (va_cpy (h 26) (h 210) 0 0 10)) 211 (va_cpy (h 27) (h 211) 0 0 10)) 212 (va_cpy (h 28) (h 212) 0 0 10)) 213 (va_cpy (h 29) (h 213) 0 0 10)) 214 (va_cpy (h 30) (h 214) 0 0 10)) 215 (va_cpy (h 31) (h 215) 0 0 120)) 216 (va_cpy (h 32) (h 216) 0 0 40)) 217 (va_cpy (h 33) (h 217) 0 0 40)) 218 (va_cpy (h 34) (h 218) 0 0 40))) C dX5_copyFrom_136 k5_70 v_X11_copyRow rfl rfl (by decide) (Nat.zero_le _) (Nat.zero_le _) (Nat.le_of_ble_eq_true rfl) (c_X11_copyRow hR 34 218 40 bn_34 sh_34 bn_218 sh_218 (by decide)) ?_
  refine am_aload_n (pc := 139) C dX5_copyFrom_139 rfl ?_
  refine am_getR (pc := 140) (j := 35) C dX5_copyFrom_140 f5_43 bn_25 sh_25 (rf_25_14 hR) ?_
  refine am_aload_n (pc := 143) C dX5_copyFrom_143 rfl ?_
  refine am_getR (pc := 144) (j := 219) C dX5_copyFrom_144 f5_43 bn_209 sh_209 (rf_209_14 hR) ?_
  refine am_callSNv (Y := mX11_copyRow) (pc := 147) (st := []) (As := [.ref 35, .ref 219]) (h2 := (am_row (am_row (am_row (am_row (am_row (am_row (am_row (am_row (am_row (am_row (am_row h 209 (upd (upd (upd (upd (upd (h 209) 0 ((h 25) 0)) 1 ((h 25) 1)) 2 ((h 25) 2)) 3 ((h 25) 3)) 4 ((h 25) 4))) 210 (va_cpy (h 26) (h 210) 0 0 10)) 211 (va_cpy (h 27) (h 211) 0 0 10)) 212 (va_cpy (h 28) (h 212) 0 0 10)) 213 (va_cpy (h 29) (h 213) 0 0 10)) 214 (va_cpy (h 30) (h 214) 0 0 10)) 215 (va_cpy (h 31) (h 215) 0 0 120)) 216 (va_cpy (h 32) (h 216) 0 0 40)) 217 (va_cpy (h 33) (h 217) 0 0 40)) 218 (va_cpy (h 34) (h 218) 0 0 40)) 219 (va_cpy (h 35) (h 219) 0 0 60))) C dX5_copyFrom_147 k5_70 v_X11_copyRow rfl rfl (by decide) (Nat.zero_le _) (Nat.zero_le _) (Nat.le_of_ble_eq_true rfl) (c_X11_copyRow hR 35 219 60 bn_35 sh_35 bn_219 sh_219 (by decide)) ?_
  refine am_aload_n (pc := 150) C dX5_copyFrom_150 rfl ?_
  refine am_getR (pc := 151) (j := 36) C dX5_copyFrom_151 f5_46 bn_25 sh_25 (rf_25_15 hR) ?_
  refine am_aload_n (pc := 154) C dX5_copyFrom_154 rfl ?_
  refine am_getR (pc := 155) (j := 220) C dX5_copyFrom_155 f5_46 bn_209 sh_209 (rf_209_15 hR) ?_
  refine am_callSNv (Y := mX11_copyRow) (pc := 158) (st := []) (As := [.ref 36, .ref 220]) (h2 := (am_row (am_row (am_row (am_row (am_row (am_row (am_row (am_row (am_row (am_row (am_row (am_row h 209 (upd (upd (upd (upd (upd (h 209) 0 ((h 25) 0)) 1 ((h 25) 1)) 2 ((h 25) 2)) 3 ((h 25) 3)) 4 ((h 25) 4))) 210 (va_cpy (h 26) (h 210) 0 0 10)) 211 (va_cpy (h 27) (h 211) 0 0 10)) 212 (va_cpy (h 28) (h 212) 0 0 10)) 213 (va_cpy (h 29) (h 213) 0 0 10)) 214 (va_cpy (h 30) (h 214) 0 0 10)) 215 (va_cpy (h 31) (h 215) 0 0 120)) 216 (va_cpy (h 32) (h 216) 0 0 40)) 217 (va_cpy (h 33) (h 217) 0 0 40)) 218 (va_cpy (h 34) (h 218) 0 0 40)) 219 (va_cpy (h 35) (h 219) 0 0 60)) 220 (va_cpy (h 36) (h 220) 0 0 60))) C dX5_copyFrom_158 k5_70 v_X11_copyRow rfl rfl (by decide) (Nat.zero_le _) (Nat.zero_le _) (Nat.le_of_ble_eq_true rfl) (c_X11_copyRow hR 36 220 60 bn_36 sh_36 bn_220 sh_220 (by decide)) ?_
  refine am_aload_n (pc := 161) C dX5_copyFrom_161 rfl ?_
  refine am_getR (pc := 162) (j := 37) C dX5_copyFrom_162 f5_49 bn_25 sh_25 (rf_25_16 hR) ?_
  refine am_aload_n (pc := 165) C dX5_copyFrom_165 rfl ?_
  refine am_getR (pc := 166) (j := 221) C dX5_copyFrom_166 f5_49 bn_209 sh_209 (rf_209_16 hR) ?_
  refine am_callSNv (Y := mX11_copyRow) (pc := 169) (st := []) (As := [.ref 37, .ref 221]) (h2 := (am_row (am_row (am_row (am_row (am_row (am_row (am_row (am_row (am_row (am_row (am_row (am_row (am_row h 209 (upd (upd (upd (upd (upd (h 209) 0 ((h 25) 0)) 1 ((h 25) 1)) 2 ((h 25) 2)) 3 ((h 25) 3)) 4 ((h 25) 4))) 210 (va_cpy (h 26) (h 210) 0 0 10)) 211 (va_cpy (h 27) (h 211) 0 0 10)) 212 (va_cpy (h 28) (h 212) 0 0 10)) 213 (va_cpy (h 29) (h 213) 0 0 10)) 214 (va_cpy (h 30) (h 214) 0 0 10)) 215 (va_cpy (h 31) (h 215) 0 0 120)) 216 (va_cpy (h 32) (h 216) 0 0 40)) 217 (va_cpy (h 33) (h 217) 0 0 40)) 218 (va_cpy (h 34) (h 218) 0 0 40)) 219 (va_cpy (h 35) (h 219) 0 0 60)) 220 (va_cpy (h 36) (h 220) 0 0 60)) 221 (va_cpy (h 37) (h 221) 0 0 60))) C dX5_copyFrom_169 k5_70 v_X11_copyRow rfl rfl (by decide) (Nat.zero_le _) (Nat.zero_le _) (Nat.le_of_ble_eq_true rfl) (c_X11_copyRow hR 37 221 60 bn_37 sh_37 bn_221 sh_221 (by decide)) ?_
  refine am_aload_n (pc := 172) C dX5_copyFrom_172 rfl ?_
  refine am_getR (pc := 173) (j := 38) C dX5_copyFrom_173 f5_52 bn_25 sh_25 (rf_25_17 hR) ?_
  refine am_aload_n (pc := 176) C dX5_copyFrom_176 rfl ?_
  refine am_getR (pc := 177) (j := 222) C dX5_copyFrom_177 f5_52 bn_209 sh_209 (rf_209_17 hR) ?_
  refine am_callSNv (Y := mX11_copyRow) (pc := 180) (st := []) (As := [.ref 38, .ref 222]) (h2 := (am_row (am_row (am_row (am_row (am_row (am_row (am_row (am_row (am_row (am_row (am_row (am_row (am_row (am_row h 209 (upd (upd (upd (upd (upd (h 209) 0 ((h 25) 0)) 1 ((h 25) 1)) 2 ((h 25) 2)) 3 ((h 25) 3)) 4 ((h 25) 4))) 210 (va_cpy (h 26) (h 210) 0 0 10)) 211 (va_cpy (h 27) (h 211) 0 0 10)) 212 (va_cpy (h 28) (h 212) 0 0 10)) 213 (va_cpy (h 29) (h 213) 0 0 10)) 214 (va_cpy (h 30) (h 214) 0 0 10)) 215 (va_cpy (h 31) (h 215) 0 0 120)) 216 (va_cpy (h 32) (h 216) 0 0 40)) 217 (va_cpy (h 33) (h 217) 0 0 40)) 218 (va_cpy (h 34) (h 218) 0 0 40)) 219 (va_cpy (h 35) (h 219) 0 0 60)) 220 (va_cpy (h 36) (h 220) 0 0 60)) 221 (va_cpy (h 37) (h 221) 0 0 60)) 222 (va_cpy (h 38) (h 222) 0 0 60))) C dX5_copyFrom_180 k5_70 v_X11_copyRow rfl rfl (by decide) (Nat.zero_le _) (Nat.zero_le _) (Nat.le_of_ble_eq_true rfl) (c_X11_copyRow hR 38 222 60 bn_38 sh_38 bn_222 sh_222 (by decide)) ?_
  refine am_aload_n (pc := 183) C dX5_copyFrom_183 rfl ?_
  refine am_getR (pc := 184) (j := 39) C dX5_copyFrom_184 f5_55 bn_25 sh_25 (rf_25_18 hR) ?_
  refine am_aload_n (pc := 187) C dX5_copyFrom_187 rfl ?_
  refine am_getR (pc := 188) (j := 223) C dX5_copyFrom_188 f5_55 bn_209 sh_209 (rf_209_18 hR) ?_
  refine am_callSNv (Y := mX11_copyRow) (pc := 191) (st := []) (As := [.ref 39, .ref 223]) (h2 := (am_row (am_row (am_row (am_row (am_row (am_row (am_row (am_row (am_row (am_row (am_row (am_row (am_row (am_row (am_row h 209 (upd (upd (upd (upd (upd (h 209) 0 ((h 25) 0)) 1 ((h 25) 1)) 2 ((h 25) 2)) 3 ((h 25) 3)) 4 ((h 25) 4))) 210 (va_cpy (h 26) (h 210) 0 0 10)) 211 (va_cpy (h 27) (h 211) 0 0 10)) 212 (va_cpy (h 28) (h 212) 0 0 10)) 213 (va_cpy (h 29) (h 213) 0 0 10)) 214 (va_cpy (h 30) (h 214) 0 0 10)) 215 (va_cpy (h 31) (h 215) 0 0 120)) 216 (va_cpy (h 32) (h 216) 0 0 40)) 217 (va_cpy (h 33) (h 217) 0 0 40)) 218 (va_cpy (h 34) (h 218) 0 0 40)) 219 (va_cpy (h 35) (h 219) 0 0 60)) 220 (va_cpy (h 36) (h 220) 0 0 60)) 221 (va_cpy (h 37) (h 221) 0 0 60)) 222 (va_cpy (h 38) (h 222) 0 0 60)) 223 (va_cpy (h 39) (h 223) 0 0 60))) C dX5_copyFrom_191 k5_70 v_X11_copyRow rfl rfl (by decide) (Nat.zero_le _) (Nat.zero_le _) (Nat.le_of_ble_eq_true rfl) (c_X11_copyRow hR 39 223 60 bn_39 sh_39 bn_223 sh_223 (by decide)) ?_
  exact am_vretvr T dX5_copyFrom_194 rfl (Nat.le_refl _) (Nat.le_refl _) rfl ⟨cl_Sc_cpy hV hSc rfl rfl rfl rfl rfl (fun k hk => va_cpy_0 hk) (fun k hk => va_cpy_0 hk) (fun k hk => va_cpy_0 hk) (fun k hk => va_cpy_0 hk) (fun k hk => va_cpy_0 hk) (fun k hk => va_cpy_0 hk) (fun k hk => va_cpy_0 hk) (fun k hk => va_cpy_0 hk) (fun k hk => va_cpy_0 hk) (fun k hk => va_cpy_0 hk) (fun k hk => va_cpy_0 hk) (fun k hk => va_cpy_0 hk) (fun k hk => va_cpy_0 hk) (fun k hk => va_cpy_0 hk), (fun i9 h9 => by rw [am_row_ne _ _ _ (by omega), am_row_ne _ _ _ (by omega), am_row_ne _ _ _ (by omega), am_row_ne _ _ _ (by omega), am_row_ne _ _ _ (by omega), am_row_ne _ _ _ (by omega), am_row_ne _ _ _ (by omega), am_row_ne _ _ _ (by omega), am_row_ne _ _ _ (by omega), am_row_ne _ _ _ (by omega), am_row_ne _ _ _ (by omega), am_row_ne _ _ _ (by omega), am_row_ne _ _ _ (by omega), am_row_ne _ _ _ (by omega), am_row_ne _ _ _ (by omega)])⟩

set_option maxHeartbeats 400000 in
set_option maxRecDepth 100000 in
theorem c_X5_copyFrom_d_s6 {ad : Nat → Nat} {r : am_R} (hR : am_rs r) {h : am_H}  (w : rf_W) (hV : rf_I w) (hSc : cl_Sc (h) 25 w)  : am_CM mX5_copyFrom 3 0 0 [.ref 224, .ref 25] (am_VV ad) r h (am_pr none r (fun c9 => cl_Sc c9 224 w ∧ cl_fr (h) c9 224 15)) := by
  refine am_CM.of (by decide +kernel) (Nat.le_of_ble_eq_true rfl) (fun X C T => ?_)
  show am_G X (am_VV ad) (0, 0) 0 [(0, .ref 224), (1, .ref 25)] [] r h
  refine am_aload_n (pc := 0) C dX5_copyFrom_0 rfl ?_
  refine am_aload_n (pc := 1) C dX5_copyFrom_1 rfl ?_
  refine am_getI (pc := 2) C dX5_copyFrom_2 f5_58 bn_25 sh_25 ?_
  refine am_putI (pc := 5) C dX5_copyFrom_5 f5_58 bn_224 sh_224 rfl rfl ?_
  refine am_hp (show am_up h 224 0 ((h 25) 0) = am_row h 224 (upd (h 224) 0 ((h 25) 0)) from am_up_rw _ _ _ _) ?_
  refine am_aload_n (pc := 8) C dX5_copyFrom_8 rfl ?_
  refine am_aload_n (pc := 9) C dX5_copyFrom_9 rfl ?_
  refine am_getI (pc := 10) C dX5_copyFrom_10 f5_9 bn_25 sh_25 ?_
  refine am_putI (pc := 13) C dX5_copyFrom_13 f5_9 bn_224 sh_224 rfl rfl ?_
  refine am_hp (show am_up (am_row h 224 (upd (h 224) 0 ((h 25) 0))) 224 1 ((h 25) 1) = am_row (am_row h 224 (upd (h 224) 0 ((h 25) 0))) 224 (upd (upd (h 224) 0 ((h 25) 0)) 1 ((h 25) 1)) from am_up_rw _ _ _ _) ?_
  refine am_hp (show am_row (am_row h 224 (upd (h 224) 0 ((h 25) 0))) 224 (upd (upd (h 224) 0 ((h 25) 0)) 1 ((h 25) 1)) = (am_row h 224 (upd (upd (h 224) 0 ((h 25) 0)) 1 ((h 25) 1))) from am_row_s0) ?_
  refine am_aload_n (pc := 16) C dX5_copyFrom_16 rfl ?_
  refine am_aload_n (pc := 17) C dX5_copyFrom_17 rfl ?_
  refine am_getI (pc := 18) C dX5_copyFrom_18 f5_61 bn_25 sh_25 ?_
  refine am_putI (pc := 21) C dX5_copyFrom_21 f5_61 bn_224 sh_224 rfl rfl ?_
  refine am_hp (show am_up (am_row h 224 (upd (upd (h 224) 0 ((h 25) 0)) 1 ((h 25) 1))) 224 2 ((h 25) 2) = am_row (am_row h 224 (upd (upd (h 224) 0 ((h 25) 0)) 1 ((h 25) 1))) 224 (upd (upd (upd (h 224) 0 ((h 25) 0)) 1 ((h 25) 1)) 2 ((h 25) 2)) from am_up_rw _ _ _ _) ?_
  refine am_hp (show am_row (am_row h 224 (upd (upd (h 224) 0 ((h 25) 0)) 1 ((h 25) 1))) 224 (upd (upd (upd (h 224) 0 ((h 25) 0)) 1 ((h 25) 1)) 2 ((h 25) 2)) = (am_row h 224 (upd (upd (upd (h 224) 0 ((h 25) 0)) 1 ((h 25) 1)) 2 ((h 25) 2))) from am_row_s0) ?_
  refine am_aload_n (pc := 24) C dX5_copyFrom_24 rfl ?_
  refine am_aload_n (pc := 25) C dX5_copyFrom_25 rfl ?_
  refine am_getI (pc := 26) C dX5_copyFrom_26 f5_64 bn_25 sh_25 ?_
  refine am_putI (pc := 29) C dX5_copyFrom_29 f5_64 bn_224 sh_224 rfl rfl ?_
  refine am_hp (show am_up (am_row h 224 (upd (upd (upd (h 224) 0 ((h 25) 0)) 1 ((h 25) 1)) 2 ((h 25) 2))) 224 3 ((h 25) 3) = am_row (am_row h 224 (upd (upd (upd (h 224) 0 ((h 25) 0)) 1 ((h 25) 1)) 2 ((h 25) 2))) 224 (upd (upd (upd (upd (h 224) 0 ((h 25) 0)) 1 ((h 25) 1)) 2 ((h 25) 2)) 3 ((h 25) 3)) from am_up_rw _ _ _ _) ?_
  refine am_hp (show am_row (am_row h 224 (upd (upd (upd (h 224) 0 ((h 25) 0)) 1 ((h 25) 1)) 2 ((h 25) 2))) 224 (upd (upd (upd (upd (h 224) 0 ((h 25) 0)) 1 ((h 25) 1)) 2 ((h 25) 2)) 3 ((h 25) 3)) = (am_row h 224 (upd (upd (upd (upd (h 224) 0 ((h 25) 0)) 1 ((h 25) 1)) 2 ((h 25) 2)) 3 ((h 25) 3))) from am_row_s0) ?_
  refine am_aload_n (pc := 32) C dX5_copyFrom_32 rfl ?_
  refine am_aload_n (pc := 33) C dX5_copyFrom_33 rfl ?_
  refine am_getI (pc := 34) C dX5_copyFrom_34 f5_67 bn_25 sh_25 ?_
  refine am_putI (pc := 37) C dX5_copyFrom_37 f5_67 bn_224 sh_224 rfl rfl ?_
  refine am_hp (show am_up (am_row h 224 (upd (upd (upd (upd (h 224) 0 ((h 25) 0)) 1 ((h 25) 1)) 2 ((h 25) 2)) 3 ((h 25) 3))) 224 4 ((h 25) 4) = am_row (am_row h 224 (upd (upd (upd (upd (h 224) 0 ((h 25) 0)) 1 ((h 25) 1)) 2 ((h 25) 2)) 3 ((h 25) 3))) 224 (upd (upd (upd (upd (upd (h 224) 0 ((h 25) 0)) 1 ((h 25) 1)) 2 ((h 25) 2)) 3 ((h 25) 3)) 4 ((h 25) 4)) from am_up_rw _ _ _ _) ?_
  refine am_hp (show am_row (am_row h 224 (upd (upd (upd (upd (h 224) 0 ((h 25) 0)) 1 ((h 25) 1)) 2 ((h 25) 2)) 3 ((h 25) 3))) 224 (upd (upd (upd (upd (upd (h 224) 0 ((h 25) 0)) 1 ((h 25) 1)) 2 ((h 25) 2)) 3 ((h 25) 3)) 4 ((h 25) 4)) = (am_row h 224 (upd (upd (upd (upd (upd (h 224) 0 ((h 25) 0)) 1 ((h 25) 1)) 2 ((h 25) 2)) 3 ((h 25) 3)) 4 ((h 25) 4))) from am_row_s0) ?_
  refine am_aload_n (pc := 40) C dX5_copyFrom_40 rfl ?_
  refine am_getR (pc := 41) (j := 26) C dX5_copyFrom_41 f5_15 bn_25 sh_25 (rf_25_5 hR) ?_
  refine am_aload_n (pc := 44) C dX5_copyFrom_44 rfl ?_
  refine am_getR (pc := 45) (j := 225) C dX5_copyFrom_45 f5_15 bn_224 sh_224 (rf_224_5 hR) ?_
  refine am_callSNv (Y := mX11_copyRow) (pc := 48) (st := []) (As := [.ref 26, .ref 225]) (h2 := (am_row (am_row h 224 (upd (upd (upd (upd (upd (h 224) 0 ((h 25) 0)) 1 ((h 25) 1)) 2 ((h 25) 2)) 3 ((h 25) 3)) 4 ((h 25) 4))) 225 (va_cpy (h 26) (h 225) 0 0 10))) C dX5_copyFrom_48 k5_70 v_X11_copyRow rfl rfl (by decide) (Nat.zero_le _) (Nat.zero_le _) (Nat.le_of_ble_eq_true rfl) (c_X11_copyRow hR 26 225 10 bn_26 sh_26 bn_225 sh_225 (by decide)) ?_
  refine am_aload_n (pc := 51) C dX5_copyFrom_51 rfl ?_
  refine am_getR (pc := 52) (j := 27) C dX5_copyFrom_52 f5_19 bn_25 sh_25 (rf_25_6 hR) ?_
  refine am_aload_n (pc := 55) C dX5_copyFrom_55 rfl ?_
  refine am_getR (pc := 56) (j := 226) C dX5_copyFrom_56 f5_19 bn_224 sh_224 (rf_224_6 hR) ?_
  refine am_callSNv (Y := mX11_copyRow) (pc := 59) (st := []) (As := [.ref 27, .ref 226]) (h2 := (am_row (am_row (am_row h 224 (upd (upd (upd (upd (upd (h 224) 0 ((h 25) 0)) 1 ((h 25) 1)) 2 ((h 25) 2)) 3 ((h 25) 3)) 4 ((h 25) 4))) 225 (va_cpy (h 26) (h 225) 0 0 10)) 226 (va_cpy (h 27) (h 226) 0 0 10))) C dX5_copyFrom_59 k5_70 v_X11_copyRow rfl rfl (by decide) (Nat.zero_le _) (Nat.zero_le _) (Nat.le_of_ble_eq_true rfl) (c_X11_copyRow hR 27 226 10 bn_27 sh_27 bn_226 sh_226 (by decide)) ?_
  refine am_aload_n (pc := 62) C dX5_copyFrom_62 rfl ?_
  refine am_getR (pc := 63) (j := 28) C dX5_copyFrom_63 f5_22 bn_25 sh_25 (rf_25_7 hR) ?_
  refine am_aload_n (pc := 66) C dX5_copyFrom_66 rfl ?_
  refine am_getR (pc := 67) (j := 227) C dX5_copyFrom_67 f5_22 bn_224 sh_224 (rf_224_7 hR) ?_
  refine am_callSNv (Y := mX11_copyRow) (pc := 70) (st := []) (As := [.ref 28, .ref 227]) (h2 := (am_row (am_row (am_row (am_row h 224 (upd (upd (upd (upd (upd (h 224) 0 ((h 25) 0)) 1 ((h 25) 1)) 2 ((h 25) 2)) 3 ((h 25) 3)) 4 ((h 25) 4))) 225 (va_cpy (h 26) (h 225) 0 0 10)) 226 (va_cpy (h 27) (h 226) 0 0 10)) 227 (va_cpy (h 28) (h 227) 0 0 10))) C dX5_copyFrom_70 k5_70 v_X11_copyRow rfl rfl (by decide) (Nat.zero_le _) (Nat.zero_le _) (Nat.le_of_ble_eq_true rfl) (c_X11_copyRow hR 28 227 10 bn_28 sh_28 bn_227 sh_227 (by decide)) ?_
  refine am_aload_n (pc := 73) C dX5_copyFrom_73 rfl ?_
  refine am_getR (pc := 74) (j := 29) C dX5_copyFrom_74 f5_25 bn_25 sh_25 (rf_25_8 hR) ?_
  refine am_aload_n (pc := 77) C dX5_copyFrom_77 rfl ?_
  refine am_getR (pc := 78) (j := 228) C dX5_copyFrom_78 f5_25 bn_224 sh_224 (rf_224_8 hR) ?_
  refine am_callSNv (Y := mX11_copyRow) (pc := 81) (st := []) (As := [.ref 29, .ref 228]) (h2 := (am_row (am_row (am_row (am_row (am_row h 224 (upd (upd (upd (upd (upd (h 224) 0 ((h 25) 0)) 1 ((h 25) 1)) 2 ((h 25) 2)) 3 ((h 25) 3)) 4 ((h 25) 4))) 225 (va_cpy (h 26) (h 225) 0 0 10)) 226 (va_cpy (h 27) (h 226) 0 0 10)) 227 (va_cpy (h 28) (h 227) 0 0 10)) 228 (va_cpy (h 29) (h 228) 0 0 10))) C dX5_copyFrom_81 k5_70 v_X11_copyRow rfl rfl (by decide) (Nat.zero_le _) (Nat.zero_le _) (Nat.le_of_ble_eq_true rfl) (c_X11_copyRow hR 29 228 10 bn_29 sh_29 bn_228 sh_228 (by decide)) ?_
  refine am_aload_n (pc := 84) C dX5_copyFrom_84 rfl ?_
  refine am_getR (pc := 85) (j := 30) C dX5_copyFrom_85 f5_28 bn_25 sh_25 (rf_25_9 hR) ?_
  refine am_aload_n (pc := 88) C dX5_copyFrom_88 rfl ?_
  refine am_getR (pc := 89) (j := 229) C dX5_copyFrom_89 f5_28 bn_224 sh_224 (rf_224_9 hR) ?_
  refine am_callSNv (Y := mX11_copyRow) (pc := 92) (st := []) (As := [.ref 30, .ref 229]) (h2 := (am_row (am_row (am_row (am_row (am_row (am_row h 224 (upd (upd (upd (upd (upd (h 224) 0 ((h 25) 0)) 1 ((h 25) 1)) 2 ((h 25) 2)) 3 ((h 25) 3)) 4 ((h 25) 4))) 225 (va_cpy (h 26) (h 225) 0 0 10)) 226 (va_cpy (h 27) (h 226) 0 0 10)) 227 (va_cpy (h 28) (h 227) 0 0 10)) 228 (va_cpy (h 29) (h 228) 0 0 10)) 229 (va_cpy (h 30) (h 229) 0 0 10))) C dX5_copyFrom_92 k5_70 v_X11_copyRow rfl rfl (by decide) (Nat.zero_le _) (Nat.zero_le _) (Nat.le_of_ble_eq_true rfl) (c_X11_copyRow hR 30 229 10 bn_30 sh_30 bn_229 sh_229 (by decide)) ?_
  refine am_aload_n (pc := 95) C dX5_copyFrom_95 rfl ?_
  refine am_getR (pc := 96) (j := 31) C dX5_copyFrom_96 f5_31 bn_25 sh_25 (rf_25_10 hR) ?_
  refine am_aload_n (pc := 99) C dX5_copyFrom_99 rfl ?_
  refine am_getR (pc := 100) (j := 230) C dX5_copyFrom_100 f5_31 bn_224 sh_224 (rf_224_10 hR) ?_
  refine am_callSNv (Y := mX11_copyRow) (pc := 103) (st := []) (As := [.ref 31, .ref 230]) (h2 := (am_row (am_row (am_row (am_row (am_row (am_row (am_row h 224 (upd (upd (upd (upd (upd (h 224) 0 ((h 25) 0)) 1 ((h 25) 1)) 2 ((h 25) 2)) 3 ((h 25) 3)) 4 ((h 25) 4))) 225 (va_cpy (h 26) (h 225) 0 0 10)) 226 (va_cpy (h 27) (h 226) 0 0 10)) 227 (va_cpy (h 28) (h 227) 0 0 10)) 228 (va_cpy (h 29) (h 228) 0 0 10)) 229 (va_cpy (h 30) (h 229) 0 0 10)) 230 (va_cpy (h 31) (h 230) 0 0 120))) C dX5_copyFrom_103 k5_70 v_X11_copyRow rfl rfl (by decide) (Nat.zero_le _) (Nat.zero_le _) (Nat.le_of_ble_eq_true rfl) (c_X11_copyRow hR 31 230 120 bn_31 sh_31 bn_230 sh_230 (by decide)) ?_
  refine am_aload_n (pc := 106) C dX5_copyFrom_106 rfl ?_
  refine am_getR (pc := 107) (j := 32) C dX5_copyFrom_107 f5_34 bn_25 sh_25 (rf_25_11 hR) ?_
  refine am_aload_n (pc := 110) C dX5_copyFrom_110 rfl ?_
  refine am_getR (pc := 111) (j := 231) C dX5_copyFrom_111 f5_34 bn_224 sh_224 (rf_224_11 hR) ?_
  refine am_callSNv (Y := mX11_copyRow) (pc := 114) (st := []) (As := [.ref 32, .ref 231]) (h2 := (am_row (am_row (am_row (am_row (am_row (am_row (am_row (am_row h 224 (upd (upd (upd (upd (upd (h 224) 0 ((h 25) 0)) 1 ((h 25) 1)) 2 ((h 25) 2)) 3 ((h 25) 3)) 4 ((h 25) 4))) 225 (va_cpy (h 26) (h 225) 0 0 10)) 226 (va_cpy (h 27) (h 226) 0 0 10)) 227 (va_cpy (h 28) (h 227) 0 0 10)) 228 (va_cpy (h 29) (h 228) 0 0 10)) 229 (va_cpy (h 30) (h 229) 0 0 10)) 230 (va_cpy (h 31) (h 230) 0 0 120)) 231 (va_cpy (h 32) (h 231) 0 0 40))) C dX5_copyFrom_114 k5_70 v_X11_copyRow rfl rfl (by decide) (Nat.zero_le _) (Nat.zero_le _) (Nat.le_of_ble_eq_true rfl) (c_X11_copyRow hR 32 231 40 bn_32 sh_32 bn_231 sh_231 (by decide)) ?_
  refine am_aload_n (pc := 117) C dX5_copyFrom_117 rfl ?_
  refine am_getR (pc := 118) (j := 33) C dX5_copyFrom_118 f5_37 bn_25 sh_25 (rf_25_12 hR) ?_
  refine am_aload_n (pc := 121) C dX5_copyFrom_121 rfl ?_
  refine am_getR (pc := 122) (j := 232) C dX5_copyFrom_122 f5_37 bn_224 sh_224 (rf_224_12 hR) ?_
  refine am_callSNv (Y := mX11_copyRow) (pc := 125) (st := []) (As := [.ref 33, .ref 232]) (h2 := (am_row (am_row (am_row (am_row (am_row (am_row (am_row (am_row (am_row h 224 (upd (upd (upd (upd (upd (h 224) 0 ((h 25) 0)) 1 ((h 25) 1)) 2 ((h 25) 2)) 3 ((h 25) 3)) 4 ((h 25) 4))) 225 (va_cpy (h 26) (h 225) 0 0 10)) 226 (va_cpy (h 27) (h 226) 0 0 10)) 227 (va_cpy (h 28) (h 227) 0 0 10)) 228 (va_cpy (h 29) (h 228) 0 0 10)) 229 (va_cpy (h 30) (h 229) 0 0 10)) 230 (va_cpy (h 31) (h 230) 0 0 120)) 231 (va_cpy (h 32) (h 231) 0 0 40)) 232 (va_cpy (h 33) (h 232) 0 0 40))) C dX5_copyFrom_125 k5_70 v_X11_copyRow rfl rfl (by decide) (Nat.zero_le _) (Nat.zero_le _) (Nat.le_of_ble_eq_true rfl) (c_X11_copyRow hR 33 232 40 bn_33 sh_33 bn_232 sh_232 (by decide)) ?_
  refine am_aload_n (pc := 128) C dX5_copyFrom_128 rfl ?_
  refine am_getR (pc := 129) (j := 34) C dX5_copyFrom_129 f5_40 bn_25 sh_25 (rf_25_13 hR) ?_
  refine am_aload_n (pc := 132) C dX5_copyFrom_132 rfl ?_
  refine am_getR (pc := 133) (j := 233) C dX5_copyFrom_133 f5_40 bn_224 sh_224 (rf_224_13 hR) ?_
  refine am_callSNv (Y := mX11_copyRow) (pc := 136) (st := []) (As := [.ref 34, .ref 233]) (h2 := (am_row (am_row (am_row (am_row (am_row (am_row (am_row (am_row (am_row (am_row h 224 (upd (upd (upd (upd (upd (h 224) 0 ((h 25) 0)) 1 ((h 25) 1)) 2 ((h 25) 2)) 3 ((h 25) 3)) 4 ((h 25) 4))) 225 (va_cpy (h 26) (h 225) 0 0 10)) 226 (va_cpy (h 27) (h 226) 0 0 10)) 227 (va_cpy (h 28) (h 227) 0 0 10)) 228 (va_cpy (h 29) (h 228) 0 0 10)) 229 (va_cpy (h 30) (h 229) 0 0 10)) 230 (va_cpy (h 31) (h 230) 0 0 120)) 231 (va_cpy (h 32) (h 231) 0 0 40)) 232 (va_cpy (h 33) (h 232) 0 0 40)) 233 (va_cpy (h 34) (h 233) 0 0 40))) C dX5_copyFrom_136 k5_70 v_X11_copyRow rfl rfl (by decide) (Nat.zero_le _) (Nat.zero_le _) (Nat.le_of_ble_eq_true rfl) (c_X11_copyRow hR 34 233 40 bn_34 sh_34 bn_233 sh_233 (by decide)) ?_
  refine am_aload_n (pc := 139) C dX5_copyFrom_139 rfl ?_
  refine am_getR (pc := 140) (j := 35) C dX5_copyFrom_140 f5_43 bn_25 sh_25 (rf_25_14 hR) ?_
  refine am_aload_n (pc := 143) C dX5_copyFrom_143 rfl ?_
  refine am_getR (pc := 144) (j := 234) C dX5_copyFrom_144 f5_43 bn_224 sh_224 (rf_224_14 hR) ?_
  refine am_callSNv (Y := mX11_copyRow) (pc := 147) (st := []) (As := [.ref 35, .ref 234]) (h2 := (am_row (am_row (am_row (am_row (am_row (am_row (am_row (am_row (am_row (am_row (am_row h 224 (upd (upd (upd (upd (upd (h 224) 0 ((h 25) 0)) 1 ((h 25) 1)) 2 ((h 25) 2)) 3 ((h 25) 3)) 4 ((h 25) 4))) 225 (va_cpy (h 26) (h 225) 0 0 10)) 226 (va_cpy (h 27) (h 226) 0 0 10)) 227 (va_cpy (h 28) (h 227) 0 0 10)) 228 (va_cpy (h 29) (h 228) 0 0 10)) 229 (va_cpy (h 30) (h 229) 0 0 10)) 230 (va_cpy (h 31) (h 230) 0 0 120)) 231 (va_cpy (h 32) (h 231) 0 0 40)) 232 (va_cpy (h 33) (h 232) 0 0 40)) 233 (va_cpy (h 34) (h 233) 0 0 40)) 234 (va_cpy (h 35) (h 234) 0 0 60))) C dX5_copyFrom_147 k5_70 v_X11_copyRow rfl rfl (by decide) (Nat.zero_le _) (Nat.zero_le _) (Nat.le_of_ble_eq_true rfl) (c_X11_copyRow hR 35 234 60 bn_35 sh_35 bn_234 sh_234 (by decide)) ?_
  refine am_aload_n (pc := 150) C dX5_copyFrom_150 rfl ?_
  refine am_getR (pc := 151) (j := 36) C dX5_copyFrom_151 f5_46 bn_25 sh_25 (rf_25_15 hR) ?_
  refine am_aload_n (pc := 154) C dX5_copyFrom_154 rfl ?_
  refine am_getR (pc := 155) (j := 235) C dX5_copyFrom_155 f5_46 bn_224 sh_224 (rf_224_15 hR) ?_
  refine am_callSNv (Y := mX11_copyRow) (pc := 158) (st := []) (As := [.ref 36, .ref 235]) (h2 := (am_row (am_row (am_row (am_row (am_row (am_row (am_row (am_row (am_row (am_row (am_row (am_row h 224 (upd (upd (upd (upd (upd (h 224) 0 ((h 25) 0)) 1 ((h 25) 1)) 2 ((h 25) 2)) 3 ((h 25) 3)) 4 ((h 25) 4))) 225 (va_cpy (h 26) (h 225) 0 0 10)) 226 (va_cpy (h 27) (h 226) 0 0 10)) 227 (va_cpy (h 28) (h 227) 0 0 10)) 228 (va_cpy (h 29) (h 228) 0 0 10)) 229 (va_cpy (h 30) (h 229) 0 0 10)) 230 (va_cpy (h 31) (h 230) 0 0 120)) 231 (va_cpy (h 32) (h 231) 0 0 40)) 232 (va_cpy (h 33) (h 232) 0 0 40)) 233 (va_cpy (h 34) (h 233) 0 0 40)) 234 (va_cpy (h 35) (h 234) 0 0 60)) 235 (va_cpy (h 36) (h 235) 0 0 60))) C dX5_copyFrom_158 k5_70 v_X11_copyRow rfl rfl (by decide) (Nat.zero_le _) (Nat.zero_le _) (Nat.le_of_ble_eq_true rfl) (c_X11_copyRow hR 36 235 60 bn_36 sh_36 bn_235 sh_235 (by decide)) ?_
  refine am_aload_n (pc := 161) C dX5_copyFrom_161 rfl ?_
  refine am_getR (pc := 162) (j := 37) C dX5_copyFrom_162 f5_49 bn_25 sh_25 (rf_25_16 hR) ?_
  refine am_aload_n (pc := 165) C dX5_copyFrom_165 rfl ?_
  refine am_getR (pc := 166) (j := 236) C dX5_copyFrom_166 f5_49 bn_224 sh_224 (rf_224_16 hR) ?_
  refine am_callSNv (Y := mX11_copyRow) (pc := 169) (st := []) (As := [.ref 37, .ref 236]) (h2 := (am_row (am_row (am_row (am_row (am_row (am_row (am_row (am_row (am_row (am_row (am_row (am_row (am_row h 224 (upd (upd (upd (upd (upd (h 224) 0 ((h 25) 0)) 1 ((h 25) 1)) 2 ((h 25) 2)) 3 ((h 25) 3)) 4 ((h 25) 4))) 225 (va_cpy (h 26) (h 225) 0 0 10)) 226 (va_cpy (h 27) (h 226) 0 0 10)) 227 (va_cpy (h 28) (h 227) 0 0 10)) 228 (va_cpy (h 29) (h 228) 0 0 10)) 229 (va_cpy (h 30) (h 229) 0 0 10)) 230 (va_cpy (h 31) (h 230) 0 0 120)) 231 (va_cpy (h 32) (h 231) 0 0 40)) 232 (va_cpy (h 33) (h 232) 0 0 40)) 233 (va_cpy (h 34) (h 233) 0 0 40)) 234 (va_cpy (h 35) (h 234) 0 0 60)) 235 (va_cpy (h 36) (h 235) 0 0 60)) 236 (va_cpy (h 37) (h 236) 0 0 60))) C dX5_copyFrom_169 k5_70 v_X11_copyRow rfl rfl (by decide) (Nat.zero_le _) (Nat.zero_le _) (Nat.le_of_ble_eq_true rfl) (c_X11_copyRow hR 37 236 60 bn_37 sh_37 bn_236 sh_236 (by decide)) ?_
  refine am_aload_n (pc := 172) C dX5_copyFrom_172 rfl ?_
  refine am_getR (pc := 173) (j := 38) C dX5_copyFrom_173 f5_52 bn_25 sh_25 (rf_25_17 hR) ?_
  refine am_aload_n (pc := 176) C dX5_copyFrom_176 rfl ?_
  refine am_getR (pc := 177) (j := 237) C dX5_copyFrom_177 f5_52 bn_224 sh_224 (rf_224_17 hR) ?_
  refine am_callSNv (Y := mX11_copyRow) (pc := 180) (st := []) (As := [.ref 38, .ref 237]) (h2 := (am_row (am_row (am_row (am_row (am_row (am_row (am_row (am_row (am_row (am_row (am_row (am_row (am_row (am_row h 224 (upd (upd (upd (upd (upd (h 224) 0 ((h 25) 0)) 1 ((h 25) 1)) 2 ((h 25) 2)) 3 ((h 25) 3)) 4 ((h 25) 4))) 225 (va_cpy (h 26) (h 225) 0 0 10)) 226 (va_cpy (h 27) (h 226) 0 0 10)) 227 (va_cpy (h 28) (h 227) 0 0 10)) 228 (va_cpy (h 29) (h 228) 0 0 10)) 229 (va_cpy (h 30) (h 229) 0 0 10)) 230 (va_cpy (h 31) (h 230) 0 0 120)) 231 (va_cpy (h 32) (h 231) 0 0 40)) 232 (va_cpy (h 33) (h 232) 0 0 40)) 233 (va_cpy (h 34) (h 233) 0 0 40)) 234 (va_cpy (h 35) (h 234) 0 0 60)) 235 (va_cpy (h 36) (h 235) 0 0 60)) 236 (va_cpy (h 37) (h 236) 0 0 60)) 237 (va_cpy (h 38) (h 237) 0 0 60))) C dX5_copyFrom_180 k5_70 v_X11_copyRow rfl rfl (by decide) (Nat.zero_le _) (Nat.zero_le _) (Nat.le_of_ble_eq_true rfl) (c_X11_copyRow hR 38 237 60 bn_38 sh_38 bn_237 sh_237 (by decide)) ?_
  refine am_aload_n (pc := 183) C dX5_copyFrom_183 rfl ?_
  refine am_getR (pc := 184) (j := 39) C dX5_copyFrom_184 f5_55 bn_25 sh_25 (rf_25_18 hR) ?_
  refine am_aload_n (pc := 187) C dX5_copyFrom_187 rfl ?_
  refine am_getR (pc := 188) (j := 238) C dX5_copyFrom_188 f5_55 bn_224 sh_224 (rf_224_18 hR) ?_
  refine am_callSNv (Y := mX11_copyRow) (pc := 191) (st := []) (As := [.ref 39, .ref 238]) (h2 := (am_row (am_row (am_row (am_row (am_row (am_row (am_row (am_row (am_row (am_row (am_row (am_row (am_row (am_row (am_row h 224 (upd (upd (upd (upd (upd (h 224) 0 ((h 25) 0)) 1 ((h 25) 1)) 2 ((h 25) 2)) 3 ((h 25) 3)) 4 ((h 25) 4))) 225 (va_cpy (h 26) (h 225) 0 0 10)) 226 (va_cpy (h 27) (h 226) 0 0 10)) 227 (va_cpy (h 28) (h 227) 0 0 10)) 228 (va_cpy (h 29) (h 228) 0 0 10)) 229 (va_cpy (h 30) (h 229) 0 0 10)) 230 (va_cpy (h 31) (h 230) 0 0 120)) 231 (va_cpy (h 32) (h 231) 0 0 40)) 232 (va_cpy (h 33) (h 232) 0 0 40)) 233 (va_cpy (h 34) (h 233) 0 0 40)) 234 (va_cpy (h 35) (h 234) 0 0 60)) 235 (va_cpy (h 36) (h 235) 0 0 60)) 236 (va_cpy (h 37) (h 236) 0 0 60)) 237 (va_cpy (h 38) (h 237) 0 0 60)) 238 (va_cpy (h 39) (h 238) 0 0 60))) C dX5_copyFrom_191 k5_70 v_X11_copyRow rfl rfl (by decide) (Nat.zero_le _) (Nat.zero_le _) (Nat.le_of_ble_eq_true rfl) (c_X11_copyRow hR 39 238 60 bn_39 sh_39 bn_238 sh_238 (by decide)) ?_
  exact am_vretvr T dX5_copyFrom_194 rfl (Nat.le_refl _) (Nat.le_refl _) rfl ⟨cl_Sc_cpy hV hSc rfl rfl rfl rfl rfl (fun k hk => va_cpy_0 hk) (fun k hk => va_cpy_0 hk) (fun k hk => va_cpy_0 hk) (fun k hk => va_cpy_0 hk) (fun k hk => va_cpy_0 hk) (fun k hk => va_cpy_0 hk) (fun k hk => va_cpy_0 hk) (fun k hk => va_cpy_0 hk) (fun k hk => va_cpy_0 hk) (fun k hk => va_cpy_0 hk) (fun k hk => va_cpy_0 hk) (fun k hk => va_cpy_0 hk) (fun k hk => va_cpy_0 hk) (fun k hk => va_cpy_0 hk), (fun i9 h9 => by rw [am_row_ne _ _ _ (by omega), am_row_ne _ _ _ (by omega), am_row_ne _ _ _ (by omega), am_row_ne _ _ _ (by omega), am_row_ne _ _ _ (by omega), am_row_ne _ _ _ (by omega), am_row_ne _ _ _ (by omega), am_row_ne _ _ _ (by omega), am_row_ne _ _ _ (by omega), am_row_ne _ _ _ (by omega), am_row_ne _ _ _ (by omega), am_row_ne _ _ _ (by omega), am_row_ne _ _ _ (by omega), am_row_ne _ _ _ (by omega), am_row_ne _ _ _ (by omega)])⟩

set_option maxHeartbeats 400000 in
set_option maxRecDepth 100000 in
theorem c_X5_copyFrom_d_s7 {ad : Nat → Nat} {r : am_R} (hR : am_rs r) {h : am_H}  (w : rf_W) (hV : rf_I w) (hSc : cl_Sc (h) 25 w)  : am_CM mX5_copyFrom 3 0 0 [.ref 239, .ref 25] (am_VV ad) r h (am_pr none r (fun c9 => cl_Sc c9 239 w ∧ cl_fr (h) c9 239 15)) := by
  refine am_CM.of (by decide +kernel) (Nat.le_of_ble_eq_true rfl) (fun X C T => ?_)
  show am_G X (am_VV ad) (0, 0) 0 [(0, .ref 239), (1, .ref 25)] [] r h
  refine am_aload_n (pc := 0) C dX5_copyFrom_0 rfl ?_
  refine am_aload_n (pc := 1) C dX5_copyFrom_1 rfl ?_
  refine am_getI (pc := 2) C dX5_copyFrom_2 f5_58 bn_25 sh_25 ?_
  refine am_putI (pc := 5) C dX5_copyFrom_5 f5_58 bn_239 sh_239 rfl rfl ?_
  refine am_hp (show am_up h 239 0 ((h 25) 0) = am_row h 239 (upd (h 239) 0 ((h 25) 0)) from am_up_rw _ _ _ _) ?_
  refine am_aload_n (pc := 8) C dX5_copyFrom_8 rfl ?_
  refine am_aload_n (pc := 9) C dX5_copyFrom_9 rfl ?_
  refine am_getI (pc := 10) C dX5_copyFrom_10 f5_9 bn_25 sh_25 ?_
  refine am_putI (pc := 13) C dX5_copyFrom_13 f5_9 bn_239 sh_239 rfl rfl ?_
  refine am_hp (show am_up (am_row h 239 (upd (h 239) 0 ((h 25) 0))) 239 1 ((h 25) 1) = am_row (am_row h 239 (upd (h 239) 0 ((h 25) 0))) 239 (upd (upd (h 239) 0 ((h 25) 0)) 1 ((h 25) 1)) from am_up_rw _ _ _ _) ?_
  refine am_hp (show am_row (am_row h 239 (upd (h 239) 0 ((h 25) 0))) 239 (upd (upd (h 239) 0 ((h 25) 0)) 1 ((h 25) 1)) = (am_row h 239 (upd (upd (h 239) 0 ((h 25) 0)) 1 ((h 25) 1))) from am_row_s0) ?_
  refine am_aload_n (pc := 16) C dX5_copyFrom_16 rfl ?_
  refine am_aload_n (pc := 17) C dX5_copyFrom_17 rfl ?_
  refine am_getI (pc := 18) C dX5_copyFrom_18 f5_61 bn_25 sh_25 ?_
  refine am_putI (pc := 21) C dX5_copyFrom_21 f5_61 bn_239 sh_239 rfl rfl ?_
  refine am_hp (show am_up (am_row h 239 (upd (upd (h 239) 0 ((h 25) 0)) 1 ((h 25) 1))) 239 2 ((h 25) 2) = am_row (am_row h 239 (upd (upd (h 239) 0 ((h 25) 0)) 1 ((h 25) 1))) 239 (upd (upd (upd (h 239) 0 ((h 25) 0)) 1 ((h 25) 1)) 2 ((h 25) 2)) from am_up_rw _ _ _ _) ?_
  refine am_hp (show am_row (am_row h 239 (upd (upd (h 239) 0 ((h 25) 0)) 1 ((h 25) 1))) 239 (upd (upd (upd (h 239) 0 ((h 25) 0)) 1 ((h 25) 1)) 2 ((h 25) 2)) = (am_row h 239 (upd (upd (upd (h 239) 0 ((h 25) 0)) 1 ((h 25) 1)) 2 ((h 25) 2))) from am_row_s0) ?_
  refine am_aload_n (pc := 24) C dX5_copyFrom_24 rfl ?_
  refine am_aload_n (pc := 25) C dX5_copyFrom_25 rfl ?_
  refine am_getI (pc := 26) C dX5_copyFrom_26 f5_64 bn_25 sh_25 ?_
  refine am_putI (pc := 29) C dX5_copyFrom_29 f5_64 bn_239 sh_239 rfl rfl ?_
  refine am_hp (show am_up (am_row h 239 (upd (upd (upd (h 239) 0 ((h 25) 0)) 1 ((h 25) 1)) 2 ((h 25) 2))) 239 3 ((h 25) 3) = am_row (am_row h 239 (upd (upd (upd (h 239) 0 ((h 25) 0)) 1 ((h 25) 1)) 2 ((h 25) 2))) 239 (upd (upd (upd (upd (h 239) 0 ((h 25) 0)) 1 ((h 25) 1)) 2 ((h 25) 2)) 3 ((h 25) 3)) from am_up_rw _ _ _ _) ?_
  refine am_hp (show am_row (am_row h 239 (upd (upd (upd (h 239) 0 ((h 25) 0)) 1 ((h 25) 1)) 2 ((h 25) 2))) 239 (upd (upd (upd (upd (h 239) 0 ((h 25) 0)) 1 ((h 25) 1)) 2 ((h 25) 2)) 3 ((h 25) 3)) = (am_row h 239 (upd (upd (upd (upd (h 239) 0 ((h 25) 0)) 1 ((h 25) 1)) 2 ((h 25) 2)) 3 ((h 25) 3))) from am_row_s0) ?_
  refine am_aload_n (pc := 32) C dX5_copyFrom_32 rfl ?_
  refine am_aload_n (pc := 33) C dX5_copyFrom_33 rfl ?_
  refine am_getI (pc := 34) C dX5_copyFrom_34 f5_67 bn_25 sh_25 ?_
  refine am_putI (pc := 37) C dX5_copyFrom_37 f5_67 bn_239 sh_239 rfl rfl ?_
  refine am_hp (show am_up (am_row h 239 (upd (upd (upd (upd (h 239) 0 ((h 25) 0)) 1 ((h 25) 1)) 2 ((h 25) 2)) 3 ((h 25) 3))) 239 4 ((h 25) 4) = am_row (am_row h 239 (upd (upd (upd (upd (h 239) 0 ((h 25) 0)) 1 ((h 25) 1)) 2 ((h 25) 2)) 3 ((h 25) 3))) 239 (upd (upd (upd (upd (upd (h 239) 0 ((h 25) 0)) 1 ((h 25) 1)) 2 ((h 25) 2)) 3 ((h 25) 3)) 4 ((h 25) 4)) from am_up_rw _ _ _ _) ?_
  refine am_hp (show am_row (am_row h 239 (upd (upd (upd (upd (h 239) 0 ((h 25) 0)) 1 ((h 25) 1)) 2 ((h 25) 2)) 3 ((h 25) 3))) 239 (upd (upd (upd (upd (upd (h 239) 0 ((h 25) 0)) 1 ((h 25) 1)) 2 ((h 25) 2)) 3 ((h 25) 3)) 4 ((h 25) 4)) = (am_row h 239 (upd (upd (upd (upd (upd (h 239) 0 ((h 25) 0)) 1 ((h 25) 1)) 2 ((h 25) 2)) 3 ((h 25) 3)) 4 ((h 25) 4))) from am_row_s0) ?_
  refine am_aload_n (pc := 40) C dX5_copyFrom_40 rfl ?_
  refine am_getR (pc := 41) (j := 26) C dX5_copyFrom_41 f5_15 bn_25 sh_25 (rf_25_5 hR) ?_
  refine am_aload_n (pc := 44) C dX5_copyFrom_44 rfl ?_
  refine am_getR (pc := 45) (j := 240) C dX5_copyFrom_45 f5_15 bn_239 sh_239 (rf_239_5 hR) ?_
  refine am_callSNv (Y := mX11_copyRow) (pc := 48) (st := []) (As := [.ref 26, .ref 240]) (h2 := (am_row (am_row h 239 (upd (upd (upd (upd (upd (h 239) 0 ((h 25) 0)) 1 ((h 25) 1)) 2 ((h 25) 2)) 3 ((h 25) 3)) 4 ((h 25) 4))) 240 (va_cpy (h 26) (h 240) 0 0 10))) C dX5_copyFrom_48 k5_70 v_X11_copyRow rfl rfl (by decide) (Nat.zero_le _) (Nat.zero_le _) (Nat.le_of_ble_eq_true rfl) (c_X11_copyRow hR 26 240 10 bn_26 sh_26 bn_240 sh_240 (by decide)) ?_
  refine am_aload_n (pc := 51) C dX5_copyFrom_51 rfl ?_
  refine am_getR (pc := 52) (j := 27) C dX5_copyFrom_52 f5_19 bn_25 sh_25 (rf_25_6 hR) ?_
  refine am_aload_n (pc := 55) C dX5_copyFrom_55 rfl ?_
  refine am_getR (pc := 56) (j := 241) C dX5_copyFrom_56 f5_19 bn_239 sh_239 (rf_239_6 hR) ?_
  refine am_callSNv (Y := mX11_copyRow) (pc := 59) (st := []) (As := [.ref 27, .ref 241]) (h2 := (am_row (am_row (am_row h 239 (upd (upd (upd (upd (upd (h 239) 0 ((h 25) 0)) 1 ((h 25) 1)) 2 ((h 25) 2)) 3 ((h 25) 3)) 4 ((h 25) 4))) 240 (va_cpy (h 26) (h 240) 0 0 10)) 241 (va_cpy (h 27) (h 241) 0 0 10))) C dX5_copyFrom_59 k5_70 v_X11_copyRow rfl rfl (by decide) (Nat.zero_le _) (Nat.zero_le _) (Nat.le_of_ble_eq_true rfl) (c_X11_copyRow hR 27 241 10 bn_27 sh_27 bn_241 sh_241 (by decide)) ?_
  refine am_aload_n (pc := 62) C dX5_copyFrom_62 rfl ?_
  refine am_getR (pc := 63) (j := 28) C dX5_copyFrom_63 f5_22 bn_25 sh_25 (rf_25_7 hR) ?_
  refine am_aload_n (pc := 66) C dX5_copyFrom_66 rfl ?_
  refine am_getR (pc := 67) (j := 242) C dX5_copyFrom_67 f5_22 bn_239 sh_239 (rf_239_7 hR) ?_
  refine am_callSNv (Y := mX11_copyRow) (pc := 70) (st := []) (As := [.ref 28, .ref 242]) (h2 := (am_row (am_row (am_row (am_row h 239 (upd (upd (upd (upd (upd (h 239) 0 ((h 25) 0)) 1 ((h 25) 1)) 2 ((h 25) 2)) 3 ((h 25) 3)) 4 ((h 25) 4))) 240 (va_cpy (h 26) (h 240) 0 0 10)) 241 (va_cpy (h 27) (h 241) 0 0 10)) 242 (va_cpy (h 28) (h 242) 0 0 10))) C dX5_copyFrom_70 k5_70 v_X11_copyRow rfl rfl (by decide) (Nat.zero_le _) (Nat.zero_le _) (Nat.le_of_ble_eq_true rfl) (c_X11_copyRow hR 28 242 10 bn_28 sh_28 bn_242 sh_242 (by decide)) ?_
  refine am_aload_n (pc := 73) C dX5_copyFrom_73 rfl ?_
  refine am_getR (pc := 74) (j := 29) C dX5_copyFrom_74 f5_25 bn_25 sh_25 (rf_25_8 hR) ?_
  refine am_aload_n (pc := 77) C dX5_copyFrom_77 rfl ?_
  refine am_getR (pc := 78) (j := 243) C dX5_copyFrom_78 f5_25 bn_239 sh_239 (rf_239_8 hR) ?_
  refine am_callSNv (Y := mX11_copyRow) (pc := 81) (st := []) (As := [.ref 29, .ref 243]) (h2 := (am_row (am_row (am_row (am_row (am_row h 239 (upd (upd (upd (upd (upd (h 239) 0 ((h 25) 0)) 1 ((h 25) 1)) 2 ((h 25) 2)) 3 ((h 25) 3)) 4 ((h 25) 4))) 240 (va_cpy (h 26) (h 240) 0 0 10)) 241 (va_cpy (h 27) (h 241) 0 0 10)) 242 (va_cpy (h 28) (h 242) 0 0 10)) 243 (va_cpy (h 29) (h 243) 0 0 10))) C dX5_copyFrom_81 k5_70 v_X11_copyRow rfl rfl (by decide) (Nat.zero_le _) (Nat.zero_le _) (Nat.le_of_ble_eq_true rfl) (c_X11_copyRow hR 29 243 10 bn_29 sh_29 bn_243 sh_243 (by decide)) ?_
  refine am_aload_n (pc := 84) C dX5_copyFrom_84 rfl ?_
  refine am_getR (pc := 85) (j := 30) C dX5_copyFrom_85 f5_28 bn_25 sh_25 (rf_25_9 hR) ?_
  refine am_aload_n (pc := 88) C dX5_copyFrom_88 rfl ?_
  refine am_getR (pc := 89) (j := 244) C dX5_copyFrom_89 f5_28 bn_239 sh_239 (rf_239_9 hR) ?_
  refine am_callSNv (Y := mX11_copyRow) (pc := 92) (st := []) (As := [.ref 30, .ref 244]) (h2 := (am_row (am_row (am_row (am_row (am_row (am_row h 239 (upd (upd (upd (upd (upd (h 239) 0 ((h 25) 0)) 1 ((h 25) 1)) 2 ((h 25) 2)) 3 ((h 25) 3)) 4 ((h 25) 4))) 240 (va_cpy (h 26) (h 240) 0 0 10)) 241 (va_cpy (h 27) (h 241) 0 0 10)) 242 (va_cpy (h 28) (h 242) 0 0 10)) 243 (va_cpy (h 29) (h 243) 0 0 10)) 244 (va_cpy (h 30) (h 244) 0 0 10))) C dX5_copyFrom_92 k5_70 v_X11_copyRow rfl rfl (by decide) (Nat.zero_le _) (Nat.zero_le _) (Nat.le_of_ble_eq_true rfl) (c_X11_copyRow hR 30 244 10 bn_30 sh_30 bn_244 sh_244 (by decide)) ?_
  refine am_aload_n (pc := 95) C dX5_copyFrom_95 rfl ?_
  refine am_getR (pc := 96) (j := 31) C dX5_copyFrom_96 f5_31 bn_25 sh_25 (rf_25_10 hR) ?_
  refine am_aload_n (pc := 99) C dX5_copyFrom_99 rfl ?_
  refine am_getR (pc := 100) (j := 245) C dX5_copyFrom_100 f5_31 bn_239 sh_239 (rf_239_10 hR) ?_
  refine am_callSNv (Y := mX11_copyRow) (pc := 103) (st := []) (As := [.ref 31, .ref 245]) (h2 := (am_row (am_row (am_row (am_row (am_row (am_row (am_row h 239 (upd (upd (upd (upd (upd (h 239) 0 ((h 25) 0)) 1 ((h 25) 1)) 2 ((h 25) 2)) 3 ((h 25) 3)) 4 ((h 25) 4))) 240 (va_cpy (h 26) (h 240) 0 0 10)) 241 (va_cpy (h 27) (h 241) 0 0 10)) 242 (va_cpy (h 28) (h 242) 0 0 10)) 243 (va_cpy (h 29) (h 243) 0 0 10)) 244 (va_cpy (h 30) (h 244) 0 0 10)) 245 (va_cpy (h 31) (h 245) 0 0 120))) C dX5_copyFrom_103 k5_70 v_X11_copyRow rfl rfl (by decide) (Nat.zero_le _) (Nat.zero_le _) (Nat.le_of_ble_eq_true rfl) (c_X11_copyRow hR 31 245 120 bn_31 sh_31 bn_245 sh_245 (by decide)) ?_
  refine am_aload_n (pc := 106) C dX5_copyFrom_106 rfl ?_
  refine am_getR (pc := 107) (j := 32) C dX5_copyFrom_107 f5_34 bn_25 sh_25 (rf_25_11 hR) ?_
  refine am_aload_n (pc := 110) C dX5_copyFrom_110 rfl ?_
  refine am_getR (pc := 111) (j := 246) C dX5_copyFrom_111 f5_34 bn_239 sh_239 (rf_239_11 hR) ?_
  refine am_callSNv (Y := mX11_copyRow) (pc := 114) (st := []) (As := [.ref 32, .ref 246]) (h2 := (am_row (am_row (am_row (am_row (am_row (am_row (am_row (am_row h 239 (upd (upd (upd (upd (upd (h 239) 0 ((h 25) 0)) 1 ((h 25) 1)) 2 ((h 25) 2)) 3 ((h 25) 3)) 4 ((h 25) 4))) 240 (va_cpy (h 26) (h 240) 0 0 10)) 241 (va_cpy (h 27) (h 241) 0 0 10)) 242 (va_cpy (h 28) (h 242) 0 0 10)) 243 (va_cpy (h 29) (h 243) 0 0 10)) 244 (va_cpy (h 30) (h 244) 0 0 10)) 245 (va_cpy (h 31) (h 245) 0 0 120)) 246 (va_cpy (h 32) (h 246) 0 0 40))) C dX5_copyFrom_114 k5_70 v_X11_copyRow rfl rfl (by decide) (Nat.zero_le _) (Nat.zero_le _) (Nat.le_of_ble_eq_true rfl) (c_X11_copyRow hR 32 246 40 bn_32 sh_32 bn_246 sh_246 (by decide)) ?_
  refine am_aload_n (pc := 117) C dX5_copyFrom_117 rfl ?_
  refine am_getR (pc := 118) (j := 33) C dX5_copyFrom_118 f5_37 bn_25 sh_25 (rf_25_12 hR) ?_
  refine am_aload_n (pc := 121) C dX5_copyFrom_121 rfl ?_
  refine am_getR (pc := 122) (j := 247) C dX5_copyFrom_122 f5_37 bn_239 sh_239 (rf_239_12 hR) ?_
  refine am_callSNv (Y := mX11_copyRow) (pc := 125) (st := []) (As := [.ref 33, .ref 247]) (h2 := (am_row (am_row (am_row (am_row (am_row (am_row (am_row (am_row (am_row h 239 (upd (upd (upd (upd (upd (h 239) 0 ((h 25) 0)) 1 ((h 25) 1)) 2 ((h 25) 2)) 3 ((h 25) 3)) 4 ((h 25) 4))) 240 (va_cpy (h 26) (h 240) 0 0 10)) 241 (va_cpy (h 27) (h 241) 0 0 10)) 242 (va_cpy (h 28) (h 242) 0 0 10)) 243 (va_cpy (h 29) (h 243) 0 0 10)) 244 (va_cpy (h 30) (h 244) 0 0 10)) 245 (va_cpy (h 31) (h 245) 0 0 120)) 246 (va_cpy (h 32) (h 246) 0 0 40)) 247 (va_cpy (h 33) (h 247) 0 0 40))) C dX5_copyFrom_125 k5_70 v_X11_copyRow rfl rfl (by decide) (Nat.zero_le _) (Nat.zero_le _) (Nat.le_of_ble_eq_true rfl) (c_X11_copyRow hR 33 247 40 bn_33 sh_33 bn_247 sh_247 (by decide)) ?_
  refine am_aload_n (pc := 128) C dX5_copyFrom_128 rfl ?_
  refine am_getR (pc := 129) (j := 34) C dX5_copyFrom_129 f5_40 bn_25 sh_25 (rf_25_13 hR) ?_
  refine am_aload_n (pc := 132) C dX5_copyFrom_132 rfl ?_
  refine am_getR (pc := 133) (j := 248) C dX5_copyFrom_133 f5_40 bn_239 sh_239 (rf_239_13 hR) ?_
  refine am_callSNv (Y := mX11_copyRow) (pc := 136) (st := []) (As := [.ref 34, .ref 248]) (h2 := (am_row (am_row (am_row (am_row (am_row (am_row (am_row (am_row (am_row (am_row h 239 (upd (upd (upd (upd (upd (h 239) 0 ((h 25) 0)) 1 ((h 25) 1)) 2 ((h 25) 2)) 3 ((h 25) 3)) 4 ((h 25) 4))) 240 (va_cpy (h 26) (h 240) 0 0 10)) 241 (va_cpy (h 27) (h 241) 0 0 10)) 242 (va_cpy (h 28) (h 242) 0 0 10)) 243 (va_cpy (h 29) (h 243) 0 0 10)) 244 (va_cpy (h 30) (h 244) 0 0 10)) 245 (va_cpy (h 31) (h 245) 0 0 120)) 246 (va_cpy (h 32) (h 246) 0 0 40)) 247 (va_cpy (h 33) (h 247) 0 0 40)) 248 (va_cpy (h 34) (h 248) 0 0 40))) C dX5_copyFrom_136 k5_70 v_X11_copyRow rfl rfl (by decide) (Nat.zero_le _) (Nat.zero_le _) (Nat.le_of_ble_eq_true rfl) (c_X11_copyRow hR 34 248 40 bn_34 sh_34 bn_248 sh_248 (by decide)) ?_
  refine am_aload_n (pc := 139) C dX5_copyFrom_139 rfl ?_
  refine am_getR (pc := 140) (j := 35) C dX5_copyFrom_140 f5_43 bn_25 sh_25 (rf_25_14 hR) ?_
  refine am_aload_n (pc := 143) C dX5_copyFrom_143 rfl ?_
  refine am_getR (pc := 144) (j := 249) C dX5_copyFrom_144 f5_43 bn_239 sh_239 (rf_239_14 hR) ?_
  refine am_callSNv (Y := mX11_copyRow) (pc := 147) (st := []) (As := [.ref 35, .ref 249]) (h2 := (am_row (am_row (am_row (am_row (am_row (am_row (am_row (am_row (am_row (am_row (am_row h 239 (upd (upd (upd (upd (upd (h 239) 0 ((h 25) 0)) 1 ((h 25) 1)) 2 ((h 25) 2)) 3 ((h 25) 3)) 4 ((h 25) 4))) 240 (va_cpy (h 26) (h 240) 0 0 10)) 241 (va_cpy (h 27) (h 241) 0 0 10)) 242 (va_cpy (h 28) (h 242) 0 0 10)) 243 (va_cpy (h 29) (h 243) 0 0 10)) 244 (va_cpy (h 30) (h 244) 0 0 10)) 245 (va_cpy (h 31) (h 245) 0 0 120)) 246 (va_cpy (h 32) (h 246) 0 0 40)) 247 (va_cpy (h 33) (h 247) 0 0 40)) 248 (va_cpy (h 34) (h 248) 0 0 40)) 249 (va_cpy (h 35) (h 249) 0 0 60))) C dX5_copyFrom_147 k5_70 v_X11_copyRow rfl rfl (by decide) (Nat.zero_le _) (Nat.zero_le _) (Nat.le_of_ble_eq_true rfl) (c_X11_copyRow hR 35 249 60 bn_35 sh_35 bn_249 sh_249 (by decide)) ?_
  refine am_aload_n (pc := 150) C dX5_copyFrom_150 rfl ?_
  refine am_getR (pc := 151) (j := 36) C dX5_copyFrom_151 f5_46 bn_25 sh_25 (rf_25_15 hR) ?_
  refine am_aload_n (pc := 154) C dX5_copyFrom_154 rfl ?_
  refine am_getR (pc := 155) (j := 250) C dX5_copyFrom_155 f5_46 bn_239 sh_239 (rf_239_15 hR) ?_
  refine am_callSNv (Y := mX11_copyRow) (pc := 158) (st := []) (As := [.ref 36, .ref 250]) (h2 := (am_row (am_row (am_row (am_row (am_row (am_row (am_row (am_row (am_row (am_row (am_row (am_row h 239 (upd (upd (upd (upd (upd (h 239) 0 ((h 25) 0)) 1 ((h 25) 1)) 2 ((h 25) 2)) 3 ((h 25) 3)) 4 ((h 25) 4))) 240 (va_cpy (h 26) (h 240) 0 0 10)) 241 (va_cpy (h 27) (h 241) 0 0 10)) 242 (va_cpy (h 28) (h 242) 0 0 10)) 243 (va_cpy (h 29) (h 243) 0 0 10)) 244 (va_cpy (h 30) (h 244) 0 0 10)) 245 (va_cpy (h 31) (h 245) 0 0 120)) 246 (va_cpy (h 32) (h 246) 0 0 40)) 247 (va_cpy (h 33) (h 247) 0 0 40)) 248 (va_cpy (h 34) (h 248) 0 0 40)) 249 (va_cpy (h 35) (h 249) 0 0 60)) 250 (va_cpy (h 36) (h 250) 0 0 60))) C dX5_copyFrom_158 k5_70 v_X11_copyRow rfl rfl (by decide) (Nat.zero_le _) (Nat.zero_le _) (Nat.le_of_ble_eq_true rfl) (c_X11_copyRow hR 36 250 60 bn_36 sh_36 bn_250 sh_250 (by decide)) ?_
  refine am_aload_n (pc := 161) C dX5_copyFrom_161 rfl ?_
  refine am_getR (pc := 162) (j := 37) C dX5_copyFrom_162 f5_49 bn_25 sh_25 (rf_25_16 hR) ?_
  refine am_aload_n (pc := 165) C dX5_copyFrom_165 rfl ?_
  refine am_getR (pc := 166) (j := 251) C dX5_copyFrom_166 f5_49 bn_239 sh_239 (rf_239_16 hR) ?_
  refine am_callSNv (Y := mX11_copyRow) (pc := 169) (st := []) (As := [.ref 37, .ref 251]) (h2 := (am_row (am_row (am_row (am_row (am_row (am_row (am_row (am_row (am_row (am_row (am_row (am_row (am_row h 239 (upd (upd (upd (upd (upd (h 239) 0 ((h 25) 0)) 1 ((h 25) 1)) 2 ((h 25) 2)) 3 ((h 25) 3)) 4 ((h 25) 4))) 240 (va_cpy (h 26) (h 240) 0 0 10)) 241 (va_cpy (h 27) (h 241) 0 0 10)) 242 (va_cpy (h 28) (h 242) 0 0 10)) 243 (va_cpy (h 29) (h 243) 0 0 10)) 244 (va_cpy (h 30) (h 244) 0 0 10)) 245 (va_cpy (h 31) (h 245) 0 0 120)) 246 (va_cpy (h 32) (h 246) 0 0 40)) 247 (va_cpy (h 33) (h 247) 0 0 40)) 248 (va_cpy (h 34) (h 248) 0 0 40)) 249 (va_cpy (h 35) (h 249) 0 0 60)) 250 (va_cpy (h 36) (h 250) 0 0 60)) 251 (va_cpy (h 37) (h 251) 0 0 60))) C dX5_copyFrom_169 k5_70 v_X11_copyRow rfl rfl (by decide) (Nat.zero_le _) (Nat.zero_le _) (Nat.le_of_ble_eq_true rfl) (c_X11_copyRow hR 37 251 60 bn_37 sh_37 bn_251 sh_251 (by decide)) ?_
  refine am_aload_n (pc := 172) C dX5_copyFrom_172 rfl ?_
  refine am_getR (pc := 173) (j := 38) C dX5_copyFrom_173 f5_52 bn_25 sh_25 (rf_25_17 hR) ?_
  refine am_aload_n (pc := 176) C dX5_copyFrom_176 rfl ?_
  refine am_getR (pc := 177) (j := 252) C dX5_copyFrom_177 f5_52 bn_239 sh_239 (rf_239_17 hR) ?_
  refine am_callSNv (Y := mX11_copyRow) (pc := 180) (st := []) (As := [.ref 38, .ref 252]) (h2 := (am_row (am_row (am_row (am_row (am_row (am_row (am_row (am_row (am_row (am_row (am_row (am_row (am_row (am_row h 239 (upd (upd (upd (upd (upd (h 239) 0 ((h 25) 0)) 1 ((h 25) 1)) 2 ((h 25) 2)) 3 ((h 25) 3)) 4 ((h 25) 4))) 240 (va_cpy (h 26) (h 240) 0 0 10)) 241 (va_cpy (h 27) (h 241) 0 0 10)) 242 (va_cpy (h 28) (h 242) 0 0 10)) 243 (va_cpy (h 29) (h 243) 0 0 10)) 244 (va_cpy (h 30) (h 244) 0 0 10)) 245 (va_cpy (h 31) (h 245) 0 0 120)) 246 (va_cpy (h 32) (h 246) 0 0 40)) 247 (va_cpy (h 33) (h 247) 0 0 40)) 248 (va_cpy (h 34) (h 248) 0 0 40)) 249 (va_cpy (h 35) (h 249) 0 0 60)) 250 (va_cpy (h 36) (h 250) 0 0 60)) 251 (va_cpy (h 37) (h 251) 0 0 60)) 252 (va_cpy (h 38) (h 252) 0 0 60))) C dX5_copyFrom_180 k5_70 v_X11_copyRow rfl rfl (by decide) (Nat.zero_le _) (Nat.zero_le _) (Nat.le_of_ble_eq_true rfl) (c_X11_copyRow hR 38 252 60 bn_38 sh_38 bn_252 sh_252 (by decide)) ?_
  refine am_aload_n (pc := 183) C dX5_copyFrom_183 rfl ?_
  refine am_getR (pc := 184) (j := 39) C dX5_copyFrom_184 f5_55 bn_25 sh_25 (rf_25_18 hR) ?_
  refine am_aload_n (pc := 187) C dX5_copyFrom_187 rfl ?_
  refine am_getR (pc := 188) (j := 253) C dX5_copyFrom_188 f5_55 bn_239 sh_239 (rf_239_18 hR) ?_
  refine am_callSNv (Y := mX11_copyRow) (pc := 191) (st := []) (As := [.ref 39, .ref 253]) (h2 := (am_row (am_row (am_row (am_row (am_row (am_row (am_row (am_row (am_row (am_row (am_row (am_row (am_row (am_row (am_row h 239 (upd (upd (upd (upd (upd (h 239) 0 ((h 25) 0)) 1 ((h 25) 1)) 2 ((h 25) 2)) 3 ((h 25) 3)) 4 ((h 25) 4))) 240 (va_cpy (h 26) (h 240) 0 0 10)) 241 (va_cpy (h 27) (h 241) 0 0 10)) 242 (va_cpy (h 28) (h 242) 0 0 10)) 243 (va_cpy (h 29) (h 243) 0 0 10)) 244 (va_cpy (h 30) (h 244) 0 0 10)) 245 (va_cpy (h 31) (h 245) 0 0 120)) 246 (va_cpy (h 32) (h 246) 0 0 40)) 247 (va_cpy (h 33) (h 247) 0 0 40)) 248 (va_cpy (h 34) (h 248) 0 0 40)) 249 (va_cpy (h 35) (h 249) 0 0 60)) 250 (va_cpy (h 36) (h 250) 0 0 60)) 251 (va_cpy (h 37) (h 251) 0 0 60)) 252 (va_cpy (h 38) (h 252) 0 0 60)) 253 (va_cpy (h 39) (h 253) 0 0 60))) C dX5_copyFrom_191 k5_70 v_X11_copyRow rfl rfl (by decide) (Nat.zero_le _) (Nat.zero_le _) (Nat.le_of_ble_eq_true rfl) (c_X11_copyRow hR 39 253 60 bn_39 sh_39 bn_253 sh_253 (by decide)) ?_
  exact am_vretvr T dX5_copyFrom_194 rfl (Nat.le_refl _) (Nat.le_refl _) rfl ⟨cl_Sc_cpy hV hSc rfl rfl rfl rfl rfl (fun k hk => va_cpy_0 hk) (fun k hk => va_cpy_0 hk) (fun k hk => va_cpy_0 hk) (fun k hk => va_cpy_0 hk) (fun k hk => va_cpy_0 hk) (fun k hk => va_cpy_0 hk) (fun k hk => va_cpy_0 hk) (fun k hk => va_cpy_0 hk) (fun k hk => va_cpy_0 hk) (fun k hk => va_cpy_0 hk) (fun k hk => va_cpy_0 hk) (fun k hk => va_cpy_0 hk) (fun k hk => va_cpy_0 hk) (fun k hk => va_cpy_0 hk), (fun i9 h9 => by rw [am_row_ne _ _ _ (by omega), am_row_ne _ _ _ (by omega), am_row_ne _ _ _ (by omega), am_row_ne _ _ _ (by omega), am_row_ne _ _ _ (by omega), am_row_ne _ _ _ (by omega), am_row_ne _ _ _ (by omega), am_row_ne _ _ _ (by omega), am_row_ne _ _ _ (by omega), am_row_ne _ _ _ (by omega), am_row_ne _ _ _ (by omega), am_row_ne _ _ _ (by omega), am_row_ne _ _ _ (by omega), am_row_ne _ _ _ (by omega), am_row_ne _ _ _ (by omega)])⟩

set_option maxHeartbeats 400000 in
set_option maxRecDepth 100000 in
theorem c_X5_copyFrom_d_s8 {ad : Nat → Nat} {r : am_R} (hR : am_rs r) {h : am_H}  (w : rf_W) (hV : rf_I w) (hSc : cl_Sc (h) 25 w)  : am_CM mX5_copyFrom 3 0 0 [.ref 254, .ref 25] (am_VV ad) r h (am_pr none r (fun c9 => cl_Sc c9 254 w ∧ cl_fr (h) c9 254 15)) := by
  refine am_CM.of (by decide +kernel) (Nat.le_of_ble_eq_true rfl) (fun X C T => ?_)
  show am_G X (am_VV ad) (0, 0) 0 [(0, .ref 254), (1, .ref 25)] [] r h
  refine am_aload_n (pc := 0) C dX5_copyFrom_0 rfl ?_
  refine am_aload_n (pc := 1) C dX5_copyFrom_1 rfl ?_
  refine am_getI (pc := 2) C dX5_copyFrom_2 f5_58 bn_25 sh_25 ?_
  refine am_putI (pc := 5) C dX5_copyFrom_5 f5_58 bn_254 sh_254 rfl rfl ?_
  refine am_hp (show am_up h 254 0 ((h 25) 0) = am_row h 254 (upd (h 254) 0 ((h 25) 0)) from am_up_rw _ _ _ _) ?_
  refine am_aload_n (pc := 8) C dX5_copyFrom_8 rfl ?_
  refine am_aload_n (pc := 9) C dX5_copyFrom_9 rfl ?_
  refine am_getI (pc := 10) C dX5_copyFrom_10 f5_9 bn_25 sh_25 ?_
  refine am_putI (pc := 13) C dX5_copyFrom_13 f5_9 bn_254 sh_254 rfl rfl ?_
  refine am_hp (show am_up (am_row h 254 (upd (h 254) 0 ((h 25) 0))) 254 1 ((h 25) 1) = am_row (am_row h 254 (upd (h 254) 0 ((h 25) 0))) 254 (upd (upd (h 254) 0 ((h 25) 0)) 1 ((h 25) 1)) from am_up_rw _ _ _ _) ?_
  refine am_hp (show am_row (am_row h 254 (upd (h 254) 0 ((h 25) 0))) 254 (upd (upd (h 254) 0 ((h 25) 0)) 1 ((h 25) 1)) = (am_row h 254 (upd (upd (h 254) 0 ((h 25) 0)) 1 ((h 25) 1))) from am_row_s0) ?_
  refine am_aload_n (pc := 16) C dX5_copyFrom_16 rfl ?_
  refine am_aload_n (pc := 17) C dX5_copyFrom_17 rfl ?_
  refine am_getI (pc := 18) C dX5_copyFrom_18 f5_61 bn_25 sh_25 ?_
  refine am_putI (pc := 21) C dX5_copyFrom_21 f5_61 bn_254 sh_254 rfl rfl ?_
  refine am_hp (show am_up (am_row h 254 (upd (upd (h 254) 0 ((h 25) 0)) 1 ((h 25) 1))) 254 2 ((h 25) 2) = am_row (am_row h 254 (upd (upd (h 254) 0 ((h 25) 0)) 1 ((h 25) 1))) 254 (upd (upd (upd (h 254) 0 ((h 25) 0)) 1 ((h 25) 1)) 2 ((h 25) 2)) from am_up_rw _ _ _ _) ?_
  refine am_hp (show am_row (am_row h 254 (upd (upd (h 254) 0 ((h 25) 0)) 1 ((h 25) 1))) 254 (upd (upd (upd (h 254) 0 ((h 25) 0)) 1 ((h 25) 1)) 2 ((h 25) 2)) = (am_row h 254 (upd (upd (upd (h 254) 0 ((h 25) 0)) 1 ((h 25) 1)) 2 ((h 25) 2))) from am_row_s0) ?_
  refine am_aload_n (pc := 24) C dX5_copyFrom_24 rfl ?_
  refine am_aload_n (pc := 25) C dX5_copyFrom_25 rfl ?_
  refine am_getI (pc := 26) C dX5_copyFrom_26 f5_64 bn_25 sh_25 ?_
  refine am_putI (pc := 29) C dX5_copyFrom_29 f5_64 bn_254 sh_254 rfl rfl ?_
  refine am_hp (show am_up (am_row h 254 (upd (upd (upd (h 254) 0 ((h 25) 0)) 1 ((h 25) 1)) 2 ((h 25) 2))) 254 3 ((h 25) 3) = am_row (am_row h 254 (upd (upd (upd (h 254) 0 ((h 25) 0)) 1 ((h 25) 1)) 2 ((h 25) 2))) 254 (upd (upd (upd (upd (h 254) 0 ((h 25) 0)) 1 ((h 25) 1)) 2 ((h 25) 2)) 3 ((h 25) 3)) from am_up_rw _ _ _ _) ?_
  refine am_hp (show am_row (am_row h 254 (upd (upd (upd (h 254) 0 ((h 25) 0)) 1 ((h 25) 1)) 2 ((h 25) 2))) 254 (upd (upd (upd (upd (h 254) 0 ((h 25) 0)) 1 ((h 25) 1)) 2 ((h 25) 2)) 3 ((h 25) 3)) = (am_row h 254 (upd (upd (upd (upd (h 254) 0 ((h 25) 0)) 1 ((h 25) 1)) 2 ((h 25) 2)) 3 ((h 25) 3))) from am_row_s0) ?_
  refine am_aload_n (pc := 32) C dX5_copyFrom_32 rfl ?_
  refine am_aload_n (pc := 33) C dX5_copyFrom_33 rfl ?_
  refine am_getI (pc := 34) C dX5_copyFrom_34 f5_67 bn_25 sh_25 ?_
  refine am_putI (pc := 37) C dX5_copyFrom_37 f5_67 bn_254 sh_254 rfl rfl ?_
  refine am_hp (show am_up (am_row h 254 (upd (upd (upd (upd (h 254) 0 ((h 25) 0)) 1 ((h 25) 1)) 2 ((h 25) 2)) 3 ((h 25) 3))) 254 4 ((h 25) 4) = am_row (am_row h 254 (upd (upd (upd (upd (h 254) 0 ((h 25) 0)) 1 ((h 25) 1)) 2 ((h 25) 2)) 3 ((h 25) 3))) 254 (upd (upd (upd (upd (upd (h 254) 0 ((h 25) 0)) 1 ((h 25) 1)) 2 ((h 25) 2)) 3 ((h 25) 3)) 4 ((h 25) 4)) from am_up_rw _ _ _ _) ?_
  refine am_hp (show am_row (am_row h 254 (upd (upd (upd (upd (h 254) 0 ((h 25) 0)) 1 ((h 25) 1)) 2 ((h 25) 2)) 3 ((h 25) 3))) 254 (upd (upd (upd (upd (upd (h 254) 0 ((h 25) 0)) 1 ((h 25) 1)) 2 ((h 25) 2)) 3 ((h 25) 3)) 4 ((h 25) 4)) = (am_row h 254 (upd (upd (upd (upd (upd (h 254) 0 ((h 25) 0)) 1 ((h 25) 1)) 2 ((h 25) 2)) 3 ((h 25) 3)) 4 ((h 25) 4))) from am_row_s0) ?_
  refine am_aload_n (pc := 40) C dX5_copyFrom_40 rfl ?_
  refine am_getR (pc := 41) (j := 26) C dX5_copyFrom_41 f5_15 bn_25 sh_25 (rf_25_5 hR) ?_
  refine am_aload_n (pc := 44) C dX5_copyFrom_44 rfl ?_
  refine am_getR (pc := 45) (j := 255) C dX5_copyFrom_45 f5_15 bn_254 sh_254 (rf_254_5 hR) ?_
  refine am_callSNv (Y := mX11_copyRow) (pc := 48) (st := []) (As := [.ref 26, .ref 255]) (h2 := (am_row (am_row h 254 (upd (upd (upd (upd (upd (h 254) 0 ((h 25) 0)) 1 ((h 25) 1)) 2 ((h 25) 2)) 3 ((h 25) 3)) 4 ((h 25) 4))) 255 (va_cpy (h 26) (h 255) 0 0 10))) C dX5_copyFrom_48 k5_70 v_X11_copyRow rfl rfl (by decide) (Nat.zero_le _) (Nat.zero_le _) (Nat.le_of_ble_eq_true rfl) (c_X11_copyRow hR 26 255 10 bn_26 sh_26 bn_255 sh_255 (by decide)) ?_
  refine am_aload_n (pc := 51) C dX5_copyFrom_51 rfl ?_
  refine am_getR (pc := 52) (j := 27) C dX5_copyFrom_52 f5_19 bn_25 sh_25 (rf_25_6 hR) ?_
  refine am_aload_n (pc := 55) C dX5_copyFrom_55 rfl ?_
  refine am_getR (pc := 56) (j := 256) C dX5_copyFrom_56 f5_19 bn_254 sh_254 (rf_254_6 hR) ?_
  refine am_callSNv (Y := mX11_copyRow) (pc := 59) (st := []) (As := [.ref 27, .ref 256]) (h2 := (am_row (am_row (am_row h 254 (upd (upd (upd (upd (upd (h 254) 0 ((h 25) 0)) 1 ((h 25) 1)) 2 ((h 25) 2)) 3 ((h 25) 3)) 4 ((h 25) 4))) 255 (va_cpy (h 26) (h 255) 0 0 10)) 256 (va_cpy (h 27) (h 256) 0 0 10))) C dX5_copyFrom_59 k5_70 v_X11_copyRow rfl rfl (by decide) (Nat.zero_le _) (Nat.zero_le _) (Nat.le_of_ble_eq_true rfl) (c_X11_copyRow hR 27 256 10 bn_27 sh_27 bn_256 sh_256 (by decide)) ?_
  refine am_aload_n (pc := 62) C dX5_copyFrom_62 rfl ?_
  refine am_getR (pc := 63) (j := 28) C dX5_copyFrom_63 f5_22 bn_25 sh_25 (rf_25_7 hR) ?_
  refine am_aload_n (pc := 66) C dX5_copyFrom_66 rfl ?_
  refine am_getR (pc := 67) (j := 257) C dX5_copyFrom_67 f5_22 bn_254 sh_254 (rf_254_7 hR) ?_
  refine am_callSNv (Y := mX11_copyRow) (pc := 70) (st := []) (As := [.ref 28, .ref 257]) (h2 := (am_row (am_row (am_row (am_row h 254 (upd (upd (upd (upd (upd (h 254) 0 ((h 25) 0)) 1 ((h 25) 1)) 2 ((h 25) 2)) 3 ((h 25) 3)) 4 ((h 25) 4))) 255 (va_cpy (h 26) (h 255) 0 0 10)) 256 (va_cpy (h 27) (h 256) 0 0 10)) 257 (va_cpy (h 28) (h 257) 0 0 10))) C dX5_copyFrom_70 k5_70 v_X11_copyRow rfl rfl (by decide) (Nat.zero_le _) (Nat.zero_le _) (Nat.le_of_ble_eq_true rfl) (c_X11_copyRow hR 28 257 10 bn_28 sh_28 bn_257 sh_257 (by decide)) ?_
  refine am_aload_n (pc := 73) C dX5_copyFrom_73 rfl ?_
  refine am_getR (pc := 74) (j := 29) C dX5_copyFrom_74 f5_25 bn_25 sh_25 (rf_25_8 hR) ?_
  refine am_aload_n (pc := 77) C dX5_copyFrom_77 rfl ?_
  refine am_getR (pc := 78) (j := 258) C dX5_copyFrom_78 f5_25 bn_254 sh_254 (rf_254_8 hR) ?_
  refine am_callSNv (Y := mX11_copyRow) (pc := 81) (st := []) (As := [.ref 29, .ref 258]) (h2 := (am_row (am_row (am_row (am_row (am_row h 254 (upd (upd (upd (upd (upd (h 254) 0 ((h 25) 0)) 1 ((h 25) 1)) 2 ((h 25) 2)) 3 ((h 25) 3)) 4 ((h 25) 4))) 255 (va_cpy (h 26) (h 255) 0 0 10)) 256 (va_cpy (h 27) (h 256) 0 0 10)) 257 (va_cpy (h 28) (h 257) 0 0 10)) 258 (va_cpy (h 29) (h 258) 0 0 10))) C dX5_copyFrom_81 k5_70 v_X11_copyRow rfl rfl (by decide) (Nat.zero_le _) (Nat.zero_le _) (Nat.le_of_ble_eq_true rfl) (c_X11_copyRow hR 29 258 10 bn_29 sh_29 bn_258 sh_258 (by decide)) ?_
  refine am_aload_n (pc := 84) C dX5_copyFrom_84 rfl ?_
  refine am_getR (pc := 85) (j := 30) C dX5_copyFrom_85 f5_28 bn_25 sh_25 (rf_25_9 hR) ?_
  refine am_aload_n (pc := 88) C dX5_copyFrom_88 rfl ?_
  refine am_getR (pc := 89) (j := 259) C dX5_copyFrom_89 f5_28 bn_254 sh_254 (rf_254_9 hR) ?_
  refine am_callSNv (Y := mX11_copyRow) (pc := 92) (st := []) (As := [.ref 30, .ref 259]) (h2 := (am_row (am_row (am_row (am_row (am_row (am_row h 254 (upd (upd (upd (upd (upd (h 254) 0 ((h 25) 0)) 1 ((h 25) 1)) 2 ((h 25) 2)) 3 ((h 25) 3)) 4 ((h 25) 4))) 255 (va_cpy (h 26) (h 255) 0 0 10)) 256 (va_cpy (h 27) (h 256) 0 0 10)) 257 (va_cpy (h 28) (h 257) 0 0 10)) 258 (va_cpy (h 29) (h 258) 0 0 10)) 259 (va_cpy (h 30) (h 259) 0 0 10))) C dX5_copyFrom_92 k5_70 v_X11_copyRow rfl rfl (by decide) (Nat.zero_le _) (Nat.zero_le _) (Nat.le_of_ble_eq_true rfl) (c_X11_copyRow hR 30 259 10 bn_30 sh_30 bn_259 sh_259 (by decide)) ?_
  refine am_aload_n (pc := 95) C dX5_copyFrom_95 rfl ?_
  refine am_getR (pc := 96) (j := 31) C dX5_copyFrom_96 f5_31 bn_25 sh_25 (rf_25_10 hR) ?_
  refine am_aload_n (pc := 99) C dX5_copyFrom_99 rfl ?_
  refine am_getR (pc := 100) (j := 260) C dX5_copyFrom_100 f5_31 bn_254 sh_254 (rf_254_10 hR) ?_
  refine am_callSNv (Y := mX11_copyRow) (pc := 103) (st := []) (As := [.ref 31, .ref 260]) (h2 := (am_row (am_row (am_row (am_row (am_row (am_row (am_row h 254 (upd (upd (upd (upd (upd (h 254) 0 ((h 25) 0)) 1 ((h 25) 1)) 2 ((h 25) 2)) 3 ((h 25) 3)) 4 ((h 25) 4))) 255 (va_cpy (h 26) (h 255) 0 0 10)) 256 (va_cpy (h 27) (h 256) 0 0 10)) 257 (va_cpy (h 28) (h 257) 0 0 10)) 258 (va_cpy (h 29) (h 258) 0 0 10)) 259 (va_cpy (h 30) (h 259) 0 0 10)) 260 (va_cpy (h 31) (h 260) 0 0 120))) C dX5_copyFrom_103 k5_70 v_X11_copyRow rfl rfl (by decide) (Nat.zero_le _) (Nat.zero_le _) (Nat.le_of_ble_eq_true rfl) (c_X11_copyRow hR 31 260 120 bn_31 sh_31 bn_260 sh_260 (by decide)) ?_
  refine am_aload_n (pc := 106) C dX5_copyFrom_106 rfl ?_
  refine am_getR (pc := 107) (j := 32) C dX5_copyFrom_107 f5_34 bn_25 sh_25 (rf_25_11 hR) ?_
  refine am_aload_n (pc := 110) C dX5_copyFrom_110 rfl ?_
  refine am_getR (pc := 111) (j := 261) C dX5_copyFrom_111 f5_34 bn_254 sh_254 (rf_254_11 hR) ?_
  refine am_callSNv (Y := mX11_copyRow) (pc := 114) (st := []) (As := [.ref 32, .ref 261]) (h2 := (am_row (am_row (am_row (am_row (am_row (am_row (am_row (am_row h 254 (upd (upd (upd (upd (upd (h 254) 0 ((h 25) 0)) 1 ((h 25) 1)) 2 ((h 25) 2)) 3 ((h 25) 3)) 4 ((h 25) 4))) 255 (va_cpy (h 26) (h 255) 0 0 10)) 256 (va_cpy (h 27) (h 256) 0 0 10)) 257 (va_cpy (h 28) (h 257) 0 0 10)) 258 (va_cpy (h 29) (h 258) 0 0 10)) 259 (va_cpy (h 30) (h 259) 0 0 10)) 260 (va_cpy (h 31) (h 260) 0 0 120)) 261 (va_cpy (h 32) (h 261) 0 0 40))) C dX5_copyFrom_114 k5_70 v_X11_copyRow rfl rfl (by decide) (Nat.zero_le _) (Nat.zero_le _) (Nat.le_of_ble_eq_true rfl) (c_X11_copyRow hR 32 261 40 bn_32 sh_32 bn_261 sh_261 (by decide)) ?_
  refine am_aload_n (pc := 117) C dX5_copyFrom_117 rfl ?_
  refine am_getR (pc := 118) (j := 33) C dX5_copyFrom_118 f5_37 bn_25 sh_25 (rf_25_12 hR) ?_
  refine am_aload_n (pc := 121) C dX5_copyFrom_121 rfl ?_
  refine am_getR (pc := 122) (j := 262) C dX5_copyFrom_122 f5_37 bn_254 sh_254 (rf_254_12 hR) ?_
  refine am_callSNv (Y := mX11_copyRow) (pc := 125) (st := []) (As := [.ref 33, .ref 262]) (h2 := (am_row (am_row (am_row (am_row (am_row (am_row (am_row (am_row (am_row h 254 (upd (upd (upd (upd (upd (h 254) 0 ((h 25) 0)) 1 ((h 25) 1)) 2 ((h 25) 2)) 3 ((h 25) 3)) 4 ((h 25) 4))) 255 (va_cpy (h 26) (h 255) 0 0 10)) 256 (va_cpy (h 27) (h 256) 0 0 10)) 257 (va_cpy (h 28) (h 257) 0 0 10)) 258 (va_cpy (h 29) (h 258) 0 0 10)) 259 (va_cpy (h 30) (h 259) 0 0 10)) 260 (va_cpy (h 31) (h 260) 0 0 120)) 261 (va_cpy (h 32) (h 261) 0 0 40)) 262 (va_cpy (h 33) (h 262) 0 0 40))) C dX5_copyFrom_125 k5_70 v_X11_copyRow rfl rfl (by decide) (Nat.zero_le _) (Nat.zero_le _) (Nat.le_of_ble_eq_true rfl) (c_X11_copyRow hR 33 262 40 bn_33 sh_33 bn_262 sh_262 (by decide)) ?_
  refine am_aload_n (pc := 128) C dX5_copyFrom_128 rfl ?_
  refine am_getR (pc := 129) (j := 34) C dX5_copyFrom_129 f5_40 bn_25 sh_25 (rf_25_13 hR) ?_
  refine am_aload_n (pc := 132) C dX5_copyFrom_132 rfl ?_
  refine am_getR (pc := 133) (j := 263) C dX5_copyFrom_133 f5_40 bn_254 sh_254 (rf_254_13 hR) ?_
  refine am_callSNv (Y := mX11_copyRow) (pc := 136) (st := []) (As := [.ref 34, .ref 263]) (h2 := (am_row (am_row (am_row (am_row (am_row (am_row (am_row (am_row (am_row (am_row h 254 (upd (upd (upd (upd (upd (h 254) 0 ((h 25) 0)) 1 ((h 25) 1)) 2 ((h 25) 2)) 3 ((h 25) 3)) 4 ((h 25) 4))) 255 (va_cpy (h 26) (h 255) 0 0 10)) 256 (va_cpy (h 27) (h 256) 0 0 10)) 257 (va_cpy (h 28) (h 257) 0 0 10)) 258 (va_cpy (h 29) (h 258) 0 0 10)) 259 (va_cpy (h 30) (h 259) 0 0 10)) 260 (va_cpy (h 31) (h 260) 0 0 120)) 261 (va_cpy (h 32) (h 261) 0 0 40)) 262 (va_cpy (h 33) (h 262) 0 0 40)) 263 (va_cpy (h 34) (h 263) 0 0 40))) C dX5_copyFrom_136 k5_70 v_X11_copyRow rfl rfl (by decide) (Nat.zero_le _) (Nat.zero_le _) (Nat.le_of_ble_eq_true rfl) (c_X11_copyRow hR 34 263 40 bn_34 sh_34 bn_263 sh_263 (by decide)) ?_
  refine am_aload_n (pc := 139) C dX5_copyFrom_139 rfl ?_
  refine am_getR (pc := 140) (j := 35) C dX5_copyFrom_140 f5_43 bn_25 sh_25 (rf_25_14 hR) ?_
  refine am_aload_n (pc := 143) C dX5_copyFrom_143 rfl ?_
  refine am_getR (pc := 144) (j := 264) C dX5_copyFrom_144 f5_43 bn_254 sh_254 (rf_254_14 hR) ?_
  refine am_callSNv (Y := mX11_copyRow) (pc := 147) (st := []) (As := [.ref 35, .ref 264]) (h2 := (am_row (am_row (am_row (am_row (am_row (am_row (am_row (am_row (am_row (am_row (am_row h 254 (upd (upd (upd (upd (upd (h 254) 0 ((h 25) 0)) 1 ((h 25) 1)) 2 ((h 25) 2)) 3 ((h 25) 3)) 4 ((h 25) 4))) 255 (va_cpy (h 26) (h 255) 0 0 10)) 256 (va_cpy (h 27) (h 256) 0 0 10)) 257 (va_cpy (h 28) (h 257) 0 0 10)) 258 (va_cpy (h 29) (h 258) 0 0 10)) 259 (va_cpy (h 30) (h 259) 0 0 10)) 260 (va_cpy (h 31) (h 260) 0 0 120)) 261 (va_cpy (h 32) (h 261) 0 0 40)) 262 (va_cpy (h 33) (h 262) 0 0 40)) 263 (va_cpy (h 34) (h 263) 0 0 40)) 264 (va_cpy (h 35) (h 264) 0 0 60))) C dX5_copyFrom_147 k5_70 v_X11_copyRow rfl rfl (by decide) (Nat.zero_le _) (Nat.zero_le _) (Nat.le_of_ble_eq_true rfl) (c_X11_copyRow hR 35 264 60 bn_35 sh_35 bn_264 sh_264 (by decide)) ?_
  refine am_aload_n (pc := 150) C dX5_copyFrom_150 rfl ?_
  refine am_getR (pc := 151) (j := 36) C dX5_copyFrom_151 f5_46 bn_25 sh_25 (rf_25_15 hR) ?_
  refine am_aload_n (pc := 154) C dX5_copyFrom_154 rfl ?_
  refine am_getR (pc := 155) (j := 265) C dX5_copyFrom_155 f5_46 bn_254 sh_254 (rf_254_15 hR) ?_
  refine am_callSNv (Y := mX11_copyRow) (pc := 158) (st := []) (As := [.ref 36, .ref 265]) (h2 := (am_row (am_row (am_row (am_row (am_row (am_row (am_row (am_row (am_row (am_row (am_row (am_row h 254 (upd (upd (upd (upd (upd (h 254) 0 ((h 25) 0)) 1 ((h 25) 1)) 2 ((h 25) 2)) 3 ((h 25) 3)) 4 ((h 25) 4))) 255 (va_cpy (h 26) (h 255) 0 0 10)) 256 (va_cpy (h 27) (h 256) 0 0 10)) 257 (va_cpy (h 28) (h 257) 0 0 10)) 258 (va_cpy (h 29) (h 258) 0 0 10)) 259 (va_cpy (h 30) (h 259) 0 0 10)) 260 (va_cpy (h 31) (h 260) 0 0 120)) 261 (va_cpy (h 32) (h 261) 0 0 40)) 262 (va_cpy (h 33) (h 262) 0 0 40)) 263 (va_cpy (h 34) (h 263) 0 0 40)) 264 (va_cpy (h 35) (h 264) 0 0 60)) 265 (va_cpy (h 36) (h 265) 0 0 60))) C dX5_copyFrom_158 k5_70 v_X11_copyRow rfl rfl (by decide) (Nat.zero_le _) (Nat.zero_le _) (Nat.le_of_ble_eq_true rfl) (c_X11_copyRow hR 36 265 60 bn_36 sh_36 bn_265 sh_265 (by decide)) ?_
  refine am_aload_n (pc := 161) C dX5_copyFrom_161 rfl ?_
  refine am_getR (pc := 162) (j := 37) C dX5_copyFrom_162 f5_49 bn_25 sh_25 (rf_25_16 hR) ?_
  refine am_aload_n (pc := 165) C dX5_copyFrom_165 rfl ?_
  refine am_getR (pc := 166) (j := 266) C dX5_copyFrom_166 f5_49 bn_254 sh_254 (rf_254_16 hR) ?_
  refine am_callSNv (Y := mX11_copyRow) (pc := 169) (st := []) (As := [.ref 37, .ref 266]) (h2 := (am_row (am_row (am_row (am_row (am_row (am_row (am_row (am_row (am_row (am_row (am_row (am_row (am_row h 254 (upd (upd (upd (upd (upd (h 254) 0 ((h 25) 0)) 1 ((h 25) 1)) 2 ((h 25) 2)) 3 ((h 25) 3)) 4 ((h 25) 4))) 255 (va_cpy (h 26) (h 255) 0 0 10)) 256 (va_cpy (h 27) (h 256) 0 0 10)) 257 (va_cpy (h 28) (h 257) 0 0 10)) 258 (va_cpy (h 29) (h 258) 0 0 10)) 259 (va_cpy (h 30) (h 259) 0 0 10)) 260 (va_cpy (h 31) (h 260) 0 0 120)) 261 (va_cpy (h 32) (h 261) 0 0 40)) 262 (va_cpy (h 33) (h 262) 0 0 40)) 263 (va_cpy (h 34) (h 263) 0 0 40)) 264 (va_cpy (h 35) (h 264) 0 0 60)) 265 (va_cpy (h 36) (h 265) 0 0 60)) 266 (va_cpy (h 37) (h 266) 0 0 60))) C dX5_copyFrom_169 k5_70 v_X11_copyRow rfl rfl (by decide) (Nat.zero_le _) (Nat.zero_le _) (Nat.le_of_ble_eq_true rfl) (c_X11_copyRow hR 37 266 60 bn_37 sh_37 bn_266 sh_266 (by decide)) ?_
  refine am_aload_n (pc := 172) C dX5_copyFrom_172 rfl ?_
  refine am_getR (pc := 173) (j := 38) C dX5_copyFrom_173 f5_52 bn_25 sh_25 (rf_25_17 hR) ?_
  refine am_aload_n (pc := 176) C dX5_copyFrom_176 rfl ?_
  refine am_getR (pc := 177) (j := 267) C dX5_copyFrom_177 f5_52 bn_254 sh_254 (rf_254_17 hR) ?_
  refine am_callSNv (Y := mX11_copyRow) (pc := 180) (st := []) (As := [.ref 38, .ref 267]) (h2 := (am_row (am_row (am_row (am_row (am_row (am_row (am_row (am_row (am_row (am_row (am_row (am_row (am_row (am_row h 254 (upd (upd (upd (upd (upd (h 254) 0 ((h 25) 0)) 1 ((h 25) 1)) 2 ((h 25) 2)) 3 ((h 25) 3)) 4 ((h 25) 4))) 255 (va_cpy (h 26) (h 255) 0 0 10)) 256 (va_cpy (h 27) (h 256) 0 0 10)) 257 (va_cpy (h 28) (h 257) 0 0 10)) 258 (va_cpy (h 29) (h 258) 0 0 10)) 259 (va_cpy (h 30) (h 259) 0 0 10)) 260 (va_cpy (h 31) (h 260) 0 0 120)) 261 (va_cpy (h 32) (h 261) 0 0 40)) 262 (va_cpy (h 33) (h 262) 0 0 40)) 263 (va_cpy (h 34) (h 263) 0 0 40)) 264 (va_cpy (h 35) (h 264) 0 0 60)) 265 (va_cpy (h 36) (h 265) 0 0 60)) 266 (va_cpy (h 37) (h 266) 0 0 60)) 267 (va_cpy (h 38) (h 267) 0 0 60))) C dX5_copyFrom_180 k5_70 v_X11_copyRow rfl rfl (by decide) (Nat.zero_le _) (Nat.zero_le _) (Nat.le_of_ble_eq_true rfl) (c_X11_copyRow hR 38 267 60 bn_38 sh_38 bn_267 sh_267 (by decide)) ?_
  refine am_aload_n (pc := 183) C dX5_copyFrom_183 rfl ?_
  refine am_getR (pc := 184) (j := 39) C dX5_copyFrom_184 f5_55 bn_25 sh_25 (rf_25_18 hR) ?_
  refine am_aload_n (pc := 187) C dX5_copyFrom_187 rfl ?_
  refine am_getR (pc := 188) (j := 268) C dX5_copyFrom_188 f5_55 bn_254 sh_254 (rf_254_18 hR) ?_
  refine am_callSNv (Y := mX11_copyRow) (pc := 191) (st := []) (As := [.ref 39, .ref 268]) (h2 := (am_row (am_row (am_row (am_row (am_row (am_row (am_row (am_row (am_row (am_row (am_row (am_row (am_row (am_row (am_row h 254 (upd (upd (upd (upd (upd (h 254) 0 ((h 25) 0)) 1 ((h 25) 1)) 2 ((h 25) 2)) 3 ((h 25) 3)) 4 ((h 25) 4))) 255 (va_cpy (h 26) (h 255) 0 0 10)) 256 (va_cpy (h 27) (h 256) 0 0 10)) 257 (va_cpy (h 28) (h 257) 0 0 10)) 258 (va_cpy (h 29) (h 258) 0 0 10)) 259 (va_cpy (h 30) (h 259) 0 0 10)) 260 (va_cpy (h 31) (h 260) 0 0 120)) 261 (va_cpy (h 32) (h 261) 0 0 40)) 262 (va_cpy (h 33) (h 262) 0 0 40)) 263 (va_cpy (h 34) (h 263) 0 0 40)) 264 (va_cpy (h 35) (h 264) 0 0 60)) 265 (va_cpy (h 36) (h 265) 0 0 60)) 266 (va_cpy (h 37) (h 266) 0 0 60)) 267 (va_cpy (h 38) (h 267) 0 0 60)) 268 (va_cpy (h 39) (h 268) 0 0 60))) C dX5_copyFrom_191 k5_70 v_X11_copyRow rfl rfl (by decide) (Nat.zero_le _) (Nat.zero_le _) (Nat.le_of_ble_eq_true rfl) (c_X11_copyRow hR 39 268 60 bn_39 sh_39 bn_268 sh_268 (by decide)) ?_
  exact am_vretvr T dX5_copyFrom_194 rfl (Nat.le_refl _) (Nat.le_refl _) rfl ⟨cl_Sc_cpy hV hSc rfl rfl rfl rfl rfl (fun k hk => va_cpy_0 hk) (fun k hk => va_cpy_0 hk) (fun k hk => va_cpy_0 hk) (fun k hk => va_cpy_0 hk) (fun k hk => va_cpy_0 hk) (fun k hk => va_cpy_0 hk) (fun k hk => va_cpy_0 hk) (fun k hk => va_cpy_0 hk) (fun k hk => va_cpy_0 hk) (fun k hk => va_cpy_0 hk) (fun k hk => va_cpy_0 hk) (fun k hk => va_cpy_0 hk) (fun k hk => va_cpy_0 hk) (fun k hk => va_cpy_0 hk), (fun i9 h9 => by rw [am_row_ne _ _ _ (by omega), am_row_ne _ _ _ (by omega), am_row_ne _ _ _ (by omega), am_row_ne _ _ _ (by omega), am_row_ne _ _ _ (by omega), am_row_ne _ _ _ (by omega), am_row_ne _ _ _ (by omega), am_row_ne _ _ _ (by omega), am_row_ne _ _ _ (by omega), am_row_ne _ _ _ (by omega), am_row_ne _ _ _ (by omega), am_row_ne _ _ _ (by omega), am_row_ne _ _ _ (by omega), am_row_ne _ _ _ (by omega), am_row_ne _ _ _ (by omega)])⟩

set_option maxHeartbeats 400000 in
set_option maxRecDepth 100000 in
theorem c_X5_copyFrom_d_s9 {ad : Nat → Nat} {r : am_R} (hR : am_rs r) {h : am_H}  (w : rf_W) (hV : rf_I w) (hSc : cl_Sc (h) 25 w)  : am_CM mX5_copyFrom 3 0 0 [.ref 269, .ref 25] (am_VV ad) r h (am_pr none r (fun c9 => cl_Sc c9 269 w ∧ cl_fr (h) c9 269 15)) := by
  refine am_CM.of (by decide +kernel) (Nat.le_of_ble_eq_true rfl) (fun X C T => ?_)
  show am_G X (am_VV ad) (0, 0) 0 [(0, .ref 269), (1, .ref 25)] [] r h
  refine am_aload_n (pc := 0) C dX5_copyFrom_0 rfl ?_
  refine am_aload_n (pc := 1) C dX5_copyFrom_1 rfl ?_
  refine am_getI (pc := 2) C dX5_copyFrom_2 f5_58 bn_25 sh_25 ?_
  refine am_putI (pc := 5) C dX5_copyFrom_5 f5_58 bn_269 sh_269 rfl rfl ?_
  refine am_hp (show am_up h 269 0 ((h 25) 0) = am_row h 269 (upd (h 269) 0 ((h 25) 0)) from am_up_rw _ _ _ _) ?_
  refine am_aload_n (pc := 8) C dX5_copyFrom_8 rfl ?_
  refine am_aload_n (pc := 9) C dX5_copyFrom_9 rfl ?_
  refine am_getI (pc := 10) C dX5_copyFrom_10 f5_9 bn_25 sh_25 ?_
  refine am_putI (pc := 13) C dX5_copyFrom_13 f5_9 bn_269 sh_269 rfl rfl ?_
  refine am_hp (show am_up (am_row h 269 (upd (h 269) 0 ((h 25) 0))) 269 1 ((h 25) 1) = am_row (am_row h 269 (upd (h 269) 0 ((h 25) 0))) 269 (upd (upd (h 269) 0 ((h 25) 0)) 1 ((h 25) 1)) from am_up_rw _ _ _ _) ?_
  refine am_hp (show am_row (am_row h 269 (upd (h 269) 0 ((h 25) 0))) 269 (upd (upd (h 269) 0 ((h 25) 0)) 1 ((h 25) 1)) = (am_row h 269 (upd (upd (h 269) 0 ((h 25) 0)) 1 ((h 25) 1))) from am_row_s0) ?_
  refine am_aload_n (pc := 16) C dX5_copyFrom_16 rfl ?_
  refine am_aload_n (pc := 17) C dX5_copyFrom_17 rfl ?_
  refine am_getI (pc := 18) C dX5_copyFrom_18 f5_61 bn_25 sh_25 ?_
  refine am_putI (pc := 21) C dX5_copyFrom_21 f5_61 bn_269 sh_269 rfl rfl ?_
  refine am_hp (show am_up (am_row h 269 (upd (upd (h 269) 0 ((h 25) 0)) 1 ((h 25) 1))) 269 2 ((h 25) 2) = am_row (am_row h 269 (upd (upd (h 269) 0 ((h 25) 0)) 1 ((h 25) 1))) 269 (upd (upd (upd (h 269) 0 ((h 25) 0)) 1 ((h 25) 1)) 2 ((h 25) 2)) from am_up_rw _ _ _ _) ?_
  refine am_hp (show am_row (am_row h 269 (upd (upd (h 269) 0 ((h 25) 0)) 1 ((h 25) 1))) 269 (upd (upd (upd (h 269) 0 ((h 25) 0)) 1 ((h 25) 1)) 2 ((h 25) 2)) = (am_row h 269 (upd (upd (upd (h 269) 0 ((h 25) 0)) 1 ((h 25) 1)) 2 ((h 25) 2))) from am_row_s0) ?_
  refine am_aload_n (pc := 24) C dX5_copyFrom_24 rfl ?_
  refine am_aload_n (pc := 25) C dX5_copyFrom_25 rfl ?_
  refine am_getI (pc := 26) C dX5_copyFrom_26 f5_64 bn_25 sh_25 ?_
  refine am_putI (pc := 29) C dX5_copyFrom_29 f5_64 bn_269 sh_269 rfl rfl ?_
  refine am_hp (show am_up (am_row h 269 (upd (upd (upd (h 269) 0 ((h 25) 0)) 1 ((h 25) 1)) 2 ((h 25) 2))) 269 3 ((h 25) 3) = am_row (am_row h 269 (upd (upd (upd (h 269) 0 ((h 25) 0)) 1 ((h 25) 1)) 2 ((h 25) 2))) 269 (upd (upd (upd (upd (h 269) 0 ((h 25) 0)) 1 ((h 25) 1)) 2 ((h 25) 2)) 3 ((h 25) 3)) from am_up_rw _ _ _ _) ?_
  refine am_hp (show am_row (am_row h 269 (upd (upd (upd (h 269) 0 ((h 25) 0)) 1 ((h 25) 1)) 2 ((h 25) 2))) 269 (upd (upd (upd (upd (h 269) 0 ((h 25) 0)) 1 ((h 25) 1)) 2 ((h 25) 2)) 3 ((h 25) 3)) = (am_row h 269 (upd (upd (upd (upd (h 269) 0 ((h 25) 0)) 1 ((h 25) 1)) 2 ((h 25) 2)) 3 ((h 25) 3))) from am_row_s0) ?_
  refine am_aload_n (pc := 32) C dX5_copyFrom_32 rfl ?_
  refine am_aload_n (pc := 33) C dX5_copyFrom_33 rfl ?_
  refine am_getI (pc := 34) C dX5_copyFrom_34 f5_67 bn_25 sh_25 ?_
  refine am_putI (pc := 37) C dX5_copyFrom_37 f5_67 bn_269 sh_269 rfl rfl ?_
  refine am_hp (show am_up (am_row h 269 (upd (upd (upd (upd (h 269) 0 ((h 25) 0)) 1 ((h 25) 1)) 2 ((h 25) 2)) 3 ((h 25) 3))) 269 4 ((h 25) 4) = am_row (am_row h 269 (upd (upd (upd (upd (h 269) 0 ((h 25) 0)) 1 ((h 25) 1)) 2 ((h 25) 2)) 3 ((h 25) 3))) 269 (upd (upd (upd (upd (upd (h 269) 0 ((h 25) 0)) 1 ((h 25) 1)) 2 ((h 25) 2)) 3 ((h 25) 3)) 4 ((h 25) 4)) from am_up_rw _ _ _ _) ?_
  refine am_hp (show am_row (am_row h 269 (upd (upd (upd (upd (h 269) 0 ((h 25) 0)) 1 ((h 25) 1)) 2 ((h 25) 2)) 3 ((h 25) 3))) 269 (upd (upd (upd (upd (upd (h 269) 0 ((h 25) 0)) 1 ((h 25) 1)) 2 ((h 25) 2)) 3 ((h 25) 3)) 4 ((h 25) 4)) = (am_row h 269 (upd (upd (upd (upd (upd (h 269) 0 ((h 25) 0)) 1 ((h 25) 1)) 2 ((h 25) 2)) 3 ((h 25) 3)) 4 ((h 25) 4))) from am_row_s0) ?_
  refine am_aload_n (pc := 40) C dX5_copyFrom_40 rfl ?_
  refine am_getR (pc := 41) (j := 26) C dX5_copyFrom_41 f5_15 bn_25 sh_25 (rf_25_5 hR) ?_
  refine am_aload_n (pc := 44) C dX5_copyFrom_44 rfl ?_
  refine am_getR (pc := 45) (j := 270) C dX5_copyFrom_45 f5_15 bn_269 sh_269 (rf_269_5 hR) ?_
  refine am_callSNv (Y := mX11_copyRow) (pc := 48) (st := []) (As := [.ref 26, .ref 270]) (h2 := (am_row (am_row h 269 (upd (upd (upd (upd (upd (h 269) 0 ((h 25) 0)) 1 ((h 25) 1)) 2 ((h 25) 2)) 3 ((h 25) 3)) 4 ((h 25) 4))) 270 (va_cpy (h 26) (h 270) 0 0 10))) C dX5_copyFrom_48 k5_70 v_X11_copyRow rfl rfl (by decide) (Nat.zero_le _) (Nat.zero_le _) (Nat.le_of_ble_eq_true rfl) (c_X11_copyRow hR 26 270 10 bn_26 sh_26 bn_270 sh_270 (by decide)) ?_
  refine am_aload_n (pc := 51) C dX5_copyFrom_51 rfl ?_
  refine am_getR (pc := 52) (j := 27) C dX5_copyFrom_52 f5_19 bn_25 sh_25 (rf_25_6 hR) ?_
  refine am_aload_n (pc := 55) C dX5_copyFrom_55 rfl ?_
  refine am_getR (pc := 56) (j := 271) C dX5_copyFrom_56 f5_19 bn_269 sh_269 (rf_269_6 hR) ?_
  refine am_callSNv (Y := mX11_copyRow) (pc := 59) (st := []) (As := [.ref 27, .ref 271]) (h2 := (am_row (am_row (am_row h 269 (upd (upd (upd (upd (upd (h 269) 0 ((h 25) 0)) 1 ((h 25) 1)) 2 ((h 25) 2)) 3 ((h 25) 3)) 4 ((h 25) 4))) 270 (va_cpy (h 26) (h 270) 0 0 10)) 271 (va_cpy (h 27) (h 271) 0 0 10))) C dX5_copyFrom_59 k5_70 v_X11_copyRow rfl rfl (by decide) (Nat.zero_le _) (Nat.zero_le _) (Nat.le_of_ble_eq_true rfl) (c_X11_copyRow hR 27 271 10 bn_27 sh_27 bn_271 sh_271 (by decide)) ?_
  refine am_aload_n (pc := 62) C dX5_copyFrom_62 rfl ?_
  refine am_getR (pc := 63) (j := 28) C dX5_copyFrom_63 f5_22 bn_25 sh_25 (rf_25_7 hR) ?_
  refine am_aload_n (pc := 66) C dX5_copyFrom_66 rfl ?_
  refine am_getR (pc := 67) (j := 272) C dX5_copyFrom_67 f5_22 bn_269 sh_269 (rf_269_7 hR) ?_
  refine am_callSNv (Y := mX11_copyRow) (pc := 70) (st := []) (As := [.ref 28, .ref 272]) (h2 := (am_row (am_row (am_row (am_row h 269 (upd (upd (upd (upd (upd (h 269) 0 ((h 25) 0)) 1 ((h 25) 1)) 2 ((h 25) 2)) 3 ((h 25) 3)) 4 ((h 25) 4))) 270 (va_cpy (h 26) (h 270) 0 0 10)) 271 (va_cpy (h 27) (h 271) 0 0 10)) 272 (va_cpy (h 28) (h 272) 0 0 10))) C dX5_copyFrom_70 k5_70 v_X11_copyRow rfl rfl (by decide) (Nat.zero_le _) (Nat.zero_le _) (Nat.le_of_ble_eq_true rfl) (c_X11_copyRow hR 28 272 10 bn_28 sh_28 bn_272 sh_272 (by decide)) ?_
  refine am_aload_n (pc := 73) C dX5_copyFrom_73 rfl ?_
  refine am_getR (pc := 74) (j := 29) C dX5_copyFrom_74 f5_25 bn_25 sh_25 (rf_25_8 hR) ?_
  refine am_aload_n (pc := 77) C dX5_copyFrom_77 rfl ?_
  refine am_getR (pc := 78) (j := 273) C dX5_copyFrom_78 f5_25 bn_269 sh_269 (rf_269_8 hR) ?_
  refine am_callSNv (Y := mX11_copyRow) (pc := 81) (st := []) (As := [.ref 29, .ref 273]) (h2 := (am_row (am_row (am_row (am_row (am_row h 269 (upd (upd (upd (upd (upd (h 269) 0 ((h 25) 0)) 1 ((h 25) 1)) 2 ((h 25) 2)) 3 ((h 25) 3)) 4 ((h 25) 4))) 270 (va_cpy (h 26) (h 270) 0 0 10)) 271 (va_cpy (h 27) (h 271) 0 0 10)) 272 (va_cpy (h 28) (h 272) 0 0 10)) 273 (va_cpy (h 29) (h 273) 0 0 10))) C dX5_copyFrom_81 k5_70 v_X11_copyRow rfl rfl (by decide) (Nat.zero_le _) (Nat.zero_le _) (Nat.le_of_ble_eq_true rfl) (c_X11_copyRow hR 29 273 10 bn_29 sh_29 bn_273 sh_273 (by decide)) ?_
  refine am_aload_n (pc := 84) C dX5_copyFrom_84 rfl ?_
  refine am_getR (pc := 85) (j := 30) C dX5_copyFrom_85 f5_28 bn_25 sh_25 (rf_25_9 hR) ?_
  refine am_aload_n (pc := 88) C dX5_copyFrom_88 rfl ?_
  refine am_getR (pc := 89) (j := 274) C dX5_copyFrom_89 f5_28 bn_269 sh_269 (rf_269_9 hR) ?_
  refine am_callSNv (Y := mX11_copyRow) (pc := 92) (st := []) (As := [.ref 30, .ref 274]) (h2 := (am_row (am_row (am_row (am_row (am_row (am_row h 269 (upd (upd (upd (upd (upd (h 269) 0 ((h 25) 0)) 1 ((h 25) 1)) 2 ((h 25) 2)) 3 ((h 25) 3)) 4 ((h 25) 4))) 270 (va_cpy (h 26) (h 270) 0 0 10)) 271 (va_cpy (h 27) (h 271) 0 0 10)) 272 (va_cpy (h 28) (h 272) 0 0 10)) 273 (va_cpy (h 29) (h 273) 0 0 10)) 274 (va_cpy (h 30) (h 274) 0 0 10))) C dX5_copyFrom_92 k5_70 v_X11_copyRow rfl rfl (by decide) (Nat.zero_le _) (Nat.zero_le _) (Nat.le_of_ble_eq_true rfl) (c_X11_copyRow hR 30 274 10 bn_30 sh_30 bn_274 sh_274 (by decide)) ?_
  refine am_aload_n (pc := 95) C dX5_copyFrom_95 rfl ?_
  refine am_getR (pc := 96) (j := 31) C dX5_copyFrom_96 f5_31 bn_25 sh_25 (rf_25_10 hR) ?_
  refine am_aload_n (pc := 99) C dX5_copyFrom_99 rfl ?_
  refine am_getR (pc := 100) (j := 275) C dX5_copyFrom_100 f5_31 bn_269 sh_269 (rf_269_10 hR) ?_
  refine am_callSNv (Y := mX11_copyRow) (pc := 103) (st := []) (As := [.ref 31, .ref 275]) (h2 := (am_row (am_row (am_row (am_row (am_row (am_row (am_row h 269 (upd (upd (upd (upd (upd (h 269) 0 ((h 25) 0)) 1 ((h 25) 1)) 2 ((h 25) 2)) 3 ((h 25) 3)) 4 ((h 25) 4))) 270 (va_cpy (h 26) (h 270) 0 0 10)) 271 (va_cpy (h 27) (h 271) 0 0 10)) 272 (va_cpy (h 28) (h 272) 0 0 10)) 273 (va_cpy (h 29) (h 273) 0 0 10)) 274 (va_cpy (h 30) (h 274) 0 0 10)) 275 (va_cpy (h 31) (h 275) 0 0 120))) C dX5_copyFrom_103 k5_70 v_X11_copyRow rfl rfl (by decide) (Nat.zero_le _) (Nat.zero_le _) (Nat.le_of_ble_eq_true rfl) (c_X11_copyRow hR 31 275 120 bn_31 sh_31 bn_275 sh_275 (by decide)) ?_
  refine am_aload_n (pc := 106) C dX5_copyFrom_106 rfl ?_
  refine am_getR (pc := 107) (j := 32) C dX5_copyFrom_107 f5_34 bn_25 sh_25 (rf_25_11 hR) ?_
  refine am_aload_n (pc := 110) C dX5_copyFrom_110 rfl ?_
  refine am_getR (pc := 111) (j := 276) C dX5_copyFrom_111 f5_34 bn_269 sh_269 (rf_269_11 hR) ?_
  refine am_callSNv (Y := mX11_copyRow) (pc := 114) (st := []) (As := [.ref 32, .ref 276]) (h2 := (am_row (am_row (am_row (am_row (am_row (am_row (am_row (am_row h 269 (upd (upd (upd (upd (upd (h 269) 0 ((h 25) 0)) 1 ((h 25) 1)) 2 ((h 25) 2)) 3 ((h 25) 3)) 4 ((h 25) 4))) 270 (va_cpy (h 26) (h 270) 0 0 10)) 271 (va_cpy (h 27) (h 271) 0 0 10)) 272 (va_cpy (h 28) (h 272) 0 0 10)) 273 (va_cpy (h 29) (h 273) 0 0 10)) 274 (va_cpy (h 30) (h 274) 0 0 10)) 275 (va_cpy (h 31) (h 275) 0 0 120)) 276 (va_cpy (h 32) (h 276) 0 0 40))) C dX5_copyFrom_114 k5_70 v_X11_copyRow rfl rfl (by decide) (Nat.zero_le _) (Nat.zero_le _) (Nat.le_of_ble_eq_true rfl) (c_X11_copyRow hR 32 276 40 bn_32 sh_32 bn_276 sh_276 (by decide)) ?_
  refine am_aload_n (pc := 117) C dX5_copyFrom_117 rfl ?_
  refine am_getR (pc := 118) (j := 33) C dX5_copyFrom_118 f5_37 bn_25 sh_25 (rf_25_12 hR) ?_
  refine am_aload_n (pc := 121) C dX5_copyFrom_121 rfl ?_
  refine am_getR (pc := 122) (j := 277) C dX5_copyFrom_122 f5_37 bn_269 sh_269 (rf_269_12 hR) ?_
  refine am_callSNv (Y := mX11_copyRow) (pc := 125) (st := []) (As := [.ref 33, .ref 277]) (h2 := (am_row (am_row (am_row (am_row (am_row (am_row (am_row (am_row (am_row h 269 (upd (upd (upd (upd (upd (h 269) 0 ((h 25) 0)) 1 ((h 25) 1)) 2 ((h 25) 2)) 3 ((h 25) 3)) 4 ((h 25) 4))) 270 (va_cpy (h 26) (h 270) 0 0 10)) 271 (va_cpy (h 27) (h 271) 0 0 10)) 272 (va_cpy (h 28) (h 272) 0 0 10)) 273 (va_cpy (h 29) (h 273) 0 0 10)) 274 (va_cpy (h 30) (h 274) 0 0 10)) 275 (va_cpy (h 31) (h 275) 0 0 120)) 276 (va_cpy (h 32) (h 276) 0 0 40)) 277 (va_cpy (h 33) (h 277) 0 0 40))) C dX5_copyFrom_125 k5_70 v_X11_copyRow rfl rfl (by decide) (Nat.zero_le _) (Nat.zero_le _) (Nat.le_of_ble_eq_true rfl) (c_X11_copyRow hR 33 277 40 bn_33 sh_33 bn_277 sh_277 (by decide)) ?_
  refine am_aload_n (pc := 128) C dX5_copyFrom_128 rfl ?_
  refine am_getR (pc := 129) (j := 34) C dX5_copyFrom_129 f5_40 bn_25 sh_25 (rf_25_13 hR) ?_
  refine am_aload_n (pc := 132) C dX5_copyFrom_132 rfl ?_
  refine am_getR (pc := 133) (j := 278) C dX5_copyFrom_133 f5_40 bn_269 sh_269 (rf_269_13 hR) ?_
  refine am_callSNv (Y := mX11_copyRow) (pc := 136) (st := []) (As := [.ref 34, .ref 278]) (h2 := (am_row (am_row (am_row (am_row (am_row (am_row (am_row (am_row (am_row (am_row h 269 (upd (upd (upd (upd (upd (h 269) 0 ((h 25) 0)) 1 ((h 25) 1)) 2 ((h 25) 2)) 3 ((h 25) 3)) 4 ((h 25) 4))) 270 (va_cpy (h 26) (h 270) 0 0 10)) 271 (va_cpy (h 27) (h 271) 0 0 10)) 272 (va_cpy (h 28) (h 272) 0 0 10)) 273 (va_cpy (h 29) (h 273) 0 0 10)) 274 (va_cpy (h 30) (h 274) 0 0 10)) 275 (va_cpy (h 31) (h 275) 0 0 120)) 276 (va_cpy (h 32) (h 276) 0 0 40)) 277 (va_cpy (h 33) (h 277) 0 0 40)) 278 (va_cpy (h 34) (h 278) 0 0 40))) C dX5_copyFrom_136 k5_70 v_X11_copyRow rfl rfl (by decide) (Nat.zero_le _) (Nat.zero_le _) (Nat.le_of_ble_eq_true rfl) (c_X11_copyRow hR 34 278 40 bn_34 sh_34 bn_278 sh_278 (by decide)) ?_
  refine am_aload_n (pc := 139) C dX5_copyFrom_139 rfl ?_
  refine am_getR (pc := 140) (j := 35) C dX5_copyFrom_140 f5_43 bn_25 sh_25 (rf_25_14 hR) ?_
  refine am_aload_n (pc := 143) C dX5_copyFrom_143 rfl ?_
  refine am_getR (pc := 144) (j := 279) C dX5_copyFrom_144 f5_43 bn_269 sh_269 (rf_269_14 hR) ?_
  refine am_callSNv (Y := mX11_copyRow) (pc := 147) (st := []) (As := [.ref 35, .ref 279]) (h2 := (am_row (am_row (am_row (am_row (am_row (am_row (am_row (am_row (am_row (am_row (am_row h 269 (upd (upd (upd (upd (upd (h 269) 0 ((h 25) 0)) 1 ((h 25) 1)) 2 ((h 25) 2)) 3 ((h 25) 3)) 4 ((h 25) 4))) 270 (va_cpy (h 26) (h 270) 0 0 10)) 271 (va_cpy (h 27) (h 271) 0 0 10)) 272 (va_cpy (h 28) (h 272) 0 0 10)) 273 (va_cpy (h 29) (h 273) 0 0 10)) 274 (va_cpy (h 30) (h 274) 0 0 10)) 275 (va_cpy (h 31) (h 275) 0 0 120)) 276 (va_cpy (h 32) (h 276) 0 0 40)) 277 (va_cpy (h 33) (h 277) 0 0 40)) 278 (va_cpy (h 34) (h 278) 0 0 40)) 279 (va_cpy (h 35) (h 279) 0 0 60))) C dX5_copyFrom_147 k5_70 v_X11_copyRow rfl rfl (by decide) (Nat.zero_le _) (Nat.zero_le _) (Nat.le_of_ble_eq_true rfl) (c_X11_copyRow hR 35 279 60 bn_35 sh_35 bn_279 sh_279 (by decide)) ?_
  refine am_aload_n (pc := 150) C dX5_copyFrom_150 rfl ?_
  refine am_getR (pc := 151) (j := 36) C dX5_copyFrom_151 f5_46 bn_25 sh_25 (rf_25_15 hR) ?_
  refine am_aload_n (pc := 154) C dX5_copyFrom_154 rfl ?_
  refine am_getR (pc := 155) (j := 280) C dX5_copyFrom_155 f5_46 bn_269 sh_269 (rf_269_15 hR) ?_
  refine am_callSNv (Y := mX11_copyRow) (pc := 158) (st := []) (As := [.ref 36, .ref 280]) (h2 := (am_row (am_row (am_row (am_row (am_row (am_row (am_row (am_row (am_row (am_row (am_row (am_row h 269 (upd (upd (upd (upd (upd (h 269) 0 ((h 25) 0)) 1 ((h 25) 1)) 2 ((h 25) 2)) 3 ((h 25) 3)) 4 ((h 25) 4))) 270 (va_cpy (h 26) (h 270) 0 0 10)) 271 (va_cpy (h 27) (h 271) 0 0 10)) 272 (va_cpy (h 28) (h 272) 0 0 10)) 273 (va_cpy (h 29) (h 273) 0 0 10)) 274 (va_cpy (h 30) (h 274) 0 0 10)) 275 (va_cpy (h 31) (h 275) 0 0 120)) 276 (va_cpy (h 32) (h 276) 0 0 40)) 277 (va_cpy (h 33) (h 277) 0 0 40)) 278 (va_cpy (h 34) (h 278) 0 0 40)) 279 (va_cpy (h 35) (h 279) 0 0 60)) 280 (va_cpy (h 36) (h 280) 0 0 60))) C dX5_copyFrom_158 k5_70 v_X11_copyRow rfl rfl (by decide) (Nat.zero_le _) (Nat.zero_le _) (Nat.le_of_ble_eq_true rfl) (c_X11_copyRow hR 36 280 60 bn_36 sh_36 bn_280 sh_280 (by decide)) ?_
  refine am_aload_n (pc := 161) C dX5_copyFrom_161 rfl ?_
  refine am_getR (pc := 162) (j := 37) C dX5_copyFrom_162 f5_49 bn_25 sh_25 (rf_25_16 hR) ?_
  refine am_aload_n (pc := 165) C dX5_copyFrom_165 rfl ?_
  refine am_getR (pc := 166) (j := 281) C dX5_copyFrom_166 f5_49 bn_269 sh_269 (rf_269_16 hR) ?_
  refine am_callSNv (Y := mX11_copyRow) (pc := 169) (st := []) (As := [.ref 37, .ref 281]) (h2 := (am_row (am_row (am_row (am_row (am_row (am_row (am_row (am_row (am_row (am_row (am_row (am_row (am_row h 269 (upd (upd (upd (upd (upd (h 269) 0 ((h 25) 0)) 1 ((h 25) 1)) 2 ((h 25) 2)) 3 ((h 25) 3)) 4 ((h 25) 4))) 270 (va_cpy (h 26) (h 270) 0 0 10)) 271 (va_cpy (h 27) (h 271) 0 0 10)) 272 (va_cpy (h 28) (h 272) 0 0 10)) 273 (va_cpy (h 29) (h 273) 0 0 10)) 274 (va_cpy (h 30) (h 274) 0 0 10)) 275 (va_cpy (h 31) (h 275) 0 0 120)) 276 (va_cpy (h 32) (h 276) 0 0 40)) 277 (va_cpy (h 33) (h 277) 0 0 40)) 278 (va_cpy (h 34) (h 278) 0 0 40)) 279 (va_cpy (h 35) (h 279) 0 0 60)) 280 (va_cpy (h 36) (h 280) 0 0 60)) 281 (va_cpy (h 37) (h 281) 0 0 60))) C dX5_copyFrom_169 k5_70 v_X11_copyRow rfl rfl (by decide) (Nat.zero_le _) (Nat.zero_le _) (Nat.le_of_ble_eq_true rfl) (c_X11_copyRow hR 37 281 60 bn_37 sh_37 bn_281 sh_281 (by decide)) ?_
  refine am_aload_n (pc := 172) C dX5_copyFrom_172 rfl ?_
  refine am_getR (pc := 173) (j := 38) C dX5_copyFrom_173 f5_52 bn_25 sh_25 (rf_25_17 hR) ?_
  refine am_aload_n (pc := 176) C dX5_copyFrom_176 rfl ?_
  refine am_getR (pc := 177) (j := 282) C dX5_copyFrom_177 f5_52 bn_269 sh_269 (rf_269_17 hR) ?_
  refine am_callSNv (Y := mX11_copyRow) (pc := 180) (st := []) (As := [.ref 38, .ref 282]) (h2 := (am_row (am_row (am_row (am_row (am_row (am_row (am_row (am_row (am_row (am_row (am_row (am_row (am_row (am_row h 269 (upd (upd (upd (upd (upd (h 269) 0 ((h 25) 0)) 1 ((h 25) 1)) 2 ((h 25) 2)) 3 ((h 25) 3)) 4 ((h 25) 4))) 270 (va_cpy (h 26) (h 270) 0 0 10)) 271 (va_cpy (h 27) (h 271) 0 0 10)) 272 (va_cpy (h 28) (h 272) 0 0 10)) 273 (va_cpy (h 29) (h 273) 0 0 10)) 274 (va_cpy (h 30) (h 274) 0 0 10)) 275 (va_cpy (h 31) (h 275) 0 0 120)) 276 (va_cpy (h 32) (h 276) 0 0 40)) 277 (va_cpy (h 33) (h 277) 0 0 40)) 278 (va_cpy (h 34) (h 278) 0 0 40)) 279 (va_cpy (h 35) (h 279) 0 0 60)) 280 (va_cpy (h 36) (h 280) 0 0 60)) 281 (va_cpy (h 37) (h 281) 0 0 60)) 282 (va_cpy (h 38) (h 282) 0 0 60))) C dX5_copyFrom_180 k5_70 v_X11_copyRow rfl rfl (by decide) (Nat.zero_le _) (Nat.zero_le _) (Nat.le_of_ble_eq_true rfl) (c_X11_copyRow hR 38 282 60 bn_38 sh_38 bn_282 sh_282 (by decide)) ?_
  refine am_aload_n (pc := 183) C dX5_copyFrom_183 rfl ?_
  refine am_getR (pc := 184) (j := 39) C dX5_copyFrom_184 f5_55 bn_25 sh_25 (rf_25_18 hR) ?_
  refine am_aload_n (pc := 187) C dX5_copyFrom_187 rfl ?_
  refine am_getR (pc := 188) (j := 283) C dX5_copyFrom_188 f5_55 bn_269 sh_269 (rf_269_18 hR) ?_
  refine am_callSNv (Y := mX11_copyRow) (pc := 191) (st := []) (As := [.ref 39, .ref 283]) (h2 := (am_row (am_row (am_row (am_row (am_row (am_row (am_row (am_row (am_row (am_row (am_row (am_row (am_row (am_row (am_row h 269 (upd (upd (upd (upd (upd (h 269) 0 ((h 25) 0)) 1 ((h 25) 1)) 2 ((h 25) 2)) 3 ((h 25) 3)) 4 ((h 25) 4))) 270 (va_cpy (h 26) (h 270) 0 0 10)) 271 (va_cpy (h 27) (h 271) 0 0 10)) 272 (va_cpy (h 28) (h 272) 0 0 10)) 273 (va_cpy (h 29) (h 273) 0 0 10)) 274 (va_cpy (h 30) (h 274) 0 0 10)) 275 (va_cpy (h 31) (h 275) 0 0 120)) 276 (va_cpy (h 32) (h 276) 0 0 40)) 277 (va_cpy (h 33) (h 277) 0 0 40)) 278 (va_cpy (h 34) (h 278) 0 0 40)) 279 (va_cpy (h 35) (h 279) 0 0 60)) 280 (va_cpy (h 36) (h 280) 0 0 60)) 281 (va_cpy (h 37) (h 281) 0 0 60)) 282 (va_cpy (h 38) (h 282) 0 0 60)) 283 (va_cpy (h 39) (h 283) 0 0 60))) C dX5_copyFrom_191 k5_70 v_X11_copyRow rfl rfl (by decide) (Nat.zero_le _) (Nat.zero_le _) (Nat.le_of_ble_eq_true rfl) (c_X11_copyRow hR 39 283 60 bn_39 sh_39 bn_283 sh_283 (by decide)) ?_
  exact am_vretvr T dX5_copyFrom_194 rfl (Nat.le_refl _) (Nat.le_refl _) rfl ⟨cl_Sc_cpy hV hSc rfl rfl rfl rfl rfl (fun k hk => va_cpy_0 hk) (fun k hk => va_cpy_0 hk) (fun k hk => va_cpy_0 hk) (fun k hk => va_cpy_0 hk) (fun k hk => va_cpy_0 hk) (fun k hk => va_cpy_0 hk) (fun k hk => va_cpy_0 hk) (fun k hk => va_cpy_0 hk) (fun k hk => va_cpy_0 hk) (fun k hk => va_cpy_0 hk) (fun k hk => va_cpy_0 hk) (fun k hk => va_cpy_0 hk) (fun k hk => va_cpy_0 hk) (fun k hk => va_cpy_0 hk), (fun i9 h9 => by rw [am_row_ne _ _ _ (by omega), am_row_ne _ _ _ (by omega), am_row_ne _ _ _ (by omega), am_row_ne _ _ _ (by omega), am_row_ne _ _ _ (by omega), am_row_ne _ _ _ (by omega), am_row_ne _ _ _ (by omega), am_row_ne _ _ _ (by omega), am_row_ne _ _ _ (by omega), am_row_ne _ _ _ (by omega), am_row_ne _ _ _ (by omega), am_row_ne _ _ _ (by omega), am_row_ne _ _ _ (by omega), am_row_ne _ _ _ (by omega), am_row_ne _ _ _ (by omega)])⟩

set_option maxHeartbeats 400000 in
set_option maxRecDepth 100000 in
theorem c_X5_copyFrom_d_s10 {ad : Nat → Nat} {r : am_R} (hR : am_rs r) {h : am_H}  (w : rf_W) (hV : rf_I w) (hSc : cl_Sc (h) 25 w)  : am_CM mX5_copyFrom 3 0 0 [.ref 284, .ref 25] (am_VV ad) r h (am_pr none r (fun c9 => cl_Sc c9 284 w ∧ cl_fr (h) c9 284 15)) := by
  refine am_CM.of (by decide +kernel) (Nat.le_of_ble_eq_true rfl) (fun X C T => ?_)
  show am_G X (am_VV ad) (0, 0) 0 [(0, .ref 284), (1, .ref 25)] [] r h
  refine am_aload_n (pc := 0) C dX5_copyFrom_0 rfl ?_
  refine am_aload_n (pc := 1) C dX5_copyFrom_1 rfl ?_
  refine am_getI (pc := 2) C dX5_copyFrom_2 f5_58 bn_25 sh_25 ?_
  refine am_putI (pc := 5) C dX5_copyFrom_5 f5_58 bn_284 sh_284 rfl rfl ?_
  refine am_hp (show am_up h 284 0 ((h 25) 0) = am_row h 284 (upd (h 284) 0 ((h 25) 0)) from am_up_rw _ _ _ _) ?_
  refine am_aload_n (pc := 8) C dX5_copyFrom_8 rfl ?_
  refine am_aload_n (pc := 9) C dX5_copyFrom_9 rfl ?_
  refine am_getI (pc := 10) C dX5_copyFrom_10 f5_9 bn_25 sh_25 ?_
  refine am_putI (pc := 13) C dX5_copyFrom_13 f5_9 bn_284 sh_284 rfl rfl ?_
  refine am_hp (show am_up (am_row h 284 (upd (h 284) 0 ((h 25) 0))) 284 1 ((h 25) 1) = am_row (am_row h 284 (upd (h 284) 0 ((h 25) 0))) 284 (upd (upd (h 284) 0 ((h 25) 0)) 1 ((h 25) 1)) from am_up_rw _ _ _ _) ?_
  refine am_hp (show am_row (am_row h 284 (upd (h 284) 0 ((h 25) 0))) 284 (upd (upd (h 284) 0 ((h 25) 0)) 1 ((h 25) 1)) = (am_row h 284 (upd (upd (h 284) 0 ((h 25) 0)) 1 ((h 25) 1))) from am_row_s0) ?_
  refine am_aload_n (pc := 16) C dX5_copyFrom_16 rfl ?_
  refine am_aload_n (pc := 17) C dX5_copyFrom_17 rfl ?_
  refine am_getI (pc := 18) C dX5_copyFrom_18 f5_61 bn_25 sh_25 ?_
  refine am_putI (pc := 21) C dX5_copyFrom_21 f5_61 bn_284 sh_284 rfl rfl ?_
  refine am_hp (show am_up (am_row h 284 (upd (upd (h 284) 0 ((h 25) 0)) 1 ((h 25) 1))) 284 2 ((h 25) 2) = am_row (am_row h 284 (upd (upd (h 284) 0 ((h 25) 0)) 1 ((h 25) 1))) 284 (upd (upd (upd (h 284) 0 ((h 25) 0)) 1 ((h 25) 1)) 2 ((h 25) 2)) from am_up_rw _ _ _ _) ?_
  refine am_hp (show am_row (am_row h 284 (upd (upd (h 284) 0 ((h 25) 0)) 1 ((h 25) 1))) 284 (upd (upd (upd (h 284) 0 ((h 25) 0)) 1 ((h 25) 1)) 2 ((h 25) 2)) = (am_row h 284 (upd (upd (upd (h 284) 0 ((h 25) 0)) 1 ((h 25) 1)) 2 ((h 25) 2))) from am_row_s0) ?_
  refine am_aload_n (pc := 24) C dX5_copyFrom_24 rfl ?_
  refine am_aload_n (pc := 25) C dX5_copyFrom_25 rfl ?_
  refine am_getI (pc := 26) C dX5_copyFrom_26 f5_64 bn_25 sh_25 ?_
  refine am_putI (pc := 29) C dX5_copyFrom_29 f5_64 bn_284 sh_284 rfl rfl ?_
  refine am_hp (show am_up (am_row h 284 (upd (upd (upd (h 284) 0 ((h 25) 0)) 1 ((h 25) 1)) 2 ((h 25) 2))) 284 3 ((h 25) 3) = am_row (am_row h 284 (upd (upd (upd (h 284) 0 ((h 25) 0)) 1 ((h 25) 1)) 2 ((h 25) 2))) 284 (upd (upd (upd (upd (h 284) 0 ((h 25) 0)) 1 ((h 25) 1)) 2 ((h 25) 2)) 3 ((h 25) 3)) from am_up_rw _ _ _ _) ?_
  refine am_hp (show am_row (am_row h 284 (upd (upd (upd (h 284) 0 ((h 25) 0)) 1 ((h 25) 1)) 2 ((h 25) 2))) 284 (upd (upd (upd (upd (h 284) 0 ((h 25) 0)) 1 ((h 25) 1)) 2 ((h 25) 2)) 3 ((h 25) 3)) = (am_row h 284 (upd (upd (upd (upd (h 284) 0 ((h 25) 0)) 1 ((h 25) 1)) 2 ((h 25) 2)) 3 ((h 25) 3))) from am_row_s0) ?_
  refine am_aload_n (pc := 32) C dX5_copyFrom_32 rfl ?_
  refine am_aload_n (pc := 33) C dX5_copyFrom_33 rfl ?_
  refine am_getI (pc := 34) C dX5_copyFrom_34 f5_67 bn_25 sh_25 ?_
  refine am_putI (pc := 37) C dX5_copyFrom_37 f5_67 bn_284 sh_284 rfl rfl ?_
  refine am_hp (show am_up (am_row h 284 (upd (upd (upd (upd (h 284) 0 ((h 25) 0)) 1 ((h 25) 1)) 2 ((h 25) 2)) 3 ((h 25) 3))) 284 4 ((h 25) 4) = am_row (am_row h 284 (upd (upd (upd (upd (h 284) 0 ((h 25) 0)) 1 ((h 25) 1)) 2 ((h 25) 2)) 3 ((h 25) 3))) 284 (upd (upd (upd (upd (upd (h 284) 0 ((h 25) 0)) 1 ((h 25) 1)) 2 ((h 25) 2)) 3 ((h 25) 3)) 4 ((h 25) 4)) from am_up_rw _ _ _ _) ?_
  refine am_hp (show am_row (am_row h 284 (upd (upd (upd (upd (h 284) 0 ((h 25) 0)) 1 ((h 25) 1)) 2 ((h 25) 2)) 3 ((h 25) 3))) 284 (upd (upd (upd (upd (upd (h 284) 0 ((h 25) 0)) 1 ((h 25) 1)) 2 ((h 25) 2)) 3 ((h 25) 3)) 4 ((h 25) 4)) = (am_row h 284 (upd (upd (upd (upd (upd (h 284) 0 ((h 25) 0)) 1 ((h 25) 1)) 2 ((h 25) 2)) 3 ((h 25) 3)) 4 ((h 25) 4))) from am_row_s0) ?_
  refine am_aload_n (pc := 40) C dX5_copyFrom_40 rfl ?_
  refine am_getR (pc := 41) (j := 26) C dX5_copyFrom_41 f5_15 bn_25 sh_25 (rf_25_5 hR) ?_
  refine am_aload_n (pc := 44) C dX5_copyFrom_44 rfl ?_
  refine am_getR (pc := 45) (j := 285) C dX5_copyFrom_45 f5_15 bn_284 sh_284 (rf_284_5 hR) ?_
  refine am_callSNv (Y := mX11_copyRow) (pc := 48) (st := []) (As := [.ref 26, .ref 285]) (h2 := (am_row (am_row h 284 (upd (upd (upd (upd (upd (h 284) 0 ((h 25) 0)) 1 ((h 25) 1)) 2 ((h 25) 2)) 3 ((h 25) 3)) 4 ((h 25) 4))) 285 (va_cpy (h 26) (h 285) 0 0 10))) C dX5_copyFrom_48 k5_70 v_X11_copyRow rfl rfl (by decide) (Nat.zero_le _) (Nat.zero_le _) (Nat.le_of_ble_eq_true rfl) (c_X11_copyRow hR 26 285 10 bn_26 sh_26 bn_285 sh_285 (by decide)) ?_
  refine am_aload_n (pc := 51) C dX5_copyFrom_51 rfl ?_
  refine am_getR (pc := 52) (j := 27) C dX5_copyFrom_52 f5_19 bn_25 sh_25 (rf_25_6 hR) ?_
  refine am_aload_n (pc := 55) C dX5_copyFrom_55 rfl ?_
  refine am_getR (pc := 56) (j := 286) C dX5_copyFrom_56 f5_19 bn_284 sh_284 (rf_284_6 hR) ?_
  refine am_callSNv (Y := mX11_copyRow) (pc := 59) (st := []) (As := [.ref 27, .ref 286]) (h2 := (am_row (am_row (am_row h 284 (upd (upd (upd (upd (upd (h 284) 0 ((h 25) 0)) 1 ((h 25) 1)) 2 ((h 25) 2)) 3 ((h 25) 3)) 4 ((h 25) 4))) 285 (va_cpy (h 26) (h 285) 0 0 10)) 286 (va_cpy (h 27) (h 286) 0 0 10))) C dX5_copyFrom_59 k5_70 v_X11_copyRow rfl rfl (by decide) (Nat.zero_le _) (Nat.zero_le _) (Nat.le_of_ble_eq_true rfl) (c_X11_copyRow hR 27 286 10 bn_27 sh_27 bn_286 sh_286 (by decide)) ?_
  refine am_aload_n (pc := 62) C dX5_copyFrom_62 rfl ?_
  refine am_getR (pc := 63) (j := 28) C dX5_copyFrom_63 f5_22 bn_25 sh_25 (rf_25_7 hR) ?_
  refine am_aload_n (pc := 66) C dX5_copyFrom_66 rfl ?_
  refine am_getR (pc := 67) (j := 287) C dX5_copyFrom_67 f5_22 bn_284 sh_284 (rf_284_7 hR) ?_
  refine am_callSNv (Y := mX11_copyRow) (pc := 70) (st := []) (As := [.ref 28, .ref 287]) (h2 := (am_row (am_row (am_row (am_row h 284 (upd (upd (upd (upd (upd (h 284) 0 ((h 25) 0)) 1 ((h 25) 1)) 2 ((h 25) 2)) 3 ((h 25) 3)) 4 ((h 25) 4))) 285 (va_cpy (h 26) (h 285) 0 0 10)) 286 (va_cpy (h 27) (h 286) 0 0 10)) 287 (va_cpy (h 28) (h 287) 0 0 10))) C dX5_copyFrom_70 k5_70 v_X11_copyRow rfl rfl (by decide) (Nat.zero_le _) (Nat.zero_le _) (Nat.le_of_ble_eq_true rfl) (c_X11_copyRow hR 28 287 10 bn_28 sh_28 bn_287 sh_287 (by decide)) ?_
  refine am_aload_n (pc := 73) C dX5_copyFrom_73 rfl ?_
  refine am_getR (pc := 74) (j := 29) C dX5_copyFrom_74 f5_25 bn_25 sh_25 (rf_25_8 hR) ?_
  refine am_aload_n (pc := 77) C dX5_copyFrom_77 rfl ?_
  refine am_getR (pc := 78) (j := 288) C dX5_copyFrom_78 f5_25 bn_284 sh_284 (rf_284_8 hR) ?_
  refine am_callSNv (Y := mX11_copyRow) (pc := 81) (st := []) (As := [.ref 29, .ref 288]) (h2 := (am_row (am_row (am_row (am_row (am_row h 284 (upd (upd (upd (upd (upd (h 284) 0 ((h 25) 0)) 1 ((h 25) 1)) 2 ((h 25) 2)) 3 ((h 25) 3)) 4 ((h 25) 4))) 285 (va_cpy (h 26) (h 285) 0 0 10)) 286 (va_cpy (h 27) (h 286) 0 0 10)) 287 (va_cpy (h 28) (h 287) 0 0 10)) 288 (va_cpy (h 29) (h 288) 0 0 10))) C dX5_copyFrom_81 k5_70 v_X11_copyRow rfl rfl (by decide) (Nat.zero_le _) (Nat.zero_le _) (Nat.le_of_ble_eq_true rfl) (c_X11_copyRow hR 29 288 10 bn_29 sh_29 bn_288 sh_288 (by decide)) ?_
  refine am_aload_n (pc := 84) C dX5_copyFrom_84 rfl ?_
  refine am_getR (pc := 85) (j := 30) C dX5_copyFrom_85 f5_28 bn_25 sh_25 (rf_25_9 hR) ?_
  refine am_aload_n (pc := 88) C dX5_copyFrom_88 rfl ?_
  refine am_getR (pc := 89) (j := 289) C dX5_copyFrom_89 f5_28 bn_284 sh_284 (rf_284_9 hR) ?_
  refine am_callSNv (Y := mX11_copyRow) (pc := 92) (st := []) (As := [.ref 30, .ref 289]) (h2 := (am_row (am_row (am_row (am_row (am_row (am_row h 284 (upd (upd (upd (upd (upd (h 284) 0 ((h 25) 0)) 1 ((h 25) 1)) 2 ((h 25) 2)) 3 ((h 25) 3)) 4 ((h 25) 4))) 285 (va_cpy (h 26) (h 285) 0 0 10)) 286 (va_cpy (h 27) (h 286) 0 0 10)) 287 (va_cpy (h 28) (h 287) 0 0 10)) 288 (va_cpy (h 29) (h 288) 0 0 10)) 289 (va_cpy (h 30) (h 289) 0 0 10))) C dX5_copyFrom_92 k5_70 v_X11_copyRow rfl rfl (by decide) (Nat.zero_le _) (Nat.zero_le _) (Nat.le_of_ble_eq_true rfl) (c_X11_copyRow hR 30 289 10 bn_30 sh_30 bn_289 sh_289 (by decide)) ?_
  refine am_aload_n (pc := 95) C dX5_copyFrom_95 rfl ?_
  refine am_getR (pc := 96) (j := 31) C dX5_copyFrom_96 f5_31 bn_25 sh_25 (rf_25_10 hR) ?_
  refine am_aload_n (pc := 99) C dX5_copyFrom_99 rfl ?_
  refine am_getR (pc := 100) (j := 290) C dX5_copyFrom_100 f5_31 bn_284 sh_284 (rf_284_10 hR) ?_
  refine am_callSNv (Y := mX11_copyRow) (pc := 103) (st := []) (As := [.ref 31, .ref 290]) (h2 := (am_row (am_row (am_row (am_row (am_row (am_row (am_row h 284 (upd (upd (upd (upd (upd (h 284) 0 ((h 25) 0)) 1 ((h 25) 1)) 2 ((h 25) 2)) 3 ((h 25) 3)) 4 ((h 25) 4))) 285 (va_cpy (h 26) (h 285) 0 0 10)) 286 (va_cpy (h 27) (h 286) 0 0 10)) 287 (va_cpy (h 28) (h 287) 0 0 10)) 288 (va_cpy (h 29) (h 288) 0 0 10)) 289 (va_cpy (h 30) (h 289) 0 0 10)) 290 (va_cpy (h 31) (h 290) 0 0 120))) C dX5_copyFrom_103 k5_70 v_X11_copyRow rfl rfl (by decide) (Nat.zero_le _) (Nat.zero_le _) (Nat.le_of_ble_eq_true rfl) (c_X11_copyRow hR 31 290 120 bn_31 sh_31 bn_290 sh_290 (by decide)) ?_
  refine am_aload_n (pc := 106) C dX5_copyFrom_106 rfl ?_
  refine am_getR (pc := 107) (j := 32) C dX5_copyFrom_107 f5_34 bn_25 sh_25 (rf_25_11 hR) ?_
  refine am_aload_n (pc := 110) C dX5_copyFrom_110 rfl ?_
  refine am_getR (pc := 111) (j := 291) C dX5_copyFrom_111 f5_34 bn_284 sh_284 (rf_284_11 hR) ?_
  refine am_callSNv (Y := mX11_copyRow) (pc := 114) (st := []) (As := [.ref 32, .ref 291]) (h2 := (am_row (am_row (am_row (am_row (am_row (am_row (am_row (am_row h 284 (upd (upd (upd (upd (upd (h 284) 0 ((h 25) 0)) 1 ((h 25) 1)) 2 ((h 25) 2)) 3 ((h 25) 3)) 4 ((h 25) 4))) 285 (va_cpy (h 26) (h 285) 0 0 10)) 286 (va_cpy (h 27) (h 286) 0 0 10)) 287 (va_cpy (h 28) (h 287) 0 0 10)) 288 (va_cpy (h 29) (h 288) 0 0 10)) 289 (va_cpy (h 30) (h 289) 0 0 10)) 290 (va_cpy (h 31) (h 290) 0 0 120)) 291 (va_cpy (h 32) (h 291) 0 0 40))) C dX5_copyFrom_114 k5_70 v_X11_copyRow rfl rfl (by decide) (Nat.zero_le _) (Nat.zero_le _) (Nat.le_of_ble_eq_true rfl) (c_X11_copyRow hR 32 291 40 bn_32 sh_32 bn_291 sh_291 (by decide)) ?_
  refine am_aload_n (pc := 117) C dX5_copyFrom_117 rfl ?_
  refine am_getR (pc := 118) (j := 33) C dX5_copyFrom_118 f5_37 bn_25 sh_25 (rf_25_12 hR) ?_
  refine am_aload_n (pc := 121) C dX5_copyFrom_121 rfl ?_
  refine am_getR (pc := 122) (j := 292) C dX5_copyFrom_122 f5_37 bn_284 sh_284 (rf_284_12 hR) ?_
  refine am_callSNv (Y := mX11_copyRow) (pc := 125) (st := []) (As := [.ref 33, .ref 292]) (h2 := (am_row (am_row (am_row (am_row (am_row (am_row (am_row (am_row (am_row h 284 (upd (upd (upd (upd (upd (h 284) 0 ((h 25) 0)) 1 ((h 25) 1)) 2 ((h 25) 2)) 3 ((h 25) 3)) 4 ((h 25) 4))) 285 (va_cpy (h 26) (h 285) 0 0 10)) 286 (va_cpy (h 27) (h 286) 0 0 10)) 287 (va_cpy (h 28) (h 287) 0 0 10)) 288 (va_cpy (h 29) (h 288) 0 0 10)) 289 (va_cpy (h 30) (h 289) 0 0 10)) 290 (va_cpy (h 31) (h 290) 0 0 120)) 291 (va_cpy (h 32) (h 291) 0 0 40)) 292 (va_cpy (h 33) (h 292) 0 0 40))) C dX5_copyFrom_125 k5_70 v_X11_copyRow rfl rfl (by decide) (Nat.zero_le _) (Nat.zero_le _) (Nat.le_of_ble_eq_true rfl) (c_X11_copyRow hR 33 292 40 bn_33 sh_33 bn_292 sh_292 (by decide)) ?_
  refine am_aload_n (pc := 128) C dX5_copyFrom_128 rfl ?_
  refine am_getR (pc := 129) (j := 34) C dX5_copyFrom_129 f5_40 bn_25 sh_25 (rf_25_13 hR) ?_
  refine am_aload_n (pc := 132) C dX5_copyFrom_132 rfl ?_
  refine am_getR (pc := 133) (j := 293) C dX5_copyFrom_133 f5_40 bn_284 sh_284 (rf_284_13 hR) ?_
  refine am_callSNv (Y := mX11_copyRow) (pc := 136) (st := []) (As := [.ref 34, .ref 293]) (h2 := (am_row (am_row (am_row (am_row (am_row (am_row (am_row (am_row (am_row (am_row h 284 (upd (upd (upd (upd (upd (h 284) 0 ((h 25) 0)) 1 ((h 25) 1)) 2 ((h 25) 2)) 3 ((h 25) 3)) 4 ((h 25) 4))) 285 (va_cpy (h 26) (h 285) 0 0 10)) 286 (va_cpy (h 27) (h 286) 0 0 10)) 287 (va_cpy (h 28) (h 287) 0 0 10)) 288 (va_cpy (h 29) (h 288) 0 0 10)) 289 (va_cpy (h 30) (h 289) 0 0 10)) 290 (va_cpy (h 31) (h 290) 0 0 120)) 291 (va_cpy (h 32) (h 291) 0 0 40)) 292 (va_cpy (h 33) (h 292) 0 0 40)) 293 (va_cpy (h 34) (h 293) 0 0 40))) C dX5_copyFrom_136 k5_70 v_X11_copyRow rfl rfl (by decide) (Nat.zero_le _) (Nat.zero_le _) (Nat.le_of_ble_eq_true rfl) (c_X11_copyRow hR 34 293 40 bn_34 sh_34 bn_293 sh_293 (by decide)) ?_
  refine am_aload_n (pc := 139) C dX5_copyFrom_139 rfl ?_
  refine am_getR (pc := 140) (j := 35) C dX5_copyFrom_140 f5_43 bn_25 sh_25 (rf_25_14 hR) ?_
  refine am_aload_n (pc := 143) C dX5_copyFrom_143 rfl ?_
  refine am_getR (pc := 144) (j := 294) C dX5_copyFrom_144 f5_43 bn_284 sh_284 (rf_284_14 hR) ?_
  refine am_callSNv (Y := mX11_copyRow) (pc := 147) (st := []) (As := [.ref 35, .ref 294]) (h2 := (am_row (am_row (am_row (am_row (am_row (am_row (am_row (am_row (am_row (am_row (am_row h 284 (upd (upd (upd (upd (upd (h 284) 0 ((h 25) 0)) 1 ((h 25) 1)) 2 ((h 25) 2)) 3 ((h 25) 3)) 4 ((h 25) 4))) 285 (va_cpy (h 26) (h 285) 0 0 10)) 286 (va_cpy (h 27) (h 286) 0 0 10)) 287 (va_cpy (h 28) (h 287) 0 0 10)) 288 (va_cpy (h 29) (h 288) 0 0 10)) 289 (va_cpy (h 30) (h 289) 0 0 10)) 290 (va_cpy (h 31) (h 290) 0 0 120)) 291 (va_cpy (h 32) (h 291) 0 0 40)) 292 (va_cpy (h 33) (h 292) 0 0 40)) 293 (va_cpy (h 34) (h 293) 0 0 40)) 294 (va_cpy (h 35) (h 294) 0 0 60))) C dX5_copyFrom_147 k5_70 v_X11_copyRow rfl rfl (by decide) (Nat.zero_le _) (Nat.zero_le _) (Nat.le_of_ble_eq_true rfl) (c_X11_copyRow hR 35 294 60 bn_35 sh_35 bn_294 sh_294 (by decide)) ?_
  refine am_aload_n (pc := 150) C dX5_copyFrom_150 rfl ?_
  refine am_getR (pc := 151) (j := 36) C dX5_copyFrom_151 f5_46 bn_25 sh_25 (rf_25_15 hR) ?_
  refine am_aload_n (pc := 154) C dX5_copyFrom_154 rfl ?_
  refine am_getR (pc := 155) (j := 295) C dX5_copyFrom_155 f5_46 bn_284 sh_284 (rf_284_15 hR) ?_
  refine am_callSNv (Y := mX11_copyRow) (pc := 158) (st := []) (As := [.ref 36, .ref 295]) (h2 := (am_row (am_row (am_row (am_row (am_row (am_row (am_row (am_row (am_row (am_row (am_row (am_row h 284 (upd (upd (upd (upd (upd (h 284) 0 ((h 25) 0)) 1 ((h 25) 1)) 2 ((h 25) 2)) 3 ((h 25) 3)) 4 ((h 25) 4))) 285 (va_cpy (h 26) (h 285) 0 0 10)) 286 (va_cpy (h 27) (h 286) 0 0 10)) 287 (va_cpy (h 28) (h 287) 0 0 10)) 288 (va_cpy (h 29) (h 288) 0 0 10)) 289 (va_cpy (h 30) (h 289) 0 0 10)) 290 (va_cpy (h 31) (h 290) 0 0 120)) 291 (va_cpy (h 32) (h 291) 0 0 40)) 292 (va_cpy (h 33) (h 292) 0 0 40)) 293 (va_cpy (h 34) (h 293) 0 0 40)) 294 (va_cpy (h 35) (h 294) 0 0 60)) 295 (va_cpy (h 36) (h 295) 0 0 60))) C dX5_copyFrom_158 k5_70 v_X11_copyRow rfl rfl (by decide) (Nat.zero_le _) (Nat.zero_le _) (Nat.le_of_ble_eq_true rfl) (c_X11_copyRow hR 36 295 60 bn_36 sh_36 bn_295 sh_295 (by decide)) ?_
  refine am_aload_n (pc := 161) C dX5_copyFrom_161 rfl ?_
  refine am_getR (pc := 162) (j := 37) C dX5_copyFrom_162 f5_49 bn_25 sh_25 (rf_25_16 hR) ?_
  refine am_aload_n (pc := 165) C dX5_copyFrom_165 rfl ?_
  refine am_getR (pc := 166) (j := 296) C dX5_copyFrom_166 f5_49 bn_284 sh_284 (rf_284_16 hR) ?_
  refine am_callSNv (Y := mX11_copyRow) (pc := 169) (st := []) (As := [.ref 37, .ref 296]) (h2 := (am_row (am_row (am_row (am_row (am_row (am_row (am_row (am_row (am_row (am_row (am_row (am_row (am_row h 284 (upd (upd (upd (upd (upd (h 284) 0 ((h 25) 0)) 1 ((h 25) 1)) 2 ((h 25) 2)) 3 ((h 25) 3)) 4 ((h 25) 4))) 285 (va_cpy (h 26) (h 285) 0 0 10)) 286 (va_cpy (h 27) (h 286) 0 0 10)) 287 (va_cpy (h 28) (h 287) 0 0 10)) 288 (va_cpy (h 29) (h 288) 0 0 10)) 289 (va_cpy (h 30) (h 289) 0 0 10)) 290 (va_cpy (h 31) (h 290) 0 0 120)) 291 (va_cpy (h 32) (h 291) 0 0 40)) 292 (va_cpy (h 33) (h 292) 0 0 40)) 293 (va_cpy (h 34) (h 293) 0 0 40)) 294 (va_cpy (h 35) (h 294) 0 0 60)) 295 (va_cpy (h 36) (h 295) 0 0 60)) 296 (va_cpy (h 37) (h 296) 0 0 60))) C dX5_copyFrom_169 k5_70 v_X11_copyRow rfl rfl (by decide) (Nat.zero_le _) (Nat.zero_le _) (Nat.le_of_ble_eq_true rfl) (c_X11_copyRow hR 37 296 60 bn_37 sh_37 bn_296 sh_296 (by decide)) ?_
  refine am_aload_n (pc := 172) C dX5_copyFrom_172 rfl ?_
  refine am_getR (pc := 173) (j := 38) C dX5_copyFrom_173 f5_52 bn_25 sh_25 (rf_25_17 hR) ?_
  refine am_aload_n (pc := 176) C dX5_copyFrom_176 rfl ?_
  refine am_getR (pc := 177) (j := 297) C dX5_copyFrom_177 f5_52 bn_284 sh_284 (rf_284_17 hR) ?_
  refine am_callSNv (Y := mX11_copyRow) (pc := 180) (st := []) (As := [.ref 38, .ref 297]) (h2 := (am_row (am_row (am_row (am_row (am_row (am_row (am_row (am_row (am_row (am_row (am_row (am_row (am_row (am_row h 284 (upd (upd (upd (upd (upd (h 284) 0 ((h 25) 0)) 1 ((h 25) 1)) 2 ((h 25) 2)) 3 ((h 25) 3)) 4 ((h 25) 4))) 285 (va_cpy (h 26) (h 285) 0 0 10)) 286 (va_cpy (h 27) (h 286) 0 0 10)) 287 (va_cpy (h 28) (h 287) 0 0 10)) 288 (va_cpy (h 29) (h 288) 0 0 10)) 289 (va_cpy (h 30) (h 289) 0 0 10)) 290 (va_cpy (h 31) (h 290) 0 0 120)) 291 (va_cpy (h 32) (h 291) 0 0 40)) 292 (va_cpy (h 33) (h 292) 0 0 40)) 293 (va_cpy (h 34) (h 293) 0 0 40)) 294 (va_cpy (h 35) (h 294) 0 0 60)) 295 (va_cpy (h 36) (h 295) 0 0 60)) 296 (va_cpy (h 37) (h 296) 0 0 60)) 297 (va_cpy (h 38) (h 297) 0 0 60))) C dX5_copyFrom_180 k5_70 v_X11_copyRow rfl rfl (by decide) (Nat.zero_le _) (Nat.zero_le _) (Nat.le_of_ble_eq_true rfl) (c_X11_copyRow hR 38 297 60 bn_38 sh_38 bn_297 sh_297 (by decide)) ?_
  refine am_aload_n (pc := 183) C dX5_copyFrom_183 rfl ?_
  refine am_getR (pc := 184) (j := 39) C dX5_copyFrom_184 f5_55 bn_25 sh_25 (rf_25_18 hR) ?_
  refine am_aload_n (pc := 187) C dX5_copyFrom_187 rfl ?_
  refine am_getR (pc := 188) (j := 298) C dX5_copyFrom_188 f5_55 bn_284 sh_284 (rf_284_18 hR) ?_
  refine am_callSNv (Y := mX11_copyRow) (pc := 191) (st := []) (As := [.ref 39, .ref 298]) (h2 := (am_row (am_row (am_row (am_row (am_row (am_row (am_row (am_row (am_row (am_row (am_row (am_row (am_row (am_row (am_row h 284 (upd (upd (upd (upd (upd (h 284) 0 ((h 25) 0)) 1 ((h 25) 1)) 2 ((h 25) 2)) 3 ((h 25) 3)) 4 ((h 25) 4))) 285 (va_cpy (h 26) (h 285) 0 0 10)) 286 (va_cpy (h 27) (h 286) 0 0 10)) 287 (va_cpy (h 28) (h 287) 0 0 10)) 288 (va_cpy (h 29) (h 288) 0 0 10)) 289 (va_cpy (h 30) (h 289) 0 0 10)) 290 (va_cpy (h 31) (h 290) 0 0 120)) 291 (va_cpy (h 32) (h 291) 0 0 40)) 292 (va_cpy (h 33) (h 292) 0 0 40)) 293 (va_cpy (h 34) (h 293) 0 0 40)) 294 (va_cpy (h 35) (h 294) 0 0 60)) 295 (va_cpy (h 36) (h 295) 0 0 60)) 296 (va_cpy (h 37) (h 296) 0 0 60)) 297 (va_cpy (h 38) (h 297) 0 0 60)) 298 (va_cpy (h 39) (h 298) 0 0 60))) C dX5_copyFrom_191 k5_70 v_X11_copyRow rfl rfl (by decide) (Nat.zero_le _) (Nat.zero_le _) (Nat.le_of_ble_eq_true rfl) (c_X11_copyRow hR 39 298 60 bn_39 sh_39 bn_298 sh_298 (by decide)) ?_
  exact am_vretvr T dX5_copyFrom_194 rfl (Nat.le_refl _) (Nat.le_refl _) rfl ⟨cl_Sc_cpy hV hSc rfl rfl rfl rfl rfl (fun k hk => va_cpy_0 hk) (fun k hk => va_cpy_0 hk) (fun k hk => va_cpy_0 hk) (fun k hk => va_cpy_0 hk) (fun k hk => va_cpy_0 hk) (fun k hk => va_cpy_0 hk) (fun k hk => va_cpy_0 hk) (fun k hk => va_cpy_0 hk) (fun k hk => va_cpy_0 hk) (fun k hk => va_cpy_0 hk) (fun k hk => va_cpy_0 hk) (fun k hk => va_cpy_0 hk) (fun k hk => va_cpy_0 hk) (fun k hk => va_cpy_0 hk), (fun i9 h9 => by rw [am_row_ne _ _ _ (by omega), am_row_ne _ _ _ (by omega), am_row_ne _ _ _ (by omega), am_row_ne _ _ _ (by omega), am_row_ne _ _ _ (by omega), am_row_ne _ _ _ (by omega), am_row_ne _ _ _ (by omega), am_row_ne _ _ _ (by omega), am_row_ne _ _ _ (by omega), am_row_ne _ _ _ (by omega), am_row_ne _ _ _ (by omega), am_row_ne _ _ _ (by omega), am_row_ne _ _ _ (by omega), am_row_ne _ _ _ (by omega), am_row_ne _ _ _ (by omega)])⟩

set_option maxHeartbeats 400000 in
set_option maxRecDepth 100000 in
theorem c_X5_copyFrom_d_s11 {ad : Nat → Nat} {r : am_R} (hR : am_rs r) {h : am_H}  (w : rf_W) (hV : rf_I w) (hSc : cl_Sc (h) 25 w)  : am_CM mX5_copyFrom 3 0 0 [.ref 299, .ref 25] (am_VV ad) r h (am_pr none r (fun c9 => cl_Sc c9 299 w ∧ cl_fr (h) c9 299 15)) := by
  refine am_CM.of (by decide +kernel) (Nat.le_of_ble_eq_true rfl) (fun X C T => ?_)
  show am_G X (am_VV ad) (0, 0) 0 [(0, .ref 299), (1, .ref 25)] [] r h
  refine am_aload_n (pc := 0) C dX5_copyFrom_0 rfl ?_
  refine am_aload_n (pc := 1) C dX5_copyFrom_1 rfl ?_
  refine am_getI (pc := 2) C dX5_copyFrom_2 f5_58 bn_25 sh_25 ?_
  refine am_putI (pc := 5) C dX5_copyFrom_5 f5_58 bn_299 sh_299 rfl rfl ?_
  refine am_hp (show am_up h 299 0 ((h 25) 0) = am_row h 299 (upd (h 299) 0 ((h 25) 0)) from am_up_rw _ _ _ _) ?_
  refine am_aload_n (pc := 8) C dX5_copyFrom_8 rfl ?_
  refine am_aload_n (pc := 9) C dX5_copyFrom_9 rfl ?_
  refine am_getI (pc := 10) C dX5_copyFrom_10 f5_9 bn_25 sh_25 ?_
  refine am_putI (pc := 13) C dX5_copyFrom_13 f5_9 bn_299 sh_299 rfl rfl ?_
  refine am_hp (show am_up (am_row h 299 (upd (h 299) 0 ((h 25) 0))) 299 1 ((h 25) 1) = am_row (am_row h 299 (upd (h 299) 0 ((h 25) 0))) 299 (upd (upd (h 299) 0 ((h 25) 0)) 1 ((h 25) 1)) from am_up_rw _ _ _ _) ?_
  refine am_hp (show am_row (am_row h 299 (upd (h 299) 0 ((h 25) 0))) 299 (upd (upd (h 299) 0 ((h 25) 0)) 1 ((h 25) 1)) = (am_row h 299 (upd (upd (h 299) 0 ((h 25) 0)) 1 ((h 25) 1))) from am_row_s0) ?_
  refine am_aload_n (pc := 16) C dX5_copyFrom_16 rfl ?_
  refine am_aload_n (pc := 17) C dX5_copyFrom_17 rfl ?_
  refine am_getI (pc := 18) C dX5_copyFrom_18 f5_61 bn_25 sh_25 ?_
  refine am_putI (pc := 21) C dX5_copyFrom_21 f5_61 bn_299 sh_299 rfl rfl ?_
  refine am_hp (show am_up (am_row h 299 (upd (upd (h 299) 0 ((h 25) 0)) 1 ((h 25) 1))) 299 2 ((h 25) 2) = am_row (am_row h 299 (upd (upd (h 299) 0 ((h 25) 0)) 1 ((h 25) 1))) 299 (upd (upd (upd (h 299) 0 ((h 25) 0)) 1 ((h 25) 1)) 2 ((h 25) 2)) from am_up_rw _ _ _ _) ?_
  refine am_hp (show am_row (am_row h 299 (upd (upd (h 299) 0 ((h 25) 0)) 1 ((h 25) 1))) 299 (upd (upd (upd (h 299) 0 ((h 25) 0)) 1 ((h 25) 1)) 2 ((h 25) 2)) = (am_row h 299 (upd (upd (upd (h 299) 0 ((h 25) 0)) 1 ((h 25) 1)) 2 ((h 25) 2))) from am_row_s0) ?_
  refine am_aload_n (pc := 24) C dX5_copyFrom_24 rfl ?_
  refine am_aload_n (pc := 25) C dX5_copyFrom_25 rfl ?_
  refine am_getI (pc := 26) C dX5_copyFrom_26 f5_64 bn_25 sh_25 ?_
  refine am_putI (pc := 29) C dX5_copyFrom_29 f5_64 bn_299 sh_299 rfl rfl ?_
  refine am_hp (show am_up (am_row h 299 (upd (upd (upd (h 299) 0 ((h 25) 0)) 1 ((h 25) 1)) 2 ((h 25) 2))) 299 3 ((h 25) 3) = am_row (am_row h 299 (upd (upd (upd (h 299) 0 ((h 25) 0)) 1 ((h 25) 1)) 2 ((h 25) 2))) 299 (upd (upd (upd (upd (h 299) 0 ((h 25) 0)) 1 ((h 25) 1)) 2 ((h 25) 2)) 3 ((h 25) 3)) from am_up_rw _ _ _ _) ?_
  refine am_hp (show am_row (am_row h 299 (upd (upd (upd (h 299) 0 ((h 25) 0)) 1 ((h 25) 1)) 2 ((h 25) 2))) 299 (upd (upd (upd (upd (h 299) 0 ((h 25) 0)) 1 ((h 25) 1)) 2 ((h 25) 2)) 3 ((h 25) 3)) = (am_row h 299 (upd (upd (upd (upd (h 299) 0 ((h 25) 0)) 1 ((h 25) 1)) 2 ((h 25) 2)) 3 ((h 25) 3))) from am_row_s0) ?_
  refine am_aload_n (pc := 32) C dX5_copyFrom_32 rfl ?_
  refine am_aload_n (pc := 33) C dX5_copyFrom_33 rfl ?_
  refine am_getI (pc := 34) C dX5_copyFrom_34 f5_67 bn_25 sh_25 ?_
  refine am_putI (pc := 37) C dX5_copyFrom_37 f5_67 bn_299 sh_299 rfl rfl ?_
  refine am_hp (show am_up (am_row h 299 (upd (upd (upd (upd (h 299) 0 ((h 25) 0)) 1 ((h 25) 1)) 2 ((h 25) 2)) 3 ((h 25) 3))) 299 4 ((h 25) 4) = am_row (am_row h 299 (upd (upd (upd (upd (h 299) 0 ((h 25) 0)) 1 ((h 25) 1)) 2 ((h 25) 2)) 3 ((h 25) 3))) 299 (upd (upd (upd (upd (upd (h 299) 0 ((h 25) 0)) 1 ((h 25) 1)) 2 ((h 25) 2)) 3 ((h 25) 3)) 4 ((h 25) 4)) from am_up_rw _ _ _ _) ?_
  refine am_hp (show am_row (am_row h 299 (upd (upd (upd (upd (h 299) 0 ((h 25) 0)) 1 ((h 25) 1)) 2 ((h 25) 2)) 3 ((h 25) 3))) 299 (upd (upd (upd (upd (upd (h 299) 0 ((h 25) 0)) 1 ((h 25) 1)) 2 ((h 25) 2)) 3 ((h 25) 3)) 4 ((h 25) 4)) = (am_row h 299 (upd (upd (upd (upd (upd (h 299) 0 ((h 25) 0)) 1 ((h 25) 1)) 2 ((h 25) 2)) 3 ((h 25) 3)) 4 ((h 25) 4))) from am_row_s0) ?_
  refine am_aload_n (pc := 40) C dX5_copyFrom_40 rfl ?_
  refine am_getR (pc := 41) (j := 26) C dX5_copyFrom_41 f5_15 bn_25 sh_25 (rf_25_5 hR) ?_
  refine am_aload_n (pc := 44) C dX5_copyFrom_44 rfl ?_
  refine am_getR (pc := 45) (j := 300) C dX5_copyFrom_45 f5_15 bn_299 sh_299 (rf_299_5 hR) ?_
  refine am_callSNv (Y := mX11_copyRow) (pc := 48) (st := []) (As := [.ref 26, .ref 300]) (h2 := (am_row (am_row h 299 (upd (upd (upd (upd (upd (h 299) 0 ((h 25) 0)) 1 ((h 25) 1)) 2 ((h 25) 2)) 3 ((h 25) 3)) 4 ((h 25) 4))) 300 (va_cpy (h 26) (h 300) 0 0 10))) C dX5_copyFrom_48 k5_70 v_X11_copyRow rfl rfl (by decide) (Nat.zero_le _) (Nat.zero_le _) (Nat.le_of_ble_eq_true rfl) (c_X11_copyRow hR 26 300 10 bn_26 sh_26 bn_300 sh_300 (by decide)) ?_
  refine am_aload_n (pc := 51) C dX5_copyFrom_51 rfl ?_
  refine am_getR (pc := 52) (j := 27) C dX5_copyFrom_52 f5_19 bn_25 sh_25 (rf_25_6 hR) ?_
  refine am_aload_n (pc := 55) C dX5_copyFrom_55 rfl ?_
  refine am_getR (pc := 56) (j := 301) C dX5_copyFrom_56 f5_19 bn_299 sh_299 (rf_299_6 hR) ?_
  refine am_callSNv (Y := mX11_copyRow) (pc := 59) (st := []) (As := [.ref 27, .ref 301]) (h2 := (am_row (am_row (am_row h 299 (upd (upd (upd (upd (upd (h 299) 0 ((h 25) 0)) 1 ((h 25) 1)) 2 ((h 25) 2)) 3 ((h 25) 3)) 4 ((h 25) 4))) 300 (va_cpy (h 26) (h 300) 0 0 10)) 301 (va_cpy (h 27) (h 301) 0 0 10))) C dX5_copyFrom_59 k5_70 v_X11_copyRow rfl rfl (by decide) (Nat.zero_le _) (Nat.zero_le _) (Nat.le_of_ble_eq_true rfl) (c_X11_copyRow hR 27 301 10 bn_27 sh_27 bn_301 sh_301 (by decide)) ?_
  refine am_aload_n (pc := 62) C dX5_copyFrom_62 rfl ?_
  refine am_getR (pc := 63) (j := 28) C dX5_copyFrom_63 f5_22 bn_25 sh_25 (rf_25_7 hR) ?_
  refine am_aload_n (pc := 66) C dX5_copyFrom_66 rfl ?_
  refine am_getR (pc := 67) (j := 302) C dX5_copyFrom_67 f5_22 bn_299 sh_299 (rf_299_7 hR) ?_
  refine am_callSNv (Y := mX11_copyRow) (pc := 70) (st := []) (As := [.ref 28, .ref 302]) (h2 := (am_row (am_row (am_row (am_row h 299 (upd (upd (upd (upd (upd (h 299) 0 ((h 25) 0)) 1 ((h 25) 1)) 2 ((h 25) 2)) 3 ((h 25) 3)) 4 ((h 25) 4))) 300 (va_cpy (h 26) (h 300) 0 0 10)) 301 (va_cpy (h 27) (h 301) 0 0 10)) 302 (va_cpy (h 28) (h 302) 0 0 10))) C dX5_copyFrom_70 k5_70 v_X11_copyRow rfl rfl (by decide) (Nat.zero_le _) (Nat.zero_le _) (Nat.le_of_ble_eq_true rfl) (c_X11_copyRow hR 28 302 10 bn_28 sh_28 bn_302 sh_302 (by decide)) ?_
  refine am_aload_n (pc := 73) C dX5_copyFrom_73 rfl ?_
  refine am_getR (pc := 74) (j := 29) C dX5_copyFrom_74 f5_25 bn_25 sh_25 (rf_25_8 hR) ?_
  refine am_aload_n (pc := 77) C dX5_copyFrom_77 rfl ?_
  refine am_getR (pc := 78) (j := 303) C dX5_copyFrom_78 f5_25 bn_299 sh_299 (rf_299_8 hR) ?_
  refine am_callSNv (Y := mX11_copyRow) (pc := 81) (st := []) (As := [.ref 29, .ref 303]) (h2 := (am_row (am_row (am_row (am_row (am_row h 299 (upd (upd (upd (upd (upd (h 299) 0 ((h 25) 0)) 1 ((h 25) 1)) 2 ((h 25) 2)) 3 ((h 25) 3)) 4 ((h 25) 4))) 300 (va_cpy (h 26) (h 300) 0 0 10)) 301 (va_cpy (h 27) (h 301) 0 0 10)) 302 (va_cpy (h 28) (h 302) 0 0 10)) 303 (va_cpy (h 29) (h 303) 0 0 10))) C dX5_copyFrom_81 k5_70 v_X11_copyRow rfl rfl (by decide) (Nat.zero_le _) (Nat.zero_le _) (Nat.le_of_ble_eq_true rfl) (c_X11_copyRow hR 29 303 10 bn_29 sh_29 bn_303 sh_303 (by decide)) ?_
  refine am_aload_n (pc := 84) C dX5_copyFrom_84 rfl ?_
  refine am_getR (pc := 85) (j := 30) C dX5_copyFrom_85 f5_28 bn_25 sh_25 (rf_25_9 hR) ?_
  refine am_aload_n (pc := 88) C dX5_copyFrom_88 rfl ?_
  refine am_getR (pc := 89) (j := 304) C dX5_copyFrom_89 f5_28 bn_299 sh_299 (rf_299_9 hR) ?_
  refine am_callSNv (Y := mX11_copyRow) (pc := 92) (st := []) (As := [.ref 30, .ref 304]) (h2 := (am_row (am_row (am_row (am_row (am_row (am_row h 299 (upd (upd (upd (upd (upd (h 299) 0 ((h 25) 0)) 1 ((h 25) 1)) 2 ((h 25) 2)) 3 ((h 25) 3)) 4 ((h 25) 4))) 300 (va_cpy (h 26) (h 300) 0 0 10)) 301 (va_cpy (h 27) (h 301) 0 0 10)) 302 (va_cpy (h 28) (h 302) 0 0 10)) 303 (va_cpy (h 29) (h 303) 0 0 10)) 304 (va_cpy (h 30) (h 304) 0 0 10))) C dX5_copyFrom_92 k5_70 v_X11_copyRow rfl rfl (by decide) (Nat.zero_le _) (Nat.zero_le _) (Nat.le_of_ble_eq_true rfl) (c_X11_copyRow hR 30 304 10 bn_30 sh_30 bn_304 sh_304 (by decide)) ?_
  refine am_aload_n (pc := 95) C dX5_copyFrom_95 rfl ?_
  refine am_getR (pc := 96) (j := 31) C dX5_copyFrom_96 f5_31 bn_25 sh_25 (rf_25_10 hR) ?_
  refine am_aload_n (pc := 99) C dX5_copyFrom_99 rfl ?_
  refine am_getR (pc := 100) (j := 305) C dX5_copyFrom_100 f5_31 bn_299 sh_299 (rf_299_10 hR) ?_
  refine am_callSNv (Y := mX11_copyRow) (pc := 103) (st := []) (As := [.ref 31, .ref 305]) (h2 := (am_row (am_row (am_row (am_row (am_row (am_row (am_row h 299 (upd (upd (upd (upd (upd (h 299) 0 ((h 25) 0)) 1 ((h 25) 1)) 2 ((h 25) 2)) 3 ((h 25) 3)) 4 ((h 25) 4))) 300 (va_cpy (h 26) (h 300) 0 0 10)) 301 (va_cpy (h 27) (h 301) 0 0 10)) 302 (va_cpy (h 28) (h 302) 0 0 10)) 303 (va_cpy (h 29) (h 303) 0 0 10)) 304 (va_cpy (h 30) (h 304) 0 0 10)) 305 (va_cpy (h 31) (h 305) 0 0 120))) C dX5_copyFrom_103 k5_70 v_X11_copyRow rfl rfl (by decide) (Nat.zero_le _) (Nat.zero_le _) (Nat.le_of_ble_eq_true rfl) (c_X11_copyRow hR 31 305 120 bn_31 sh_31 bn_305 sh_305 (by decide)) ?_
  refine am_aload_n (pc := 106) C dX5_copyFrom_106 rfl ?_
  refine am_getR (pc := 107) (j := 32) C dX5_copyFrom_107 f5_34 bn_25 sh_25 (rf_25_11 hR) ?_
  refine am_aload_n (pc := 110) C dX5_copyFrom_110 rfl ?_
  refine am_getR (pc := 111) (j := 306) C dX5_copyFrom_111 f5_34 bn_299 sh_299 (rf_299_11 hR) ?_
  refine am_callSNv (Y := mX11_copyRow) (pc := 114) (st := []) (As := [.ref 32, .ref 306]) (h2 := (am_row (am_row (am_row (am_row (am_row (am_row (am_row (am_row h 299 (upd (upd (upd (upd (upd (h 299) 0 ((h 25) 0)) 1 ((h 25) 1)) 2 ((h 25) 2)) 3 ((h 25) 3)) 4 ((h 25) 4))) 300 (va_cpy (h 26) (h 300) 0 0 10)) 301 (va_cpy (h 27) (h 301) 0 0 10)) 302 (va_cpy (h 28) (h 302) 0 0 10)) 303 (va_cpy (h 29) (h 303) 0 0 10)) 304 (va_cpy (h 30) (h 304) 0 0 10)) 305 (va_cpy (h 31) (h 305) 0 0 120)) 306 (va_cpy (h 32) (h 306) 0 0 40))) C dX5_copyFrom_114 k5_70 v_X11_copyRow rfl rfl (by decide) (Nat.zero_le _) (Nat.zero_le _) (Nat.le_of_ble_eq_true rfl) (c_X11_copyRow hR 32 306 40 bn_32 sh_32 bn_306 sh_306 (by decide)) ?_
  refine am_aload_n (pc := 117) C dX5_copyFrom_117 rfl ?_
  refine am_getR (pc := 118) (j := 33) C dX5_copyFrom_118 f5_37 bn_25 sh_25 (rf_25_12 hR) ?_
  refine am_aload_n (pc := 121) C dX5_copyFrom_121 rfl ?_
  refine am_getR (pc := 122) (j := 307) C dX5_copyFrom_122 f5_37 bn_299 sh_299 (rf_299_12 hR) ?_
  refine am_callSNv (Y := mX11_copyRow) (pc := 125) (st := []) (As := [.ref 33, .ref 307]) (h2 := (am_row (am_row (am_row (am_row (am_row (am_row (am_row (am_row (am_row h 299 (upd (upd (upd (upd (upd (h 299) 0 ((h 25) 0)) 1 ((h 25) 1)) 2 ((h 25) 2)) 3 ((h 25) 3)) 4 ((h 25) 4))) 300 (va_cpy (h 26) (h 300) 0 0 10)) 301 (va_cpy (h 27) (h 301) 0 0 10)) 302 (va_cpy (h 28) (h 302) 0 0 10)) 303 (va_cpy (h 29) (h 303) 0 0 10)) 304 (va_cpy (h 30) (h 304) 0 0 10)) 305 (va_cpy (h 31) (h 305) 0 0 120)) 306 (va_cpy (h 32) (h 306) 0 0 40)) 307 (va_cpy (h 33) (h 307) 0 0 40))) C dX5_copyFrom_125 k5_70 v_X11_copyRow rfl rfl (by decide) (Nat.zero_le _) (Nat.zero_le _) (Nat.le_of_ble_eq_true rfl) (c_X11_copyRow hR 33 307 40 bn_33 sh_33 bn_307 sh_307 (by decide)) ?_
  refine am_aload_n (pc := 128) C dX5_copyFrom_128 rfl ?_
  refine am_getR (pc := 129) (j := 34) C dX5_copyFrom_129 f5_40 bn_25 sh_25 (rf_25_13 hR) ?_
  refine am_aload_n (pc := 132) C dX5_copyFrom_132 rfl ?_
  refine am_getR (pc := 133) (j := 308) C dX5_copyFrom_133 f5_40 bn_299 sh_299 (rf_299_13 hR) ?_
  refine am_callSNv (Y := mX11_copyRow) (pc := 136) (st := []) (As := [.ref 34, .ref 308]) (h2 := (am_row (am_row (am_row (am_row (am_row (am_row (am_row (am_row (am_row (am_row h 299 (upd (upd (upd (upd (upd (h 299) 0 ((h 25) 0)) 1 ((h 25) 1)) 2 ((h 25) 2)) 3 ((h 25) 3)) 4 ((h 25) 4))) 300 (va_cpy (h 26) (h 300) 0 0 10)) 301 (va_cpy (h 27) (h 301) 0 0 10)) 302 (va_cpy (h 28) (h 302) 0 0 10)) 303 (va_cpy (h 29) (h 303) 0 0 10)) 304 (va_cpy (h 30) (h 304) 0 0 10)) 305 (va_cpy (h 31) (h 305) 0 0 120)) 306 (va_cpy (h 32) (h 306) 0 0 40)) 307 (va_cpy (h 33) (h 307) 0 0 40)) 308 (va_cpy (h 34) (h 308) 0 0 40))) C dX5_copyFrom_136 k5_70 v_X11_copyRow rfl rfl (by decide) (Nat.zero_le _) (Nat.zero_le _) (Nat.le_of_ble_eq_true rfl) (c_X11_copyRow hR 34 308 40 bn_34 sh_34 bn_308 sh_308 (by decide)) ?_
  refine am_aload_n (pc := 139) C dX5_copyFrom_139 rfl ?_
  refine am_getR (pc := 140) (j := 35) C dX5_copyFrom_140 f5_43 bn_25 sh_25 (rf_25_14 hR) ?_
  refine am_aload_n (pc := 143) C dX5_copyFrom_143 rfl ?_
  refine am_getR (pc := 144) (j := 309) C dX5_copyFrom_144 f5_43 bn_299 sh_299 (rf_299_14 hR) ?_
  refine am_callSNv (Y := mX11_copyRow) (pc := 147) (st := []) (As := [.ref 35, .ref 309]) (h2 := (am_row (am_row (am_row (am_row (am_row (am_row (am_row (am_row (am_row (am_row (am_row h 299 (upd (upd (upd (upd (upd (h 299) 0 ((h 25) 0)) 1 ((h 25) 1)) 2 ((h 25) 2)) 3 ((h 25) 3)) 4 ((h 25) 4))) 300 (va_cpy (h 26) (h 300) 0 0 10)) 301 (va_cpy (h 27) (h 301) 0 0 10)) 302 (va_cpy (h 28) (h 302) 0 0 10)) 303 (va_cpy (h 29) (h 303) 0 0 10)) 304 (va_cpy (h 30) (h 304) 0 0 10)) 305 (va_cpy (h 31) (h 305) 0 0 120)) 306 (va_cpy (h 32) (h 306) 0 0 40)) 307 (va_cpy (h 33) (h 307) 0 0 40)) 308 (va_cpy (h 34) (h 308) 0 0 40)) 309 (va_cpy (h 35) (h 309) 0 0 60))) C dX5_copyFrom_147 k5_70 v_X11_copyRow rfl rfl (by decide) (Nat.zero_le _) (Nat.zero_le _) (Nat.le_of_ble_eq_true rfl) (c_X11_copyRow hR 35 309 60 bn_35 sh_35 bn_309 sh_309 (by decide)) ?_
  refine am_aload_n (pc := 150) C dX5_copyFrom_150 rfl ?_
  refine am_getR (pc := 151) (j := 36) C dX5_copyFrom_151 f5_46 bn_25 sh_25 (rf_25_15 hR) ?_
  refine am_aload_n (pc := 154) C dX5_copyFrom_154 rfl ?_
  refine am_getR (pc := 155) (j := 310) C dX5_copyFrom_155 f5_46 bn_299 sh_299 (rf_299_15 hR) ?_
  refine am_callSNv (Y := mX11_copyRow) (pc := 158) (st := []) (As := [.ref 36, .ref 310]) (h2 := (am_row (am_row (am_row (am_row (am_row (am_row (am_row (am_row (am_row (am_row (am_row (am_row h 299 (upd (upd (upd (upd (upd (h 299) 0 ((h 25) 0)) 1 ((h 25) 1)) 2 ((h 25) 2)) 3 ((h 25) 3)) 4 ((h 25) 4))) 300 (va_cpy (h 26) (h 300) 0 0 10)) 301 (va_cpy (h 27) (h 301) 0 0 10)) 302 (va_cpy (h 28) (h 302) 0 0 10)) 303 (va_cpy (h 29) (h 303) 0 0 10)) 304 (va_cpy (h 30) (h 304) 0 0 10)) 305 (va_cpy (h 31) (h 305) 0 0 120)) 306 (va_cpy (h 32) (h 306) 0 0 40)) 307 (va_cpy (h 33) (h 307) 0 0 40)) 308 (va_cpy (h 34) (h 308) 0 0 40)) 309 (va_cpy (h 35) (h 309) 0 0 60)) 310 (va_cpy (h 36) (h 310) 0 0 60))) C dX5_copyFrom_158 k5_70 v_X11_copyRow rfl rfl (by decide) (Nat.zero_le _) (Nat.zero_le _) (Nat.le_of_ble_eq_true rfl) (c_X11_copyRow hR 36 310 60 bn_36 sh_36 bn_310 sh_310 (by decide)) ?_
  refine am_aload_n (pc := 161) C dX5_copyFrom_161 rfl ?_
  refine am_getR (pc := 162) (j := 37) C dX5_copyFrom_162 f5_49 bn_25 sh_25 (rf_25_16 hR) ?_
  refine am_aload_n (pc := 165) C dX5_copyFrom_165 rfl ?_
  refine am_getR (pc := 166) (j := 311) C dX5_copyFrom_166 f5_49 bn_299 sh_299 (rf_299_16 hR) ?_
  refine am_callSNv (Y := mX11_copyRow) (pc := 169) (st := []) (As := [.ref 37, .ref 311]) (h2 := (am_row (am_row (am_row (am_row (am_row (am_row (am_row (am_row (am_row (am_row (am_row (am_row (am_row h 299 (upd (upd (upd (upd (upd (h 299) 0 ((h 25) 0)) 1 ((h 25) 1)) 2 ((h 25) 2)) 3 ((h 25) 3)) 4 ((h 25) 4))) 300 (va_cpy (h 26) (h 300) 0 0 10)) 301 (va_cpy (h 27) (h 301) 0 0 10)) 302 (va_cpy (h 28) (h 302) 0 0 10)) 303 (va_cpy (h 29) (h 303) 0 0 10)) 304 (va_cpy (h 30) (h 304) 0 0 10)) 305 (va_cpy (h 31) (h 305) 0 0 120)) 306 (va_cpy (h 32) (h 306) 0 0 40)) 307 (va_cpy (h 33) (h 307) 0 0 40)) 308 (va_cpy (h 34) (h 308) 0 0 40)) 309 (va_cpy (h 35) (h 309) 0 0 60)) 310 (va_cpy (h 36) (h 310) 0 0 60)) 311 (va_cpy (h 37) (h 311) 0 0 60))) C dX5_copyFrom_169 k5_70 v_X11_copyRow rfl rfl (by decide) (Nat.zero_le _) (Nat.zero_le _) (Nat.le_of_ble_eq_true rfl) (c_X11_copyRow hR 37 311 60 bn_37 sh_37 bn_311 sh_311 (by decide)) ?_
  refine am_aload_n (pc := 172) C dX5_copyFrom_172 rfl ?_
  refine am_getR (pc := 173) (j := 38) C dX5_copyFrom_173 f5_52 bn_25 sh_25 (rf_25_17 hR) ?_
  refine am_aload_n (pc := 176) C dX5_copyFrom_176 rfl ?_
  refine am_getR (pc := 177) (j := 312) C dX5_copyFrom_177 f5_52 bn_299 sh_299 (rf_299_17 hR) ?_
  refine am_callSNv (Y := mX11_copyRow) (pc := 180) (st := []) (As := [.ref 38, .ref 312]) (h2 := (am_row (am_row (am_row (am_row (am_row (am_row (am_row (am_row (am_row (am_row (am_row (am_row (am_row (am_row h 299 (upd (upd (upd (upd (upd (h 299) 0 ((h 25) 0)) 1 ((h 25) 1)) 2 ((h 25) 2)) 3 ((h 25) 3)) 4 ((h 25) 4))) 300 (va_cpy (h 26) (h 300) 0 0 10)) 301 (va_cpy (h 27) (h 301) 0 0 10)) 302 (va_cpy (h 28) (h 302) 0 0 10)) 303 (va_cpy (h 29) (h 303) 0 0 10)) 304 (va_cpy (h 30) (h 304) 0 0 10)) 305 (va_cpy (h 31) (h 305) 0 0 120)) 306 (va_cpy (h 32) (h 306) 0 0 40)) 307 (va_cpy (h 33) (h 307) 0 0 40)) 308 (va_cpy (h 34) (h 308) 0 0 40)) 309 (va_cpy (h 35) (h 309) 0 0 60)) 310 (va_cpy (h 36) (h 310) 0 0 60)) 311 (va_cpy (h 37) (h 311) 0 0 60)) 312 (va_cpy (h 38) (h 312) 0 0 60))) C dX5_copyFrom_180 k5_70 v_X11_copyRow rfl rfl (by decide) (Nat.zero_le _) (Nat.zero_le _) (Nat.le_of_ble_eq_true rfl) (c_X11_copyRow hR 38 312 60 bn_38 sh_38 bn_312 sh_312 (by decide)) ?_
  refine am_aload_n (pc := 183) C dX5_copyFrom_183 rfl ?_
  refine am_getR (pc := 184) (j := 39) C dX5_copyFrom_184 f5_55 bn_25 sh_25 (rf_25_18 hR) ?_
  refine am_aload_n (pc := 187) C dX5_copyFrom_187 rfl ?_
  refine am_getR (pc := 188) (j := 313) C dX5_copyFrom_188 f5_55 bn_299 sh_299 (rf_299_18 hR) ?_
  refine am_callSNv (Y := mX11_copyRow) (pc := 191) (st := []) (As := [.ref 39, .ref 313]) (h2 := (am_row (am_row (am_row (am_row (am_row (am_row (am_row (am_row (am_row (am_row (am_row (am_row (am_row (am_row (am_row h 299 (upd (upd (upd (upd (upd (h 299) 0 ((h 25) 0)) 1 ((h 25) 1)) 2 ((h 25) 2)) 3 ((h 25) 3)) 4 ((h 25) 4))) 300 (va_cpy (h 26) (h 300) 0 0 10)) 301 (va_cpy (h 27) (h 301) 0 0 10)) 302 (va_cpy (h 28) (h 302) 0 0 10)) 303 (va_cpy (h 29) (h 303) 0 0 10)) 304 (va_cpy (h 30) (h 304) 0 0 10)) 305 (va_cpy (h 31) (h 305) 0 0 120)) 306 (va_cpy (h 32) (h 306) 0 0 40)) 307 (va_cpy (h 33) (h 307) 0 0 40)) 308 (va_cpy (h 34) (h 308) 0 0 40)) 309 (va_cpy (h 35) (h 309) 0 0 60)) 310 (va_cpy (h 36) (h 310) 0 0 60)) 311 (va_cpy (h 37) (h 311) 0 0 60)) 312 (va_cpy (h 38) (h 312) 0 0 60)) 313 (va_cpy (h 39) (h 313) 0 0 60))) C dX5_copyFrom_191 k5_70 v_X11_copyRow rfl rfl (by decide) (Nat.zero_le _) (Nat.zero_le _) (Nat.le_of_ble_eq_true rfl) (c_X11_copyRow hR 39 313 60 bn_39 sh_39 bn_313 sh_313 (by decide)) ?_
  exact am_vretvr T dX5_copyFrom_194 rfl (Nat.le_refl _) (Nat.le_refl _) rfl ⟨cl_Sc_cpy hV hSc rfl rfl rfl rfl rfl (fun k hk => va_cpy_0 hk) (fun k hk => va_cpy_0 hk) (fun k hk => va_cpy_0 hk) (fun k hk => va_cpy_0 hk) (fun k hk => va_cpy_0 hk) (fun k hk => va_cpy_0 hk) (fun k hk => va_cpy_0 hk) (fun k hk => va_cpy_0 hk) (fun k hk => va_cpy_0 hk) (fun k hk => va_cpy_0 hk) (fun k hk => va_cpy_0 hk) (fun k hk => va_cpy_0 hk) (fun k hk => va_cpy_0 hk) (fun k hk => va_cpy_0 hk), (fun i9 h9 => by rw [am_row_ne _ _ _ (by omega), am_row_ne _ _ _ (by omega), am_row_ne _ _ _ (by omega), am_row_ne _ _ _ (by omega), am_row_ne _ _ _ (by omega), am_row_ne _ _ _ (by omega), am_row_ne _ _ _ (by omega), am_row_ne _ _ _ (by omega), am_row_ne _ _ _ (by omega), am_row_ne _ _ _ (by omega), am_row_ne _ _ _ (by omega), am_row_ne _ _ _ (by omega), am_row_ne _ _ _ (by omega), am_row_ne _ _ _ (by omega), am_row_ne _ _ _ (by omega)])⟩

set_option maxHeartbeats 400000 in
set_option maxRecDepth 100000 in
theorem c_X5_copyFrom_d_t0 {ad : Nat → Nat} {r : am_R} (hR : am_rs r) {h : am_H}  (w : rf_W) (hV : rf_I w) (hSc : cl_Sc (h) 134 w)  : am_CM mX5_copyFrom 3 0 0 [.ref 25, .ref 134] (am_VV ad) r h (am_pr none r (fun c9 => cl_Sc c9 25 w ∧ cl_fr (h) c9 25 15)) := by
  refine am_CM.of (by decide +kernel) (Nat.le_of_ble_eq_true rfl) (fun X C T => ?_)
  show am_G X (am_VV ad) (0, 0) 0 [(0, .ref 25), (1, .ref 134)] [] r h
  refine am_aload_n (pc := 0) C dX5_copyFrom_0 rfl ?_
  refine am_aload_n (pc := 1) C dX5_copyFrom_1 rfl ?_
  refine am_getI (pc := 2) C dX5_copyFrom_2 f5_58 bn_134 sh_134 ?_
  refine am_putI (pc := 5) C dX5_copyFrom_5 f5_58 bn_25 sh_25 rfl rfl ?_
  refine am_hp (show am_up h 25 0 ((h 134) 0) = am_row h 25 (upd (h 25) 0 ((h 134) 0)) from am_up_rw _ _ _ _) ?_
  refine am_aload_n (pc := 8) C dX5_copyFrom_8 rfl ?_
  refine am_aload_n (pc := 9) C dX5_copyFrom_9 rfl ?_
  refine am_getI (pc := 10) C dX5_copyFrom_10 f5_9 bn_134 sh_134 ?_
  refine am_putI (pc := 13) C dX5_copyFrom_13 f5_9 bn_25 sh_25 rfl rfl ?_
  refine am_hp (show am_up (am_row h 25 (upd (h 25) 0 ((h 134) 0))) 25 1 ((h 134) 1) = am_row (am_row h 25 (upd (h 25) 0 ((h 134) 0))) 25 (upd (upd (h 25) 0 ((h 134) 0)) 1 ((h 134) 1)) from am_up_rw _ _ _ _) ?_
  refine am_hp (show am_row (am_row h 25 (upd (h 25) 0 ((h 134) 0))) 25 (upd (upd (h 25) 0 ((h 134) 0)) 1 ((h 134) 1)) = (am_row h 25 (upd (upd (h 25) 0 ((h 134) 0)) 1 ((h 134) 1))) from am_row_s0) ?_
  refine am_aload_n (pc := 16) C dX5_copyFrom_16 rfl ?_
  refine am_aload_n (pc := 17) C dX5_copyFrom_17 rfl ?_
  refine am_getI (pc := 18) C dX5_copyFrom_18 f5_61 bn_134 sh_134 ?_
  refine am_putI (pc := 21) C dX5_copyFrom_21 f5_61 bn_25 sh_25 rfl rfl ?_
  refine am_hp (show am_up (am_row h 25 (upd (upd (h 25) 0 ((h 134) 0)) 1 ((h 134) 1))) 25 2 ((h 134) 2) = am_row (am_row h 25 (upd (upd (h 25) 0 ((h 134) 0)) 1 ((h 134) 1))) 25 (upd (upd (upd (h 25) 0 ((h 134) 0)) 1 ((h 134) 1)) 2 ((h 134) 2)) from am_up_rw _ _ _ _) ?_
  refine am_hp (show am_row (am_row h 25 (upd (upd (h 25) 0 ((h 134) 0)) 1 ((h 134) 1))) 25 (upd (upd (upd (h 25) 0 ((h 134) 0)) 1 ((h 134) 1)) 2 ((h 134) 2)) = (am_row h 25 (upd (upd (upd (h 25) 0 ((h 134) 0)) 1 ((h 134) 1)) 2 ((h 134) 2))) from am_row_s0) ?_
  refine am_aload_n (pc := 24) C dX5_copyFrom_24 rfl ?_
  refine am_aload_n (pc := 25) C dX5_copyFrom_25 rfl ?_
  refine am_getI (pc := 26) C dX5_copyFrom_26 f5_64 bn_134 sh_134 ?_
  refine am_putI (pc := 29) C dX5_copyFrom_29 f5_64 bn_25 sh_25 rfl rfl ?_
  refine am_hp (show am_up (am_row h 25 (upd (upd (upd (h 25) 0 ((h 134) 0)) 1 ((h 134) 1)) 2 ((h 134) 2))) 25 3 ((h 134) 3) = am_row (am_row h 25 (upd (upd (upd (h 25) 0 ((h 134) 0)) 1 ((h 134) 1)) 2 ((h 134) 2))) 25 (upd (upd (upd (upd (h 25) 0 ((h 134) 0)) 1 ((h 134) 1)) 2 ((h 134) 2)) 3 ((h 134) 3)) from am_up_rw _ _ _ _) ?_
  refine am_hp (show am_row (am_row h 25 (upd (upd (upd (h 25) 0 ((h 134) 0)) 1 ((h 134) 1)) 2 ((h 134) 2))) 25 (upd (upd (upd (upd (h 25) 0 ((h 134) 0)) 1 ((h 134) 1)) 2 ((h 134) 2)) 3 ((h 134) 3)) = (am_row h 25 (upd (upd (upd (upd (h 25) 0 ((h 134) 0)) 1 ((h 134) 1)) 2 ((h 134) 2)) 3 ((h 134) 3))) from am_row_s0) ?_
  refine am_aload_n (pc := 32) C dX5_copyFrom_32 rfl ?_
  refine am_aload_n (pc := 33) C dX5_copyFrom_33 rfl ?_
  refine am_getI (pc := 34) C dX5_copyFrom_34 f5_67 bn_134 sh_134 ?_
  refine am_putI (pc := 37) C dX5_copyFrom_37 f5_67 bn_25 sh_25 rfl rfl ?_
  refine am_hp (show am_up (am_row h 25 (upd (upd (upd (upd (h 25) 0 ((h 134) 0)) 1 ((h 134) 1)) 2 ((h 134) 2)) 3 ((h 134) 3))) 25 4 ((h 134) 4) = am_row (am_row h 25 (upd (upd (upd (upd (h 25) 0 ((h 134) 0)) 1 ((h 134) 1)) 2 ((h 134) 2)) 3 ((h 134) 3))) 25 (upd (upd (upd (upd (upd (h 25) 0 ((h 134) 0)) 1 ((h 134) 1)) 2 ((h 134) 2)) 3 ((h 134) 3)) 4 ((h 134) 4)) from am_up_rw _ _ _ _) ?_
  refine am_hp (show am_row (am_row h 25 (upd (upd (upd (upd (h 25) 0 ((h 134) 0)) 1 ((h 134) 1)) 2 ((h 134) 2)) 3 ((h 134) 3))) 25 (upd (upd (upd (upd (upd (h 25) 0 ((h 134) 0)) 1 ((h 134) 1)) 2 ((h 134) 2)) 3 ((h 134) 3)) 4 ((h 134) 4)) = (am_row h 25 (upd (upd (upd (upd (upd (h 25) 0 ((h 134) 0)) 1 ((h 134) 1)) 2 ((h 134) 2)) 3 ((h 134) 3)) 4 ((h 134) 4))) from am_row_s0) ?_
  refine am_aload_n (pc := 40) C dX5_copyFrom_40 rfl ?_
  refine am_getR (pc := 41) (j := 135) C dX5_copyFrom_41 f5_15 bn_134 sh_134 (rf_134_5 hR) ?_
  refine am_aload_n (pc := 44) C dX5_copyFrom_44 rfl ?_
  refine am_getR (pc := 45) (j := 26) C dX5_copyFrom_45 f5_15 bn_25 sh_25 (rf_25_5 hR) ?_
  refine am_callSNv (Y := mX11_copyRow) (pc := 48) (st := []) (As := [.ref 135, .ref 26]) (h2 := (am_row (am_row h 25 (upd (upd (upd (upd (upd (h 25) 0 ((h 134) 0)) 1 ((h 134) 1)) 2 ((h 134) 2)) 3 ((h 134) 3)) 4 ((h 134) 4))) 26 (va_cpy (h 135) (h 26) 0 0 10))) C dX5_copyFrom_48 k5_70 v_X11_copyRow rfl rfl (by decide) (Nat.zero_le _) (Nat.zero_le _) (Nat.le_of_ble_eq_true rfl) (c_X11_copyRow hR 135 26 10 bn_135 sh_135 bn_26 sh_26 (by decide)) ?_
  refine am_aload_n (pc := 51) C dX5_copyFrom_51 rfl ?_
  refine am_getR (pc := 52) (j := 136) C dX5_copyFrom_52 f5_19 bn_134 sh_134 (rf_134_6 hR) ?_
  refine am_aload_n (pc := 55) C dX5_copyFrom_55 rfl ?_
  refine am_getR (pc := 56) (j := 27) C dX5_copyFrom_56 f5_19 bn_25 sh_25 (rf_25_6 hR) ?_
  refine am_callSNv (Y := mX11_copyRow) (pc := 59) (st := []) (As := [.ref 136, .ref 27]) (h2 := (am_row (am_row (am_row h 25 (upd (upd (upd (upd (upd (h 25) 0 ((h 134) 0)) 1 ((h 134) 1)) 2 ((h 134) 2)) 3 ((h 134) 3)) 4 ((h 134) 4))) 26 (va_cpy (h 135) (h 26) 0 0 10)) 27 (va_cpy (h 136) (h 27) 0 0 10))) C dX5_copyFrom_59 k5_70 v_X11_copyRow rfl rfl (by decide) (Nat.zero_le _) (Nat.zero_le _) (Nat.le_of_ble_eq_true rfl) (c_X11_copyRow hR 136 27 10 bn_136 sh_136 bn_27 sh_27 (by decide)) ?_
  refine am_aload_n (pc := 62) C dX5_copyFrom_62 rfl ?_
  refine am_getR (pc := 63) (j := 137) C dX5_copyFrom_63 f5_22 bn_134 sh_134 (rf_134_7 hR) ?_
  refine am_aload_n (pc := 66) C dX5_copyFrom_66 rfl ?_
  refine am_getR (pc := 67) (j := 28) C dX5_copyFrom_67 f5_22 bn_25 sh_25 (rf_25_7 hR) ?_
  refine am_callSNv (Y := mX11_copyRow) (pc := 70) (st := []) (As := [.ref 137, .ref 28]) (h2 := (am_row (am_row (am_row (am_row h 25 (upd (upd (upd (upd (upd (h 25) 0 ((h 134) 0)) 1 ((h 134) 1)) 2 ((h 134) 2)) 3 ((h 134) 3)) 4 ((h 134) 4))) 26 (va_cpy (h 135) (h 26) 0 0 10)) 27 (va_cpy (h 136) (h 27) 0 0 10)) 28 (va_cpy (h 137) (h 28) 0 0 10))) C dX5_copyFrom_70 k5_70 v_X11_copyRow rfl rfl (by decide) (Nat.zero_le _) (Nat.zero_le _) (Nat.le_of_ble_eq_true rfl) (c_X11_copyRow hR 137 28 10 bn_137 sh_137 bn_28 sh_28 (by decide)) ?_
  refine am_aload_n (pc := 73) C dX5_copyFrom_73 rfl ?_
  refine am_getR (pc := 74) (j := 138) C dX5_copyFrom_74 f5_25 bn_134 sh_134 (rf_134_8 hR) ?_
  refine am_aload_n (pc := 77) C dX5_copyFrom_77 rfl ?_
  refine am_getR (pc := 78) (j := 29) C dX5_copyFrom_78 f5_25 bn_25 sh_25 (rf_25_8 hR) ?_
  refine am_callSNv (Y := mX11_copyRow) (pc := 81) (st := []) (As := [.ref 138, .ref 29]) (h2 := (am_row (am_row (am_row (am_row (am_row h 25 (upd (upd (upd (upd (upd (h 25) 0 ((h 134) 0)) 1 ((h 134) 1)) 2 ((h 134) 2)) 3 ((h 134) 3)) 4 ((h 134) 4))) 26 (va_cpy (h 135) (h 26) 0 0 10)) 27 (va_cpy (h 136) (h 27) 0 0 10)) 28 (va_cpy (h 137) (h 28) 0 0 10)) 29 (va_cpy (h 138) (h 29) 0 0 10))) C dX5_copyFrom_81 k5_70 v_X11_copyRow rfl rfl (by decide) (Nat.zero_le _) (Nat.zero_le _) (Nat.le_of_ble_eq_true rfl) (c_X11_copyRow hR 138 29 10 bn_138 sh_138 bn_29 sh_29 (by decide)) ?_
  refine am_aload_n (pc := 84) C dX5_copyFrom_84 rfl ?_
  refine am_getR (pc := 85) (j := 139) C dX5_copyFrom_85 f5_28 bn_134 sh_134 (rf_134_9 hR) ?_
  refine am_aload_n (pc := 88) C dX5_copyFrom_88 rfl ?_
  refine am_getR (pc := 89) (j := 30) C dX5_copyFrom_89 f5_28 bn_25 sh_25 (rf_25_9 hR) ?_
  refine am_callSNv (Y := mX11_copyRow) (pc := 92) (st := []) (As := [.ref 139, .ref 30]) (h2 := (am_row (am_row (am_row (am_row (am_row (am_row h 25 (upd (upd (upd (upd (upd (h 25) 0 ((h 134) 0)) 1 ((h 134) 1)) 2 ((h 134) 2)) 3 ((h 134) 3)) 4 ((h 134) 4))) 26 (va_cpy (h 135) (h 26) 0 0 10)) 27 (va_cpy (h 136) (h 27) 0 0 10)) 28 (va_cpy (h 137) (h 28) 0 0 10)) 29 (va_cpy (h 138) (h 29) 0 0 10)) 30 (va_cpy (h 139) (h 30) 0 0 10))) C dX5_copyFrom_92 k5_70 v_X11_copyRow rfl rfl (by decide) (Nat.zero_le _) (Nat.zero_le _) (Nat.le_of_ble_eq_true rfl) (c_X11_copyRow hR 139 30 10 bn_139 sh_139 bn_30 sh_30 (by decide)) ?_
  refine am_aload_n (pc := 95) C dX5_copyFrom_95 rfl ?_
  refine am_getR (pc := 96) (j := 140) C dX5_copyFrom_96 f5_31 bn_134 sh_134 (rf_134_10 hR) ?_
  refine am_aload_n (pc := 99) C dX5_copyFrom_99 rfl ?_
  refine am_getR (pc := 100) (j := 31) C dX5_copyFrom_100 f5_31 bn_25 sh_25 (rf_25_10 hR) ?_
  refine am_callSNv (Y := mX11_copyRow) (pc := 103) (st := []) (As := [.ref 140, .ref 31]) (h2 := (am_row (am_row (am_row (am_row (am_row (am_row (am_row h 25 (upd (upd (upd (upd (upd (h 25) 0 ((h 134) 0)) 1 ((h 134) 1)) 2 ((h 134) 2)) 3 ((h 134) 3)) 4 ((h 134) 4))) 26 (va_cpy (h 135) (h 26) 0 0 10)) 27 (va_cpy (h 136) (h 27) 0 0 10)) 28 (va_cpy (h 137) (h 28) 0 0 10)) 29 (va_cpy (h 138) (h 29) 0 0 10)) 30 (va_cpy (h 139) (h 30) 0 0 10)) 31 (va_cpy (h 140) (h 31) 0 0 120))) C dX5_copyFrom_103 k5_70 v_X11_copyRow rfl rfl (by decide) (Nat.zero_le _) (Nat.zero_le _) (Nat.le_of_ble_eq_true rfl) (c_X11_copyRow hR 140 31 120 bn_140 sh_140 bn_31 sh_31 (by decide)) ?_
  refine am_aload_n (pc := 106) C dX5_copyFrom_106 rfl ?_
  refine am_getR (pc := 107) (j := 141) C dX5_copyFrom_107 f5_34 bn_134 sh_134 (rf_134_11 hR) ?_
  refine am_aload_n (pc := 110) C dX5_copyFrom_110 rfl ?_
  refine am_getR (pc := 111) (j := 32) C dX5_copyFrom_111 f5_34 bn_25 sh_25 (rf_25_11 hR) ?_
  refine am_callSNv (Y := mX11_copyRow) (pc := 114) (st := []) (As := [.ref 141, .ref 32]) (h2 := (am_row (am_row (am_row (am_row (am_row (am_row (am_row (am_row h 25 (upd (upd (upd (upd (upd (h 25) 0 ((h 134) 0)) 1 ((h 134) 1)) 2 ((h 134) 2)) 3 ((h 134) 3)) 4 ((h 134) 4))) 26 (va_cpy (h 135) (h 26) 0 0 10)) 27 (va_cpy (h 136) (h 27) 0 0 10)) 28 (va_cpy (h 137) (h 28) 0 0 10)) 29 (va_cpy (h 138) (h 29) 0 0 10)) 30 (va_cpy (h 139) (h 30) 0 0 10)) 31 (va_cpy (h 140) (h 31) 0 0 120)) 32 (va_cpy (h 141) (h 32) 0 0 40))) C dX5_copyFrom_114 k5_70 v_X11_copyRow rfl rfl (by decide) (Nat.zero_le _) (Nat.zero_le _) (Nat.le_of_ble_eq_true rfl) (c_X11_copyRow hR 141 32 40 bn_141 sh_141 bn_32 sh_32 (by decide)) ?_
  refine am_aload_n (pc := 117) C dX5_copyFrom_117 rfl ?_
  refine am_getR (pc := 118) (j := 142) C dX5_copyFrom_118 f5_37 bn_134 sh_134 (rf_134_12 hR) ?_
  refine am_aload_n (pc := 121) C dX5_copyFrom_121 rfl ?_
  refine am_getR (pc := 122) (j := 33) C dX5_copyFrom_122 f5_37 bn_25 sh_25 (rf_25_12 hR) ?_
  refine am_callSNv (Y := mX11_copyRow) (pc := 125) (st := []) (As := [.ref 142, .ref 33]) (h2 := (am_row (am_row (am_row (am_row (am_row (am_row (am_row (am_row (am_row h 25 (upd (upd (upd (upd (upd (h 25) 0 ((h 134) 0)) 1 ((h 134) 1)) 2 ((h 134) 2)) 3 ((h 134) 3)) 4 ((h 134) 4))) 26 (va_cpy (h 135) (h 26) 0 0 10)) 27 (va_cpy (h 136) (h 27) 0 0 10)) 28 (va_cpy (h 137) (h 28) 0 0 10)) 29 (va_cpy (h 138) (h 29) 0 0 10)) 30 (va_cpy (h 139) (h 30) 0 0 10)) 31 (va_cpy (h 140) (h 31) 0 0 120)) 32 (va_cpy (h 141) (h 32) 0 0 40)) 33 (va_cpy (h 142) (h 33) 0 0 40))) C dX5_copyFrom_125 k5_70 v_X11_copyRow rfl rfl (by decide) (Nat.zero_le _) (Nat.zero_le _) (Nat.le_of_ble_eq_true rfl) (c_X11_copyRow hR 142 33 40 bn_142 sh_142 bn_33 sh_33 (by decide)) ?_
  refine am_aload_n (pc := 128) C dX5_copyFrom_128 rfl ?_
  refine am_getR (pc := 129) (j := 143) C dX5_copyFrom_129 f5_40 bn_134 sh_134 (rf_134_13 hR) ?_
  refine am_aload_n (pc := 132) C dX5_copyFrom_132 rfl ?_
  refine am_getR (pc := 133) (j := 34) C dX5_copyFrom_133 f5_40 bn_25 sh_25 (rf_25_13 hR) ?_
  refine am_callSNv (Y := mX11_copyRow) (pc := 136) (st := []) (As := [.ref 143, .ref 34]) (h2 := (am_row (am_row (am_row (am_row (am_row (am_row (am_row (am_row (am_row (am_row h 25 (upd (upd (upd (upd (upd (h 25) 0 ((h 134) 0)) 1 ((h 134) 1)) 2 ((h 134) 2)) 3 ((h 134) 3)) 4 ((h 134) 4))) 26 (va_cpy (h 135) (h 26) 0 0 10)) 27 (va_cpy (h 136) (h 27) 0 0 10)) 28 (va_cpy (h 137) (h 28) 0 0 10)) 29 (va_cpy (h 138) (h 29) 0 0 10)) 30 (va_cpy (h 139) (h 30) 0 0 10)) 31 (va_cpy (h 140) (h 31) 0 0 120)) 32 (va_cpy (h 141) (h 32) 0 0 40)) 33 (va_cpy (h 142) (h 33) 0 0 40)) 34 (va_cpy (h 143) (h 34) 0 0 40))) C dX5_copyFrom_136 k5_70 v_X11_copyRow rfl rfl (by decide) (Nat.zero_le _) (Nat.zero_le _) (Nat.le_of_ble_eq_true rfl) (c_X11_copyRow hR 143 34 40 bn_143 sh_143 bn_34 sh_34 (by decide)) ?_
  refine am_aload_n (pc := 139) C dX5_copyFrom_139 rfl ?_
  refine am_getR (pc := 140) (j := 144) C dX5_copyFrom_140 f5_43 bn_134 sh_134 (rf_134_14 hR) ?_
  refine am_aload_n (pc := 143) C dX5_copyFrom_143 rfl ?_
  refine am_getR (pc := 144) (j := 35) C dX5_copyFrom_144 f5_43 bn_25 sh_25 (rf_25_14 hR) ?_
  refine am_callSNv (Y := mX11_copyRow) (pc := 147) (st := []) (As := [.ref 144, .ref 35]) (h2 := (am_row (am_row (am_row (am_row (am_row (am_row (am_row (am_row (am_row (am_row (am_row h 25 (upd (upd (upd (upd (upd (h 25) 0 ((h 134) 0)) 1 ((h 134) 1)) 2 ((h 134) 2)) 3 ((h 134) 3)) 4 ((h 134) 4))) 26 (va_cpy (h 135) (h 26) 0 0 10)) 27 (va_cpy (h 136) (h 27) 0 0 10)) 28 (va_cpy (h 137) (h 28) 0 0 10)) 29 (va_cpy (h 138) (h 29) 0 0 10)) 30 (va_cpy (h 139) (h 30) 0 0 10)) 31 (va_cpy (h 140) (h 31) 0 0 120)) 32 (va_cpy (h 141) (h 32) 0 0 40)) 33 (va_cpy (h 142) (h 33) 0 0 40)) 34 (va_cpy (h 143) (h 34) 0 0 40)) 35 (va_cpy (h 144) (h 35) 0 0 60))) C dX5_copyFrom_147 k5_70 v_X11_copyRow rfl rfl (by decide) (Nat.zero_le _) (Nat.zero_le _) (Nat.le_of_ble_eq_true rfl) (c_X11_copyRow hR 144 35 60 bn_144 sh_144 bn_35 sh_35 (by decide)) ?_
  refine am_aload_n (pc := 150) C dX5_copyFrom_150 rfl ?_
  refine am_getR (pc := 151) (j := 145) C dX5_copyFrom_151 f5_46 bn_134 sh_134 (rf_134_15 hR) ?_
  refine am_aload_n (pc := 154) C dX5_copyFrom_154 rfl ?_
  refine am_getR (pc := 155) (j := 36) C dX5_copyFrom_155 f5_46 bn_25 sh_25 (rf_25_15 hR) ?_
  refine am_callSNv (Y := mX11_copyRow) (pc := 158) (st := []) (As := [.ref 145, .ref 36]) (h2 := (am_row (am_row (am_row (am_row (am_row (am_row (am_row (am_row (am_row (am_row (am_row (am_row h 25 (upd (upd (upd (upd (upd (h 25) 0 ((h 134) 0)) 1 ((h 134) 1)) 2 ((h 134) 2)) 3 ((h 134) 3)) 4 ((h 134) 4))) 26 (va_cpy (h 135) (h 26) 0 0 10)) 27 (va_cpy (h 136) (h 27) 0 0 10)) 28 (va_cpy (h 137) (h 28) 0 0 10)) 29 (va_cpy (h 138) (h 29) 0 0 10)) 30 (va_cpy (h 139) (h 30) 0 0 10)) 31 (va_cpy (h 140) (h 31) 0 0 120)) 32 (va_cpy (h 141) (h 32) 0 0 40)) 33 (va_cpy (h 142) (h 33) 0 0 40)) 34 (va_cpy (h 143) (h 34) 0 0 40)) 35 (va_cpy (h 144) (h 35) 0 0 60)) 36 (va_cpy (h 145) (h 36) 0 0 60))) C dX5_copyFrom_158 k5_70 v_X11_copyRow rfl rfl (by decide) (Nat.zero_le _) (Nat.zero_le _) (Nat.le_of_ble_eq_true rfl) (c_X11_copyRow hR 145 36 60 bn_145 sh_145 bn_36 sh_36 (by decide)) ?_
  refine am_aload_n (pc := 161) C dX5_copyFrom_161 rfl ?_
  refine am_getR (pc := 162) (j := 146) C dX5_copyFrom_162 f5_49 bn_134 sh_134 (rf_134_16 hR) ?_
  refine am_aload_n (pc := 165) C dX5_copyFrom_165 rfl ?_
  refine am_getR (pc := 166) (j := 37) C dX5_copyFrom_166 f5_49 bn_25 sh_25 (rf_25_16 hR) ?_
  refine am_callSNv (Y := mX11_copyRow) (pc := 169) (st := []) (As := [.ref 146, .ref 37]) (h2 := (am_row (am_row (am_row (am_row (am_row (am_row (am_row (am_row (am_row (am_row (am_row (am_row (am_row h 25 (upd (upd (upd (upd (upd (h 25) 0 ((h 134) 0)) 1 ((h 134) 1)) 2 ((h 134) 2)) 3 ((h 134) 3)) 4 ((h 134) 4))) 26 (va_cpy (h 135) (h 26) 0 0 10)) 27 (va_cpy (h 136) (h 27) 0 0 10)) 28 (va_cpy (h 137) (h 28) 0 0 10)) 29 (va_cpy (h 138) (h 29) 0 0 10)) 30 (va_cpy (h 139) (h 30) 0 0 10)) 31 (va_cpy (h 140) (h 31) 0 0 120)) 32 (va_cpy (h 141) (h 32) 0 0 40)) 33 (va_cpy (h 142) (h 33) 0 0 40)) 34 (va_cpy (h 143) (h 34) 0 0 40)) 35 (va_cpy (h 144) (h 35) 0 0 60)) 36 (va_cpy (h 145) (h 36) 0 0 60)) 37 (va_cpy (h 146) (h 37) 0 0 60))) C dX5_copyFrom_169 k5_70 v_X11_copyRow rfl rfl (by decide) (Nat.zero_le _) (Nat.zero_le _) (Nat.le_of_ble_eq_true rfl) (c_X11_copyRow hR 146 37 60 bn_146 sh_146 bn_37 sh_37 (by decide)) ?_
  refine am_aload_n (pc := 172) C dX5_copyFrom_172 rfl ?_
  refine am_getR (pc := 173) (j := 147) C dX5_copyFrom_173 f5_52 bn_134 sh_134 (rf_134_17 hR) ?_
  refine am_aload_n (pc := 176) C dX5_copyFrom_176 rfl ?_
  refine am_getR (pc := 177) (j := 38) C dX5_copyFrom_177 f5_52 bn_25 sh_25 (rf_25_17 hR) ?_
  refine am_callSNv (Y := mX11_copyRow) (pc := 180) (st := []) (As := [.ref 147, .ref 38]) (h2 := (am_row (am_row (am_row (am_row (am_row (am_row (am_row (am_row (am_row (am_row (am_row (am_row (am_row (am_row h 25 (upd (upd (upd (upd (upd (h 25) 0 ((h 134) 0)) 1 ((h 134) 1)) 2 ((h 134) 2)) 3 ((h 134) 3)) 4 ((h 134) 4))) 26 (va_cpy (h 135) (h 26) 0 0 10)) 27 (va_cpy (h 136) (h 27) 0 0 10)) 28 (va_cpy (h 137) (h 28) 0 0 10)) 29 (va_cpy (h 138) (h 29) 0 0 10)) 30 (va_cpy (h 139) (h 30) 0 0 10)) 31 (va_cpy (h 140) (h 31) 0 0 120)) 32 (va_cpy (h 141) (h 32) 0 0 40)) 33 (va_cpy (h 142) (h 33) 0 0 40)) 34 (va_cpy (h 143) (h 34) 0 0 40)) 35 (va_cpy (h 144) (h 35) 0 0 60)) 36 (va_cpy (h 145) (h 36) 0 0 60)) 37 (va_cpy (h 146) (h 37) 0 0 60)) 38 (va_cpy (h 147) (h 38) 0 0 60))) C dX5_copyFrom_180 k5_70 v_X11_copyRow rfl rfl (by decide) (Nat.zero_le _) (Nat.zero_le _) (Nat.le_of_ble_eq_true rfl) (c_X11_copyRow hR 147 38 60 bn_147 sh_147 bn_38 sh_38 (by decide)) ?_
  refine am_aload_n (pc := 183) C dX5_copyFrom_183 rfl ?_
  refine am_getR (pc := 184) (j := 148) C dX5_copyFrom_184 f5_55 bn_134 sh_134 (rf_134_18 hR) ?_
  refine am_aload_n (pc := 187) C dX5_copyFrom_187 rfl ?_
  refine am_getR (pc := 188) (j := 39) C dX5_copyFrom_188 f5_55 bn_25 sh_25 (rf_25_18 hR) ?_
  refine am_callSNv (Y := mX11_copyRow) (pc := 191) (st := []) (As := [.ref 148, .ref 39]) (h2 := (am_row (am_row (am_row (am_row (am_row (am_row (am_row (am_row (am_row (am_row (am_row (am_row (am_row (am_row (am_row h 25 (upd (upd (upd (upd (upd (h 25) 0 ((h 134) 0)) 1 ((h 134) 1)) 2 ((h 134) 2)) 3 ((h 134) 3)) 4 ((h 134) 4))) 26 (va_cpy (h 135) (h 26) 0 0 10)) 27 (va_cpy (h 136) (h 27) 0 0 10)) 28 (va_cpy (h 137) (h 28) 0 0 10)) 29 (va_cpy (h 138) (h 29) 0 0 10)) 30 (va_cpy (h 139) (h 30) 0 0 10)) 31 (va_cpy (h 140) (h 31) 0 0 120)) 32 (va_cpy (h 141) (h 32) 0 0 40)) 33 (va_cpy (h 142) (h 33) 0 0 40)) 34 (va_cpy (h 143) (h 34) 0 0 40)) 35 (va_cpy (h 144) (h 35) 0 0 60)) 36 (va_cpy (h 145) (h 36) 0 0 60)) 37 (va_cpy (h 146) (h 37) 0 0 60)) 38 (va_cpy (h 147) (h 38) 0 0 60)) 39 (va_cpy (h 148) (h 39) 0 0 60))) C dX5_copyFrom_191 k5_70 v_X11_copyRow rfl rfl (by decide) (Nat.zero_le _) (Nat.zero_le _) (Nat.le_of_ble_eq_true rfl) (c_X11_copyRow hR 148 39 60 bn_148 sh_148 bn_39 sh_39 (by decide)) ?_
  exact am_vretvr T dX5_copyFrom_194 rfl (Nat.le_refl _) (Nat.le_refl _) rfl ⟨cl_Sc_cpy hV hSc rfl rfl rfl rfl rfl (fun k hk => va_cpy_0 hk) (fun k hk => va_cpy_0 hk) (fun k hk => va_cpy_0 hk) (fun k hk => va_cpy_0 hk) (fun k hk => va_cpy_0 hk) (fun k hk => va_cpy_0 hk) (fun k hk => va_cpy_0 hk) (fun k hk => va_cpy_0 hk) (fun k hk => va_cpy_0 hk) (fun k hk => va_cpy_0 hk) (fun k hk => va_cpy_0 hk) (fun k hk => va_cpy_0 hk) (fun k hk => va_cpy_0 hk) (fun k hk => va_cpy_0 hk), (fun i9 h9 => by rw [am_row_ne _ _ _ (by omega), am_row_ne _ _ _ (by omega), am_row_ne _ _ _ (by omega), am_row_ne _ _ _ (by omega), am_row_ne _ _ _ (by omega), am_row_ne _ _ _ (by omega), am_row_ne _ _ _ (by omega), am_row_ne _ _ _ (by omega), am_row_ne _ _ _ (by omega), am_row_ne _ _ _ (by omega), am_row_ne _ _ _ (by omega), am_row_ne _ _ _ (by omega), am_row_ne _ _ _ (by omega), am_row_ne _ _ _ (by omega), am_row_ne _ _ _ (by omega)])⟩

set_option maxHeartbeats 400000 in
set_option maxRecDepth 100000 in
theorem c_X5_copyFrom_d_t1 {ad : Nat → Nat} {r : am_R} (hR : am_rs r) {h : am_H}  (w : rf_W) (hV : rf_I w) (hSc : cl_Sc (h) 149 w)  : am_CM mX5_copyFrom 3 0 0 [.ref 25, .ref 149] (am_VV ad) r h (am_pr none r (fun c9 => cl_Sc c9 25 w ∧ cl_fr (h) c9 25 15)) := by
  refine am_CM.of (by decide +kernel) (Nat.le_of_ble_eq_true rfl) (fun X C T => ?_)
  show am_G X (am_VV ad) (0, 0) 0 [(0, .ref 25), (1, .ref 149)] [] r h
  refine am_aload_n (pc := 0) C dX5_copyFrom_0 rfl ?_
  refine am_aload_n (pc := 1) C dX5_copyFrom_1 rfl ?_
  refine am_getI (pc := 2) C dX5_copyFrom_2 f5_58 bn_149 sh_149 ?_
  refine am_putI (pc := 5) C dX5_copyFrom_5 f5_58 bn_25 sh_25 rfl rfl ?_
  refine am_hp (show am_up h 25 0 ((h 149) 0) = am_row h 25 (upd (h 25) 0 ((h 149) 0)) from am_up_rw _ _ _ _) ?_
  refine am_aload_n (pc := 8) C dX5_copyFrom_8 rfl ?_
  refine am_aload_n (pc := 9) C dX5_copyFrom_9 rfl ?_
  refine am_getI (pc := 10) C dX5_copyFrom_10 f5_9 bn_149 sh_149 ?_
  refine am_putI (pc := 13) C dX5_copyFrom_13 f5_9 bn_25 sh_25 rfl rfl ?_
  refine am_hp (show am_up (am_row h 25 (upd (h 25) 0 ((h 149) 0))) 25 1 ((h 149) 1) = am_row (am_row h 25 (upd (h 25) 0 ((h 149) 0))) 25 (upd (upd (h 25) 0 ((h 149) 0)) 1 ((h 149) 1)) from am_up_rw _ _ _ _) ?_
  refine am_hp (show am_row (am_row h 25 (upd (h 25) 0 ((h 149) 0))) 25 (upd (upd (h 25) 0 ((h 149) 0)) 1 ((h 149) 1)) = (am_row h 25 (upd (upd (h 25) 0 ((h 149) 0)) 1 ((h 149) 1))) from am_row_s0) ?_
  refine am_aload_n (pc := 16) C dX5_copyFrom_16 rfl ?_
  refine am_aload_n (pc := 17) C dX5_copyFrom_17 rfl ?_
  refine am_getI (pc := 18) C dX5_copyFrom_18 f5_61 bn_149 sh_149 ?_
  refine am_putI (pc := 21) C dX5_copyFrom_21 f5_61 bn_25 sh_25 rfl rfl ?_
  refine am_hp (show am_up (am_row h 25 (upd (upd (h 25) 0 ((h 149) 0)) 1 ((h 149) 1))) 25 2 ((h 149) 2) = am_row (am_row h 25 (upd (upd (h 25) 0 ((h 149) 0)) 1 ((h 149) 1))) 25 (upd (upd (upd (h 25) 0 ((h 149) 0)) 1 ((h 149) 1)) 2 ((h 149) 2)) from am_up_rw _ _ _ _) ?_
  refine am_hp (show am_row (am_row h 25 (upd (upd (h 25) 0 ((h 149) 0)) 1 ((h 149) 1))) 25 (upd (upd (upd (h 25) 0 ((h 149) 0)) 1 ((h 149) 1)) 2 ((h 149) 2)) = (am_row h 25 (upd (upd (upd (h 25) 0 ((h 149) 0)) 1 ((h 149) 1)) 2 ((h 149) 2))) from am_row_s0) ?_
  refine am_aload_n (pc := 24) C dX5_copyFrom_24 rfl ?_
  refine am_aload_n (pc := 25) C dX5_copyFrom_25 rfl ?_
  refine am_getI (pc := 26) C dX5_copyFrom_26 f5_64 bn_149 sh_149 ?_
  refine am_putI (pc := 29) C dX5_copyFrom_29 f5_64 bn_25 sh_25 rfl rfl ?_
  refine am_hp (show am_up (am_row h 25 (upd (upd (upd (h 25) 0 ((h 149) 0)) 1 ((h 149) 1)) 2 ((h 149) 2))) 25 3 ((h 149) 3) = am_row (am_row h 25 (upd (upd (upd (h 25) 0 ((h 149) 0)) 1 ((h 149) 1)) 2 ((h 149) 2))) 25 (upd (upd (upd (upd (h 25) 0 ((h 149) 0)) 1 ((h 149) 1)) 2 ((h 149) 2)) 3 ((h 149) 3)) from am_up_rw _ _ _ _) ?_
  refine am_hp (show am_row (am_row h 25 (upd (upd (upd (h 25) 0 ((h 149) 0)) 1 ((h 149) 1)) 2 ((h 149) 2))) 25 (upd (upd (upd (upd (h 25) 0 ((h 149) 0)) 1 ((h 149) 1)) 2 ((h 149) 2)) 3 ((h 149) 3)) = (am_row h 25 (upd (upd (upd (upd (h 25) 0 ((h 149) 0)) 1 ((h 149) 1)) 2 ((h 149) 2)) 3 ((h 149) 3))) from am_row_s0) ?_
  refine am_aload_n (pc := 32) C dX5_copyFrom_32 rfl ?_
  refine am_aload_n (pc := 33) C dX5_copyFrom_33 rfl ?_
  refine am_getI (pc := 34) C dX5_copyFrom_34 f5_67 bn_149 sh_149 ?_
  refine am_putI (pc := 37) C dX5_copyFrom_37 f5_67 bn_25 sh_25 rfl rfl ?_
  refine am_hp (show am_up (am_row h 25 (upd (upd (upd (upd (h 25) 0 ((h 149) 0)) 1 ((h 149) 1)) 2 ((h 149) 2)) 3 ((h 149) 3))) 25 4 ((h 149) 4) = am_row (am_row h 25 (upd (upd (upd (upd (h 25) 0 ((h 149) 0)) 1 ((h 149) 1)) 2 ((h 149) 2)) 3 ((h 149) 3))) 25 (upd (upd (upd (upd (upd (h 25) 0 ((h 149) 0)) 1 ((h 149) 1)) 2 ((h 149) 2)) 3 ((h 149) 3)) 4 ((h 149) 4)) from am_up_rw _ _ _ _) ?_
  refine am_hp (show am_row (am_row h 25 (upd (upd (upd (upd (h 25) 0 ((h 149) 0)) 1 ((h 149) 1)) 2 ((h 149) 2)) 3 ((h 149) 3))) 25 (upd (upd (upd (upd (upd (h 25) 0 ((h 149) 0)) 1 ((h 149) 1)) 2 ((h 149) 2)) 3 ((h 149) 3)) 4 ((h 149) 4)) = (am_row h 25 (upd (upd (upd (upd (upd (h 25) 0 ((h 149) 0)) 1 ((h 149) 1)) 2 ((h 149) 2)) 3 ((h 149) 3)) 4 ((h 149) 4))) from am_row_s0) ?_
  refine am_aload_n (pc := 40) C dX5_copyFrom_40 rfl ?_
  refine am_getR (pc := 41) (j := 150) C dX5_copyFrom_41 f5_15 bn_149 sh_149 (rf_149_5 hR) ?_
  refine am_aload_n (pc := 44) C dX5_copyFrom_44 rfl ?_
  refine am_getR (pc := 45) (j := 26) C dX5_copyFrom_45 f5_15 bn_25 sh_25 (rf_25_5 hR) ?_
  refine am_callSNv (Y := mX11_copyRow) (pc := 48) (st := []) (As := [.ref 150, .ref 26]) (h2 := (am_row (am_row h 25 (upd (upd (upd (upd (upd (h 25) 0 ((h 149) 0)) 1 ((h 149) 1)) 2 ((h 149) 2)) 3 ((h 149) 3)) 4 ((h 149) 4))) 26 (va_cpy (h 150) (h 26) 0 0 10))) C dX5_copyFrom_48 k5_70 v_X11_copyRow rfl rfl (by decide) (Nat.zero_le _) (Nat.zero_le _) (Nat.le_of_ble_eq_true rfl) (c_X11_copyRow hR 150 26 10 bn_150 sh_150 bn_26 sh_26 (by decide)) ?_
  refine am_aload_n (pc := 51) C dX5_copyFrom_51 rfl ?_
  refine am_getR (pc := 52) (j := 151) C dX5_copyFrom_52 f5_19 bn_149 sh_149 (rf_149_6 hR) ?_
  refine am_aload_n (pc := 55) C dX5_copyFrom_55 rfl ?_
  refine am_getR (pc := 56) (j := 27) C dX5_copyFrom_56 f5_19 bn_25 sh_25 (rf_25_6 hR) ?_
  refine am_callSNv (Y := mX11_copyRow) (pc := 59) (st := []) (As := [.ref 151, .ref 27]) (h2 := (am_row (am_row (am_row h 25 (upd (upd (upd (upd (upd (h 25) 0 ((h 149) 0)) 1 ((h 149) 1)) 2 ((h 149) 2)) 3 ((h 149) 3)) 4 ((h 149) 4))) 26 (va_cpy (h 150) (h 26) 0 0 10)) 27 (va_cpy (h 151) (h 27) 0 0 10))) C dX5_copyFrom_59 k5_70 v_X11_copyRow rfl rfl (by decide) (Nat.zero_le _) (Nat.zero_le _) (Nat.le_of_ble_eq_true rfl) (c_X11_copyRow hR 151 27 10 bn_151 sh_151 bn_27 sh_27 (by decide)) ?_
  refine am_aload_n (pc := 62) C dX5_copyFrom_62 rfl ?_
  refine am_getR (pc := 63) (j := 152) C dX5_copyFrom_63 f5_22 bn_149 sh_149 (rf_149_7 hR) ?_
  refine am_aload_n (pc := 66) C dX5_copyFrom_66 rfl ?_
  refine am_getR (pc := 67) (j := 28) C dX5_copyFrom_67 f5_22 bn_25 sh_25 (rf_25_7 hR) ?_
  refine am_callSNv (Y := mX11_copyRow) (pc := 70) (st := []) (As := [.ref 152, .ref 28]) (h2 := (am_row (am_row (am_row (am_row h 25 (upd (upd (upd (upd (upd (h 25) 0 ((h 149) 0)) 1 ((h 149) 1)) 2 ((h 149) 2)) 3 ((h 149) 3)) 4 ((h 149) 4))) 26 (va_cpy (h 150) (h 26) 0 0 10)) 27 (va_cpy (h 151) (h 27) 0 0 10)) 28 (va_cpy (h 152) (h 28) 0 0 10))) C dX5_copyFrom_70 k5_70 v_X11_copyRow rfl rfl (by decide) (Nat.zero_le _) (Nat.zero_le _) (Nat.le_of_ble_eq_true rfl) (c_X11_copyRow hR 152 28 10 bn_152 sh_152 bn_28 sh_28 (by decide)) ?_
  refine am_aload_n (pc := 73) C dX5_copyFrom_73 rfl ?_
  refine am_getR (pc := 74) (j := 153) C dX5_copyFrom_74 f5_25 bn_149 sh_149 (rf_149_8 hR) ?_
  refine am_aload_n (pc := 77) C dX5_copyFrom_77 rfl ?_
  refine am_getR (pc := 78) (j := 29) C dX5_copyFrom_78 f5_25 bn_25 sh_25 (rf_25_8 hR) ?_
  refine am_callSNv (Y := mX11_copyRow) (pc := 81) (st := []) (As := [.ref 153, .ref 29]) (h2 := (am_row (am_row (am_row (am_row (am_row h 25 (upd (upd (upd (upd (upd (h 25) 0 ((h 149) 0)) 1 ((h 149) 1)) 2 ((h 149) 2)) 3 ((h 149) 3)) 4 ((h 149) 4))) 26 (va_cpy (h 150) (h 26) 0 0 10)) 27 (va_cpy (h 151) (h 27) 0 0 10)) 28 (va_cpy (h 152) (h 28) 0 0 10)) 29 (va_cpy (h 153) (h 29) 0 0 10))) C dX5_copyFrom_81 k5_70 v_X11_copyRow rfl rfl (by decide) (Nat.zero_le _) (Nat.zero_le _) (Nat.le_of_ble_eq_true rfl) (c_X11_copyRow hR 153 29 10 bn_153 sh_153 bn_29 sh_29 (by decide)) ?_
  refine am_aload_n (pc := 84) C dX5_copyFrom_84 rfl ?_
  refine am_getR (pc := 85) (j := 154) C dX5_copyFrom_85 f5_28 bn_149 sh_149 (rf_149_9 hR) ?_
  refine am_aload_n (pc := 88) C dX5_copyFrom_88 rfl ?_
  refine am_getR (pc := 89) (j := 30) C dX5_copyFrom_89 f5_28 bn_25 sh_25 (rf_25_9 hR) ?_
  refine am_callSNv (Y := mX11_copyRow) (pc := 92) (st := []) (As := [.ref 154, .ref 30]) (h2 := (am_row (am_row (am_row (am_row (am_row (am_row h 25 (upd (upd (upd (upd (upd (h 25) 0 ((h 149) 0)) 1 ((h 149) 1)) 2 ((h 149) 2)) 3 ((h 149) 3)) 4 ((h 149) 4))) 26 (va_cpy (h 150) (h 26) 0 0 10)) 27 (va_cpy (h 151) (h 27) 0 0 10)) 28 (va_cpy (h 152) (h 28) 0 0 10)) 29 (va_cpy (h 153) (h 29) 0 0 10)) 30 (va_cpy (h 154) (h 30) 0 0 10))) C dX5_copyFrom_92 k5_70 v_X11_copyRow rfl rfl (by decide) (Nat.zero_le _) (Nat.zero_le _) (Nat.le_of_ble_eq_true rfl) (c_X11_copyRow hR 154 30 10 bn_154 sh_154 bn_30 sh_30 (by decide)) ?_
  refine am_aload_n (pc := 95) C dX5_copyFrom_95 rfl ?_
  refine am_getR (pc := 96) (j := 155) C dX5_copyFrom_96 f5_31 bn_149 sh_149 (rf_149_10 hR) ?_
  refine am_aload_n (pc := 99) C dX5_copyFrom_99 rfl ?_
  refine am_getR (pc := 100) (j := 31) C dX5_copyFrom_100 f5_31 bn_25 sh_25 (rf_25_10 hR) ?_
  refine am_callSNv (Y := mX11_copyRow) (pc := 103) (st := []) (As := [.ref 155, .ref 31]) (h2 := (am_row (am_row (am_row (am_row (am_row (am_row (am_row h 25 (upd (upd (upd (upd (upd (h 25) 0 ((h 149) 0)) 1 ((h 149) 1)) 2 ((h 149) 2)) 3 ((h 149) 3)) 4 ((h 149) 4))) 26 (va_cpy (h 150) (h 26) 0 0 10)) 27 (va_cpy (h 151) (h 27) 0 0 10)) 28 (va_cpy (h 152) (h 28) 0 0 10)) 29 (va_cpy (h 153) (h 29) 0 0 10)) 30 (va_cpy (h 154) (h 30) 0 0 10)) 31 (va_cpy (h 155) (h 31) 0 0 120))) C dX5_copyFrom_103 k5_70 v_X11_copyRow rfl rfl (by decide) (Nat.zero_le _) (Nat.zero_le _) (Nat.le_of_ble_eq_true rfl) (c_X11_copyRow hR 155 31 120 bn_155 sh_155 bn_31 sh_31 (by decide)) ?_
  refine am_aload_n (pc := 106) C dX5_copyFrom_106 rfl ?_
  refine am_getR (pc := 107) (j := 156) C dX5_copyFrom_107 f5_34 bn_149 sh_149 (rf_149_11 hR) ?_
  refine am_aload_n (pc := 110) C dX5_copyFrom_110 rfl ?_
  refine am_getR (pc := 111) (j := 32) C dX5_copyFrom_111 f5_34 bn_25 sh_25 (rf_25_11 hR) ?_
  refine am_callSNv (Y := mX11_copyRow) (pc := 114) (st := []) (As := [.ref 156, .ref 32]) (h2 := (am_row (am_row (am_row (am_row (am_row (am_row (am_row (am_row h 25 (upd (upd (upd (upd (upd (h 25) 0 ((h 149) 0)) 1 ((h 149) 1)) 2 ((h 149) 2)) 3 ((h 149) 3)) 4 ((h 149) 4))) 26 (va_cpy (h 150) (h 26) 0 0 10)) 27 (va_cpy (h 151) (h 27) 0 0 10)) 28 (va_cpy (h 152) (h 28) 0 0 10)) 29 (va_cpy (h 153) (h 29) 0 0 10)) 30 (va_cpy (h 154) (h 30) 0 0 10)) 31 (va_cpy (h 155) (h 31) 0 0 120)) 32 (va_cpy (h 156) (h 32) 0 0 40))) C dX5_copyFrom_114 k5_70 v_X11_copyRow rfl rfl (by decide) (Nat.zero_le _) (Nat.zero_le _) (Nat.le_of_ble_eq_true rfl) (c_X11_copyRow hR 156 32 40 bn_156 sh_156 bn_32 sh_32 (by decide)) ?_
  refine am_aload_n (pc := 117) C dX5_copyFrom_117 rfl ?_
  refine am_getR (pc := 118) (j := 157) C dX5_copyFrom_118 f5_37 bn_149 sh_149 (rf_149_12 hR) ?_
  refine am_aload_n (pc := 121) C dX5_copyFrom_121 rfl ?_
  refine am_getR (pc := 122) (j := 33) C dX5_copyFrom_122 f5_37 bn_25 sh_25 (rf_25_12 hR) ?_
  refine am_callSNv (Y := mX11_copyRow) (pc := 125) (st := []) (As := [.ref 157, .ref 33]) (h2 := (am_row (am_row (am_row (am_row (am_row (am_row (am_row (am_row (am_row h 25 (upd (upd (upd (upd (upd (h 25) 0 ((h 149) 0)) 1 ((h 149) 1)) 2 ((h 149) 2)) 3 ((h 149) 3)) 4 ((h 149) 4))) 26 (va_cpy (h 150) (h 26) 0 0 10)) 27 (va_cpy (h 151) (h 27) 0 0 10)) 28 (va_cpy (h 152) (h 28) 0 0 10)) 29 (va_cpy (h 153) (h 29) 0 0 10)) 30 (va_cpy (h 154) (h 30) 0 0 10)) 31 (va_cpy (h 155) (h 31) 0 0 120)) 32 (va_cpy (h 156) (h 32) 0 0 40)) 33 (va_cpy (h 157) (h 33) 0 0 40))) C dX5_copyFrom_125 k5_70 v_X11_copyRow rfl rfl (by decide) (Nat.zero_le _) (Nat.zero_le _) (Nat.le_of_ble_eq_true rfl) (c_X11_copyRow hR 157 33 40 bn_157 sh_157 bn_33 sh_33 (by decide)) ?_
  refine am_aload_n (pc := 128) C dX5_copyFrom_128 rfl ?_
  refine am_getR (pc := 129) (j := 158) C dX5_copyFrom_129 f5_40 bn_149 sh_149 (rf_149_13 hR) ?_
  refine am_aload_n (pc := 132) C dX5_copyFrom_132 rfl ?_
  refine am_getR (pc := 133) (j := 34) C dX5_copyFrom_133 f5_40 bn_25 sh_25 (rf_25_13 hR) ?_
  refine am_callSNv (Y := mX11_copyRow) (pc := 136) (st := []) (As := [.ref 158, .ref 34]) (h2 := (am_row (am_row (am_row (am_row (am_row (am_row (am_row (am_row (am_row (am_row h 25 (upd (upd (upd (upd (upd (h 25) 0 ((h 149) 0)) 1 ((h 149) 1)) 2 ((h 149) 2)) 3 ((h 149) 3)) 4 ((h 149) 4))) 26 (va_cpy (h 150) (h 26) 0 0 10)) 27 (va_cpy (h 151) (h 27) 0 0 10)) 28 (va_cpy (h 152) (h 28) 0 0 10)) 29 (va_cpy (h 153) (h 29) 0 0 10)) 30 (va_cpy (h 154) (h 30) 0 0 10)) 31 (va_cpy (h 155) (h 31) 0 0 120)) 32 (va_cpy (h 156) (h 32) 0 0 40)) 33 (va_cpy (h 157) (h 33) 0 0 40)) 34 (va_cpy (h 158) (h 34) 0 0 40))) C dX5_copyFrom_136 k5_70 v_X11_copyRow rfl rfl (by decide) (Nat.zero_le _) (Nat.zero_le _) (Nat.le_of_ble_eq_true rfl) (c_X11_copyRow hR 158 34 40 bn_158 sh_158 bn_34 sh_34 (by decide)) ?_
  refine am_aload_n (pc := 139) C dX5_copyFrom_139 rfl ?_
  refine am_getR (pc := 140) (j := 159) C dX5_copyFrom_140 f5_43 bn_149 sh_149 (rf_149_14 hR) ?_
  refine am_aload_n (pc := 143) C dX5_copyFrom_143 rfl ?_
  refine am_getR (pc := 144) (j := 35) C dX5_copyFrom_144 f5_43 bn_25 sh_25 (rf_25_14 hR) ?_
  refine am_callSNv (Y := mX11_copyRow) (pc := 147) (st := []) (As := [.ref 159, .ref 35]) (h2 := (am_row (am_row (am_row (am_row (am_row (am_row (am_row (am_row (am_row (am_row (am_row h 25 (upd (upd (upd (upd (upd (h 25) 0 ((h 149) 0)) 1 ((h 149) 1)) 2 ((h 149) 2)) 3 ((h 149) 3)) 4 ((h 149) 4))) 26 (va_cpy (h 150) (h 26) 0 0 10)) 27 (va_cpy (h 151) (h 27) 0 0 10)) 28 (va_cpy (h 152) (h 28) 0 0 10)) 29 (va_cpy (h 153) (h 29) 0 0 10)) 30 (va_cpy (h 154) (h 30) 0 0 10)) 31 (va_cpy (h 155) (h 31) 0 0 120)) 32 (va_cpy (h 156) (h 32) 0 0 40)) 33 (va_cpy (h 157) (h 33) 0 0 40)) 34 (va_cpy (h 158) (h 34) 0 0 40)) 35 (va_cpy (h 159) (h 35) 0 0 60))) C dX5_copyFrom_147 k5_70 v_X11_copyRow rfl rfl (by decide) (Nat.zero_le _) (Nat.zero_le _) (Nat.le_of_ble_eq_true rfl) (c_X11_copyRow hR 159 35 60 bn_159 sh_159 bn_35 sh_35 (by decide)) ?_
  refine am_aload_n (pc := 150) C dX5_copyFrom_150 rfl ?_
  refine am_getR (pc := 151) (j := 160) C dX5_copyFrom_151 f5_46 bn_149 sh_149 (rf_149_15 hR) ?_
  refine am_aload_n (pc := 154) C dX5_copyFrom_154 rfl ?_
  refine am_getR (pc := 155) (j := 36) C dX5_copyFrom_155 f5_46 bn_25 sh_25 (rf_25_15 hR) ?_
  refine am_callSNv (Y := mX11_copyRow) (pc := 158) (st := []) (As := [.ref 160, .ref 36]) (h2 := (am_row (am_row (am_row (am_row (am_row (am_row (am_row (am_row (am_row (am_row (am_row (am_row h 25 (upd (upd (upd (upd (upd (h 25) 0 ((h 149) 0)) 1 ((h 149) 1)) 2 ((h 149) 2)) 3 ((h 149) 3)) 4 ((h 149) 4))) 26 (va_cpy (h 150) (h 26) 0 0 10)) 27 (va_cpy (h 151) (h 27) 0 0 10)) 28 (va_cpy (h 152) (h 28) 0 0 10)) 29 (va_cpy (h 153) (h 29) 0 0 10)) 30 (va_cpy (h 154) (h 30) 0 0 10)) 31 (va_cpy (h 155) (h 31) 0 0 120)) 32 (va_cpy (h 156) (h 32) 0 0 40)) 33 (va_cpy (h 157) (h 33) 0 0 40)) 34 (va_cpy (h 158) (h 34) 0 0 40)) 35 (va_cpy (h 159) (h 35) 0 0 60)) 36 (va_cpy (h 160) (h 36) 0 0 60))) C dX5_copyFrom_158 k5_70 v_X11_copyRow rfl rfl (by decide) (Nat.zero_le _) (Nat.zero_le _) (Nat.le_of_ble_eq_true rfl) (c_X11_copyRow hR 160 36 60 bn_160 sh_160 bn_36 sh_36 (by decide)) ?_
  refine am_aload_n (pc := 161) C dX5_copyFrom_161 rfl ?_
  refine am_getR (pc := 162) (j := 161) C dX5_copyFrom_162 f5_49 bn_149 sh_149 (rf_149_16 hR) ?_
  refine am_aload_n (pc := 165) C dX5_copyFrom_165 rfl ?_
  refine am_getR (pc := 166) (j := 37) C dX5_copyFrom_166 f5_49 bn_25 sh_25 (rf_25_16 hR) ?_
  refine am_callSNv (Y := mX11_copyRow) (pc := 169) (st := []) (As := [.ref 161, .ref 37]) (h2 := (am_row (am_row (am_row (am_row (am_row (am_row (am_row (am_row (am_row (am_row (am_row (am_row (am_row h 25 (upd (upd (upd (upd (upd (h 25) 0 ((h 149) 0)) 1 ((h 149) 1)) 2 ((h 149) 2)) 3 ((h 149) 3)) 4 ((h 149) 4))) 26 (va_cpy (h 150) (h 26) 0 0 10)) 27 (va_cpy (h 151) (h 27) 0 0 10)) 28 (va_cpy (h 152) (h 28) 0 0 10)) 29 (va_cpy (h 153) (h 29) 0 0 10)) 30 (va_cpy (h 154) (h 30) 0 0 10)) 31 (va_cpy (h 155) (h 31) 0 0 120)) 32 (va_cpy (h 156) (h 32) 0 0 40)) 33 (va_cpy (h 157) (h 33) 0 0 40)) 34 (va_cpy (h 158) (h 34) 0 0 40)) 35 (va_cpy (h 159) (h 35) 0 0 60)) 36 (va_cpy (h 160) (h 36) 0 0 60)) 37 (va_cpy (h 161) (h 37) 0 0 60))) C dX5_copyFrom_169 k5_70 v_X11_copyRow rfl rfl (by decide) (Nat.zero_le _) (Nat.zero_le _) (Nat.le_of_ble_eq_true rfl) (c_X11_copyRow hR 161 37 60 bn_161 sh_161 bn_37 sh_37 (by decide)) ?_
  refine am_aload_n (pc := 172) C dX5_copyFrom_172 rfl ?_
  refine am_getR (pc := 173) (j := 162) C dX5_copyFrom_173 f5_52 bn_149 sh_149 (rf_149_17 hR) ?_
  refine am_aload_n (pc := 176) C dX5_copyFrom_176 rfl ?_
  refine am_getR (pc := 177) (j := 38) C dX5_copyFrom_177 f5_52 bn_25 sh_25 (rf_25_17 hR) ?_
  refine am_callSNv (Y := mX11_copyRow) (pc := 180) (st := []) (As := [.ref 162, .ref 38]) (h2 := (am_row (am_row (am_row (am_row (am_row (am_row (am_row (am_row (am_row (am_row (am_row (am_row (am_row (am_row h 25 (upd (upd (upd (upd (upd (h 25) 0 ((h 149) 0)) 1 ((h 149) 1)) 2 ((h 149) 2)) 3 ((h 149) 3)) 4 ((h 149) 4))) 26 (va_cpy (h 150) (h 26) 0 0 10)) 27 (va_cpy (h 151) (h 27) 0 0 10)) 28 (va_cpy (h 152) (h 28) 0 0 10)) 29 (va_cpy (h 153) (h 29) 0 0 10)) 30 (va_cpy (h 154) (h 30) 0 0 10)) 31 (va_cpy (h 155) (h 31) 0 0 120)) 32 (va_cpy (h 156) (h 32) 0 0 40)) 33 (va_cpy (h 157) (h 33) 0 0 40)) 34 (va_cpy (h 158) (h 34) 0 0 40)) 35 (va_cpy (h 159) (h 35) 0 0 60)) 36 (va_cpy (h 160) (h 36) 0 0 60)) 37 (va_cpy (h 161) (h 37) 0 0 60)) 38 (va_cpy (h 162) (h 38) 0 0 60))) C dX5_copyFrom_180 k5_70 v_X11_copyRow rfl rfl (by decide) (Nat.zero_le _) (Nat.zero_le _) (Nat.le_of_ble_eq_true rfl) (c_X11_copyRow hR 162 38 60 bn_162 sh_162 bn_38 sh_38 (by decide)) ?_
  refine am_aload_n (pc := 183) C dX5_copyFrom_183 rfl ?_
  refine am_getR (pc := 184) (j := 163) C dX5_copyFrom_184 f5_55 bn_149 sh_149 (rf_149_18 hR) ?_
  refine am_aload_n (pc := 187) C dX5_copyFrom_187 rfl ?_
  refine am_getR (pc := 188) (j := 39) C dX5_copyFrom_188 f5_55 bn_25 sh_25 (rf_25_18 hR) ?_
  refine am_callSNv (Y := mX11_copyRow) (pc := 191) (st := []) (As := [.ref 163, .ref 39]) (h2 := (am_row (am_row (am_row (am_row (am_row (am_row (am_row (am_row (am_row (am_row (am_row (am_row (am_row (am_row (am_row h 25 (upd (upd (upd (upd (upd (h 25) 0 ((h 149) 0)) 1 ((h 149) 1)) 2 ((h 149) 2)) 3 ((h 149) 3)) 4 ((h 149) 4))) 26 (va_cpy (h 150) (h 26) 0 0 10)) 27 (va_cpy (h 151) (h 27) 0 0 10)) 28 (va_cpy (h 152) (h 28) 0 0 10)) 29 (va_cpy (h 153) (h 29) 0 0 10)) 30 (va_cpy (h 154) (h 30) 0 0 10)) 31 (va_cpy (h 155) (h 31) 0 0 120)) 32 (va_cpy (h 156) (h 32) 0 0 40)) 33 (va_cpy (h 157) (h 33) 0 0 40)) 34 (va_cpy (h 158) (h 34) 0 0 40)) 35 (va_cpy (h 159) (h 35) 0 0 60)) 36 (va_cpy (h 160) (h 36) 0 0 60)) 37 (va_cpy (h 161) (h 37) 0 0 60)) 38 (va_cpy (h 162) (h 38) 0 0 60)) 39 (va_cpy (h 163) (h 39) 0 0 60))) C dX5_copyFrom_191 k5_70 v_X11_copyRow rfl rfl (by decide) (Nat.zero_le _) (Nat.zero_le _) (Nat.le_of_ble_eq_true rfl) (c_X11_copyRow hR 163 39 60 bn_163 sh_163 bn_39 sh_39 (by decide)) ?_
  exact am_vretvr T dX5_copyFrom_194 rfl (Nat.le_refl _) (Nat.le_refl _) rfl ⟨cl_Sc_cpy hV hSc rfl rfl rfl rfl rfl (fun k hk => va_cpy_0 hk) (fun k hk => va_cpy_0 hk) (fun k hk => va_cpy_0 hk) (fun k hk => va_cpy_0 hk) (fun k hk => va_cpy_0 hk) (fun k hk => va_cpy_0 hk) (fun k hk => va_cpy_0 hk) (fun k hk => va_cpy_0 hk) (fun k hk => va_cpy_0 hk) (fun k hk => va_cpy_0 hk) (fun k hk => va_cpy_0 hk) (fun k hk => va_cpy_0 hk) (fun k hk => va_cpy_0 hk) (fun k hk => va_cpy_0 hk), (fun i9 h9 => by rw [am_row_ne _ _ _ (by omega), am_row_ne _ _ _ (by omega), am_row_ne _ _ _ (by omega), am_row_ne _ _ _ (by omega), am_row_ne _ _ _ (by omega), am_row_ne _ _ _ (by omega), am_row_ne _ _ _ (by omega), am_row_ne _ _ _ (by omega), am_row_ne _ _ _ (by omega), am_row_ne _ _ _ (by omega), am_row_ne _ _ _ (by omega), am_row_ne _ _ _ (by omega), am_row_ne _ _ _ (by omega), am_row_ne _ _ _ (by omega), am_row_ne _ _ _ (by omega)])⟩

set_option maxHeartbeats 400000 in
set_option maxRecDepth 100000 in
theorem c_X5_copyFrom_d_t2 {ad : Nat → Nat} {r : am_R} (hR : am_rs r) {h : am_H}  (w : rf_W) (hV : rf_I w) (hSc : cl_Sc (h) 164 w)  : am_CM mX5_copyFrom 3 0 0 [.ref 25, .ref 164] (am_VV ad) r h (am_pr none r (fun c9 => cl_Sc c9 25 w ∧ cl_fr (h) c9 25 15)) := by
  refine am_CM.of (by decide +kernel) (Nat.le_of_ble_eq_true rfl) (fun X C T => ?_)
  show am_G X (am_VV ad) (0, 0) 0 [(0, .ref 25), (1, .ref 164)] [] r h
  refine am_aload_n (pc := 0) C dX5_copyFrom_0 rfl ?_
  refine am_aload_n (pc := 1) C dX5_copyFrom_1 rfl ?_
  refine am_getI (pc := 2) C dX5_copyFrom_2 f5_58 bn_164 sh_164 ?_
  refine am_putI (pc := 5) C dX5_copyFrom_5 f5_58 bn_25 sh_25 rfl rfl ?_
  refine am_hp (show am_up h 25 0 ((h 164) 0) = am_row h 25 (upd (h 25) 0 ((h 164) 0)) from am_up_rw _ _ _ _) ?_
  refine am_aload_n (pc := 8) C dX5_copyFrom_8 rfl ?_
  refine am_aload_n (pc := 9) C dX5_copyFrom_9 rfl ?_
  refine am_getI (pc := 10) C dX5_copyFrom_10 f5_9 bn_164 sh_164 ?_
  refine am_putI (pc := 13) C dX5_copyFrom_13 f5_9 bn_25 sh_25 rfl rfl ?_
  refine am_hp (show am_up (am_row h 25 (upd (h 25) 0 ((h 164) 0))) 25 1 ((h 164) 1) = am_row (am_row h 25 (upd (h 25) 0 ((h 164) 0))) 25 (upd (upd (h 25) 0 ((h 164) 0)) 1 ((h 164) 1)) from am_up_rw _ _ _ _) ?_
  refine am_hp (show am_row (am_row h 25 (upd (h 25) 0 ((h 164) 0))) 25 (upd (upd (h 25) 0 ((h 164) 0)) 1 ((h 164) 1)) = (am_row h 25 (upd (upd (h 25) 0 ((h 164) 0)) 1 ((h 164) 1))) from am_row_s0) ?_
  refine am_aload_n (pc := 16) C dX5_copyFrom_16 rfl ?_
  refine am_aload_n (pc := 17) C dX5_copyFrom_17 rfl ?_
  refine am_getI (pc := 18) C dX5_copyFrom_18 f5_61 bn_164 sh_164 ?_
  refine am_putI (pc := 21) C dX5_copyFrom_21 f5_61 bn_25 sh_25 rfl rfl ?_
  refine am_hp (show am_up (am_row h 25 (upd (upd (h 25) 0 ((h 164) 0)) 1 ((h 164) 1))) 25 2 ((h 164) 2) = am_row (am_row h 25 (upd (upd (h 25) 0 ((h 164) 0)) 1 ((h 164) 1))) 25 (upd (upd (upd (h 25) 0 ((h 164) 0)) 1 ((h 164) 1)) 2 ((h 164) 2)) from am_up_rw _ _ _ _) ?_
  refine am_hp (show am_row (am_row h 25 (upd (upd (h 25) 0 ((h 164) 0)) 1 ((h 164) 1))) 25 (upd (upd (upd (h 25) 0 ((h 164) 0)) 1 ((h 164) 1)) 2 ((h 164) 2)) = (am_row h 25 (upd (upd (upd (h 25) 0 ((h 164) 0)) 1 ((h 164) 1)) 2 ((h 164) 2))) from am_row_s0) ?_
  refine am_aload_n (pc := 24) C dX5_copyFrom_24 rfl ?_
  refine am_aload_n (pc := 25) C dX5_copyFrom_25 rfl ?_
  refine am_getI (pc := 26) C dX5_copyFrom_26 f5_64 bn_164 sh_164 ?_
  refine am_putI (pc := 29) C dX5_copyFrom_29 f5_64 bn_25 sh_25 rfl rfl ?_
  refine am_hp (show am_up (am_row h 25 (upd (upd (upd (h 25) 0 ((h 164) 0)) 1 ((h 164) 1)) 2 ((h 164) 2))) 25 3 ((h 164) 3) = am_row (am_row h 25 (upd (upd (upd (h 25) 0 ((h 164) 0)) 1 ((h 164) 1)) 2 ((h 164) 2))) 25 (upd (upd (upd (upd (h 25) 0 ((h 164) 0)) 1 ((h 164) 1)) 2 ((h 164) 2)) 3 ((h 164) 3)) from am_up_rw _ _ _ _) ?_
  refine am_hp (show am_row (am_row h 25 (upd (upd (upd (h 25) 0 ((h 164) 0)) 1 ((h 164) 1)) 2 ((h 164) 2))) 25 (upd (upd (upd (upd (h 25) 0 ((h 164) 0)) 1 ((h 164) 1)) 2 ((h 164) 2)) 3 ((h 164) 3)) = (am_row h 25 (upd (upd (upd (upd (h 25) 0 ((h 164) 0)) 1 ((h 164) 1)) 2 ((h 164) 2)) 3 ((h 164) 3))) from am_row_s0) ?_
  refine am_aload_n (pc := 32) C dX5_copyFrom_32 rfl ?_
  refine am_aload_n (pc := 33) C dX5_copyFrom_33 rfl ?_
  refine am_getI (pc := 34) C dX5_copyFrom_34 f5_67 bn_164 sh_164 ?_
  refine am_putI (pc := 37) C dX5_copyFrom_37 f5_67 bn_25 sh_25 rfl rfl ?_
  refine am_hp (show am_up (am_row h 25 (upd (upd (upd (upd (h 25) 0 ((h 164) 0)) 1 ((h 164) 1)) 2 ((h 164) 2)) 3 ((h 164) 3))) 25 4 ((h 164) 4) = am_row (am_row h 25 (upd (upd (upd (upd (h 25) 0 ((h 164) 0)) 1 ((h 164) 1)) 2 ((h 164) 2)) 3 ((h 164) 3))) 25 (upd (upd (upd (upd (upd (h 25) 0 ((h 164) 0)) 1 ((h 164) 1)) 2 ((h 164) 2)) 3 ((h 164) 3)) 4 ((h 164) 4)) from am_up_rw _ _ _ _) ?_
  refine am_hp (show am_row (am_row h 25 (upd (upd (upd (upd (h 25) 0 ((h 164) 0)) 1 ((h 164) 1)) 2 ((h 164) 2)) 3 ((h 164) 3))) 25 (upd (upd (upd (upd (upd (h 25) 0 ((h 164) 0)) 1 ((h 164) 1)) 2 ((h 164) 2)) 3 ((h 164) 3)) 4 ((h 164) 4)) = (am_row h 25 (upd (upd (upd (upd (upd (h 25) 0 ((h 164) 0)) 1 ((h 164) 1)) 2 ((h 164) 2)) 3 ((h 164) 3)) 4 ((h 164) 4))) from am_row_s0) ?_
  refine am_aload_n (pc := 40) C dX5_copyFrom_40 rfl ?_
  refine am_getR (pc := 41) (j := 165) C dX5_copyFrom_41 f5_15 bn_164 sh_164 (rf_164_5 hR) ?_
  refine am_aload_n (pc := 44) C dX5_copyFrom_44 rfl ?_
  refine am_getR (pc := 45) (j := 26) C dX5_copyFrom_45 f5_15 bn_25 sh_25 (rf_25_5 hR) ?_
  refine am_callSNv (Y := mX11_copyRow) (pc := 48) (st := []) (As := [.ref 165, .ref 26]) (h2 := (am_row (am_row h 25 (upd (upd (upd (upd (upd (h 25) 0 ((h 164) 0)) 1 ((h 164) 1)) 2 ((h 164) 2)) 3 ((h 164) 3)) 4 ((h 164) 4))) 26 (va_cpy (h 165) (h 26) 0 0 10))) C dX5_copyFrom_48 k5_70 v_X11_copyRow rfl rfl (by decide) (Nat.zero_le _) (Nat.zero_le _) (Nat.le_of_ble_eq_true rfl) (c_X11_copyRow hR 165 26 10 bn_165 sh_165 bn_26 sh_26 (by decide)) ?_
  refine am_aload_n (pc := 51) C dX5_copyFrom_51 rfl ?_
  refine am_getR (pc := 52) (j := 166) C dX5_copyFrom_52 f5_19 bn_164 sh_164 (rf_164_6 hR) ?_
  refine am_aload_n (pc := 55) C dX5_copyFrom_55 rfl ?_
  refine am_getR (pc := 56) (j := 27) C dX5_copyFrom_56 f5_19 bn_25 sh_25 (rf_25_6 hR) ?_
  refine am_callSNv (Y := mX11_copyRow) (pc := 59) (st := []) (As := [.ref 166, .ref 27]) (h2 := (am_row (am_row (am_row h 25 (upd (upd (upd (upd (upd (h 25) 0 ((h 164) 0)) 1 ((h 164) 1)) 2 ((h 164) 2)) 3 ((h 164) 3)) 4 ((h 164) 4))) 26 (va_cpy (h 165) (h 26) 0 0 10)) 27 (va_cpy (h 166) (h 27) 0 0 10))) C dX5_copyFrom_59 k5_70 v_X11_copyRow rfl rfl (by decide) (Nat.zero_le _) (Nat.zero_le _) (Nat.le_of_ble_eq_true rfl) (c_X11_copyRow hR 166 27 10 bn_166 sh_166 bn_27 sh_27 (by decide)) ?_
  refine am_aload_n (pc := 62) C dX5_copyFrom_62 rfl ?_
  refine am_getR (pc := 63) (j := 167) C dX5_copyFrom_63 f5_22 bn_164 sh_164 (rf_164_7 hR) ?_
  refine am_aload_n (pc := 66) C dX5_copyFrom_66 rfl ?_
  refine am_getR (pc := 67) (j := 28) C dX5_copyFrom_67 f5_22 bn_25 sh_25 (rf_25_7 hR) ?_
  refine am_callSNv (Y := mX11_copyRow) (pc := 70) (st := []) (As := [.ref 167, .ref 28]) (h2 := (am_row (am_row (am_row (am_row h 25 (upd (upd (upd (upd (upd (h 25) 0 ((h 164) 0)) 1 ((h 164) 1)) 2 ((h 164) 2)) 3 ((h 164) 3)) 4 ((h 164) 4))) 26 (va_cpy (h 165) (h 26) 0 0 10)) 27 (va_cpy (h 166) (h 27) 0 0 10)) 28 (va_cpy (h 167) (h 28) 0 0 10))) C dX5_copyFrom_70 k5_70 v_X11_copyRow rfl rfl (by decide) (Nat.zero_le _) (Nat.zero_le _) (Nat.le_of_ble_eq_true rfl) (c_X11_copyRow hR 167 28 10 bn_167 sh_167 bn_28 sh_28 (by decide)) ?_
  refine am_aload_n (pc := 73) C dX5_copyFrom_73 rfl ?_
  refine am_getR (pc := 74) (j := 168) C dX5_copyFrom_74 f5_25 bn_164 sh_164 (rf_164_8 hR) ?_
  refine am_aload_n (pc := 77) C dX5_copyFrom_77 rfl ?_
  refine am_getR (pc := 78) (j := 29) C dX5_copyFrom_78 f5_25 bn_25 sh_25 (rf_25_8 hR) ?_
  refine am_callSNv (Y := mX11_copyRow) (pc := 81) (st := []) (As := [.ref 168, .ref 29]) (h2 := (am_row (am_row (am_row (am_row (am_row h 25 (upd (upd (upd (upd (upd (h 25) 0 ((h 164) 0)) 1 ((h 164) 1)) 2 ((h 164) 2)) 3 ((h 164) 3)) 4 ((h 164) 4))) 26 (va_cpy (h 165) (h 26) 0 0 10)) 27 (va_cpy (h 166) (h 27) 0 0 10)) 28 (va_cpy (h 167) (h 28) 0 0 10)) 29 (va_cpy (h 168) (h 29) 0 0 10))) C dX5_copyFrom_81 k5_70 v_X11_copyRow rfl rfl (by decide) (Nat.zero_le _) (Nat.zero_le _) (Nat.le_of_ble_eq_true rfl) (c_X11_copyRow hR 168 29 10 bn_168 sh_168 bn_29 sh_29 (by decide)) ?_
  refine am_aload_n (pc := 84) C dX5_copyFrom_84 rfl ?_
  refine am_getR (pc := 85) (j := 169) C dX5_copyFrom_85 f5_28 bn_164 sh_164 (rf_164_9 hR) ?_
  refine am_aload_n (pc := 88) C dX5_copyFrom_88 rfl ?_
  refine am_getR (pc := 89) (j := 30) C dX5_copyFrom_89 f5_28 bn_25 sh_25 (rf_25_9 hR) ?_
  refine am_callSNv (Y := mX11_copyRow) (pc := 92) (st := []) (As := [.ref 169, .ref 30]) (h2 := (am_row (am_row (am_row (am_row (am_row (am_row h 25 (upd (upd (upd (upd (upd (h 25) 0 ((h 164) 0)) 1 ((h 164) 1)) 2 ((h 164) 2)) 3 ((h 164) 3)) 4 ((h 164) 4))) 26 (va_cpy (h 165) (h 26) 0 0 10)) 27 (va_cpy (h 166) (h 27) 0 0 10)) 28 (va_cpy (h 167) (h 28) 0 0 10)) 29 (va_cpy (h 168) (h 29) 0 0 10)) 30 (va_cpy (h 169) (h 30) 0 0 10))) C dX5_copyFrom_92 k5_70 v_X11_copyRow rfl rfl (by decide) (Nat.zero_le _) (Nat.zero_le _) (Nat.le_of_ble_eq_true rfl) (c_X11_copyRow hR 169 30 10 bn_169 sh_169 bn_30 sh_30 (by decide)) ?_
  refine am_aload_n (pc := 95) C dX5_copyFrom_95 rfl ?_
  refine am_getR (pc := 96) (j := 170) C dX5_copyFrom_96 f5_31 bn_164 sh_164 (rf_164_10 hR) ?_
  refine am_aload_n (pc := 99) C dX5_copyFrom_99 rfl ?_
  refine am_getR (pc := 100) (j := 31) C dX5_copyFrom_100 f5_31 bn_25 sh_25 (rf_25_10 hR) ?_
  refine am_callSNv (Y := mX11_copyRow) (pc := 103) (st := []) (As := [.ref 170, .ref 31]) (h2 := (am_row (am_row (am_row (am_row (am_row (am_row (am_row h 25 (upd (upd (upd (upd (upd (h 25) 0 ((h 164) 0)) 1 ((h 164) 1)) 2 ((h 164) 2)) 3 ((h 164) 3)) 4 ((h 164) 4))) 26 (va_cpy (h 165) (h 26) 0 0 10)) 27 (va_cpy (h 166) (h 27) 0 0 10)) 28 (va_cpy (h 167) (h 28) 0 0 10)) 29 (va_cpy (h 168) (h 29) 0 0 10)) 30 (va_cpy (h 169) (h 30) 0 0 10)) 31 (va_cpy (h 170) (h 31) 0 0 120))) C dX5_copyFrom_103 k5_70 v_X11_copyRow rfl rfl (by decide) (Nat.zero_le _) (Nat.zero_le _) (Nat.le_of_ble_eq_true rfl) (c_X11_copyRow hR 170 31 120 bn_170 sh_170 bn_31 sh_31 (by decide)) ?_
  refine am_aload_n (pc := 106) C dX5_copyFrom_106 rfl ?_
  refine am_getR (pc := 107) (j := 171) C dX5_copyFrom_107 f5_34 bn_164 sh_164 (rf_164_11 hR) ?_
  refine am_aload_n (pc := 110) C dX5_copyFrom_110 rfl ?_
  refine am_getR (pc := 111) (j := 32) C dX5_copyFrom_111 f5_34 bn_25 sh_25 (rf_25_11 hR) ?_
  refine am_callSNv (Y := mX11_copyRow) (pc := 114) (st := []) (As := [.ref 171, .ref 32]) (h2 := (am_row (am_row (am_row (am_row (am_row (am_row (am_row (am_row h 25 (upd (upd (upd (upd (upd (h 25) 0 ((h 164) 0)) 1 ((h 164) 1)) 2 ((h 164) 2)) 3 ((h 164) 3)) 4 ((h 164) 4))) 26 (va_cpy (h 165) (h 26) 0 0 10)) 27 (va_cpy (h 166) (h 27) 0 0 10)) 28 (va_cpy (h 167) (h 28) 0 0 10)) 29 (va_cpy (h 168) (h 29) 0 0 10)) 30 (va_cpy (h 169) (h 30) 0 0 10)) 31 (va_cpy (h 170) (h 31) 0 0 120)) 32 (va_cpy (h 171) (h 32) 0 0 40))) C dX5_copyFrom_114 k5_70 v_X11_copyRow rfl rfl (by decide) (Nat.zero_le _) (Nat.zero_le _) (Nat.le_of_ble_eq_true rfl) (c_X11_copyRow hR 171 32 40 bn_171 sh_171 bn_32 sh_32 (by decide)) ?_
  refine am_aload_n (pc := 117) C dX5_copyFrom_117 rfl ?_
  refine am_getR (pc := 118) (j := 172) C dX5_copyFrom_118 f5_37 bn_164 sh_164 (rf_164_12 hR) ?_
  refine am_aload_n (pc := 121) C dX5_copyFrom_121 rfl ?_
  refine am_getR (pc := 122) (j := 33) C dX5_copyFrom_122 f5_37 bn_25 sh_25 (rf_25_12 hR) ?_
  refine am_callSNv (Y := mX11_copyRow) (pc := 125) (st := []) (As := [.ref 172, .ref 33]) (h2 := (am_row (am_row (am_row (am_row (am_row (am_row (am_row (am_row (am_row h 25 (upd (upd (upd (upd (upd (h 25) 0 ((h 164) 0)) 1 ((h 164) 1)) 2 ((h 164) 2)) 3 ((h 164) 3)) 4 ((h 164) 4))) 26 (va_cpy (h 165) (h 26) 0 0 10)) 27 (va_cpy (h 166) (h 27) 0 0 10)) 28 (va_cpy (h 167) (h 28) 0 0 10)) 29 (va_cpy (h 168) (h 29) 0 0 10)) 30 (va_cpy (h 169) (h 30) 0 0 10)) 31 (va_cpy (h 170) (h 31) 0 0 120)) 32 (va_cpy (h 171) (h 32) 0 0 40)) 33 (va_cpy (h 172) (h 33) 0 0 40))) C dX5_copyFrom_125 k5_70 v_X11_copyRow rfl rfl (by decide) (Nat.zero_le _) (Nat.zero_le _) (Nat.le_of_ble_eq_true rfl) (c_X11_copyRow hR 172 33 40 bn_172 sh_172 bn_33 sh_33 (by decide)) ?_
  refine am_aload_n (pc := 128) C dX5_copyFrom_128 rfl ?_
  refine am_getR (pc := 129) (j := 173) C dX5_copyFrom_129 f5_40 bn_164 sh_164 (rf_164_13 hR) ?_
  refine am_aload_n (pc := 132) C dX5_copyFrom_132 rfl ?_
  refine am_getR (pc := 133) (j := 34) C dX5_copyFrom_133 f5_40 bn_25 sh_25 (rf_25_13 hR) ?_
  refine am_callSNv (Y := mX11_copyRow) (pc := 136) (st := []) (As := [.ref 173, .ref 34]) (h2 := (am_row (am_row (am_row (am_row (am_row (am_row (am_row (am_row (am_row (am_row h 25 (upd (upd (upd (upd (upd (h 25) 0 ((h 164) 0)) 1 ((h 164) 1)) 2 ((h 164) 2)) 3 ((h 164) 3)) 4 ((h 164) 4))) 26 (va_cpy (h 165) (h 26) 0 0 10)) 27 (va_cpy (h 166) (h 27) 0 0 10)) 28 (va_cpy (h 167) (h 28) 0 0 10)) 29 (va_cpy (h 168) (h 29) 0 0 10)) 30 (va_cpy (h 169) (h 30) 0 0 10)) 31 (va_cpy (h 170) (h 31) 0 0 120)) 32 (va_cpy (h 171) (h 32) 0 0 40)) 33 (va_cpy (h 172) (h 33) 0 0 40)) 34 (va_cpy (h 173) (h 34) 0 0 40))) C dX5_copyFrom_136 k5_70 v_X11_copyRow rfl rfl (by decide) (Nat.zero_le _) (Nat.zero_le _) (Nat.le_of_ble_eq_true rfl) (c_X11_copyRow hR 173 34 40 bn_173 sh_173 bn_34 sh_34 (by decide)) ?_
  refine am_aload_n (pc := 139) C dX5_copyFrom_139 rfl ?_
  refine am_getR (pc := 140) (j := 174) C dX5_copyFrom_140 f5_43 bn_164 sh_164 (rf_164_14 hR) ?_
  refine am_aload_n (pc := 143) C dX5_copyFrom_143 rfl ?_
  refine am_getR (pc := 144) (j := 35) C dX5_copyFrom_144 f5_43 bn_25 sh_25 (rf_25_14 hR) ?_
  refine am_callSNv (Y := mX11_copyRow) (pc := 147) (st := []) (As := [.ref 174, .ref 35]) (h2 := (am_row (am_row (am_row (am_row (am_row (am_row (am_row (am_row (am_row (am_row (am_row h 25 (upd (upd (upd (upd (upd (h 25) 0 ((h 164) 0)) 1 ((h 164) 1)) 2 ((h 164) 2)) 3 ((h 164) 3)) 4 ((h 164) 4))) 26 (va_cpy (h 165) (h 26) 0 0 10)) 27 (va_cpy (h 166) (h 27) 0 0 10)) 28 (va_cpy (h 167) (h 28) 0 0 10)) 29 (va_cpy (h 168) (h 29) 0 0 10)) 30 (va_cpy (h 169) (h 30) 0 0 10)) 31 (va_cpy (h 170) (h 31) 0 0 120)) 32 (va_cpy (h 171) (h 32) 0 0 40)) 33 (va_cpy (h 172) (h 33) 0 0 40)) 34 (va_cpy (h 173) (h 34) 0 0 40)) 35 (va_cpy (h 174) (h 35) 0 0 60))) C dX5_copyFrom_147 k5_70 v_X11_copyRow rfl rfl (by decide) (Nat.zero_le _) (Nat.zero_le _) (Nat.le_of_ble_eq_true rfl) (c_X11_copyRow hR 174 35 60 bn_174 sh_174 bn_35 sh_35 (by decide)) ?_
  refine am_aload_n (pc := 150) C dX5_copyFrom_150 rfl ?_
  refine am_getR (pc := 151) (j := 175) C dX5_copyFrom_151 f5_46 bn_164 sh_164 (rf_164_15 hR) ?_
  refine am_aload_n (pc := 154) C dX5_copyFrom_154 rfl ?_
  refine am_getR (pc := 155) (j := 36) C dX5_copyFrom_155 f5_46 bn_25 sh_25 (rf_25_15 hR) ?_
  refine am_callSNv (Y := mX11_copyRow) (pc := 158) (st := []) (As := [.ref 175, .ref 36]) (h2 := (am_row (am_row (am_row (am_row (am_row (am_row (am_row (am_row (am_row (am_row (am_row (am_row h 25 (upd (upd (upd (upd (upd (h 25) 0 ((h 164) 0)) 1 ((h 164) 1)) 2 ((h 164) 2)) 3 ((h 164) 3)) 4 ((h 164) 4))) 26 (va_cpy (h 165) (h 26) 0 0 10)) 27 (va_cpy (h 166) (h 27) 0 0 10)) 28 (va_cpy (h 167) (h 28) 0 0 10)) 29 (va_cpy (h 168) (h 29) 0 0 10)) 30 (va_cpy (h 169) (h 30) 0 0 10)) 31 (va_cpy (h 170) (h 31) 0 0 120)) 32 (va_cpy (h 171) (h 32) 0 0 40)) 33 (va_cpy (h 172) (h 33) 0 0 40)) 34 (va_cpy (h 173) (h 34) 0 0 40)) 35 (va_cpy (h 174) (h 35) 0 0 60)) 36 (va_cpy (h 175) (h 36) 0 0 60))) C dX5_copyFrom_158 k5_70 v_X11_copyRow rfl rfl (by decide) (Nat.zero_le _) (Nat.zero_le _) (Nat.le_of_ble_eq_true rfl) (c_X11_copyRow hR 175 36 60 bn_175 sh_175 bn_36 sh_36 (by decide)) ?_
  refine am_aload_n (pc := 161) C dX5_copyFrom_161 rfl ?_
  refine am_getR (pc := 162) (j := 176) C dX5_copyFrom_162 f5_49 bn_164 sh_164 (rf_164_16 hR) ?_
  refine am_aload_n (pc := 165) C dX5_copyFrom_165 rfl ?_
  refine am_getR (pc := 166) (j := 37) C dX5_copyFrom_166 f5_49 bn_25 sh_25 (rf_25_16 hR) ?_
  refine am_callSNv (Y := mX11_copyRow) (pc := 169) (st := []) (As := [.ref 176, .ref 37]) (h2 := (am_row (am_row (am_row (am_row (am_row (am_row (am_row (am_row (am_row (am_row (am_row (am_row (am_row h 25 (upd (upd (upd (upd (upd (h 25) 0 ((h 164) 0)) 1 ((h 164) 1)) 2 ((h 164) 2)) 3 ((h 164) 3)) 4 ((h 164) 4))) 26 (va_cpy (h 165) (h 26) 0 0 10)) 27 (va_cpy (h 166) (h 27) 0 0 10)) 28 (va_cpy (h 167) (h 28) 0 0 10)) 29 (va_cpy (h 168) (h 29) 0 0 10)) 30 (va_cpy (h 169) (h 30) 0 0 10)) 31 (va_cpy (h 170) (h 31) 0 0 120)) 32 (va_cpy (h 171) (h 32) 0 0 40)) 33 (va_cpy (h 172) (h 33) 0 0 40)) 34 (va_cpy (h 173) (h 34) 0 0 40)) 35 (va_cpy (h 174) (h 35) 0 0 60)) 36 (va_cpy (h 175) (h 36) 0 0 60)) 37 (va_cpy (h 176) (h 37) 0 0 60))) C dX5_copyFrom_169 k5_70 v_X11_copyRow rfl rfl (by decide) (Nat.zero_le _) (Nat.zero_le _) (Nat.le_of_ble_eq_true rfl) (c_X11_copyRow hR 176 37 60 bn_176 sh_176 bn_37 sh_37 (by decide)) ?_
  refine am_aload_n (pc := 172) C dX5_copyFrom_172 rfl ?_
  refine am_getR (pc := 173) (j := 177) C dX5_copyFrom_173 f5_52 bn_164 sh_164 (rf_164_17 hR) ?_
  refine am_aload_n (pc := 176) C dX5_copyFrom_176 rfl ?_
  refine am_getR (pc := 177) (j := 38) C dX5_copyFrom_177 f5_52 bn_25 sh_25 (rf_25_17 hR) ?_
  refine am_callSNv (Y := mX11_copyRow) (pc := 180) (st := []) (As := [.ref 177, .ref 38]) (h2 := (am_row (am_row (am_row (am_row (am_row (am_row (am_row (am_row (am_row (am_row (am_row (am_row (am_row (am_row h 25 (upd (upd (upd (upd (upd (h 25) 0 ((h 164) 0)) 1 ((h 164) 1)) 2 ((h 164) 2)) 3 ((h 164) 3)) 4 ((h 164) 4))) 26 (va_cpy (h 165) (h 26) 0 0 10)) 27 (va_cpy (h 166) (h 27) 0 0 10)) 28 (va_cpy (h 167) (h 28) 0 0 10)) 29 (va_cpy (h 168) (h 29) 0 0 10)) 30 (va_cpy (h 169) (h 30) 0 0 10)) 31 (va_cpy (h 170) (h 31) 0 0 120)) 32 (va_cpy (h 171) (h 32) 0 0 40)) 33 (va_cpy (h 172) (h 33) 0 0 40)) 34 (va_cpy (h 173) (h 34) 0 0 40)) 35 (va_cpy (h 174) (h 35) 0 0 60)) 36 (va_cpy (h 175) (h 36) 0 0 60)) 37 (va_cpy (h 176) (h 37) 0 0 60)) 38 (va_cpy (h 177) (h 38) 0 0 60))) C dX5_copyFrom_180 k5_70 v_X11_copyRow rfl rfl (by decide) (Nat.zero_le _) (Nat.zero_le _) (Nat.le_of_ble_eq_true rfl) (c_X11_copyRow hR 177 38 60 bn_177 sh_177 bn_38 sh_38 (by decide)) ?_
  refine am_aload_n (pc := 183) C dX5_copyFrom_183 rfl ?_
  refine am_getR (pc := 184) (j := 178) C dX5_copyFrom_184 f5_55 bn_164 sh_164 (rf_164_18 hR) ?_
  refine am_aload_n (pc := 187) C dX5_copyFrom_187 rfl ?_
  refine am_getR (pc := 188) (j := 39) C dX5_copyFrom_188 f5_55 bn_25 sh_25 (rf_25_18 hR) ?_
  refine am_callSNv (Y := mX11_copyRow) (pc := 191) (st := []) (As := [.ref 178, .ref 39]) (h2 := (am_row (am_row (am_row (am_row (am_row (am_row (am_row (am_row (am_row (am_row (am_row (am_row (am_row (am_row (am_row h 25 (upd (upd (upd (upd (upd (h 25) 0 ((h 164) 0)) 1 ((h 164) 1)) 2 ((h 164) 2)) 3 ((h 164) 3)) 4 ((h 164) 4))) 26 (va_cpy (h 165) (h 26) 0 0 10)) 27 (va_cpy (h 166) (h 27) 0 0 10)) 28 (va_cpy (h 167) (h 28) 0 0 10)) 29 (va_cpy (h 168) (h 29) 0 0 10)) 30 (va_cpy (h 169) (h 30) 0 0 10)) 31 (va_cpy (h 170) (h 31) 0 0 120)) 32 (va_cpy (h 171) (h 32) 0 0 40)) 33 (va_cpy (h 172) (h 33) 0 0 40)) 34 (va_cpy (h 173) (h 34) 0 0 40)) 35 (va_cpy (h 174) (h 35) 0 0 60)) 36 (va_cpy (h 175) (h 36) 0 0 60)) 37 (va_cpy (h 176) (h 37) 0 0 60)) 38 (va_cpy (h 177) (h 38) 0 0 60)) 39 (va_cpy (h 178) (h 39) 0 0 60))) C dX5_copyFrom_191 k5_70 v_X11_copyRow rfl rfl (by decide) (Nat.zero_le _) (Nat.zero_le _) (Nat.le_of_ble_eq_true rfl) (c_X11_copyRow hR 178 39 60 bn_178 sh_178 bn_39 sh_39 (by decide)) ?_
  exact am_vretvr T dX5_copyFrom_194 rfl (Nat.le_refl _) (Nat.le_refl _) rfl ⟨cl_Sc_cpy hV hSc rfl rfl rfl rfl rfl (fun k hk => va_cpy_0 hk) (fun k hk => va_cpy_0 hk) (fun k hk => va_cpy_0 hk) (fun k hk => va_cpy_0 hk) (fun k hk => va_cpy_0 hk) (fun k hk => va_cpy_0 hk) (fun k hk => va_cpy_0 hk) (fun k hk => va_cpy_0 hk) (fun k hk => va_cpy_0 hk) (fun k hk => va_cpy_0 hk) (fun k hk => va_cpy_0 hk) (fun k hk => va_cpy_0 hk) (fun k hk => va_cpy_0 hk) (fun k hk => va_cpy_0 hk), (fun i9 h9 => by rw [am_row_ne _ _ _ (by omega), am_row_ne _ _ _ (by omega), am_row_ne _ _ _ (by omega), am_row_ne _ _ _ (by omega), am_row_ne _ _ _ (by omega), am_row_ne _ _ _ (by omega), am_row_ne _ _ _ (by omega), am_row_ne _ _ _ (by omega), am_row_ne _ _ _ (by omega), am_row_ne _ _ _ (by omega), am_row_ne _ _ _ (by omega), am_row_ne _ _ _ (by omega), am_row_ne _ _ _ (by omega), am_row_ne _ _ _ (by omega), am_row_ne _ _ _ (by omega)])⟩

set_option maxHeartbeats 400000 in
set_option maxRecDepth 100000 in
theorem c_X5_copyFrom_d_t3 {ad : Nat → Nat} {r : am_R} (hR : am_rs r) {h : am_H}  (w : rf_W) (hV : rf_I w) (hSc : cl_Sc (h) 179 w)  : am_CM mX5_copyFrom 3 0 0 [.ref 25, .ref 179] (am_VV ad) r h (am_pr none r (fun c9 => cl_Sc c9 25 w ∧ cl_fr (h) c9 25 15)) := by
  refine am_CM.of (by decide +kernel) (Nat.le_of_ble_eq_true rfl) (fun X C T => ?_)
  show am_G X (am_VV ad) (0, 0) 0 [(0, .ref 25), (1, .ref 179)] [] r h
  refine am_aload_n (pc := 0) C dX5_copyFrom_0 rfl ?_
  refine am_aload_n (pc := 1) C dX5_copyFrom_1 rfl ?_
  refine am_getI (pc := 2) C dX5_copyFrom_2 f5_58 bn_179 sh_179 ?_
  refine am_putI (pc := 5) C dX5_copyFrom_5 f5_58 bn_25 sh_25 rfl rfl ?_
  refine am_hp (show am_up h 25 0 ((h 179) 0) = am_row h 25 (upd (h 25) 0 ((h 179) 0)) from am_up_rw _ _ _ _) ?_
  refine am_aload_n (pc := 8) C dX5_copyFrom_8 rfl ?_
  refine am_aload_n (pc := 9) C dX5_copyFrom_9 rfl ?_
  refine am_getI (pc := 10) C dX5_copyFrom_10 f5_9 bn_179 sh_179 ?_
  refine am_putI (pc := 13) C dX5_copyFrom_13 f5_9 bn_25 sh_25 rfl rfl ?_
  refine am_hp (show am_up (am_row h 25 (upd (h 25) 0 ((h 179) 0))) 25 1 ((h 179) 1) = am_row (am_row h 25 (upd (h 25) 0 ((h 179) 0))) 25 (upd (upd (h 25) 0 ((h 179) 0)) 1 ((h 179) 1)) from am_up_rw _ _ _ _) ?_
  refine am_hp (show am_row (am_row h 25 (upd (h 25) 0 ((h 179) 0))) 25 (upd (upd (h 25) 0 ((h 179) 0)) 1 ((h 179) 1)) = (am_row h 25 (upd (upd (h 25) 0 ((h 179) 0)) 1 ((h 179) 1))) from am_row_s0) ?_
  refine am_aload_n (pc := 16) C dX5_copyFrom_16 rfl ?_
  refine am_aload_n (pc := 17) C dX5_copyFrom_17 rfl ?_
  refine am_getI (pc := 18) C dX5_copyFrom_18 f5_61 bn_179 sh_179 ?_
  refine am_putI (pc := 21) C dX5_copyFrom_21 f5_61 bn_25 sh_25 rfl rfl ?_
  refine am_hp (show am_up (am_row h 25 (upd (upd (h 25) 0 ((h 179) 0)) 1 ((h 179) 1))) 25 2 ((h 179) 2) = am_row (am_row h 25 (upd (upd (h 25) 0 ((h 179) 0)) 1 ((h 179) 1))) 25 (upd (upd (upd (h 25) 0 ((h 179) 0)) 1 ((h 179) 1)) 2 ((h 179) 2)) from am_up_rw _ _ _ _) ?_
  refine am_hp (show am_row (am_row h 25 (upd (upd (h 25) 0 ((h 179) 0)) 1 ((h 179) 1))) 25 (upd (upd (upd (h 25) 0 ((h 179) 0)) 1 ((h 179) 1)) 2 ((h 179) 2)) = (am_row h 25 (upd (upd (upd (h 25) 0 ((h 179) 0)) 1 ((h 179) 1)) 2 ((h 179) 2))) from am_row_s0) ?_
  refine am_aload_n (pc := 24) C dX5_copyFrom_24 rfl ?_
  refine am_aload_n (pc := 25) C dX5_copyFrom_25 rfl ?_
  refine am_getI (pc := 26) C dX5_copyFrom_26 f5_64 bn_179 sh_179 ?_
  refine am_putI (pc := 29) C dX5_copyFrom_29 f5_64 bn_25 sh_25 rfl rfl ?_
  refine am_hp (show am_up (am_row h 25 (upd (upd (upd (h 25) 0 ((h 179) 0)) 1 ((h 179) 1)) 2 ((h 179) 2))) 25 3 ((h 179) 3) = am_row (am_row h 25 (upd (upd (upd (h 25) 0 ((h 179) 0)) 1 ((h 179) 1)) 2 ((h 179) 2))) 25 (upd (upd (upd (upd (h 25) 0 ((h 179) 0)) 1 ((h 179) 1)) 2 ((h 179) 2)) 3 ((h 179) 3)) from am_up_rw _ _ _ _) ?_
  refine am_hp (show am_row (am_row h 25 (upd (upd (upd (h 25) 0 ((h 179) 0)) 1 ((h 179) 1)) 2 ((h 179) 2))) 25 (upd (upd (upd (upd (h 25) 0 ((h 179) 0)) 1 ((h 179) 1)) 2 ((h 179) 2)) 3 ((h 179) 3)) = (am_row h 25 (upd (upd (upd (upd (h 25) 0 ((h 179) 0)) 1 ((h 179) 1)) 2 ((h 179) 2)) 3 ((h 179) 3))) from am_row_s0) ?_
  refine am_aload_n (pc := 32) C dX5_copyFrom_32 rfl ?_
  refine am_aload_n (pc := 33) C dX5_copyFrom_33 rfl ?_
  refine am_getI (pc := 34) C dX5_copyFrom_34 f5_67 bn_179 sh_179 ?_
  refine am_putI (pc := 37) C dX5_copyFrom_37 f5_67 bn_25 sh_25 rfl rfl ?_
  refine am_hp (show am_up (am_row h 25 (upd (upd (upd (upd (h 25) 0 ((h 179) 0)) 1 ((h 179) 1)) 2 ((h 179) 2)) 3 ((h 179) 3))) 25 4 ((h 179) 4) = am_row (am_row h 25 (upd (upd (upd (upd (h 25) 0 ((h 179) 0)) 1 ((h 179) 1)) 2 ((h 179) 2)) 3 ((h 179) 3))) 25 (upd (upd (upd (upd (upd (h 25) 0 ((h 179) 0)) 1 ((h 179) 1)) 2 ((h 179) 2)) 3 ((h 179) 3)) 4 ((h 179) 4)) from am_up_rw _ _ _ _) ?_
  refine am_hp (show am_row (am_row h 25 (upd (upd (upd (upd (h 25) 0 ((h 179) 0)) 1 ((h 179) 1)) 2 ((h 179) 2)) 3 ((h 179) 3))) 25 (upd (upd (upd (upd (upd (h 25) 0 ((h 179) 0)) 1 ((h 179) 1)) 2 ((h 179) 2)) 3 ((h 179) 3)) 4 ((h 179) 4)) = (am_row h 25 (upd (upd (upd (upd (upd (h 25) 0 ((h 179) 0)) 1 ((h 179) 1)) 2 ((h 179) 2)) 3 ((h 179) 3)) 4 ((h 179) 4))) from am_row_s0) ?_
  refine am_aload_n (pc := 40) C dX5_copyFrom_40 rfl ?_
  refine am_getR (pc := 41) (j := 180) C dX5_copyFrom_41 f5_15 bn_179 sh_179 (rf_179_5 hR) ?_
  refine am_aload_n (pc := 44) C dX5_copyFrom_44 rfl ?_
  refine am_getR (pc := 45) (j := 26) C dX5_copyFrom_45 f5_15 bn_25 sh_25 (rf_25_5 hR) ?_
  refine am_callSNv (Y := mX11_copyRow) (pc := 48) (st := []) (As := [.ref 180, .ref 26]) (h2 := (am_row (am_row h 25 (upd (upd (upd (upd (upd (h 25) 0 ((h 179) 0)) 1 ((h 179) 1)) 2 ((h 179) 2)) 3 ((h 179) 3)) 4 ((h 179) 4))) 26 (va_cpy (h 180) (h 26) 0 0 10))) C dX5_copyFrom_48 k5_70 v_X11_copyRow rfl rfl (by decide) (Nat.zero_le _) (Nat.zero_le _) (Nat.le_of_ble_eq_true rfl) (c_X11_copyRow hR 180 26 10 bn_180 sh_180 bn_26 sh_26 (by decide)) ?_
  refine am_aload_n (pc := 51) C dX5_copyFrom_51 rfl ?_
  refine am_getR (pc := 52) (j := 181) C dX5_copyFrom_52 f5_19 bn_179 sh_179 (rf_179_6 hR) ?_
  refine am_aload_n (pc := 55) C dX5_copyFrom_55 rfl ?_
  refine am_getR (pc := 56) (j := 27) C dX5_copyFrom_56 f5_19 bn_25 sh_25 (rf_25_6 hR) ?_
  refine am_callSNv (Y := mX11_copyRow) (pc := 59) (st := []) (As := [.ref 181, .ref 27]) (h2 := (am_row (am_row (am_row h 25 (upd (upd (upd (upd (upd (h 25) 0 ((h 179) 0)) 1 ((h 179) 1)) 2 ((h 179) 2)) 3 ((h 179) 3)) 4 ((h 179) 4))) 26 (va_cpy (h 180) (h 26) 0 0 10)) 27 (va_cpy (h 181) (h 27) 0 0 10))) C dX5_copyFrom_59 k5_70 v_X11_copyRow rfl rfl (by decide) (Nat.zero_le _) (Nat.zero_le _) (Nat.le_of_ble_eq_true rfl) (c_X11_copyRow hR 181 27 10 bn_181 sh_181 bn_27 sh_27 (by decide)) ?_
  refine am_aload_n (pc := 62) C dX5_copyFrom_62 rfl ?_
  refine am_getR (pc := 63) (j := 182) C dX5_copyFrom_63 f5_22 bn_179 sh_179 (rf_179_7 hR) ?_
  refine am_aload_n (pc := 66) C dX5_copyFrom_66 rfl ?_
  refine am_getR (pc := 67) (j := 28) C dX5_copyFrom_67 f5_22 bn_25 sh_25 (rf_25_7 hR) ?_
  refine am_callSNv (Y := mX11_copyRow) (pc := 70) (st := []) (As := [.ref 182, .ref 28]) (h2 := (am_row (am_row (am_row (am_row h 25 (upd (upd (upd (upd (upd (h 25) 0 ((h 179) 0)) 1 ((h 179) 1)) 2 ((h 179) 2)) 3 ((h 179) 3)) 4 ((h 179) 4))) 26 (va_cpy (h 180) (h 26) 0 0 10)) 27 (va_cpy (h 181) (h 27) 0 0 10)) 28 (va_cpy (h 182) (h 28) 0 0 10))) C dX5_copyFrom_70 k5_70 v_X11_copyRow rfl rfl (by decide) (Nat.zero_le _) (Nat.zero_le _) (Nat.le_of_ble_eq_true rfl) (c_X11_copyRow hR 182 28 10 bn_182 sh_182 bn_28 sh_28 (by decide)) ?_
  refine am_aload_n (pc := 73) C dX5_copyFrom_73 rfl ?_
  refine am_getR (pc := 74) (j := 183) C dX5_copyFrom_74 f5_25 bn_179 sh_179 (rf_179_8 hR) ?_
  refine am_aload_n (pc := 77) C dX5_copyFrom_77 rfl ?_
  refine am_getR (pc := 78) (j := 29) C dX5_copyFrom_78 f5_25 bn_25 sh_25 (rf_25_8 hR) ?_
  refine am_callSNv (Y := mX11_copyRow) (pc := 81) (st := []) (As := [.ref 183, .ref 29]) (h2 := (am_row (am_row (am_row (am_row (am_row h 25 (upd (upd (upd (upd (upd (h 25) 0 ((h 179) 0)) 1 ((h 179) 1)) 2 ((h 179) 2)) 3 ((h 179) 3)) 4 ((h 179) 4))) 26 (va_cpy (h 180) (h 26) 0 0 10)) 27 (va_cpy (h 181) (h 27) 0 0 10)) 28 (va_cpy (h 182) (h 28) 0 0 10)) 29 (va_cpy (h 183) (h 29) 0 0 10))) C dX5_copyFrom_81 k5_70 v_X11_copyRow rfl rfl (by decide) (Nat.zero_le _) (Nat.zero_le _) (Nat.le_of_ble_eq_true rfl) (c_X11_copyRow hR 183 29 10 bn_183 sh_183 bn_29 sh_29 (by decide)) ?_
  refine am_aload_n (pc := 84) C dX5_copyFrom_84 rfl ?_
  refine am_getR (pc := 85) (j := 184) C dX5_copyFrom_85 f5_28 bn_179 sh_179 (rf_179_9 hR) ?_
  refine am_aload_n (pc := 88) C dX5_copyFrom_88 rfl ?_
  refine am_getR (pc := 89) (j := 30) C dX5_copyFrom_89 f5_28 bn_25 sh_25 (rf_25_9 hR) ?_
  refine am_callSNv (Y := mX11_copyRow) (pc := 92) (st := []) (As := [.ref 184, .ref 30]) (h2 := (am_row (am_row (am_row (am_row (am_row (am_row h 25 (upd (upd (upd (upd (upd (h 25) 0 ((h 179) 0)) 1 ((h 179) 1)) 2 ((h 179) 2)) 3 ((h 179) 3)) 4 ((h 179) 4))) 26 (va_cpy (h 180) (h 26) 0 0 10)) 27 (va_cpy (h 181) (h 27) 0 0 10)) 28 (va_cpy (h 182) (h 28) 0 0 10)) 29 (va_cpy (h 183) (h 29) 0 0 10)) 30 (va_cpy (h 184) (h 30) 0 0 10))) C dX5_copyFrom_92 k5_70 v_X11_copyRow rfl rfl (by decide) (Nat.zero_le _) (Nat.zero_le _) (Nat.le_of_ble_eq_true rfl) (c_X11_copyRow hR 184 30 10 bn_184 sh_184 bn_30 sh_30 (by decide)) ?_
  refine am_aload_n (pc := 95) C dX5_copyFrom_95 rfl ?_
  refine am_getR (pc := 96) (j := 185) C dX5_copyFrom_96 f5_31 bn_179 sh_179 (rf_179_10 hR) ?_
  refine am_aload_n (pc := 99) C dX5_copyFrom_99 rfl ?_
  refine am_getR (pc := 100) (j := 31) C dX5_copyFrom_100 f5_31 bn_25 sh_25 (rf_25_10 hR) ?_
  refine am_callSNv (Y := mX11_copyRow) (pc := 103) (st := []) (As := [.ref 185, .ref 31]) (h2 := (am_row (am_row (am_row (am_row (am_row (am_row (am_row h 25 (upd (upd (upd (upd (upd (h 25) 0 ((h 179) 0)) 1 ((h 179) 1)) 2 ((h 179) 2)) 3 ((h 179) 3)) 4 ((h 179) 4))) 26 (va_cpy (h 180) (h 26) 0 0 10)) 27 (va_cpy (h 181) (h 27) 0 0 10)) 28 (va_cpy (h 182) (h 28) 0 0 10)) 29 (va_cpy (h 183) (h 29) 0 0 10)) 30 (va_cpy (h 184) (h 30) 0 0 10)) 31 (va_cpy (h 185) (h 31) 0 0 120))) C dX5_copyFrom_103 k5_70 v_X11_copyRow rfl rfl (by decide) (Nat.zero_le _) (Nat.zero_le _) (Nat.le_of_ble_eq_true rfl) (c_X11_copyRow hR 185 31 120 bn_185 sh_185 bn_31 sh_31 (by decide)) ?_
  refine am_aload_n (pc := 106) C dX5_copyFrom_106 rfl ?_
  refine am_getR (pc := 107) (j := 186) C dX5_copyFrom_107 f5_34 bn_179 sh_179 (rf_179_11 hR) ?_
  refine am_aload_n (pc := 110) C dX5_copyFrom_110 rfl ?_
  refine am_getR (pc := 111) (j := 32) C dX5_copyFrom_111 f5_34 bn_25 sh_25 (rf_25_11 hR) ?_
  refine am_callSNv (Y := mX11_copyRow) (pc := 114) (st := []) (As := [.ref 186, .ref 32]) (h2 := (am_row (am_row (am_row (am_row (am_row (am_row (am_row (am_row h 25 (upd (upd (upd (upd (upd (h 25) 0 ((h 179) 0)) 1 ((h 179) 1)) 2 ((h 179) 2)) 3 ((h 179) 3)) 4 ((h 179) 4))) 26 (va_cpy (h 180) (h 26) 0 0 10)) 27 (va_cpy (h 181) (h 27) 0 0 10)) 28 (va_cpy (h 182) (h 28) 0 0 10)) 29 (va_cpy (h 183) (h 29) 0 0 10)) 30 (va_cpy (h 184) (h 30) 0 0 10)) 31 (va_cpy (h 185) (h 31) 0 0 120)) 32 (va_cpy (h 186) (h 32) 0 0 40))) C dX5_copyFrom_114 k5_70 v_X11_copyRow rfl rfl (by decide) (Nat.zero_le _) (Nat.zero_le _) (Nat.le_of_ble_eq_true rfl) (c_X11_copyRow hR 186 32 40 bn_186 sh_186 bn_32 sh_32 (by decide)) ?_
  refine am_aload_n (pc := 117) C dX5_copyFrom_117 rfl ?_
  refine am_getR (pc := 118) (j := 187) C dX5_copyFrom_118 f5_37 bn_179 sh_179 (rf_179_12 hR) ?_
  refine am_aload_n (pc := 121) C dX5_copyFrom_121 rfl ?_
  refine am_getR (pc := 122) (j := 33) C dX5_copyFrom_122 f5_37 bn_25 sh_25 (rf_25_12 hR) ?_
  refine am_callSNv (Y := mX11_copyRow) (pc := 125) (st := []) (As := [.ref 187, .ref 33]) (h2 := (am_row (am_row (am_row (am_row (am_row (am_row (am_row (am_row (am_row h 25 (upd (upd (upd (upd (upd (h 25) 0 ((h 179) 0)) 1 ((h 179) 1)) 2 ((h 179) 2)) 3 ((h 179) 3)) 4 ((h 179) 4))) 26 (va_cpy (h 180) (h 26) 0 0 10)) 27 (va_cpy (h 181) (h 27) 0 0 10)) 28 (va_cpy (h 182) (h 28) 0 0 10)) 29 (va_cpy (h 183) (h 29) 0 0 10)) 30 (va_cpy (h 184) (h 30) 0 0 10)) 31 (va_cpy (h 185) (h 31) 0 0 120)) 32 (va_cpy (h 186) (h 32) 0 0 40)) 33 (va_cpy (h 187) (h 33) 0 0 40))) C dX5_copyFrom_125 k5_70 v_X11_copyRow rfl rfl (by decide) (Nat.zero_le _) (Nat.zero_le _) (Nat.le_of_ble_eq_true rfl) (c_X11_copyRow hR 187 33 40 bn_187 sh_187 bn_33 sh_33 (by decide)) ?_
  refine am_aload_n (pc := 128) C dX5_copyFrom_128 rfl ?_
  refine am_getR (pc := 129) (j := 188) C dX5_copyFrom_129 f5_40 bn_179 sh_179 (rf_179_13 hR) ?_
  refine am_aload_n (pc := 132) C dX5_copyFrom_132 rfl ?_
  refine am_getR (pc := 133) (j := 34) C dX5_copyFrom_133 f5_40 bn_25 sh_25 (rf_25_13 hR) ?_
  refine am_callSNv (Y := mX11_copyRow) (pc := 136) (st := []) (As := [.ref 188, .ref 34]) (h2 := (am_row (am_row (am_row (am_row (am_row (am_row (am_row (am_row (am_row (am_row h 25 (upd (upd (upd (upd (upd (h 25) 0 ((h 179) 0)) 1 ((h 179) 1)) 2 ((h 179) 2)) 3 ((h 179) 3)) 4 ((h 179) 4))) 26 (va_cpy (h 180) (h 26) 0 0 10)) 27 (va_cpy (h 181) (h 27) 0 0 10)) 28 (va_cpy (h 182) (h 28) 0 0 10)) 29 (va_cpy (h 183) (h 29) 0 0 10)) 30 (va_cpy (h 184) (h 30) 0 0 10)) 31 (va_cpy (h 185) (h 31) 0 0 120)) 32 (va_cpy (h 186) (h 32) 0 0 40)) 33 (va_cpy (h 187) (h 33) 0 0 40)) 34 (va_cpy (h 188) (h 34) 0 0 40))) C dX5_copyFrom_136 k5_70 v_X11_copyRow rfl rfl (by decide) (Nat.zero_le _) (Nat.zero_le _) (Nat.le_of_ble_eq_true rfl) (c_X11_copyRow hR 188 34 40 bn_188 sh_188 bn_34 sh_34 (by decide)) ?_
  refine am_aload_n (pc := 139) C dX5_copyFrom_139 rfl ?_
  refine am_getR (pc := 140) (j := 189) C dX5_copyFrom_140 f5_43 bn_179 sh_179 (rf_179_14 hR) ?_
  refine am_aload_n (pc := 143) C dX5_copyFrom_143 rfl ?_
  refine am_getR (pc := 144) (j := 35) C dX5_copyFrom_144 f5_43 bn_25 sh_25 (rf_25_14 hR) ?_
  refine am_callSNv (Y := mX11_copyRow) (pc := 147) (st := []) (As := [.ref 189, .ref 35]) (h2 := (am_row (am_row (am_row (am_row (am_row (am_row (am_row (am_row (am_row (am_row (am_row h 25 (upd (upd (upd (upd (upd (h 25) 0 ((h 179) 0)) 1 ((h 179) 1)) 2 ((h 179) 2)) 3 ((h 179) 3)) 4 ((h 179) 4))) 26 (va_cpy (h 180) (h 26) 0 0 10)) 27 (va_cpy (h 181) (h 27) 0 0 10)) 28 (va_cpy (h 182) (h 28) 0 0 10)) 29 (va_cpy (h 183) (h 29) 0 0 10)) 30 (va_cpy (h 184) (h 30) 0 0 10)) 31 (va_cpy (h 185) (h 31) 0 0 120)) 32 (va_cpy (h 186) (h 32) 0 0 40)) 33 (va_cpy (h 187) (h 33) 0 0 40)) 34 (va_cpy (h 188) (h 34) 0 0 40)) 35 (va_cpy (h 189) (h 35) 0 0 60))) C dX5_copyFrom_147 k5_70 v_X11_copyRow rfl rfl (by decide) (Nat.zero_le _) (Nat.zero_le _) (Nat.le_of_ble_eq_true rfl) (c_X11_copyRow hR 189 35 60 bn_189 sh_189 bn_35 sh_35 (by decide)) ?_
  refine am_aload_n (pc := 150) C dX5_copyFrom_150 rfl ?_
  refine am_getR (pc := 151) (j := 190) C dX5_copyFrom_151 f5_46 bn_179 sh_179 (rf_179_15 hR) ?_
  refine am_aload_n (pc := 154) C dX5_copyFrom_154 rfl ?_
  refine am_getR (pc := 155) (j := 36) C dX5_copyFrom_155 f5_46 bn_25 sh_25 (rf_25_15 hR) ?_
  refine am_callSNv (Y := mX11_copyRow) (pc := 158) (st := []) (As := [.ref 190, .ref 36]) (h2 := (am_row (am_row (am_row (am_row (am_row (am_row (am_row (am_row (am_row (am_row (am_row (am_row h 25 (upd (upd (upd (upd (upd (h 25) 0 ((h 179) 0)) 1 ((h 179) 1)) 2 ((h 179) 2)) 3 ((h 179) 3)) 4 ((h 179) 4))) 26 (va_cpy (h 180) (h 26) 0 0 10)) 27 (va_cpy (h 181) (h 27) 0 0 10)) 28 (va_cpy (h 182) (h 28) 0 0 10)) 29 (va_cpy (h 183) (h 29) 0 0 10)) 30 (va_cpy (h 184) (h 30) 0 0 10)) 31 (va_cpy (h 185) (h 31) 0 0 120)) 32 (va_cpy (h 186) (h 32) 0 0 40)) 33 (va_cpy (h 187) (h 33) 0 0 40)) 34 (va_cpy (h 188) (h 34) 0 0 40)) 35 (va_cpy (h 189) (h 35) 0 0 60)) 36 (va_cpy (h 190) (h 36) 0 0 60))) C dX5_copyFrom_158 k5_70 v_X11_copyRow rfl rfl (by decide) (Nat.zero_le _) (Nat.zero_le _) (Nat.le_of_ble_eq_true rfl) (c_X11_copyRow hR 190 36 60 bn_190 sh_190 bn_36 sh_36 (by decide)) ?_
  refine am_aload_n (pc := 161) C dX5_copyFrom_161 rfl ?_
  refine am_getR (pc := 162) (j := 191) C dX5_copyFrom_162 f5_49 bn_179 sh_179 (rf_179_16 hR) ?_
  refine am_aload_n (pc := 165) C dX5_copyFrom_165 rfl ?_
  refine am_getR (pc := 166) (j := 37) C dX5_copyFrom_166 f5_49 bn_25 sh_25 (rf_25_16 hR) ?_
  refine am_callSNv (Y := mX11_copyRow) (pc := 169) (st := []) (As := [.ref 191, .ref 37]) (h2 := (am_row (am_row (am_row (am_row (am_row (am_row (am_row (am_row (am_row (am_row (am_row (am_row (am_row h 25 (upd (upd (upd (upd (upd (h 25) 0 ((h 179) 0)) 1 ((h 179) 1)) 2 ((h 179) 2)) 3 ((h 179) 3)) 4 ((h 179) 4))) 26 (va_cpy (h 180) (h 26) 0 0 10)) 27 (va_cpy (h 181) (h 27) 0 0 10)) 28 (va_cpy (h 182) (h 28) 0 0 10)) 29 (va_cpy (h 183) (h 29) 0 0 10)) 30 (va_cpy (h 184) (h 30) 0 0 10)) 31 (va_cpy (h 185) (h 31) 0 0 120)) 32 (va_cpy (h 186) (h 32) 0 0 40)) 33 (va_cpy (h 187) (h 33) 0 0 40)) 34 (va_cpy (h 188) (h 34) 0 0 40)) 35 (va_cpy (h 189) (h 35) 0 0 60)) 36 (va_cpy (h 190) (h 36) 0 0 60)) 37 (va_cpy (h 191) (h 37) 0 0 60))) C dX5_copyFrom_169 k5_70 v_X11_copyRow rfl rfl (by decide) (Nat.zero_le _) (Nat.zero_le _) (Nat.le_of_ble_eq_true rfl) (c_X11_copyRow hR 191 37 60 bn_191 sh_191 bn_37 sh_37 (by decide)) ?_
  refine am_aload_n (pc := 172) C dX5_copyFrom_172 rfl ?_
  refine am_getR (pc := 173) (j := 192) C dX5_copyFrom_173 f5_52 bn_179 sh_179 (rf_179_17 hR) ?_
  refine am_aload_n (pc := 176) C dX5_copyFrom_176 rfl ?_
  refine am_getR (pc := 177) (j := 38) C dX5_copyFrom_177 f5_52 bn_25 sh_25 (rf_25_17 hR) ?_
  refine am_callSNv (Y := mX11_copyRow) (pc := 180) (st := []) (As := [.ref 192, .ref 38]) (h2 := (am_row (am_row (am_row (am_row (am_row (am_row (am_row (am_row (am_row (am_row (am_row (am_row (am_row (am_row h 25 (upd (upd (upd (upd (upd (h 25) 0 ((h 179) 0)) 1 ((h 179) 1)) 2 ((h 179) 2)) 3 ((h 179) 3)) 4 ((h 179) 4))) 26 (va_cpy (h 180) (h 26) 0 0 10)) 27 (va_cpy (h 181) (h 27) 0 0 10)) 28 (va_cpy (h 182) (h 28) 0 0 10)) 29 (va_cpy (h 183) (h 29) 0 0 10)) 30 (va_cpy (h 184) (h 30) 0 0 10)) 31 (va_cpy (h 185) (h 31) 0 0 120)) 32 (va_cpy (h 186) (h 32) 0 0 40)) 33 (va_cpy (h 187) (h 33) 0 0 40)) 34 (va_cpy (h 188) (h 34) 0 0 40)) 35 (va_cpy (h 189) (h 35) 0 0 60)) 36 (va_cpy (h 190) (h 36) 0 0 60)) 37 (va_cpy (h 191) (h 37) 0 0 60)) 38 (va_cpy (h 192) (h 38) 0 0 60))) C dX5_copyFrom_180 k5_70 v_X11_copyRow rfl rfl (by decide) (Nat.zero_le _) (Nat.zero_le _) (Nat.le_of_ble_eq_true rfl) (c_X11_copyRow hR 192 38 60 bn_192 sh_192 bn_38 sh_38 (by decide)) ?_
  refine am_aload_n (pc := 183) C dX5_copyFrom_183 rfl ?_
  refine am_getR (pc := 184) (j := 193) C dX5_copyFrom_184 f5_55 bn_179 sh_179 (rf_179_18 hR) ?_
  refine am_aload_n (pc := 187) C dX5_copyFrom_187 rfl ?_
  refine am_getR (pc := 188) (j := 39) C dX5_copyFrom_188 f5_55 bn_25 sh_25 (rf_25_18 hR) ?_
  refine am_callSNv (Y := mX11_copyRow) (pc := 191) (st := []) (As := [.ref 193, .ref 39]) (h2 := (am_row (am_row (am_row (am_row (am_row (am_row (am_row (am_row (am_row (am_row (am_row (am_row (am_row (am_row (am_row h 25 (upd (upd (upd (upd (upd (h 25) 0 ((h 179) 0)) 1 ((h 179) 1)) 2 ((h 179) 2)) 3 ((h 179) 3)) 4 ((h 179) 4))) 26 (va_cpy (h 180) (h 26) 0 0 10)) 27 (va_cpy (h 181) (h 27) 0 0 10)) 28 (va_cpy (h 182) (h 28) 0 0 10)) 29 (va_cpy (h 183) (h 29) 0 0 10)) 30 (va_cpy (h 184) (h 30) 0 0 10)) 31 (va_cpy (h 185) (h 31) 0 0 120)) 32 (va_cpy (h 186) (h 32) 0 0 40)) 33 (va_cpy (h 187) (h 33) 0 0 40)) 34 (va_cpy (h 188) (h 34) 0 0 40)) 35 (va_cpy (h 189) (h 35) 0 0 60)) 36 (va_cpy (h 190) (h 36) 0 0 60)) 37 (va_cpy (h 191) (h 37) 0 0 60)) 38 (va_cpy (h 192) (h 38) 0 0 60)) 39 (va_cpy (h 193) (h 39) 0 0 60))) C dX5_copyFrom_191 k5_70 v_X11_copyRow rfl rfl (by decide) (Nat.zero_le _) (Nat.zero_le _) (Nat.le_of_ble_eq_true rfl) (c_X11_copyRow hR 193 39 60 bn_193 sh_193 bn_39 sh_39 (by decide)) ?_
  exact am_vretvr T dX5_copyFrom_194 rfl (Nat.le_refl _) (Nat.le_refl _) rfl ⟨cl_Sc_cpy hV hSc rfl rfl rfl rfl rfl (fun k hk => va_cpy_0 hk) (fun k hk => va_cpy_0 hk) (fun k hk => va_cpy_0 hk) (fun k hk => va_cpy_0 hk) (fun k hk => va_cpy_0 hk) (fun k hk => va_cpy_0 hk) (fun k hk => va_cpy_0 hk) (fun k hk => va_cpy_0 hk) (fun k hk => va_cpy_0 hk) (fun k hk => va_cpy_0 hk) (fun k hk => va_cpy_0 hk) (fun k hk => va_cpy_0 hk) (fun k hk => va_cpy_0 hk) (fun k hk => va_cpy_0 hk), (fun i9 h9 => by rw [am_row_ne _ _ _ (by omega), am_row_ne _ _ _ (by omega), am_row_ne _ _ _ (by omega), am_row_ne _ _ _ (by omega), am_row_ne _ _ _ (by omega), am_row_ne _ _ _ (by omega), am_row_ne _ _ _ (by omega), am_row_ne _ _ _ (by omega), am_row_ne _ _ _ (by omega), am_row_ne _ _ _ (by omega), am_row_ne _ _ _ (by omega), am_row_ne _ _ _ (by omega), am_row_ne _ _ _ (by omega), am_row_ne _ _ _ (by omega), am_row_ne _ _ _ (by omega)])⟩

set_option maxHeartbeats 400000 in
set_option maxRecDepth 100000 in
theorem c_X5_copyFrom_d_t4 {ad : Nat → Nat} {r : am_R} (hR : am_rs r) {h : am_H}  (w : rf_W) (hV : rf_I w) (hSc : cl_Sc (h) 194 w)  : am_CM mX5_copyFrom 3 0 0 [.ref 25, .ref 194] (am_VV ad) r h (am_pr none r (fun c9 => cl_Sc c9 25 w ∧ cl_fr (h) c9 25 15)) := by
  refine am_CM.of (by decide +kernel) (Nat.le_of_ble_eq_true rfl) (fun X C T => ?_)
  show am_G X (am_VV ad) (0, 0) 0 [(0, .ref 25), (1, .ref 194)] [] r h
  refine am_aload_n (pc := 0) C dX5_copyFrom_0 rfl ?_
  refine am_aload_n (pc := 1) C dX5_copyFrom_1 rfl ?_
  refine am_getI (pc := 2) C dX5_copyFrom_2 f5_58 bn_194 sh_194 ?_
  refine am_putI (pc := 5) C dX5_copyFrom_5 f5_58 bn_25 sh_25 rfl rfl ?_
  refine am_hp (show am_up h 25 0 ((h 194) 0) = am_row h 25 (upd (h 25) 0 ((h 194) 0)) from am_up_rw _ _ _ _) ?_
  refine am_aload_n (pc := 8) C dX5_copyFrom_8 rfl ?_
  refine am_aload_n (pc := 9) C dX5_copyFrom_9 rfl ?_
  refine am_getI (pc := 10) C dX5_copyFrom_10 f5_9 bn_194 sh_194 ?_
  refine am_putI (pc := 13) C dX5_copyFrom_13 f5_9 bn_25 sh_25 rfl rfl ?_
  refine am_hp (show am_up (am_row h 25 (upd (h 25) 0 ((h 194) 0))) 25 1 ((h 194) 1) = am_row (am_row h 25 (upd (h 25) 0 ((h 194) 0))) 25 (upd (upd (h 25) 0 ((h 194) 0)) 1 ((h 194) 1)) from am_up_rw _ _ _ _) ?_
  refine am_hp (show am_row (am_row h 25 (upd (h 25) 0 ((h 194) 0))) 25 (upd (upd (h 25) 0 ((h 194) 0)) 1 ((h 194) 1)) = (am_row h 25 (upd (upd (h 25) 0 ((h 194) 0)) 1 ((h 194) 1))) from am_row_s0) ?_
  refine am_aload_n (pc := 16) C dX5_copyFrom_16 rfl ?_
  refine am_aload_n (pc := 17) C dX5_copyFrom_17 rfl ?_
  refine am_getI (pc := 18) C dX5_copyFrom_18 f5_61 bn_194 sh_194 ?_
  refine am_putI (pc := 21) C dX5_copyFrom_21 f5_61 bn_25 sh_25 rfl rfl ?_
  refine am_hp (show am_up (am_row h 25 (upd (upd (h 25) 0 ((h 194) 0)) 1 ((h 194) 1))) 25 2 ((h 194) 2) = am_row (am_row h 25 (upd (upd (h 25) 0 ((h 194) 0)) 1 ((h 194) 1))) 25 (upd (upd (upd (h 25) 0 ((h 194) 0)) 1 ((h 194) 1)) 2 ((h 194) 2)) from am_up_rw _ _ _ _) ?_
  refine am_hp (show am_row (am_row h 25 (upd (upd (h 25) 0 ((h 194) 0)) 1 ((h 194) 1))) 25 (upd (upd (upd (h 25) 0 ((h 194) 0)) 1 ((h 194) 1)) 2 ((h 194) 2)) = (am_row h 25 (upd (upd (upd (h 25) 0 ((h 194) 0)) 1 ((h 194) 1)) 2 ((h 194) 2))) from am_row_s0) ?_
  refine am_aload_n (pc := 24) C dX5_copyFrom_24 rfl ?_
  refine am_aload_n (pc := 25) C dX5_copyFrom_25 rfl ?_
  refine am_getI (pc := 26) C dX5_copyFrom_26 f5_64 bn_194 sh_194 ?_
  refine am_putI (pc := 29) C dX5_copyFrom_29 f5_64 bn_25 sh_25 rfl rfl ?_
  refine am_hp (show am_up (am_row h 25 (upd (upd (upd (h 25) 0 ((h 194) 0)) 1 ((h 194) 1)) 2 ((h 194) 2))) 25 3 ((h 194) 3) = am_row (am_row h 25 (upd (upd (upd (h 25) 0 ((h 194) 0)) 1 ((h 194) 1)) 2 ((h 194) 2))) 25 (upd (upd (upd (upd (h 25) 0 ((h 194) 0)) 1 ((h 194) 1)) 2 ((h 194) 2)) 3 ((h 194) 3)) from am_up_rw _ _ _ _) ?_
  refine am_hp (show am_row (am_row h 25 (upd (upd (upd (h 25) 0 ((h 194) 0)) 1 ((h 194) 1)) 2 ((h 194) 2))) 25 (upd (upd (upd (upd (h 25) 0 ((h 194) 0)) 1 ((h 194) 1)) 2 ((h 194) 2)) 3 ((h 194) 3)) = (am_row h 25 (upd (upd (upd (upd (h 25) 0 ((h 194) 0)) 1 ((h 194) 1)) 2 ((h 194) 2)) 3 ((h 194) 3))) from am_row_s0) ?_
  refine am_aload_n (pc := 32) C dX5_copyFrom_32 rfl ?_
  refine am_aload_n (pc := 33) C dX5_copyFrom_33 rfl ?_
  refine am_getI (pc := 34) C dX5_copyFrom_34 f5_67 bn_194 sh_194 ?_
  refine am_putI (pc := 37) C dX5_copyFrom_37 f5_67 bn_25 sh_25 rfl rfl ?_
  refine am_hp (show am_up (am_row h 25 (upd (upd (upd (upd (h 25) 0 ((h 194) 0)) 1 ((h 194) 1)) 2 ((h 194) 2)) 3 ((h 194) 3))) 25 4 ((h 194) 4) = am_row (am_row h 25 (upd (upd (upd (upd (h 25) 0 ((h 194) 0)) 1 ((h 194) 1)) 2 ((h 194) 2)) 3 ((h 194) 3))) 25 (upd (upd (upd (upd (upd (h 25) 0 ((h 194) 0)) 1 ((h 194) 1)) 2 ((h 194) 2)) 3 ((h 194) 3)) 4 ((h 194) 4)) from am_up_rw _ _ _ _) ?_
  refine am_hp (show am_row (am_row h 25 (upd (upd (upd (upd (h 25) 0 ((h 194) 0)) 1 ((h 194) 1)) 2 ((h 194) 2)) 3 ((h 194) 3))) 25 (upd (upd (upd (upd (upd (h 25) 0 ((h 194) 0)) 1 ((h 194) 1)) 2 ((h 194) 2)) 3 ((h 194) 3)) 4 ((h 194) 4)) = (am_row h 25 (upd (upd (upd (upd (upd (h 25) 0 ((h 194) 0)) 1 ((h 194) 1)) 2 ((h 194) 2)) 3 ((h 194) 3)) 4 ((h 194) 4))) from am_row_s0) ?_
  refine am_aload_n (pc := 40) C dX5_copyFrom_40 rfl ?_
  refine am_getR (pc := 41) (j := 195) C dX5_copyFrom_41 f5_15 bn_194 sh_194 (rf_194_5 hR) ?_
  refine am_aload_n (pc := 44) C dX5_copyFrom_44 rfl ?_
  refine am_getR (pc := 45) (j := 26) C dX5_copyFrom_45 f5_15 bn_25 sh_25 (rf_25_5 hR) ?_
  refine am_callSNv (Y := mX11_copyRow) (pc := 48) (st := []) (As := [.ref 195, .ref 26]) (h2 := (am_row (am_row h 25 (upd (upd (upd (upd (upd (h 25) 0 ((h 194) 0)) 1 ((h 194) 1)) 2 ((h 194) 2)) 3 ((h 194) 3)) 4 ((h 194) 4))) 26 (va_cpy (h 195) (h 26) 0 0 10))) C dX5_copyFrom_48 k5_70 v_X11_copyRow rfl rfl (by decide) (Nat.zero_le _) (Nat.zero_le _) (Nat.le_of_ble_eq_true rfl) (c_X11_copyRow hR 195 26 10 bn_195 sh_195 bn_26 sh_26 (by decide)) ?_
  refine am_aload_n (pc := 51) C dX5_copyFrom_51 rfl ?_
  refine am_getR (pc := 52) (j := 196) C dX5_copyFrom_52 f5_19 bn_194 sh_194 (rf_194_6 hR) ?_
  refine am_aload_n (pc := 55) C dX5_copyFrom_55 rfl ?_
  refine am_getR (pc := 56) (j := 27) C dX5_copyFrom_56 f5_19 bn_25 sh_25 (rf_25_6 hR) ?_
  refine am_callSNv (Y := mX11_copyRow) (pc := 59) (st := []) (As := [.ref 196, .ref 27]) (h2 := (am_row (am_row (am_row h 25 (upd (upd (upd (upd (upd (h 25) 0 ((h 194) 0)) 1 ((h 194) 1)) 2 ((h 194) 2)) 3 ((h 194) 3)) 4 ((h 194) 4))) 26 (va_cpy (h 195) (h 26) 0 0 10)) 27 (va_cpy (h 196) (h 27) 0 0 10))) C dX5_copyFrom_59 k5_70 v_X11_copyRow rfl rfl (by decide) (Nat.zero_le _) (Nat.zero_le _) (Nat.le_of_ble_eq_true rfl) (c_X11_copyRow hR 196 27 10 bn_196 sh_196 bn_27 sh_27 (by decide)) ?_
  refine am_aload_n (pc := 62) C dX5_copyFrom_62 rfl ?_
  refine am_getR (pc := 63) (j := 197) C dX5_copyFrom_63 f5_22 bn_194 sh_194 (rf_194_7 hR) ?_
  refine am_aload_n (pc := 66) C dX5_copyFrom_66 rfl ?_
  refine am_getR (pc := 67) (j := 28) C dX5_copyFrom_67 f5_22 bn_25 sh_25 (rf_25_7 hR) ?_
  refine am_callSNv (Y := mX11_copyRow) (pc := 70) (st := []) (As := [.ref 197, .ref 28]) (h2 := (am_row (am_row (am_row (am_row h 25 (upd (upd (upd (upd (upd (h 25) 0 ((h 194) 0)) 1 ((h 194) 1)) 2 ((h 194) 2)) 3 ((h 194) 3)) 4 ((h 194) 4))) 26 (va_cpy (h 195) (h 26) 0 0 10)) 27 (va_cpy (h 196) (h 27) 0 0 10)) 28 (va_cpy (h 197) (h 28) 0 0 10))) C dX5_copyFrom_70 k5_70 v_X11_copyRow rfl rfl (by decide) (Nat.zero_le _) (Nat.zero_le _) (Nat.le_of_ble_eq_true rfl) (c_X11_copyRow hR 197 28 10 bn_197 sh_197 bn_28 sh_28 (by decide)) ?_
  refine am_aload_n (pc := 73) C dX5_copyFrom_73 rfl ?_
  refine am_getR (pc := 74) (j := 198) C dX5_copyFrom_74 f5_25 bn_194 sh_194 (rf_194_8 hR) ?_
  refine am_aload_n (pc := 77) C dX5_copyFrom_77 rfl ?_
  refine am_getR (pc := 78) (j := 29) C dX5_copyFrom_78 f5_25 bn_25 sh_25 (rf_25_8 hR) ?_
  refine am_callSNv (Y := mX11_copyRow) (pc := 81) (st := []) (As := [.ref 198, .ref 29]) (h2 := (am_row (am_row (am_row (am_row (am_row h 25 (upd (upd (upd (upd (upd (h 25) 0 ((h 194) 0)) 1 ((h 194) 1)) 2 ((h 194) 2)) 3 ((h 194) 3)) 4 ((h 194) 4))) 26 (va_cpy (h 195) (h 26) 0 0 10)) 27 (va_cpy (h 196) (h 27) 0 0 10)) 28 (va_cpy (h 197) (h 28) 0 0 10)) 29 (va_cpy (h 198) (h 29) 0 0 10))) C dX5_copyFrom_81 k5_70 v_X11_copyRow rfl rfl (by decide) (Nat.zero_le _) (Nat.zero_le _) (Nat.le_of_ble_eq_true rfl) (c_X11_copyRow hR 198 29 10 bn_198 sh_198 bn_29 sh_29 (by decide)) ?_
  refine am_aload_n (pc := 84) C dX5_copyFrom_84 rfl ?_
  refine am_getR (pc := 85) (j := 199) C dX5_copyFrom_85 f5_28 bn_194 sh_194 (rf_194_9 hR) ?_
  refine am_aload_n (pc := 88) C dX5_copyFrom_88 rfl ?_
  refine am_getR (pc := 89) (j := 30) C dX5_copyFrom_89 f5_28 bn_25 sh_25 (rf_25_9 hR) ?_
  refine am_callSNv (Y := mX11_copyRow) (pc := 92) (st := []) (As := [.ref 199, .ref 30]) (h2 := (am_row (am_row (am_row (am_row (am_row (am_row h 25 (upd (upd (upd (upd (upd (h 25) 0 ((h 194) 0)) 1 ((h 194) 1)) 2 ((h 194) 2)) 3 ((h 194) 3)) 4 ((h 194) 4))) 26 (va_cpy (h 195) (h 26) 0 0 10)) 27 (va_cpy (h 196) (h 27) 0 0 10)) 28 (va_cpy (h 197) (h 28) 0 0 10)) 29 (va_cpy (h 198) (h 29) 0 0 10)) 30 (va_cpy (h 199) (h 30) 0 0 10))) C dX5_copyFrom_92 k5_70 v_X11_copyRow rfl rfl (by decide) (Nat.zero_le _) (Nat.zero_le _) (Nat.le_of_ble_eq_true rfl) (c_X11_copyRow hR 199 30 10 bn_199 sh_199 bn_30 sh_30 (by decide)) ?_
  refine am_aload_n (pc := 95) C dX5_copyFrom_95 rfl ?_
  refine am_getR (pc := 96) (j := 200) C dX5_copyFrom_96 f5_31 bn_194 sh_194 (rf_194_10 hR) ?_
  refine am_aload_n (pc := 99) C dX5_copyFrom_99 rfl ?_
  refine am_getR (pc := 100) (j := 31) C dX5_copyFrom_100 f5_31 bn_25 sh_25 (rf_25_10 hR) ?_
  refine am_callSNv (Y := mX11_copyRow) (pc := 103) (st := []) (As := [.ref 200, .ref 31]) (h2 := (am_row (am_row (am_row (am_row (am_row (am_row (am_row h 25 (upd (upd (upd (upd (upd (h 25) 0 ((h 194) 0)) 1 ((h 194) 1)) 2 ((h 194) 2)) 3 ((h 194) 3)) 4 ((h 194) 4))) 26 (va_cpy (h 195) (h 26) 0 0 10)) 27 (va_cpy (h 196) (h 27) 0 0 10)) 28 (va_cpy (h 197) (h 28) 0 0 10)) 29 (va_cpy (h 198) (h 29) 0 0 10)) 30 (va_cpy (h 199) (h 30) 0 0 10)) 31 (va_cpy (h 200) (h 31) 0 0 120))) C dX5_copyFrom_103 k5_70 v_X11_copyRow rfl rfl (by decide) (Nat.zero_le _) (Nat.zero_le _) (Nat.le_of_ble_eq_true rfl) (c_X11_copyRow hR 200 31 120 bn_200 sh_200 bn_31 sh_31 (by decide)) ?_
  refine am_aload_n (pc := 106) C dX5_copyFrom_106 rfl ?_
  refine am_getR (pc := 107) (j := 201) C dX5_copyFrom_107 f5_34 bn_194 sh_194 (rf_194_11 hR) ?_
  refine am_aload_n (pc := 110) C dX5_copyFrom_110 rfl ?_
  refine am_getR (pc := 111) (j := 32) C dX5_copyFrom_111 f5_34 bn_25 sh_25 (rf_25_11 hR) ?_
  refine am_callSNv (Y := mX11_copyRow) (pc := 114) (st := []) (As := [.ref 201, .ref 32]) (h2 := (am_row (am_row (am_row (am_row (am_row (am_row (am_row (am_row h 25 (upd (upd (upd (upd (upd (h 25) 0 ((h 194) 0)) 1 ((h 194) 1)) 2 ((h 194) 2)) 3 ((h 194) 3)) 4 ((h 194) 4))) 26 (va_cpy (h 195) (h 26) 0 0 10)) 27 (va_cpy (h 196) (h 27) 0 0 10)) 28 (va_cpy (h 197) (h 28) 0 0 10)) 29 (va_cpy (h 198) (h 29) 0 0 10)) 30 (va_cpy (h 199) (h 30) 0 0 10)) 31 (va_cpy (h 200) (h 31) 0 0 120)) 32 (va_cpy (h 201) (h 32) 0 0 40))) C dX5_copyFrom_114 k5_70 v_X11_copyRow rfl rfl (by decide) (Nat.zero_le _) (Nat.zero_le _) (Nat.le_of_ble_eq_true rfl) (c_X11_copyRow hR 201 32 40 bn_201 sh_201 bn_32 sh_32 (by decide)) ?_
  refine am_aload_n (pc := 117) C dX5_copyFrom_117 rfl ?_
  refine am_getR (pc := 118) (j := 202) C dX5_copyFrom_118 f5_37 bn_194 sh_194 (rf_194_12 hR) ?_
  refine am_aload_n (pc := 121) C dX5_copyFrom_121 rfl ?_
  refine am_getR (pc := 122) (j := 33) C dX5_copyFrom_122 f5_37 bn_25 sh_25 (rf_25_12 hR) ?_
  refine am_callSNv (Y := mX11_copyRow) (pc := 125) (st := []) (As := [.ref 202, .ref 33]) (h2 := (am_row (am_row (am_row (am_row (am_row (am_row (am_row (am_row (am_row h 25 (upd (upd (upd (upd (upd (h 25) 0 ((h 194) 0)) 1 ((h 194) 1)) 2 ((h 194) 2)) 3 ((h 194) 3)) 4 ((h 194) 4))) 26 (va_cpy (h 195) (h 26) 0 0 10)) 27 (va_cpy (h 196) (h 27) 0 0 10)) 28 (va_cpy (h 197) (h 28) 0 0 10)) 29 (va_cpy (h 198) (h 29) 0 0 10)) 30 (va_cpy (h 199) (h 30) 0 0 10)) 31 (va_cpy (h 200) (h 31) 0 0 120)) 32 (va_cpy (h 201) (h 32) 0 0 40)) 33 (va_cpy (h 202) (h 33) 0 0 40))) C dX5_copyFrom_125 k5_70 v_X11_copyRow rfl rfl (by decide) (Nat.zero_le _) (Nat.zero_le _) (Nat.le_of_ble_eq_true rfl) (c_X11_copyRow hR 202 33 40 bn_202 sh_202 bn_33 sh_33 (by decide)) ?_
  refine am_aload_n (pc := 128) C dX5_copyFrom_128 rfl ?_
  refine am_getR (pc := 129) (j := 203) C dX5_copyFrom_129 f5_40 bn_194 sh_194 (rf_194_13 hR) ?_
  refine am_aload_n (pc := 132) C dX5_copyFrom_132 rfl ?_
  refine am_getR (pc := 133) (j := 34) C dX5_copyFrom_133 f5_40 bn_25 sh_25 (rf_25_13 hR) ?_
  refine am_callSNv (Y := mX11_copyRow) (pc := 136) (st := []) (As := [.ref 203, .ref 34]) (h2 := (am_row (am_row (am_row (am_row (am_row (am_row (am_row (am_row (am_row (am_row h 25 (upd (upd (upd (upd (upd (h 25) 0 ((h 194) 0)) 1 ((h 194) 1)) 2 ((h 194) 2)) 3 ((h 194) 3)) 4 ((h 194) 4))) 26 (va_cpy (h 195) (h 26) 0 0 10)) 27 (va_cpy (h 196) (h 27) 0 0 10)) 28 (va_cpy (h 197) (h 28) 0 0 10)) 29 (va_cpy (h 198) (h 29) 0 0 10)) 30 (va_cpy (h 199) (h 30) 0 0 10)) 31 (va_cpy (h 200) (h 31) 0 0 120)) 32 (va_cpy (h 201) (h 32) 0 0 40)) 33 (va_cpy (h 202) (h 33) 0 0 40)) 34 (va_cpy (h 203) (h 34) 0 0 40))) C dX5_copyFrom_136 k5_70 v_X11_copyRow rfl rfl (by decide) (Nat.zero_le _) (Nat.zero_le _) (Nat.le_of_ble_eq_true rfl) (c_X11_copyRow hR 203 34 40 bn_203 sh_203 bn_34 sh_34 (by decide)) ?_
  refine am_aload_n (pc := 139) C dX5_copyFrom_139 rfl ?_
  refine am_getR (pc := 140) (j := 204) C dX5_copyFrom_140 f5_43 bn_194 sh_194 (rf_194_14 hR) ?_
  refine am_aload_n (pc := 143) C dX5_copyFrom_143 rfl ?_
  refine am_getR (pc := 144) (j := 35) C dX5_copyFrom_144 f5_43 bn_25 sh_25 (rf_25_14 hR) ?_
  refine am_callSNv (Y := mX11_copyRow) (pc := 147) (st := []) (As := [.ref 204, .ref 35]) (h2 := (am_row (am_row (am_row (am_row (am_row (am_row (am_row (am_row (am_row (am_row (am_row h 25 (upd (upd (upd (upd (upd (h 25) 0 ((h 194) 0)) 1 ((h 194) 1)) 2 ((h 194) 2)) 3 ((h 194) 3)) 4 ((h 194) 4))) 26 (va_cpy (h 195) (h 26) 0 0 10)) 27 (va_cpy (h 196) (h 27) 0 0 10)) 28 (va_cpy (h 197) (h 28) 0 0 10)) 29 (va_cpy (h 198) (h 29) 0 0 10)) 30 (va_cpy (h 199) (h 30) 0 0 10)) 31 (va_cpy (h 200) (h 31) 0 0 120)) 32 (va_cpy (h 201) (h 32) 0 0 40)) 33 (va_cpy (h 202) (h 33) 0 0 40)) 34 (va_cpy (h 203) (h 34) 0 0 40)) 35 (va_cpy (h 204) (h 35) 0 0 60))) C dX5_copyFrom_147 k5_70 v_X11_copyRow rfl rfl (by decide) (Nat.zero_le _) (Nat.zero_le _) (Nat.le_of_ble_eq_true rfl) (c_X11_copyRow hR 204 35 60 bn_204 sh_204 bn_35 sh_35 (by decide)) ?_
  refine am_aload_n (pc := 150) C dX5_copyFrom_150 rfl ?_
  refine am_getR (pc := 151) (j := 205) C dX5_copyFrom_151 f5_46 bn_194 sh_194 (rf_194_15 hR) ?_
  refine am_aload_n (pc := 154) C dX5_copyFrom_154 rfl ?_
  refine am_getR (pc := 155) (j := 36) C dX5_copyFrom_155 f5_46 bn_25 sh_25 (rf_25_15 hR) ?_
  refine am_callSNv (Y := mX11_copyRow) (pc := 158) (st := []) (As := [.ref 205, .ref 36]) (h2 := (am_row (am_row (am_row (am_row (am_row (am_row (am_row (am_row (am_row (am_row (am_row (am_row h 25 (upd (upd (upd (upd (upd (h 25) 0 ((h 194) 0)) 1 ((h 194) 1)) 2 ((h 194) 2)) 3 ((h 194) 3)) 4 ((h 194) 4))) 26 (va_cpy (h 195) (h 26) 0 0 10)) 27 (va_cpy (h 196) (h 27) 0 0 10)) 28 (va_cpy (h 197) (h 28) 0 0 10)) 29 (va_cpy (h 198) (h 29) 0 0 10)) 30 (va_cpy (h 199) (h 30) 0 0 10)) 31 (va_cpy (h 200) (h 31) 0 0 120)) 32 (va_cpy (h 201) (h 32) 0 0 40)) 33 (va_cpy (h 202) (h 33) 0 0 40)) 34 (va_cpy (h 203) (h 34) 0 0 40)) 35 (va_cpy (h 204) (h 35) 0 0 60)) 36 (va_cpy (h 205) (h 36) 0 0 60))) C dX5_copyFrom_158 k5_70 v_X11_copyRow rfl rfl (by decide) (Nat.zero_le _) (Nat.zero_le _) (Nat.le_of_ble_eq_true rfl) (c_X11_copyRow hR 205 36 60 bn_205 sh_205 bn_36 sh_36 (by decide)) ?_
  refine am_aload_n (pc := 161) C dX5_copyFrom_161 rfl ?_
  refine am_getR (pc := 162) (j := 206) C dX5_copyFrom_162 f5_49 bn_194 sh_194 (rf_194_16 hR) ?_
  refine am_aload_n (pc := 165) C dX5_copyFrom_165 rfl ?_
  refine am_getR (pc := 166) (j := 37) C dX5_copyFrom_166 f5_49 bn_25 sh_25 (rf_25_16 hR) ?_
  refine am_callSNv (Y := mX11_copyRow) (pc := 169) (st := []) (As := [.ref 206, .ref 37]) (h2 := (am_row (am_row (am_row (am_row (am_row (am_row (am_row (am_row (am_row (am_row (am_row (am_row (am_row h 25 (upd (upd (upd (upd (upd (h 25) 0 ((h 194) 0)) 1 ((h 194) 1)) 2 ((h 194) 2)) 3 ((h 194) 3)) 4 ((h 194) 4))) 26 (va_cpy (h 195) (h 26) 0 0 10)) 27 (va_cpy (h 196) (h 27) 0 0 10)) 28 (va_cpy (h 197) (h 28) 0 0 10)) 29 (va_cpy (h 198) (h 29) 0 0 10)) 30 (va_cpy (h 199) (h 30) 0 0 10)) 31 (va_cpy (h 200) (h 31) 0 0 120)) 32 (va_cpy (h 201) (h 32) 0 0 40)) 33 (va_cpy (h 202) (h 33) 0 0 40)) 34 (va_cpy (h 203) (h 34) 0 0 40)) 35 (va_cpy (h 204) (h 35) 0 0 60)) 36 (va_cpy (h 205) (h 36) 0 0 60)) 37 (va_cpy (h 206) (h 37) 0 0 60))) C dX5_copyFrom_169 k5_70 v_X11_copyRow rfl rfl (by decide) (Nat.zero_le _) (Nat.zero_le _) (Nat.le_of_ble_eq_true rfl) (c_X11_copyRow hR 206 37 60 bn_206 sh_206 bn_37 sh_37 (by decide)) ?_
  refine am_aload_n (pc := 172) C dX5_copyFrom_172 rfl ?_
  refine am_getR (pc := 173) (j := 207) C dX5_copyFrom_173 f5_52 bn_194 sh_194 (rf_194_17 hR) ?_
  refine am_aload_n (pc := 176) C dX5_copyFrom_176 rfl ?_
  refine am_getR (pc := 177) (j := 38) C dX5_copyFrom_177 f5_52 bn_25 sh_25 (rf_25_17 hR) ?_
  refine am_callSNv (Y := mX11_copyRow) (pc := 180) (st := []) (As := [.ref 207, .ref 38]) (h2 := (am_row (am_row (am_row (am_row (am_row (am_row (am_row (am_row (am_row (am_row (am_row (am_row (am_row (am_row h 25 (upd (upd (upd (upd (upd (h 25) 0 ((h 194) 0)) 1 ((h 194) 1)) 2 ((h 194) 2)) 3 ((h 194) 3)) 4 ((h 194) 4))) 26 (va_cpy (h 195) (h 26) 0 0 10)) 27 (va_cpy (h 196) (h 27) 0 0 10)) 28 (va_cpy (h 197) (h 28) 0 0 10)) 29 (va_cpy (h 198) (h 29) 0 0 10)) 30 (va_cpy (h 199) (h 30) 0 0 10)) 31 (va_cpy (h 200) (h 31) 0 0 120)) 32 (va_cpy (h 201) (h 32) 0 0 40)) 33 (va_cpy (h 202) (h 33) 0 0 40)) 34 (va_cpy (h 203) (h 34) 0 0 40)) 35 (va_cpy (h 204) (h 35) 0 0 60)) 36 (va_cpy (h 205) (h 36) 0 0 60)) 37 (va_cpy (h 206) (h 37) 0 0 60)) 38 (va_cpy (h 207) (h 38) 0 0 60))) C dX5_copyFrom_180 k5_70 v_X11_copyRow rfl rfl (by decide) (Nat.zero_le _) (Nat.zero_le _) (Nat.le_of_ble_eq_true rfl) (c_X11_copyRow hR 207 38 60 bn_207 sh_207 bn_38 sh_38 (by decide)) ?_
  refine am_aload_n (pc := 183) C dX5_copyFrom_183 rfl ?_
  refine am_getR (pc := 184) (j := 208) C dX5_copyFrom_184 f5_55 bn_194 sh_194 (rf_194_18 hR) ?_
  refine am_aload_n (pc := 187) C dX5_copyFrom_187 rfl ?_
  refine am_getR (pc := 188) (j := 39) C dX5_copyFrom_188 f5_55 bn_25 sh_25 (rf_25_18 hR) ?_
  refine am_callSNv (Y := mX11_copyRow) (pc := 191) (st := []) (As := [.ref 208, .ref 39]) (h2 := (am_row (am_row (am_row (am_row (am_row (am_row (am_row (am_row (am_row (am_row (am_row (am_row (am_row (am_row (am_row h 25 (upd (upd (upd (upd (upd (h 25) 0 ((h 194) 0)) 1 ((h 194) 1)) 2 ((h 194) 2)) 3 ((h 194) 3)) 4 ((h 194) 4))) 26 (va_cpy (h 195) (h 26) 0 0 10)) 27 (va_cpy (h 196) (h 27) 0 0 10)) 28 (va_cpy (h 197) (h 28) 0 0 10)) 29 (va_cpy (h 198) (h 29) 0 0 10)) 30 (va_cpy (h 199) (h 30) 0 0 10)) 31 (va_cpy (h 200) (h 31) 0 0 120)) 32 (va_cpy (h 201) (h 32) 0 0 40)) 33 (va_cpy (h 202) (h 33) 0 0 40)) 34 (va_cpy (h 203) (h 34) 0 0 40)) 35 (va_cpy (h 204) (h 35) 0 0 60)) 36 (va_cpy (h 205) (h 36) 0 0 60)) 37 (va_cpy (h 206) (h 37) 0 0 60)) 38 (va_cpy (h 207) (h 38) 0 0 60)) 39 (va_cpy (h 208) (h 39) 0 0 60))) C dX5_copyFrom_191 k5_70 v_X11_copyRow rfl rfl (by decide) (Nat.zero_le _) (Nat.zero_le _) (Nat.le_of_ble_eq_true rfl) (c_X11_copyRow hR 208 39 60 bn_208 sh_208 bn_39 sh_39 (by decide)) ?_
  exact am_vretvr T dX5_copyFrom_194 rfl (Nat.le_refl _) (Nat.le_refl _) rfl ⟨cl_Sc_cpy hV hSc rfl rfl rfl rfl rfl (fun k hk => va_cpy_0 hk) (fun k hk => va_cpy_0 hk) (fun k hk => va_cpy_0 hk) (fun k hk => va_cpy_0 hk) (fun k hk => va_cpy_0 hk) (fun k hk => va_cpy_0 hk) (fun k hk => va_cpy_0 hk) (fun k hk => va_cpy_0 hk) (fun k hk => va_cpy_0 hk) (fun k hk => va_cpy_0 hk) (fun k hk => va_cpy_0 hk) (fun k hk => va_cpy_0 hk) (fun k hk => va_cpy_0 hk) (fun k hk => va_cpy_0 hk), (fun i9 h9 => by rw [am_row_ne _ _ _ (by omega), am_row_ne _ _ _ (by omega), am_row_ne _ _ _ (by omega), am_row_ne _ _ _ (by omega), am_row_ne _ _ _ (by omega), am_row_ne _ _ _ (by omega), am_row_ne _ _ _ (by omega), am_row_ne _ _ _ (by omega), am_row_ne _ _ _ (by omega), am_row_ne _ _ _ (by omega), am_row_ne _ _ _ (by omega), am_row_ne _ _ _ (by omega), am_row_ne _ _ _ (by omega), am_row_ne _ _ _ (by omega), am_row_ne _ _ _ (by omega)])⟩

set_option maxHeartbeats 400000 in
set_option maxRecDepth 100000 in
theorem c_X5_copyFrom_d_t5 {ad : Nat → Nat} {r : am_R} (hR : am_rs r) {h : am_H}  (w : rf_W) (hV : rf_I w) (hSc : cl_Sc (h) 209 w)  : am_CM mX5_copyFrom 3 0 0 [.ref 25, .ref 209] (am_VV ad) r h (am_pr none r (fun c9 => cl_Sc c9 25 w ∧ cl_fr (h) c9 25 15)) := by
  refine am_CM.of (by decide +kernel) (Nat.le_of_ble_eq_true rfl) (fun X C T => ?_)
  show am_G X (am_VV ad) (0, 0) 0 [(0, .ref 25), (1, .ref 209)] [] r h
  refine am_aload_n (pc := 0) C dX5_copyFrom_0 rfl ?_
  refine am_aload_n (pc := 1) C dX5_copyFrom_1 rfl ?_
  refine am_getI (pc := 2) C dX5_copyFrom_2 f5_58 bn_209 sh_209 ?_
  refine am_putI (pc := 5) C dX5_copyFrom_5 f5_58 bn_25 sh_25 rfl rfl ?_
  refine am_hp (show am_up h 25 0 ((h 209) 0) = am_row h 25 (upd (h 25) 0 ((h 209) 0)) from am_up_rw _ _ _ _) ?_
  refine am_aload_n (pc := 8) C dX5_copyFrom_8 rfl ?_
  refine am_aload_n (pc := 9) C dX5_copyFrom_9 rfl ?_
  refine am_getI (pc := 10) C dX5_copyFrom_10 f5_9 bn_209 sh_209 ?_
  refine am_putI (pc := 13) C dX5_copyFrom_13 f5_9 bn_25 sh_25 rfl rfl ?_
  refine am_hp (show am_up (am_row h 25 (upd (h 25) 0 ((h 209) 0))) 25 1 ((h 209) 1) = am_row (am_row h 25 (upd (h 25) 0 ((h 209) 0))) 25 (upd (upd (h 25) 0 ((h 209) 0)) 1 ((h 209) 1)) from am_up_rw _ _ _ _) ?_
  refine am_hp (show am_row (am_row h 25 (upd (h 25) 0 ((h 209) 0))) 25 (upd (upd (h 25) 0 ((h 209) 0)) 1 ((h 209) 1)) = (am_row h 25 (upd (upd (h 25) 0 ((h 209) 0)) 1 ((h 209) 1))) from am_row_s0) ?_
  refine am_aload_n (pc := 16) C dX5_copyFrom_16 rfl ?_
  refine am_aload_n (pc := 17) C dX5_copyFrom_17 rfl ?_
  refine am_getI (pc := 18) C dX5_copyFrom_18 f5_61 bn_209 sh_209 ?_
  refine am_putI (pc := 21) C dX5_copyFrom_21 f5_61 bn_25 sh_25 rfl rfl ?_
  refine am_hp (show am_up (am_row h 25 (upd (upd (h 25) 0 ((h 209) 0)) 1 ((h 209) 1))) 25 2 ((h 209) 2) = am_row (am_row h 25 (upd (upd (h 25) 0 ((h 209) 0)) 1 ((h 209) 1))) 25 (upd (upd (upd (h 25) 0 ((h 209) 0)) 1 ((h 209) 1)) 2 ((h 209) 2)) from am_up_rw _ _ _ _) ?_
  refine am_hp (show am_row (am_row h 25 (upd (upd (h 25) 0 ((h 209) 0)) 1 ((h 209) 1))) 25 (upd (upd (upd (h 25) 0 ((h 209) 0)) 1 ((h 209) 1)) 2 ((h 209) 2)) = (am_row h 25 (upd (upd (upd (h 25) 0 ((h 209) 0)) 1 ((h 209) 1)) 2 ((h 209) 2))) from am_row_s0) ?_
  refine am_aload_n (pc := 24) C dX5_copyFrom_24 rfl ?_
  refine am_aload_n (pc := 25) C dX5_copyFrom_25 rfl ?_
  refine am_getI (pc := 26) C dX5_copyFrom_26 f5_64 bn_209 sh_209 ?_
  refine am_putI (pc := 29) C dX5_copyFrom_29 f5_64 bn_25 sh_25 rfl rfl ?_
  refine am_hp (show am_up (am_row h 25 (upd (upd (upd (h 25) 0 ((h 209) 0)) 1 ((h 209) 1)) 2 ((h 209) 2))) 25 3 ((h 209) 3) = am_row (am_row h 25 (upd (upd (upd (h 25) 0 ((h 209) 0)) 1 ((h 209) 1)) 2 ((h 209) 2))) 25 (upd (upd (upd (upd (h 25) 0 ((h 209) 0)) 1 ((h 209) 1)) 2 ((h 209) 2)) 3 ((h 209) 3)) from am_up_rw _ _ _ _) ?_
  refine am_hp (show am_row (am_row h 25 (upd (upd (upd (h 25) 0 ((h 209) 0)) 1 ((h 209) 1)) 2 ((h 209) 2))) 25 (upd (upd (upd (upd (h 25) 0 ((h 209) 0)) 1 ((h 209) 1)) 2 ((h 209) 2)) 3 ((h 209) 3)) = (am_row h 25 (upd (upd (upd (upd (h 25) 0 ((h 209) 0)) 1 ((h 209) 1)) 2 ((h 209) 2)) 3 ((h 209) 3))) from am_row_s0) ?_
  refine am_aload_n (pc := 32) C dX5_copyFrom_32 rfl ?_
  refine am_aload_n (pc := 33) C dX5_copyFrom_33 rfl ?_
  refine am_getI (pc := 34) C dX5_copyFrom_34 f5_67 bn_209 sh_209 ?_
  refine am_putI (pc := 37) C dX5_copyFrom_37 f5_67 bn_25 sh_25 rfl rfl ?_
  refine am_hp (show am_up (am_row h 25 (upd (upd (upd (upd (h 25) 0 ((h 209) 0)) 1 ((h 209) 1)) 2 ((h 209) 2)) 3 ((h 209) 3))) 25 4 ((h 209) 4) = am_row (am_row h 25 (upd (upd (upd (upd (h 25) 0 ((h 209) 0)) 1 ((h 209) 1)) 2 ((h 209) 2)) 3 ((h 209) 3))) 25 (upd (upd (upd (upd (upd (h 25) 0 ((h 209) 0)) 1 ((h 209) 1)) 2 ((h 209) 2)) 3 ((h 209) 3)) 4 ((h 209) 4)) from am_up_rw _ _ _ _) ?_
  refine am_hp (show am_row (am_row h 25 (upd (upd (upd (upd (h 25) 0 ((h 209) 0)) 1 ((h 209) 1)) 2 ((h 209) 2)) 3 ((h 209) 3))) 25 (upd (upd (upd (upd (upd (h 25) 0 ((h 209) 0)) 1 ((h 209) 1)) 2 ((h 209) 2)) 3 ((h 209) 3)) 4 ((h 209) 4)) = (am_row h 25 (upd (upd (upd (upd (upd (h 25) 0 ((h 209) 0)) 1 ((h 209) 1)) 2 ((h 209) 2)) 3 ((h 209) 3)) 4 ((h 209) 4))) from am_row_s0) ?_
  refine am_aload_n (pc := 40) C dX5_copyFrom_40 rfl ?_
  refine am_getR (pc := 41) (j := 210) C dX5_copyFrom_41 f5_15 bn_209 sh_209 (rf_209_5 hR) ?_
  refine am_aload_n (pc := 44) C dX5_copyFrom_44 rfl ?_
  refine am_getR (pc := 45) (j := 26) C dX5_copyFrom_45 f5_15 bn_25 sh_25 (rf_25_5 hR) ?_
  refine am_callSNv (Y := mX11_copyRow) (pc := 48) (st := []) (As := [.ref 210, .ref 26]) (h2 := (am_row (am_row h 25 (upd (upd (upd (upd (upd (h 25) 0 ((h 209) 0)) 1 ((h 209) 1)) 2 ((h 209) 2)) 3 ((h 209) 3)) 4 ((h 209) 4))) 26 (va_cpy (h 210) (h 26) 0 0 10))) C dX5_copyFrom_48 k5_70 v_X11_copyRow rfl rfl (by decide) (Nat.zero_le _) (Nat.zero_le _) (Nat.le_of_ble_eq_true rfl) (c_X11_copyRow hR 210 26 10 bn_210 sh_210 bn_26 sh_26 (by decide)) ?_
  refine am_aload_n (pc := 51) C dX5_copyFrom_51 rfl ?_
  refine am_getR (pc := 52) (j := 211) C dX5_copyFrom_52 f5_19 bn_209 sh_209 (rf_209_6 hR) ?_
  refine am_aload_n (pc := 55) C dX5_copyFrom_55 rfl ?_
  refine am_getR (pc := 56) (j := 27) C dX5_copyFrom_56 f5_19 bn_25 sh_25 (rf_25_6 hR) ?_
  refine am_callSNv (Y := mX11_copyRow) (pc := 59) (st := []) (As := [.ref 211, .ref 27]) (h2 := (am_row (am_row (am_row h 25 (upd (upd (upd (upd (upd (h 25) 0 ((h 209) 0)) 1 ((h 209) 1)) 2 ((h 209) 2)) 3 ((h 209) 3)) 4 ((h 209) 4))) 26 (va_cpy (h 210) (h 26) 0 0 10)) 27 (va_cpy (h 211) (h 27) 0 0 10))) C dX5_copyFrom_59 k5_70 v_X11_copyRow rfl rfl (by decide) (Nat.zero_le _) (Nat.zero_le _) (Nat.le_of_ble_eq_true rfl) (c_X11_copyRow hR 211 27 10 bn_211 sh_211 bn_27 sh_27 (by decide)) ?_
  refine am_aload_n (pc := 62) C dX5_copyFrom_62 rfl ?_
  refine am_getR (pc := 63) (j := 212) C dX5_copyFrom_63 f5_22 bn_209 sh_209 (rf_209_7 hR) ?_
  refine am_aload_n (pc := 66) C dX5_copyFrom_66 rfl ?_
  refine am_getR (pc := 67) (j := 28) C dX5_copyFrom_67 f5_22 bn_25 sh_25 (rf_25_7 hR) ?_
  refine am_callSNv (Y := mX11_copyRow) (pc := 70) (st := []) (As := [.ref 212, .ref 28]) (h2 := (am_row (am_row (am_row (am_row h 25 (upd (upd (upd (upd (upd (h 25) 0 ((h 209) 0)) 1 ((h 209) 1)) 2 ((h 209) 2)) 3 ((h 209) 3)) 4 ((h 209) 4))) 26 (va_cpy (h 210) (h 26) 0 0 10)) 27 (va_cpy (h 211) (h 27) 0 0 10)) 28 (va_cpy (h 212) (h 28) 0 0 10))) C dX5_copyFrom_70 k5_70 v_X11_copyRow rfl rfl (by decide) (Nat.zero_le _) (Nat.zero_le _) (Nat.le_of_ble_eq_true rfl) (c_X11_copyRow hR 212 28 10 bn_212 sh_212 bn_28 sh_28 (by decide)) ?_
  refine am_aload_n (pc := 73) C dX5_copyFrom_73 rfl ?_
  refine am_getR (pc := 74) (j := 213) C dX5_copyFrom_74 f5_25 bn_209 sh_209 (rf_209_8 hR) ?_
  refine am_aload_n (pc := 77) C dX5_copyFrom_77 rfl ?_
  refine am_getR (pc := 78) (j := 29) C dX5_copyFrom_78 f5_25 bn_25 sh_25 (rf_25_8 hR) ?_
  refine am_callSNv (Y := mX11_copyRow) (pc := 81) (st := []) (As := [.ref 213, .ref 29]) (h2 := (am_row (am_row (am_row (am_row (am_row h 25 (upd (upd (upd (upd (upd (h 25) 0 ((h 209) 0)) 1 ((h 209) 1)) 2 ((h 209) 2)) 3 ((h 209) 3)) 4 ((h 209) 4))) 26 (va_cpy (h 210) (h 26) 0 0 10)) 27 (va_cpy (h 211) (h 27) 0 0 10)) 28 (va_cpy (h 212) (h 28) 0 0 10)) 29 (va_cpy (h 213) (h 29) 0 0 10))) C dX5_copyFrom_81 k5_70 v_X11_copyRow rfl rfl (by decide) (Nat.zero_le _) (Nat.zero_le _) (Nat.le_of_ble_eq_true rfl) (c_X11_copyRow hR 213 29 10 bn_213 sh_213 bn_29 sh_29 (by decide)) ?_
  refine am_aload_n (pc := 84) C dX5_copyFrom_84 rfl ?_
  refine am_getR (pc := 85) (j := 214) C dX5_copyFrom_85 f5_28 bn_209 sh_209 (rf_209_9 hR) ?_
  refine am_aload_n (pc := 88) C dX5_copyFrom_88 rfl ?_
  refine am_getR (pc := 89) (j := 30) C dX5_copyFrom_89 f5_28 bn_25 sh_25 (rf_25_9 hR) ?_
  refine am_callSNv (Y := mX11_copyRow) (pc := 92) (st := []) (As := [.ref 214, .ref 30]) (h2 := (am_row (am_row (am_row (am_row (am_row (am_row h 25 (upd (upd (upd (upd (upd (h 25) 0 ((h 209) 0)) 1 ((h 209) 1)) 2 ((h 209) 2)) 3 ((h 209) 3)) 4 ((h 209) 4))) 26 (va_cpy (h 210) (h 26) 0 0 10)) 27 (va_cpy (h 211) (h 27) 0 0 10)) 28 (va_cpy (h 212) (h 28) 0 0 10)) 29 (va_cpy (h 213) (h 29) 0 0 10)) 30 (va_cpy (h 214) (h 30) 0 0 10))) C dX5_copyFrom_92 k5_70 v_X11_copyRow rfl rfl (by decide) (Nat.zero_le _) (Nat.zero_le _) (Nat.le_of_ble_eq_true rfl) (c_X11_copyRow hR 214 30 10 bn_214 sh_214 bn_30 sh_30 (by decide)) ?_
  refine am_aload_n (pc := 95) C dX5_copyFrom_95 rfl ?_
  refine am_getR (pc := 96) (j := 215) C dX5_copyFrom_96 f5_31 bn_209 sh_209 (rf_209_10 hR) ?_
  refine am_aload_n (pc := 99) C dX5_copyFrom_99 rfl ?_
  refine am_getR (pc := 100) (j := 31) C dX5_copyFrom_100 f5_31 bn_25 sh_25 (rf_25_10 hR) ?_
  refine am_callSNv (Y := mX11_copyRow) (pc := 103) (st := []) (As := [.ref 215, .ref 31]) (h2 := (am_row (am_row (am_row (am_row (am_row (am_row (am_row h 25 (upd (upd (upd (upd (upd (h 25) 0 ((h 209) 0)) 1 ((h 209) 1)) 2 ((h 209) 2)) 3 ((h 209) 3)) 4 ((h 209) 4))) 26 (va_cpy (h 210) (h 26) 0 0 10)) 27 (va_cpy (h 211) (h 27) 0 0 10)) 28 (va_cpy (h 212) (h 28) 0 0 10)) 29 (va_cpy (h 213) (h 29) 0 0 10)) 30 (va_cpy (h 214) (h 30) 0 0 10)) 31 (va_cpy (h 215) (h 31) 0 0 120))) C dX5_copyFrom_103 k5_70 v_X11_copyRow rfl rfl (by decide) (Nat.zero_le _) (Nat.zero_le _) (Nat.le_of_ble_eq_true rfl) (c_X11_copyRow hR 215 31 120 bn_215 sh_215 bn_31 sh_31 (by decide)) ?_
  refine am_aload_n (pc := 106) C dX5_copyFrom_106 rfl ?_
  refine am_getR (pc := 107) (j := 216) C dX5_copyFrom_107 f5_34 bn_209 sh_209 (rf_209_11 hR) ?_
  refine am_aload_n (pc := 110) C dX5_copyFrom_110 rfl ?_
  refine am_getR (pc := 111) (j := 32) C dX5_copyFrom_111 f5_34 bn_25 sh_25 (rf_25_11 hR) ?_
  refine am_callSNv (Y := mX11_copyRow) (pc := 114) (st := []) (As := [.ref 216, .ref 32]) (h2 := (am_row (am_row (am_row (am_row (am_row (am_row (am_row (am_row h 25 (upd (upd (upd (upd (upd (h 25) 0 ((h 209) 0)) 1 ((h 209) 1)) 2 ((h 209) 2)) 3 ((h 209) 3)) 4 ((h 209) 4))) 26 (va_cpy (h 210) (h 26) 0 0 10)) 27 (va_cpy (h 211) (h 27) 0 0 10)) 28 (va_cpy (h 212) (h 28) 0 0 10)) 29 (va_cpy (h 213) (h 29) 0 0 10)) 30 (va_cpy (h 214) (h 30) 0 0 10)) 31 (va_cpy (h 215) (h 31) 0 0 120)) 32 (va_cpy (h 216) (h 32) 0 0 40))) C dX5_copyFrom_114 k5_70 v_X11_copyRow rfl rfl (by decide) (Nat.zero_le _) (Nat.zero_le _) (Nat.le_of_ble_eq_true rfl) (c_X11_copyRow hR 216 32 40 bn_216 sh_216 bn_32 sh_32 (by decide)) ?_
  refine am_aload_n (pc := 117) C dX5_copyFrom_117 rfl ?_
  refine am_getR (pc := 118) (j := 217) C dX5_copyFrom_118 f5_37 bn_209 sh_209 (rf_209_12 hR) ?_
  refine am_aload_n (pc := 121) C dX5_copyFrom_121 rfl ?_
  refine am_getR (pc := 122) (j := 33) C dX5_copyFrom_122 f5_37 bn_25 sh_25 (rf_25_12 hR) ?_
  refine am_callSNv (Y := mX11_copyRow) (pc := 125) (st := []) (As := [.ref 217, .ref 33]) (h2 := (am_row (am_row (am_row (am_row (am_row (am_row (am_row (am_row (am_row h 25 (upd (upd (upd (upd (upd (h 25) 0 ((h 209) 0)) 1 ((h 209) 1)) 2 ((h 209) 2)) 3 ((h 209) 3)) 4 ((h 209) 4))) 26 (va_cpy (h 210) (h 26) 0 0 10)) 27 (va_cpy (h 211) (h 27) 0 0 10)) 28 (va_cpy (h 212) (h 28) 0 0 10)) 29 (va_cpy (h 213) (h 29) 0 0 10)) 30 (va_cpy (h 214) (h 30) 0 0 10)) 31 (va_cpy (h 215) (h 31) 0 0 120)) 32 (va_cpy (h 216) (h 32) 0 0 40)) 33 (va_cpy (h 217) (h 33) 0 0 40))) C dX5_copyFrom_125 k5_70 v_X11_copyRow rfl rfl (by decide) (Nat.zero_le _) (Nat.zero_le _) (Nat.le_of_ble_eq_true rfl) (c_X11_copyRow hR 217 33 40 bn_217 sh_217 bn_33 sh_33 (by decide)) ?_
  refine am_aload_n (pc := 128) C dX5_copyFrom_128 rfl ?_
  refine am_getR (pc := 129) (j := 218) C dX5_copyFrom_129 f5_40 bn_209 sh_209 (rf_209_13 hR) ?_
  refine am_aload_n (pc := 132) C dX5_copyFrom_132 rfl ?_
  refine am_getR (pc := 133) (j := 34) C dX5_copyFrom_133 f5_40 bn_25 sh_25 (rf_25_13 hR) ?_
  refine am_callSNv (Y := mX11_copyRow) (pc := 136) (st := []) (As := [.ref 218, .ref 34]) (h2 := (am_row (am_row (am_row (am_row (am_row (am_row (am_row (am_row (am_row (am_row h 25 (upd (upd (upd (upd (upd (h 25) 0 ((h 209) 0)) 1 ((h 209) 1)) 2 ((h 209) 2)) 3 ((h 209) 3)) 4 ((h 209) 4))) 26 (va_cpy (h 210) (h 26) 0 0 10)) 27 (va_cpy (h 211) (h 27) 0 0 10)) 28 (va_cpy (h 212) (h 28) 0 0 10)) 29 (va_cpy (h 213) (h 29) 0 0 10)) 30 (va_cpy (h 214) (h 30) 0 0 10)) 31 (va_cpy (h 215) (h 31) 0 0 120)) 32 (va_cpy (h 216) (h 32) 0 0 40)) 33 (va_cpy (h 217) (h 33) 0 0 40)) 34 (va_cpy (h 218) (h 34) 0 0 40))) C dX5_copyFrom_136 k5_70 v_X11_copyRow rfl rfl (by decide) (Nat.zero_le _) (Nat.zero_le _) (Nat.le_of_ble_eq_true rfl) (c_X11_copyRow hR 218 34 40 bn_218 sh_218 bn_34 sh_34 (by decide)) ?_
  refine am_aload_n (pc := 139) C dX5_copyFrom_139 rfl ?_
  refine am_getR (pc := 140) (j := 219) C dX5_copyFrom_140 f5_43 bn_209 sh_209 (rf_209_14 hR) ?_
  refine am_aload_n (pc := 143) C dX5_copyFrom_143 rfl ?_
  refine am_getR (pc := 144) (j := 35) C dX5_copyFrom_144 f5_43 bn_25 sh_25 (rf_25_14 hR) ?_
  refine am_callSNv (Y := mX11_copyRow) (pc := 147) (st := []) (As := [.ref 219, .ref 35]) (h2 := (am_row (am_row (am_row (am_row (am_row (am_row (am_row (am_row (am_row (am_row (am_row h 25 (upd (upd (upd (upd (upd (h 25) 0 ((h 209) 0)) 1 ((h 209) 1)) 2 ((h 209) 2)) 3 ((h 209) 3)) 4 ((h 209) 4))) 26 (va_cpy (h 210) (h 26) 0 0 10)) 27 (va_cpy (h 211) (h 27) 0 0 10)) 28 (va_cpy (h 212) (h 28) 0 0 10)) 29 (va_cpy (h 213) (h 29) 0 0 10)) 30 (va_cpy (h 214) (h 30) 0 0 10)) 31 (va_cpy (h 215) (h 31) 0 0 120)) 32 (va_cpy (h 216) (h 32) 0 0 40)) 33 (va_cpy (h 217) (h 33) 0 0 40)) 34 (va_cpy (h 218) (h 34) 0 0 40)) 35 (va_cpy (h 219) (h 35) 0 0 60))) C dX5_copyFrom_147 k5_70 v_X11_copyRow rfl rfl (by decide) (Nat.zero_le _) (Nat.zero_le _) (Nat.le_of_ble_eq_true rfl) (c_X11_copyRow hR 219 35 60 bn_219 sh_219 bn_35 sh_35 (by decide)) ?_
  refine am_aload_n (pc := 150) C dX5_copyFrom_150 rfl ?_
  refine am_getR (pc := 151) (j := 220) C dX5_copyFrom_151 f5_46 bn_209 sh_209 (rf_209_15 hR) ?_
  refine am_aload_n (pc := 154) C dX5_copyFrom_154 rfl ?_
  refine am_getR (pc := 155) (j := 36) C dX5_copyFrom_155 f5_46 bn_25 sh_25 (rf_25_15 hR) ?_
  refine am_callSNv (Y := mX11_copyRow) (pc := 158) (st := []) (As := [.ref 220, .ref 36]) (h2 := (am_row (am_row (am_row (am_row (am_row (am_row (am_row (am_row (am_row (am_row (am_row (am_row h 25 (upd (upd (upd (upd (upd (h 25) 0 ((h 209) 0)) 1 ((h 209) 1)) 2 ((h 209) 2)) 3 ((h 209) 3)) 4 ((h 209) 4))) 26 (va_cpy (h 210) (h 26) 0 0 10)) 27 (va_cpy (h 211) (h 27) 0 0 10)) 28 (va_cpy (h 212) (h 28) 0 0 10)) 29 (va_cpy (h 213) (h 29) 0 0 10)) 30 (va_cpy (h 214) (h 30) 0 0 10)) 31 (va_cpy (h 215) (h 31) 0 0 120)) 32 (va_cpy (h 216) (h 32) 0 0 40)) 33 (va_cpy (h 217) (h 33) 0 0 40)) 34 (va_cpy (h 218) (h 34) 0 0 40)) 35 (va_cpy (h 219) (h 35) 0 0 60)) 36 (va_cpy (h 220) (h 36) 0 0 60))) C dX5_copyFrom_158 k5_70 v_X11_copyRow rfl rfl (by decide) (Nat.zero_le _) (Nat.zero_le _) (Nat.le_of_ble_eq_true rfl) (c_X11_copyRow hR 220 36 60 bn_220 sh_220 bn_36 sh_36 (by decide)) ?_
  refine am_aload_n (pc := 161) C dX5_copyFrom_161 rfl ?_
  refine am_getR (pc := 162) (j := 221) C dX5_copyFrom_162 f5_49 bn_209 sh_209 (rf_209_16 hR) ?_
  refine am_aload_n (pc := 165) C dX5_copyFrom_165 rfl ?_
  refine am_getR (pc := 166) (j := 37) C dX5_copyFrom_166 f5_49 bn_25 sh_25 (rf_25_16 hR) ?_
  refine am_callSNv (Y := mX11_copyRow) (pc := 169) (st := []) (As := [.ref 221, .ref 37]) (h2 := (am_row (am_row (am_row (am_row (am_row (am_row (am_row (am_row (am_row (am_row (am_row (am_row (am_row h 25 (upd (upd (upd (upd (upd (h 25) 0 ((h 209) 0)) 1 ((h 209) 1)) 2 ((h 209) 2)) 3 ((h 209) 3)) 4 ((h 209) 4))) 26 (va_cpy (h 210) (h 26) 0 0 10)) 27 (va_cpy (h 211) (h 27) 0 0 10)) 28 (va_cpy (h 212) (h 28) 0 0 10)) 29 (va_cpy (h 213) (h 29) 0 0 10)) 30 (va_cpy (h 214) (h 30) 0 0 10)) 31 (va_cpy (h 215) (h 31) 0 0 120)) 32 (va_cpy (h 216) (h 32) 0 0 40)) 33 (va_cpy (h 217) (h 33) 0 0 40)) 34 (va_cpy (h 218) (h 34) 0 0 40)) 35 (va_cpy (h 219) (h 35) 0 0 60)) 36 (va_cpy (h 220) (h 36) 0 0 60)) 37 (va_cpy (h 221) (h 37) 0 0 60))) C dX5_copyFrom_169 k5_70 v_X11_copyRow rfl rfl (by decide) (Nat.zero_le _) (Nat.zero_le _) (Nat.le_of_ble_eq_true rfl) (c_X11_copyRow hR 221 37 60 bn_221 sh_221 bn_37 sh_37 (by decide)) ?_
  refine am_aload_n (pc := 172) C dX5_copyFrom_172 rfl ?_
  refine am_getR (pc := 173) (j := 222) C dX5_copyFrom_173 f5_52 bn_209 sh_209 (rf_209_17 hR) ?_
  refine am_aload_n (pc := 176) C dX5_copyFrom_176 rfl ?_
  refine am_getR (pc := 177) (j := 38) C dX5_copyFrom_177 f5_52 bn_25 sh_25 (rf_25_17 hR) ?_
  refine am_callSNv (Y := mX11_copyRow) (pc := 180) (st := []) (As := [.ref 222, .ref 38]) (h2 := (am_row (am_row (am_row (am_row (am_row (am_row (am_row (am_row (am_row (am_row (am_row (am_row (am_row (am_row h 25 (upd (upd (upd (upd (upd (h 25) 0 ((h 209) 0)) 1 ((h 209) 1)) 2 ((h 209) 2)) 3 ((h 209) 3)) 4 ((h 209) 4))) 26 (va_cpy (h 210) (h 26) 0 0 10)) 27 (va_cpy (h 211) (h 27) 0 0 10)) 28 (va_cpy (h 212) (h 28) 0 0 10)) 29 (va_cpy (h 213) (h 29) 0 0 10)) 30 (va_cpy (h 214) (h 30) 0 0 10)) 31 (va_cpy (h 215) (h 31) 0 0 120)) 32 (va_cpy (h 216) (h 32) 0 0 40)) 33 (va_cpy (h 217) (h 33) 0 0 40)) 34 (va_cpy (h 218) (h 34) 0 0 40)) 35 (va_cpy (h 219) (h 35) 0 0 60)) 36 (va_cpy (h 220) (h 36) 0 0 60)) 37 (va_cpy (h 221) (h 37) 0 0 60)) 38 (va_cpy (h 222) (h 38) 0 0 60))) C dX5_copyFrom_180 k5_70 v_X11_copyRow rfl rfl (by decide) (Nat.zero_le _) (Nat.zero_le _) (Nat.le_of_ble_eq_true rfl) (c_X11_copyRow hR 222 38 60 bn_222 sh_222 bn_38 sh_38 (by decide)) ?_
  refine am_aload_n (pc := 183) C dX5_copyFrom_183 rfl ?_
  refine am_getR (pc := 184) (j := 223) C dX5_copyFrom_184 f5_55 bn_209 sh_209 (rf_209_18 hR) ?_
  refine am_aload_n (pc := 187) C dX5_copyFrom_187 rfl ?_
  refine am_getR (pc := 188) (j := 39) C dX5_copyFrom_188 f5_55 bn_25 sh_25 (rf_25_18 hR) ?_
  refine am_callSNv (Y := mX11_copyRow) (pc := 191) (st := []) (As := [.ref 223, .ref 39]) (h2 := (am_row (am_row (am_row (am_row (am_row (am_row (am_row (am_row (am_row (am_row (am_row (am_row (am_row (am_row (am_row h 25 (upd (upd (upd (upd (upd (h 25) 0 ((h 209) 0)) 1 ((h 209) 1)) 2 ((h 209) 2)) 3 ((h 209) 3)) 4 ((h 209) 4))) 26 (va_cpy (h 210) (h 26) 0 0 10)) 27 (va_cpy (h 211) (h 27) 0 0 10)) 28 (va_cpy (h 212) (h 28) 0 0 10)) 29 (va_cpy (h 213) (h 29) 0 0 10)) 30 (va_cpy (h 214) (h 30) 0 0 10)) 31 (va_cpy (h 215) (h 31) 0 0 120)) 32 (va_cpy (h 216) (h 32) 0 0 40)) 33 (va_cpy (h 217) (h 33) 0 0 40)) 34 (va_cpy (h 218) (h 34) 0 0 40)) 35 (va_cpy (h 219) (h 35) 0 0 60)) 36 (va_cpy (h 220) (h 36) 0 0 60)) 37 (va_cpy (h 221) (h 37) 0 0 60)) 38 (va_cpy (h 222) (h 38) 0 0 60)) 39 (va_cpy (h 223) (h 39) 0 0 60))) C dX5_copyFrom_191 k5_70 v_X11_copyRow rfl rfl (by decide) (Nat.zero_le _) (Nat.zero_le _) (Nat.le_of_ble_eq_true rfl) (c_X11_copyRow hR 223 39 60 bn_223 sh_223 bn_39 sh_39 (by decide)) ?_
  exact am_vretvr T dX5_copyFrom_194 rfl (Nat.le_refl _) (Nat.le_refl _) rfl ⟨cl_Sc_cpy hV hSc rfl rfl rfl rfl rfl (fun k hk => va_cpy_0 hk) (fun k hk => va_cpy_0 hk) (fun k hk => va_cpy_0 hk) (fun k hk => va_cpy_0 hk) (fun k hk => va_cpy_0 hk) (fun k hk => va_cpy_0 hk) (fun k hk => va_cpy_0 hk) (fun k hk => va_cpy_0 hk) (fun k hk => va_cpy_0 hk) (fun k hk => va_cpy_0 hk) (fun k hk => va_cpy_0 hk) (fun k hk => va_cpy_0 hk) (fun k hk => va_cpy_0 hk) (fun k hk => va_cpy_0 hk), (fun i9 h9 => by rw [am_row_ne _ _ _ (by omega), am_row_ne _ _ _ (by omega), am_row_ne _ _ _ (by omega), am_row_ne _ _ _ (by omega), am_row_ne _ _ _ (by omega), am_row_ne _ _ _ (by omega), am_row_ne _ _ _ (by omega), am_row_ne _ _ _ (by omega), am_row_ne _ _ _ (by omega), am_row_ne _ _ _ (by omega), am_row_ne _ _ _ (by omega), am_row_ne _ _ _ (by omega), am_row_ne _ _ _ (by omega), am_row_ne _ _ _ (by omega), am_row_ne _ _ _ (by omega)])⟩

set_option maxHeartbeats 400000 in
set_option maxRecDepth 100000 in
theorem c_X5_copyFrom_d_t6 {ad : Nat → Nat} {r : am_R} (hR : am_rs r) {h : am_H}  (w : rf_W) (hV : rf_I w) (hSc : cl_Sc (h) 224 w)  : am_CM mX5_copyFrom 3 0 0 [.ref 25, .ref 224] (am_VV ad) r h (am_pr none r (fun c9 => cl_Sc c9 25 w ∧ cl_fr (h) c9 25 15)) := by
  refine am_CM.of (by decide +kernel) (Nat.le_of_ble_eq_true rfl) (fun X C T => ?_)
  show am_G X (am_VV ad) (0, 0) 0 [(0, .ref 25), (1, .ref 224)] [] r h
  refine am_aload_n (pc := 0) C dX5_copyFrom_0 rfl ?_
  refine am_aload_n (pc := 1) C dX5_copyFrom_1 rfl ?_
  refine am_getI (pc := 2) C dX5_copyFrom_2 f5_58 bn_224 sh_224 ?_
  refine am_putI (pc := 5) C dX5_copyFrom_5 f5_58 bn_25 sh_25 rfl rfl ?_
  refine am_hp (show am_up h 25 0 ((h 224) 0) = am_row h 25 (upd (h 25) 0 ((h 224) 0)) from am_up_rw _ _ _ _) ?_
  refine am_aload_n (pc := 8) C dX5_copyFrom_8 rfl ?_
  refine am_aload_n (pc := 9) C dX5_copyFrom_9 rfl ?_
  refine am_getI (pc := 10) C dX5_copyFrom_10 f5_9 bn_224 sh_224 ?_
  refine am_putI (pc := 13) C dX5_copyFrom_13 f5_9 bn_25 sh_25 rfl rfl ?_
  refine am_hp (show am_up (am_row h 25 (upd (h 25) 0 ((h 224) 0))) 25 1 ((h 224) 1) = am_row (am_row h 25 (upd (h 25) 0 ((h 224) 0))) 25 (upd (upd (h 25) 0 ((h 224) 0)) 1 ((h 224) 1)) from am_up_rw _ _ _ _) ?_
  refine am_hp (show am_row (am_row h 25 (upd (h 25) 0 ((h 224) 0))) 25 (upd (upd (h 25) 0 ((h 224) 0)) 1 ((h 224) 1)) = (am_row h 25 (upd (upd (h 25) 0 ((h 224) 0)) 1 ((h 224) 1))) from am_row_s0) ?_
  refine am_aload_n (pc := 16) C dX5_copyFrom_16 rfl ?_
  refine am_aload_n (pc := 17) C dX5_copyFrom_17 rfl ?_
  refine am_getI (pc := 18) C dX5_copyFrom_18 f5_61 bn_224 sh_224 ?_
  refine am_putI (pc := 21) C dX5_copyFrom_21 f5_61 bn_25 sh_25 rfl rfl ?_
  refine am_hp (show am_up (am_row h 25 (upd (upd (h 25) 0 ((h 224) 0)) 1 ((h 224) 1))) 25 2 ((h 224) 2) = am_row (am_row h 25 (upd (upd (h 25) 0 ((h 224) 0)) 1 ((h 224) 1))) 25 (upd (upd (upd (h 25) 0 ((h 224) 0)) 1 ((h 224) 1)) 2 ((h 224) 2)) from am_up_rw _ _ _ _) ?_
  refine am_hp (show am_row (am_row h 25 (upd (upd (h 25) 0 ((h 224) 0)) 1 ((h 224) 1))) 25 (upd (upd (upd (h 25) 0 ((h 224) 0)) 1 ((h 224) 1)) 2 ((h 224) 2)) = (am_row h 25 (upd (upd (upd (h 25) 0 ((h 224) 0)) 1 ((h 224) 1)) 2 ((h 224) 2))) from am_row_s0) ?_
  refine am_aload_n (pc := 24) C dX5_copyFrom_24 rfl ?_
  refine am_aload_n (pc := 25) C dX5_copyFrom_25 rfl ?_
  refine am_getI (pc := 26) C dX5_copyFrom_26 f5_64 bn_224 sh_224 ?_
  refine am_putI (pc := 29) C dX5_copyFrom_29 f5_64 bn_25 sh_25 rfl rfl ?_
  refine am_hp (show am_up (am_row h 25 (upd (upd (upd (h 25) 0 ((h 224) 0)) 1 ((h 224) 1)) 2 ((h 224) 2))) 25 3 ((h 224) 3) = am_row (am_row h 25 (upd (upd (upd (h 25) 0 ((h 224) 0)) 1 ((h 224) 1)) 2 ((h 224) 2))) 25 (upd (upd (upd (upd (h 25) 0 ((h 224) 0)) 1 ((h 224) 1)) 2 ((h 224) 2)) 3 ((h 224) 3)) from am_up_rw _ _ _ _) ?_
  refine am_hp (show am_row (am_row h 25 (upd (upd (upd (h 25) 0 ((h 224) 0)) 1 ((h 224) 1)) 2 ((h 224) 2))) 25 (upd (upd (upd (upd (h 25) 0 ((h 224) 0)) 1 ((h 224) 1)) 2 ((h 224) 2)) 3 ((h 224) 3)) = (am_row h 25 (upd (upd (upd (upd (h 25) 0 ((h 224) 0)) 1 ((h 224) 1)) 2 ((h 224) 2)) 3 ((h 224) 3))) from am_row_s0) ?_
  refine am_aload_n (pc := 32) C dX5_copyFrom_32 rfl ?_
  refine am_aload_n (pc := 33) C dX5_copyFrom_33 rfl ?_
  refine am_getI (pc := 34) C dX5_copyFrom_34 f5_67 bn_224 sh_224 ?_
  refine am_putI (pc := 37) C dX5_copyFrom_37 f5_67 bn_25 sh_25 rfl rfl ?_
  refine am_hp (show am_up (am_row h 25 (upd (upd (upd (upd (h 25) 0 ((h 224) 0)) 1 ((h 224) 1)) 2 ((h 224) 2)) 3 ((h 224) 3))) 25 4 ((h 224) 4) = am_row (am_row h 25 (upd (upd (upd (upd (h 25) 0 ((h 224) 0)) 1 ((h 224) 1)) 2 ((h 224) 2)) 3 ((h 224) 3))) 25 (upd (upd (upd (upd (upd (h 25) 0 ((h 224) 0)) 1 ((h 224) 1)) 2 ((h 224) 2)) 3 ((h 224) 3)) 4 ((h 224) 4)) from am_up_rw _ _ _ _) ?_
  refine am_hp (show am_row (am_row h 25 (upd (upd (upd (upd (h 25) 0 ((h 224) 0)) 1 ((h 224) 1)) 2 ((h 224) 2)) 3 ((h 224) 3))) 25 (upd (upd (upd (upd (upd (h 25) 0 ((h 224) 0)) 1 ((h 224) 1)) 2 ((h 224) 2)) 3 ((h 224) 3)) 4 ((h 224) 4)) = (am_row h 25 (upd (upd (upd (upd (upd (h 25) 0 ((h 224) 0)) 1 ((h 224) 1)) 2 ((h 224) 2)) 3 ((h 224) 3)) 4 ((h 224) 4))) from am_row_s0) ?_
  refine am_aload_n (pc := 40) C dX5_copyFrom_40 rfl ?_
  refine am_getR (pc := 41) (j := 225) C dX5_copyFrom_41 f5_15 bn_224 sh_224 (rf_224_5 hR) ?_
  refine am_aload_n (pc := 44) C dX5_copyFrom_44 rfl ?_
  refine am_getR (pc := 45) (j := 26) C dX5_copyFrom_45 f5_15 bn_25 sh_25 (rf_25_5 hR) ?_
  refine am_callSNv (Y := mX11_copyRow) (pc := 48) (st := []) (As := [.ref 225, .ref 26]) (h2 := (am_row (am_row h 25 (upd (upd (upd (upd (upd (h 25) 0 ((h 224) 0)) 1 ((h 224) 1)) 2 ((h 224) 2)) 3 ((h 224) 3)) 4 ((h 224) 4))) 26 (va_cpy (h 225) (h 26) 0 0 10))) C dX5_copyFrom_48 k5_70 v_X11_copyRow rfl rfl (by decide) (Nat.zero_le _) (Nat.zero_le _) (Nat.le_of_ble_eq_true rfl) (c_X11_copyRow hR 225 26 10 bn_225 sh_225 bn_26 sh_26 (by decide)) ?_
  refine am_aload_n (pc := 51) C dX5_copyFrom_51 rfl ?_
  refine am_getR (pc := 52) (j := 226) C dX5_copyFrom_52 f5_19 bn_224 sh_224 (rf_224_6 hR) ?_
  refine am_aload_n (pc := 55) C dX5_copyFrom_55 rfl ?_
  refine am_getR (pc := 56) (j := 27) C dX5_copyFrom_56 f5_19 bn_25 sh_25 (rf_25_6 hR) ?_
  refine am_callSNv (Y := mX11_copyRow) (pc := 59) (st := []) (As := [.ref 226, .ref 27]) (h2 := (am_row (am_row (am_row h 25 (upd (upd (upd (upd (upd (h 25) 0 ((h 224) 0)) 1 ((h 224) 1)) 2 ((h 224) 2)) 3 ((h 224) 3)) 4 ((h 224) 4))) 26 (va_cpy (h 225) (h 26) 0 0 10)) 27 (va_cpy (h 226) (h 27) 0 0 10))) C dX5_copyFrom_59 k5_70 v_X11_copyRow rfl rfl (by decide) (Nat.zero_le _) (Nat.zero_le _) (Nat.le_of_ble_eq_true rfl) (c_X11_copyRow hR 226 27 10 bn_226 sh_226 bn_27 sh_27 (by decide)) ?_
  refine am_aload_n (pc := 62) C dX5_copyFrom_62 rfl ?_
  refine am_getR (pc := 63) (j := 227) C dX5_copyFrom_63 f5_22 bn_224 sh_224 (rf_224_7 hR) ?_
  refine am_aload_n (pc := 66) C dX5_copyFrom_66 rfl ?_
  refine am_getR (pc := 67) (j := 28) C dX5_copyFrom_67 f5_22 bn_25 sh_25 (rf_25_7 hR) ?_
  refine am_callSNv (Y := mX11_copyRow) (pc := 70) (st := []) (As := [.ref 227, .ref 28]) (h2 := (am_row (am_row (am_row (am_row h 25 (upd (upd (upd (upd (upd (h 25) 0 ((h 224) 0)) 1 ((h 224) 1)) 2 ((h 224) 2)) 3 ((h 224) 3)) 4 ((h 224) 4))) 26 (va_cpy (h 225) (h 26) 0 0 10)) 27 (va_cpy (h 226) (h 27) 0 0 10)) 28 (va_cpy (h 227) (h 28) 0 0 10))) C dX5_copyFrom_70 k5_70 v_X11_copyRow rfl rfl (by decide) (Nat.zero_le _) (Nat.zero_le _) (Nat.le_of_ble_eq_true rfl) (c_X11_copyRow hR 227 28 10 bn_227 sh_227 bn_28 sh_28 (by decide)) ?_
  refine am_aload_n (pc := 73) C dX5_copyFrom_73 rfl ?_
  refine am_getR (pc := 74) (j := 228) C dX5_copyFrom_74 f5_25 bn_224 sh_224 (rf_224_8 hR) ?_
  refine am_aload_n (pc := 77) C dX5_copyFrom_77 rfl ?_
  refine am_getR (pc := 78) (j := 29) C dX5_copyFrom_78 f5_25 bn_25 sh_25 (rf_25_8 hR) ?_
  refine am_callSNv (Y := mX11_copyRow) (pc := 81) (st := []) (As := [.ref 228, .ref 29]) (h2 := (am_row (am_row (am_row (am_row (am_row h 25 (upd (upd (upd (upd (upd (h 25) 0 ((h 224) 0)) 1 ((h 224) 1)) 2 ((h 224) 2)) 3 ((h 224) 3)) 4 ((h 224) 4))) 26 (va_cpy (h 225) (h 26) 0 0 10)) 27 (va_cpy (h 226) (h 27) 0 0 10)) 28 (va_cpy (h 227) (h 28) 0 0 10)) 29 (va_cpy (h 228) (h 29) 0 0 10))) C dX5_copyFrom_81 k5_70 v_X11_copyRow rfl rfl (by decide) (Nat.zero_le _) (Nat.zero_le _) (Nat.le_of_ble_eq_true rfl) (c_X11_copyRow hR 228 29 10 bn_228 sh_228 bn_29 sh_29 (by decide)) ?_
  refine am_aload_n (pc := 84) C dX5_copyFrom_84 rfl ?_
  refine am_getR (pc := 85) (j := 229) C dX5_copyFrom_85 f5_28 bn_224 sh_224 (rf_224_9 hR) ?_
  refine am_aload_n (pc := 88) C dX5_copyFrom_88 rfl ?_
  refine am_getR (pc := 89) (j := 30) C dX5_copyFrom_89 f5_28 bn_25 sh_25 (rf_25_9 hR) ?_
  refine am_callSNv (Y := mX11_copyRow) (pc := 92) (st := []) (As := [.ref 229, .ref 30]) (h2 := (am_row (am_row (am_row (am_row (am_row (am_row h 25 (upd (upd (upd (upd (upd (h 25) 0 ((h 224) 0)) 1 ((h 224) 1)) 2 ((h 224) 2)) 3 ((h 224) 3)) 4 ((h 224) 4))) 26 (va_cpy (h 225) (h 26) 0 0 10)) 27 (va_cpy (h 226) (h 27) 0 0 10)) 28 (va_cpy (h 227) (h 28) 0 0 10)) 29 (va_cpy (h 228) (h 29) 0 0 10)) 30 (va_cpy (h 229) (h 30) 0 0 10))) C dX5_copyFrom_92 k5_70 v_X11_copyRow rfl rfl (by decide) (Nat.zero_le _) (Nat.zero_le _) (Nat.le_of_ble_eq_true rfl) (c_X11_copyRow hR 229 30 10 bn_229 sh_229 bn_30 sh_30 (by decide)) ?_
  refine am_aload_n (pc := 95) C dX5_copyFrom_95 rfl ?_
  refine am_getR (pc := 96) (j := 230) C dX5_copyFrom_96 f5_31 bn_224 sh_224 (rf_224_10 hR) ?_
  refine am_aload_n (pc := 99) C dX5_copyFrom_99 rfl ?_
  refine am_getR (pc := 100) (j := 31) C dX5_copyFrom_100 f5_31 bn_25 sh_25 (rf_25_10 hR) ?_
  refine am_callSNv (Y := mX11_copyRow) (pc := 103) (st := []) (As := [.ref 230, .ref 31]) (h2 := (am_row (am_row (am_row (am_row (am_row (am_row (am_row h 25 (upd (upd (upd (upd (upd (h 25) 0 ((h 224) 0)) 1 ((h 224) 1)) 2 ((h 224) 2)) 3 ((h 224) 3)) 4 ((h 224) 4))) 26 (va_cpy (h 225) (h 26) 0 0 10)) 27 (va_cpy (h 226) (h 27) 0 0 10)) 28 (va_cpy (h 227) (h 28) 0 0 10)) 29 (va_cpy (h 228) (h 29) 0 0 10)) 30 (va_cpy (h 229) (h 30) 0 0 10)) 31 (va_cpy (h 230) (h 31) 0 0 120))) C dX5_copyFrom_103 k5_70 v_X11_copyRow rfl rfl (by decide) (Nat.zero_le _) (Nat.zero_le _) (Nat.le_of_ble_eq_true rfl) (c_X11_copyRow hR 230 31 120 bn_230 sh_230 bn_31 sh_31 (by decide)) ?_
  refine am_aload_n (pc := 106) C dX5_copyFrom_106 rfl ?_
  refine am_getR (pc := 107) (j := 231) C dX5_copyFrom_107 f5_34 bn_224 sh_224 (rf_224_11 hR) ?_
  refine am_aload_n (pc := 110) C dX5_copyFrom_110 rfl ?_
  refine am_getR (pc := 111) (j := 32) C dX5_copyFrom_111 f5_34 bn_25 sh_25 (rf_25_11 hR) ?_
  refine am_callSNv (Y := mX11_copyRow) (pc := 114) (st := []) (As := [.ref 231, .ref 32]) (h2 := (am_row (am_row (am_row (am_row (am_row (am_row (am_row (am_row h 25 (upd (upd (upd (upd (upd (h 25) 0 ((h 224) 0)) 1 ((h 224) 1)) 2 ((h 224) 2)) 3 ((h 224) 3)) 4 ((h 224) 4))) 26 (va_cpy (h 225) (h 26) 0 0 10)) 27 (va_cpy (h 226) (h 27) 0 0 10)) 28 (va_cpy (h 227) (h 28) 0 0 10)) 29 (va_cpy (h 228) (h 29) 0 0 10)) 30 (va_cpy (h 229) (h 30) 0 0 10)) 31 (va_cpy (h 230) (h 31) 0 0 120)) 32 (va_cpy (h 231) (h 32) 0 0 40))) C dX5_copyFrom_114 k5_70 v_X11_copyRow rfl rfl (by decide) (Nat.zero_le _) (Nat.zero_le _) (Nat.le_of_ble_eq_true rfl) (c_X11_copyRow hR 231 32 40 bn_231 sh_231 bn_32 sh_32 (by decide)) ?_
  refine am_aload_n (pc := 117) C dX5_copyFrom_117 rfl ?_
  refine am_getR (pc := 118) (j := 232) C dX5_copyFrom_118 f5_37 bn_224 sh_224 (rf_224_12 hR) ?_
  refine am_aload_n (pc := 121) C dX5_copyFrom_121 rfl ?_
  refine am_getR (pc := 122) (j := 33) C dX5_copyFrom_122 f5_37 bn_25 sh_25 (rf_25_12 hR) ?_
  refine am_callSNv (Y := mX11_copyRow) (pc := 125) (st := []) (As := [.ref 232, .ref 33]) (h2 := (am_row (am_row (am_row (am_row (am_row (am_row (am_row (am_row (am_row h 25 (upd (upd (upd (upd (upd (h 25) 0 ((h 224) 0)) 1 ((h 224) 1)) 2 ((h 224) 2)) 3 ((h 224) 3)) 4 ((h 224) 4))) 26 (va_cpy (h 225) (h 26) 0 0 10)) 27 (va_cpy (h 226) (h 27) 0 0 10)) 28 (va_cpy (h 227) (h 28) 0 0 10)) 29 (va_cpy (h 228) (h 29) 0 0 10)) 30 (va_cpy (h 229) (h 30) 0 0 10)) 31 (va_cpy (h 230) (h 31) 0 0 120)) 32 (va_cpy (h 231) (h 32) 0 0 40)) 33 (va_cpy (h 232) (h 33) 0 0 40))) C dX5_copyFrom_125 k5_70 v_X11_copyRow rfl rfl (by decide) (Nat.zero_le _) (Nat.zero_le _) (Nat.le_of_ble_eq_true rfl) (c_X11_copyRow hR 232 33 40 bn_232 sh_232 bn_33 sh_33 (by decide)) ?_
  refine am_aload_n (pc := 128) C dX5_copyFrom_128 rfl ?_
  refine am_getR (pc := 129) (j := 233) C dX5_copyFrom_129 f5_40 bn_224 sh_224 (rf_224_13 hR) ?_
  refine am_aload_n (pc := 132) C dX5_copyFrom_132 rfl ?_
  refine am_getR (pc := 133) (j := 34) C dX5_copyFrom_133 f5_40 bn_25 sh_25 (rf_25_13 hR) ?_
  refine am_callSNv (Y := mX11_copyRow) (pc := 136) (st := []) (As := [.ref 233, .ref 34]) (h2 := (am_row (am_row (am_row (am_row (am_row (am_row (am_row (am_row (am_row (am_row h 25 (upd (upd (upd (upd (upd (h 25) 0 ((h 224) 0)) 1 ((h 224) 1)) 2 ((h 224) 2)) 3 ((h 224) 3)) 4 ((h 224) 4))) 26 (va_cpy (h 225) (h 26) 0 0 10)) 27 (va_cpy (h 226) (h 27) 0 0 10)) 28 (va_cpy (h 227) (h 28) 0 0 10)) 29 (va_cpy (h 228) (h 29) 0 0 10)) 30 (va_cpy (h 229) (h 30) 0 0 10)) 31 (va_cpy (h 230) (h 31) 0 0 120)) 32 (va_cpy (h 231) (h 32) 0 0 40)) 33 (va_cpy (h 232) (h 33) 0 0 40)) 34 (va_cpy (h 233) (h 34) 0 0 40))) C dX5_copyFrom_136 k5_70 v_X11_copyRow rfl rfl (by decide) (Nat.zero_le _) (Nat.zero_le _) (Nat.le_of_ble_eq_true rfl) (c_X11_copyRow hR 233 34 40 bn_233 sh_233 bn_34 sh_34 (by decide)) ?_
  refine am_aload_n (pc := 139) C dX5_copyFrom_139 rfl ?_
  refine am_getR (pc := 140) (j := 234) C dX5_copyFrom_140 f5_43 bn_224 sh_224 (rf_224_14 hR) ?_
  refine am_aload_n (pc := 143) C dX5_copyFrom_143 rfl ?_
  refine am_getR (pc := 144) (j := 35) C dX5_copyFrom_144 f5_43 bn_25 sh_25 (rf_25_14 hR) ?_
  refine am_callSNv (Y := mX11_copyRow) (pc := 147) (st := []) (As := [.ref 234, .ref 35]) (h2 := (am_row (am_row (am_row (am_row (am_row (am_row (am_row (am_row (am_row (am_row (am_row h 25 (upd (upd (upd (upd (upd (h 25) 0 ((h 224) 0)) 1 ((h 224) 1)) 2 ((h 224) 2)) 3 ((h 224) 3)) 4 ((h 224) 4))) 26 (va_cpy (h 225) (h 26) 0 0 10)) 27 (va_cpy (h 226) (h 27) 0 0 10)) 28 (va_cpy (h 227) (h 28) 0 0 10)) 29 (va_cpy (h 228) (h 29) 0 0 10)) 30 (va_cpy (h 229) (h 30) 0 0 10)) 31 (va_cpy (h 230) (h 31) 0 0 120)) 32 (va_cpy (h 231) (h 32) 0 0 40)) 33 (va_cpy (h 232) (h 33) 0 0 40)) 34 (va_cpy (h 233) (h 34) 0 0 40)) 35 (va_cpy (h 234) (h 35) 0 0 60))) C dX5_copyFrom_147 k5_70 v_X11_copyRow rfl rfl (by decide) (Nat.zero_le _) (Nat.zero_le _) (Nat.le_of_ble_eq_true rfl) (c_X11_copyRow hR 234 35 60 bn_234 sh_234 bn_35 sh_35 (by decide)) ?_
  refine am_aload_n (pc := 150) C dX5_copyFrom_150 rfl ?_
  refine am_getR (pc := 151) (j := 235) C dX5_copyFrom_151 f5_46 bn_224 sh_224 (rf_224_15 hR) ?_
  refine am_aload_n (pc := 154) C dX5_copyFrom_154 rfl ?_
  refine am_getR (pc := 155) (j := 36) C dX5_copyFrom_155 f5_46 bn_25 sh_25 (rf_25_15 hR) ?_
  refine am_callSNv (Y := mX11_copyRow) (pc := 158) (st := []) (As := [.ref 235, .ref 36]) (h2 := (am_row (am_row (am_row (am_row (am_row (am_row (am_row (am_row (am_row (am_row (am_row (am_row h 25 (upd (upd (upd (upd (upd (h 25) 0 ((h 224) 0)) 1 ((h 224) 1)) 2 ((h 224) 2)) 3 ((h 224) 3)) 4 ((h 224) 4))) 26 (va_cpy (h 225) (h 26) 0 0 10)) 27 (va_cpy (h 226) (h 27) 0 0 10)) 28 (va_cpy (h 227) (h 28) 0 0 10)) 29 (va_cpy (h 228) (h 29) 0 0 10)) 30 (va_cpy (h 229) (h 30) 0 0 10)) 31 (va_cpy (h 230) (h 31) 0 0 120)) 32 (va_cpy (h 231) (h 32) 0 0 40)) 33 (va_cpy (h 232) (h 33) 0 0 40)) 34 (va_cpy (h 233) (h 34) 0 0 40)) 35 (va_cpy (h 234) (h 35) 0 0 60)) 36 (va_cpy (h 235) (h 36) 0 0 60))) C dX5_copyFrom_158 k5_70 v_X11_copyRow rfl rfl (by decide) (Nat.zero_le _) (Nat.zero_le _) (Nat.le_of_ble_eq_true rfl) (c_X11_copyRow hR 235 36 60 bn_235 sh_235 bn_36 sh_36 (by decide)) ?_
  refine am_aload_n (pc := 161) C dX5_copyFrom_161 rfl ?_
  refine am_getR (pc := 162) (j := 236) C dX5_copyFrom_162 f5_49 bn_224 sh_224 (rf_224_16 hR) ?_
  refine am_aload_n (pc := 165) C dX5_copyFrom_165 rfl ?_
  refine am_getR (pc := 166) (j := 37) C dX5_copyFrom_166 f5_49 bn_25 sh_25 (rf_25_16 hR) ?_
  refine am_callSNv (Y := mX11_copyRow) (pc := 169) (st := []) (As := [.ref 236, .ref 37]) (h2 := (am_row (am_row (am_row (am_row (am_row (am_row (am_row (am_row (am_row (am_row (am_row (am_row (am_row h 25 (upd (upd (upd (upd (upd (h 25) 0 ((h 224) 0)) 1 ((h 224) 1)) 2 ((h 224) 2)) 3 ((h 224) 3)) 4 ((h 224) 4))) 26 (va_cpy (h 225) (h 26) 0 0 10)) 27 (va_cpy (h 226) (h 27) 0 0 10)) 28 (va_cpy (h 227) (h 28) 0 0 10)) 29 (va_cpy (h 228) (h 29) 0 0 10)) 30 (va_cpy (h 229) (h 30) 0 0 10)) 31 (va_cpy (h 230) (h 31) 0 0 120)) 32 (va_cpy (h 231) (h 32) 0 0 40)) 33 (va_cpy (h 232) (h 33) 0 0 40)) 34 (va_cpy (h 233) (h 34) 0 0 40)) 35 (va_cpy (h 234) (h 35) 0 0 60)) 36 (va_cpy (h 235) (h 36) 0 0 60)) 37 (va_cpy (h 236) (h 37) 0 0 60))) C dX5_copyFrom_169 k5_70 v_X11_copyRow rfl rfl (by decide) (Nat.zero_le _) (Nat.zero_le _) (Nat.le_of_ble_eq_true rfl) (c_X11_copyRow hR 236 37 60 bn_236 sh_236 bn_37 sh_37 (by decide)) ?_
  refine am_aload_n (pc := 172) C dX5_copyFrom_172 rfl ?_
  refine am_getR (pc := 173) (j := 237) C dX5_copyFrom_173 f5_52 bn_224 sh_224 (rf_224_17 hR) ?_
  refine am_aload_n (pc := 176) C dX5_copyFrom_176 rfl ?_
  refine am_getR (pc := 177) (j := 38) C dX5_copyFrom_177 f5_52 bn_25 sh_25 (rf_25_17 hR) ?_
  refine am_callSNv (Y := mX11_copyRow) (pc := 180) (st := []) (As := [.ref 237, .ref 38]) (h2 := (am_row (am_row (am_row (am_row (am_row (am_row (am_row (am_row (am_row (am_row (am_row (am_row (am_row (am_row h 25 (upd (upd (upd (upd (upd (h 25) 0 ((h 224) 0)) 1 ((h 224) 1)) 2 ((h 224) 2)) 3 ((h 224) 3)) 4 ((h 224) 4))) 26 (va_cpy (h 225) (h 26) 0 0 10)) 27 (va_cpy (h 226) (h 27) 0 0 10)) 28 (va_cpy (h 227) (h 28) 0 0 10)) 29 (va_cpy (h 228) (h 29) 0 0 10)) 30 (va_cpy (h 229) (h 30) 0 0 10)) 31 (va_cpy (h 230) (h 31) 0 0 120)) 32 (va_cpy (h 231) (h 32) 0 0 40)) 33 (va_cpy (h 232) (h 33) 0 0 40)) 34 (va_cpy (h 233) (h 34) 0 0 40)) 35 (va_cpy (h 234) (h 35) 0 0 60)) 36 (va_cpy (h 235) (h 36) 0 0 60)) 37 (va_cpy (h 236) (h 37) 0 0 60)) 38 (va_cpy (h 237) (h 38) 0 0 60))) C dX5_copyFrom_180 k5_70 v_X11_copyRow rfl rfl (by decide) (Nat.zero_le _) (Nat.zero_le _) (Nat.le_of_ble_eq_true rfl) (c_X11_copyRow hR 237 38 60 bn_237 sh_237 bn_38 sh_38 (by decide)) ?_
  refine am_aload_n (pc := 183) C dX5_copyFrom_183 rfl ?_
  refine am_getR (pc := 184) (j := 238) C dX5_copyFrom_184 f5_55 bn_224 sh_224 (rf_224_18 hR) ?_
  refine am_aload_n (pc := 187) C dX5_copyFrom_187 rfl ?_
  refine am_getR (pc := 188) (j := 39) C dX5_copyFrom_188 f5_55 bn_25 sh_25 (rf_25_18 hR) ?_
  refine am_callSNv (Y := mX11_copyRow) (pc := 191) (st := []) (As := [.ref 238, .ref 39]) (h2 := (am_row (am_row (am_row (am_row (am_row (am_row (am_row (am_row (am_row (am_row (am_row (am_row (am_row (am_row (am_row h 25 (upd (upd (upd (upd (upd (h 25) 0 ((h 224) 0)) 1 ((h 224) 1)) 2 ((h 224) 2)) 3 ((h 224) 3)) 4 ((h 224) 4))) 26 (va_cpy (h 225) (h 26) 0 0 10)) 27 (va_cpy (h 226) (h 27) 0 0 10)) 28 (va_cpy (h 227) (h 28) 0 0 10)) 29 (va_cpy (h 228) (h 29) 0 0 10)) 30 (va_cpy (h 229) (h 30) 0 0 10)) 31 (va_cpy (h 230) (h 31) 0 0 120)) 32 (va_cpy (h 231) (h 32) 0 0 40)) 33 (va_cpy (h 232) (h 33) 0 0 40)) 34 (va_cpy (h 233) (h 34) 0 0 40)) 35 (va_cpy (h 234) (h 35) 0 0 60)) 36 (va_cpy (h 235) (h 36) 0 0 60)) 37 (va_cpy (h 236) (h 37) 0 0 60)) 38 (va_cpy (h 237) (h 38) 0 0 60)) 39 (va_cpy (h 238) (h 39) 0 0 60))) C dX5_copyFrom_191 k5_70 v_X11_copyRow rfl rfl (by decide) (Nat.zero_le _) (Nat.zero_le _) (Nat.le_of_ble_eq_true rfl) (c_X11_copyRow hR 238 39 60 bn_238 sh_238 bn_39 sh_39 (by decide)) ?_
  exact am_vretvr T dX5_copyFrom_194 rfl (Nat.le_refl _) (Nat.le_refl _) rfl ⟨cl_Sc_cpy hV hSc rfl rfl rfl rfl rfl (fun k hk => va_cpy_0 hk) (fun k hk => va_cpy_0 hk) (fun k hk => va_cpy_0 hk) (fun k hk => va_cpy_0 hk) (fun k hk => va_cpy_0 hk) (fun k hk => va_cpy_0 hk) (fun k hk => va_cpy_0 hk) (fun k hk => va_cpy_0 hk) (fun k hk => va_cpy_0 hk) (fun k hk => va_cpy_0 hk) (fun k hk => va_cpy_0 hk) (fun k hk => va_cpy_0 hk) (fun k hk => va_cpy_0 hk) (fun k hk => va_cpy_0 hk), (fun i9 h9 => by rw [am_row_ne _ _ _ (by omega), am_row_ne _ _ _ (by omega), am_row_ne _ _ _ (by omega), am_row_ne _ _ _ (by omega), am_row_ne _ _ _ (by omega), am_row_ne _ _ _ (by omega), am_row_ne _ _ _ (by omega), am_row_ne _ _ _ (by omega), am_row_ne _ _ _ (by omega), am_row_ne _ _ _ (by omega), am_row_ne _ _ _ (by omega), am_row_ne _ _ _ (by omega), am_row_ne _ _ _ (by omega), am_row_ne _ _ _ (by omega), am_row_ne _ _ _ (by omega)])⟩

set_option maxHeartbeats 400000 in
set_option maxRecDepth 100000 in
theorem c_X5_copyFrom_d_t7 {ad : Nat → Nat} {r : am_R} (hR : am_rs r) {h : am_H}  (w : rf_W) (hV : rf_I w) (hSc : cl_Sc (h) 239 w)  : am_CM mX5_copyFrom 3 0 0 [.ref 25, .ref 239] (am_VV ad) r h (am_pr none r (fun c9 => cl_Sc c9 25 w ∧ cl_fr (h) c9 25 15)) := by
  refine am_CM.of (by decide +kernel) (Nat.le_of_ble_eq_true rfl) (fun X C T => ?_)
  show am_G X (am_VV ad) (0, 0) 0 [(0, .ref 25), (1, .ref 239)] [] r h
  refine am_aload_n (pc := 0) C dX5_copyFrom_0 rfl ?_
  refine am_aload_n (pc := 1) C dX5_copyFrom_1 rfl ?_
  refine am_getI (pc := 2) C dX5_copyFrom_2 f5_58 bn_239 sh_239 ?_
  refine am_putI (pc := 5) C dX5_copyFrom_5 f5_58 bn_25 sh_25 rfl rfl ?_
  refine am_hp (show am_up h 25 0 ((h 239) 0) = am_row h 25 (upd (h 25) 0 ((h 239) 0)) from am_up_rw _ _ _ _) ?_
  refine am_aload_n (pc := 8) C dX5_copyFrom_8 rfl ?_
  refine am_aload_n (pc := 9) C dX5_copyFrom_9 rfl ?_
  refine am_getI (pc := 10) C dX5_copyFrom_10 f5_9 bn_239 sh_239 ?_
  refine am_putI (pc := 13) C dX5_copyFrom_13 f5_9 bn_25 sh_25 rfl rfl ?_
  refine am_hp (show am_up (am_row h 25 (upd (h 25) 0 ((h 239) 0))) 25 1 ((h 239) 1) = am_row (am_row h 25 (upd (h 25) 0 ((h 239) 0))) 25 (upd (upd (h 25) 0 ((h 239) 0)) 1 ((h 239) 1)) from am_up_rw _ _ _ _) ?_
  refine am_hp (show am_row (am_row h 25 (upd (h 25) 0 ((h 239) 0))) 25 (upd (upd (h 25) 0 ((h 239) 0)) 1 ((h 239) 1)) = (am_row h 25 (upd (upd (h 25) 0 ((h 239) 0)) 1 ((h 239) 1))) from am_row_s0) ?_
  refine am_aload_n (pc := 16) C dX5_copyFrom_16 rfl ?_
  refine am_aload_n (pc := 17) C dX5_copyFrom_17 rfl ?_
  refine am_getI (pc := 18) C dX5_copyFrom_18 f5_61 bn_239 sh_239 ?_
  refine am_putI (pc := 21) C dX5_copyFrom_21 f5_61 bn_25 sh_25 rfl rfl ?_
  refine am_hp (show am_up (am_row h 25 (upd (upd (h 25) 0 ((h 239) 0)) 1 ((h 239) 1))) 25 2 ((h 239) 2) = am_row (am_row h 25 (upd (upd (h 25) 0 ((h 239) 0)) 1 ((h 239) 1))) 25 (upd (upd (upd (h 25) 0 ((h 239) 0)) 1 ((h 239) 1)) 2 ((h 239) 2)) from am_up_rw _ _ _ _) ?_
  refine am_hp (show am_row (am_row h 25 (upd (upd (h 25) 0 ((h 239) 0)) 1 ((h 239) 1))) 25 (upd (upd (upd (h 25) 0 ((h 239) 0)) 1 ((h 239) 1)) 2 ((h 239) 2)) = (am_row h 25 (upd (upd (upd (h 25) 0 ((h 239) 0)) 1 ((h 239) 1)) 2 ((h 239) 2))) from am_row_s0) ?_
  refine am_aload_n (pc := 24) C dX5_copyFrom_24 rfl ?_
  refine am_aload_n (pc := 25) C dX5_copyFrom_25 rfl ?_
  refine am_getI (pc := 26) C dX5_copyFrom_26 f5_64 bn_239 sh_239 ?_
  refine am_putI (pc := 29) C dX5_copyFrom_29 f5_64 bn_25 sh_25 rfl rfl ?_
  refine am_hp (show am_up (am_row h 25 (upd (upd (upd (h 25) 0 ((h 239) 0)) 1 ((h 239) 1)) 2 ((h 239) 2))) 25 3 ((h 239) 3) = am_row (am_row h 25 (upd (upd (upd (h 25) 0 ((h 239) 0)) 1 ((h 239) 1)) 2 ((h 239) 2))) 25 (upd (upd (upd (upd (h 25) 0 ((h 239) 0)) 1 ((h 239) 1)) 2 ((h 239) 2)) 3 ((h 239) 3)) from am_up_rw _ _ _ _) ?_
  refine am_hp (show am_row (am_row h 25 (upd (upd (upd (h 25) 0 ((h 239) 0)) 1 ((h 239) 1)) 2 ((h 239) 2))) 25 (upd (upd (upd (upd (h 25) 0 ((h 239) 0)) 1 ((h 239) 1)) 2 ((h 239) 2)) 3 ((h 239) 3)) = (am_row h 25 (upd (upd (upd (upd (h 25) 0 ((h 239) 0)) 1 ((h 239) 1)) 2 ((h 239) 2)) 3 ((h 239) 3))) from am_row_s0) ?_
  refine am_aload_n (pc := 32) C dX5_copyFrom_32 rfl ?_
  refine am_aload_n (pc := 33) C dX5_copyFrom_33 rfl ?_
  refine am_getI (pc := 34) C dX5_copyFrom_34 f5_67 bn_239 sh_239 ?_
  refine am_putI (pc := 37) C dX5_copyFrom_37 f5_67 bn_25 sh_25 rfl rfl ?_
  refine am_hp (show am_up (am_row h 25 (upd (upd (upd (upd (h 25) 0 ((h 239) 0)) 1 ((h 239) 1)) 2 ((h 239) 2)) 3 ((h 239) 3))) 25 4 ((h 239) 4) = am_row (am_row h 25 (upd (upd (upd (upd (h 25) 0 ((h 239) 0)) 1 ((h 239) 1)) 2 ((h 239) 2)) 3 ((h 239) 3))) 25 (upd (upd (upd (upd (upd (h 25) 0 ((h 239) 0)) 1 ((h 239) 1)) 2 ((h 239) 2)) 3 ((h 239) 3)) 4 ((h 239) 4)) from am_up_rw _ _ _ _) ?_
  refine am_hp (show am_row (am_row h 25 (upd (upd (upd (upd (h 25) 0 ((h 239) 0)) 1 ((h 239) 1)) 2 ((h 239) 2)) 3 ((h 239) 3))) 25 (upd (upd (upd (upd (upd (h 25) 0 ((h 239) 0)) 1 ((h 239) 1)) 2 ((h 239) 2)) 3 ((h 239) 3)) 4 ((h 239) 4)) = (am_row h 25 (upd (upd (upd (upd (upd (h 25) 0 ((h 239) 0)) 1 ((h 239) 1)) 2 ((h 239) 2)) 3 ((h 239) 3)) 4 ((h 239) 4))) from am_row_s0) ?_
  refine am_aload_n (pc := 40) C dX5_copyFrom_40 rfl ?_
  refine am_getR (pc := 41) (j := 240) C dX5_copyFrom_41 f5_15 bn_239 sh_239 (rf_239_5 hR) ?_
  refine am_aload_n (pc := 44) C dX5_copyFrom_44 rfl ?_
  refine am_getR (pc := 45) (j := 26) C dX5_copyFrom_45 f5_15 bn_25 sh_25 (rf_25_5 hR) ?_
  refine am_callSNv (Y := mX11_copyRow) (pc := 48) (st := []) (As := [.ref 240, .ref 26]) (h2 := (am_row (am_row h 25 (upd (upd (upd (upd (upd (h 25) 0 ((h 239) 0)) 1 ((h 239) 1)) 2 ((h 239) 2)) 3 ((h 239) 3)) 4 ((h 239) 4))) 26 (va_cpy (h 240) (h 26) 0 0 10))) C dX5_copyFrom_48 k5_70 v_X11_copyRow rfl rfl (by decide) (Nat.zero_le _) (Nat.zero_le _) (Nat.le_of_ble_eq_true rfl) (c_X11_copyRow hR 240 26 10 bn_240 sh_240 bn_26 sh_26 (by decide)) ?_
  refine am_aload_n (pc := 51) C dX5_copyFrom_51 rfl ?_
  refine am_getR (pc := 52) (j := 241) C dX5_copyFrom_52 f5_19 bn_239 sh_239 (rf_239_6 hR) ?_
  refine am_aload_n (pc := 55) C dX5_copyFrom_55 rfl ?_
  refine am_getR (pc := 56) (j := 27) C dX5_copyFrom_56 f5_19 bn_25 sh_25 (rf_25_6 hR) ?_
  refine am_callSNv (Y := mX11_copyRow) (pc := 59) (st := []) (As := [.ref 241, .ref 27]) (h2 := (am_row (am_row (am_row h 25 (upd (upd (upd (upd (upd (h 25) 0 ((h 239) 0)) 1 ((h 239) 1)) 2 ((h 239) 2)) 3 ((h 239) 3)) 4 ((h 239) 4))) 26 (va_cpy (h 240) (h 26) 0 0 10)) 27 (va_cpy (h 241) (h 27) 0 0 10))) C dX5_copyFrom_59 k5_70 v_X11_copyRow rfl rfl (by decide) (Nat.zero_le _) (Nat.zero_le _) (Nat.le_of_ble_eq_true rfl) (c_X11_copyRow hR 241 27 10 bn_241 sh_241 bn_27 sh_27 (by decide)) ?_
  refine am_aload_n (pc := 62) C dX5_copyFrom_62 rfl ?_
  refine am_getR (pc := 63) (j := 242) C dX5_copyFrom_63 f5_22 bn_239 sh_239 (rf_239_7 hR) ?_
  refine am_aload_n (pc := 66) C dX5_copyFrom_66 rfl ?_
  refine am_getR (pc := 67) (j := 28) C dX5_copyFrom_67 f5_22 bn_25 sh_25 (rf_25_7 hR) ?_
  refine am_callSNv (Y := mX11_copyRow) (pc := 70) (st := []) (As := [.ref 242, .ref 28]) (h2 := (am_row (am_row (am_row (am_row h 25 (upd (upd (upd (upd (upd (h 25) 0 ((h 239) 0)) 1 ((h 239) 1)) 2 ((h 239) 2)) 3 ((h 239) 3)) 4 ((h 239) 4))) 26 (va_cpy (h 240) (h 26) 0 0 10)) 27 (va_cpy (h 241) (h 27) 0 0 10)) 28 (va_cpy (h 242) (h 28) 0 0 10))) C dX5_copyFrom_70 k5_70 v_X11_copyRow rfl rfl (by decide) (Nat.zero_le _) (Nat.zero_le _) (Nat.le_of_ble_eq_true rfl) (c_X11_copyRow hR 242 28 10 bn_242 sh_242 bn_28 sh_28 (by decide)) ?_
  refine am_aload_n (pc := 73) C dX5_copyFrom_73 rfl ?_
  refine am_getR (pc := 74) (j := 243) C dX5_copyFrom_74 f5_25 bn_239 sh_239 (rf_239_8 hR) ?_
  refine am_aload_n (pc := 77) C dX5_copyFrom_77 rfl ?_
  refine am_getR (pc := 78) (j := 29) C dX5_copyFrom_78 f5_25 bn_25 sh_25 (rf_25_8 hR) ?_
  refine am_callSNv (Y := mX11_copyRow) (pc := 81) (st := []) (As := [.ref 243, .ref 29]) (h2 := (am_row (am_row (am_row (am_row (am_row h 25 (upd (upd (upd (upd (upd (h 25) 0 ((h 239) 0)) 1 ((h 239) 1)) 2 ((h 239) 2)) 3 ((h 239) 3)) 4 ((h 239) 4))) 26 (va_cpy (h 240) (h 26) 0 0 10)) 27 (va_cpy (h 241) (h 27) 0 0 10)) 28 (va_cpy (h 242) (h 28) 0 0 10)) 29 (va_cpy (h 243) (h 29) 0 0 10))) C dX5_copyFrom_81 k5_70 v_X11_copyRow rfl rfl (by decide) (Nat.zero_le _) (Nat.zero_le _) (Nat.le_of_ble_eq_true rfl) (c_X11_copyRow hR 243 29 10 bn_243 sh_243 bn_29 sh_29 (by decide)) ?_
  refine am_aload_n (pc := 84) C dX5_copyFrom_84 rfl ?_
  refine am_getR (pc := 85) (j := 244) C dX5_copyFrom_85 f5_28 bn_239 sh_239 (rf_239_9 hR) ?_
  refine am_aload_n (pc := 88) C dX5_copyFrom_88 rfl ?_
  refine am_getR (pc := 89) (j := 30) C dX5_copyFrom_89 f5_28 bn_25 sh_25 (rf_25_9 hR) ?_
  refine am_callSNv (Y := mX11_copyRow) (pc := 92) (st := []) (As := [.ref 244, .ref 30]) (h2 := (am_row (am_row (am_row (am_row (am_row (am_row h 25 (upd (upd (upd (upd (upd (h 25) 0 ((h 239) 0)) 1 ((h 239) 1)) 2 ((h 239) 2)) 3 ((h 239) 3)) 4 ((h 239) 4))) 26 (va_cpy (h 240) (h 26) 0 0 10)) 27 (va_cpy (h 241) (h 27) 0 0 10)) 28 (va_cpy (h 242) (h 28) 0 0 10)) 29 (va_cpy (h 243) (h 29) 0 0 10)) 30 (va_cpy (h 244) (h 30) 0 0 10))) C dX5_copyFrom_92 k5_70 v_X11_copyRow rfl rfl (by decide) (Nat.zero_le _) (Nat.zero_le _) (Nat.le_of_ble_eq_true rfl) (c_X11_copyRow hR 244 30 10 bn_244 sh_244 bn_30 sh_30 (by decide)) ?_
  refine am_aload_n (pc := 95) C dX5_copyFrom_95 rfl ?_
  refine am_getR (pc := 96) (j := 245) C dX5_copyFrom_96 f5_31 bn_239 sh_239 (rf_239_10 hR) ?_
  refine am_aload_n (pc := 99) C dX5_copyFrom_99 rfl ?_
  refine am_getR (pc := 100) (j := 31) C dX5_copyFrom_100 f5_31 bn_25 sh_25 (rf_25_10 hR) ?_
  refine am_callSNv (Y := mX11_copyRow) (pc := 103) (st := []) (As := [.ref 245, .ref 31]) (h2 := (am_row (am_row (am_row (am_row (am_row (am_row (am_row h 25 (upd (upd (upd (upd (upd (h 25) 0 ((h 239) 0)) 1 ((h 239) 1)) 2 ((h 239) 2)) 3 ((h 239) 3)) 4 ((h 239) 4))) 26 (va_cpy (h 240) (h 26) 0 0 10)) 27 (va_cpy (h 241) (h 27) 0 0 10)) 28 (va_cpy (h 242) (h 28) 0 0 10)) 29 (va_cpy (h 243) (h 29) 0 0 10)) 30 (va_cpy (h 244) (h 30) 0 0 10)) 31 (va_cpy (h 245) (h 31) 0 0 120))) C dX5_copyFrom_103 k5_70 v_X11_copyRow rfl rfl (by decide) (Nat.zero_le _) (Nat.zero_le _) (Nat.le_of_ble_eq_true rfl) (c_X11_copyRow hR 245 31 120 bn_245 sh_245 bn_31 sh_31 (by decide)) ?_
  refine am_aload_n (pc := 106) C dX5_copyFrom_106 rfl ?_
  refine am_getR (pc := 107) (j := 246) C dX5_copyFrom_107 f5_34 bn_239 sh_239 (rf_239_11 hR) ?_
  refine am_aload_n (pc := 110) C dX5_copyFrom_110 rfl ?_
  refine am_getR (pc := 111) (j := 32) C dX5_copyFrom_111 f5_34 bn_25 sh_25 (rf_25_11 hR) ?_
  refine am_callSNv (Y := mX11_copyRow) (pc := 114) (st := []) (As := [.ref 246, .ref 32]) (h2 := (am_row (am_row (am_row (am_row (am_row (am_row (am_row (am_row h 25 (upd (upd (upd (upd (upd (h 25) 0 ((h 239) 0)) 1 ((h 239) 1)) 2 ((h 239) 2)) 3 ((h 239) 3)) 4 ((h 239) 4))) 26 (va_cpy (h 240) (h 26) 0 0 10)) 27 (va_cpy (h 241) (h 27) 0 0 10)) 28 (va_cpy (h 242) (h 28) 0 0 10)) 29 (va_cpy (h 243) (h 29) 0 0 10)) 30 (va_cpy (h 244) (h 30) 0 0 10)) 31 (va_cpy (h 245) (h 31) 0 0 120)) 32 (va_cpy (h 246) (h 32) 0 0 40))) C dX5_copyFrom_114 k5_70 v_X11_copyRow rfl rfl (by decide) (Nat.zero_le _) (Nat.zero_le _) (Nat.le_of_ble_eq_true rfl) (c_X11_copyRow hR 246 32 40 bn_246 sh_246 bn_32 sh_32 (by decide)) ?_
  refine am_aload_n (pc := 117) C dX5_copyFrom_117 rfl ?_
  refine am_getR (pc := 118) (j := 247) C dX5_copyFrom_118 f5_37 bn_239 sh_239 (rf_239_12 hR) ?_
  refine am_aload_n (pc := 121) C dX5_copyFrom_121 rfl ?_
  refine am_getR (pc := 122) (j := 33) C dX5_copyFrom_122 f5_37 bn_25 sh_25 (rf_25_12 hR) ?_
  refine am_callSNv (Y := mX11_copyRow) (pc := 125) (st := []) (As := [.ref 247, .ref 33]) (h2 := (am_row (am_row (am_row (am_row (am_row (am_row (am_row (am_row (am_row h 25 (upd (upd (upd (upd (upd (h 25) 0 ((h 239) 0)) 1 ((h 239) 1)) 2 ((h 239) 2)) 3 ((h 239) 3)) 4 ((h 239) 4))) 26 (va_cpy (h 240) (h 26) 0 0 10)) 27 (va_cpy (h 241) (h 27) 0 0 10)) 28 (va_cpy (h 242) (h 28) 0 0 10)) 29 (va_cpy (h 243) (h 29) 0 0 10)) 30 (va_cpy (h 244) (h 30) 0 0 10)) 31 (va_cpy (h 245) (h 31) 0 0 120)) 32 (va_cpy (h 246) (h 32) 0 0 40)) 33 (va_cpy (h 247) (h 33) 0 0 40))) C dX5_copyFrom_125 k5_70 v_X11_copyRow rfl rfl (by decide) (Nat.zero_le _) (Nat.zero_le _) (Nat.le_of_ble_eq_true rfl) (c_X11_copyRow hR 247 33 40 bn_247 sh_247 bn_33 sh_33 (by decide)) ?_
  refine am_aload_n (pc := 128) C dX5_copyFrom_128 rfl ?_
  refine am_getR (pc := 129) (j := 248) C dX5_copyFrom_129 f5_40 bn_239 sh_239 (rf_239_13 hR) ?_
  refine am_aload_n (pc := 132) C dX5_copyFrom_132 rfl ?_
  refine am_getR (pc := 133) (j := 34) C dX5_copyFrom_133 f5_40 bn_25 sh_25 (rf_25_13 hR) ?_
  refine am_callSNv (Y := mX11_copyRow) (pc := 136) (st := []) (As := [.ref 248, .ref 34]) (h2 := (am_row (am_row (am_row (am_row (am_row (am_row (am_row (am_row (am_row (am_row h 25 (upd (upd (upd (upd (upd (h 25) 0 ((h 239) 0)) 1 ((h 239) 1)) 2 ((h 239) 2)) 3 ((h 239) 3)) 4 ((h 239) 4))) 26 (va_cpy (h 240) (h 26) 0 0 10)) 27 (va_cpy (h 241) (h 27) 0 0 10)) 28 (va_cpy (h 242) (h 28) 0 0 10)) 29 (va_cpy (h 243) (h 29) 0 0 10)) 30 (va_cpy (h 244) (h 30) 0 0 10)) 31 (va_cpy (h 245) (h 31) 0 0 120)) 32 (va_cpy (h 246) (h 32) 0 0 40)) 33 (va_cpy (h 247) (h 33) 0 0 40)) 34 (va_cpy (h 248) (h 34) 0 0 40))) C dX5_copyFrom_136 k5_70 v_X11_copyRow rfl rfl (by decide) (Nat.zero_le _) (Nat.zero_le _) (Nat.le_of_ble_eq_true rfl) (c_X11_copyRow hR 248 34 40 bn_248 sh_248 bn_34 sh_34 (by decide)) ?_
  refine am_aload_n (pc := 139) C dX5_copyFrom_139 rfl ?_
  refine am_getR (pc := 140) (j := 249) C dX5_copyFrom_140 f5_43 bn_239 sh_239 (rf_239_14 hR) ?_
  refine am_aload_n (pc := 143) C dX5_copyFrom_143 rfl ?_
  refine am_getR (pc := 144) (j := 35) C dX5_copyFrom_144 f5_43 bn_25 sh_25 (rf_25_14 hR) ?_
  refine am_callSNv (Y := mX11_copyRow) (pc := 147) (st := []) (As := [.ref 249, .ref 35]) (h2 := (am_row (am_row (am_row (am_row (am_row (am_row (am_row (am_row (am_row (am_row (am_row h 25 (upd (upd (upd (upd (upd (h 25) 0 ((h 239) 0)) 1 ((h 239) 1)) 2 ((h 239) 2)) 3 ((h 239) 3)) 4 ((h 239) 4))) 26 (va_cpy (h 240) (h 26) 0 0 10)) 27 (va_cpy (h 241) (h 27) 0 0 10)) 28 (va_cpy (h 242) (h 28) 0 0 10)) 29 (va_cpy (h 243) (h 29) 0 0 10)) 30 (va_cpy (h 244) (h 30) 0 0 10)) 31 (va_cpy (h 245) (h 31) 0 0 120)) 32 (va_cpy (h 246) (h 32) 0 0 40)) 33 (va_cpy (h 247) (h 33) 0 0 40)) 34 (va_cpy (h 248) (h 34) 0 0 40)) 35 (va_cpy (h 249) (h 35) 0 0 60))) C dX5_copyFrom_147 k5_70 v_X11_copyRow rfl rfl (by decide) (Nat.zero_le _) (Nat.zero_le _) (Nat.le_of_ble_eq_true rfl) (c_X11_copyRow hR 249 35 60 bn_249 sh_249 bn_35 sh_35 (by decide)) ?_
  refine am_aload_n (pc := 150) C dX5_copyFrom_150 rfl ?_
  refine am_getR (pc := 151) (j := 250) C dX5_copyFrom_151 f5_46 bn_239 sh_239 (rf_239_15 hR) ?_
  refine am_aload_n (pc := 154) C dX5_copyFrom_154 rfl ?_
  refine am_getR (pc := 155) (j := 36) C dX5_copyFrom_155 f5_46 bn_25 sh_25 (rf_25_15 hR) ?_
  refine am_callSNv (Y := mX11_copyRow) (pc := 158) (st := []) (As := [.ref 250, .ref 36]) (h2 := (am_row (am_row (am_row (am_row (am_row (am_row (am_row (am_row (am_row (am_row (am_row (am_row h 25 (upd (upd (upd (upd (upd (h 25) 0 ((h 239) 0)) 1 ((h 239) 1)) 2 ((h 239) 2)) 3 ((h 239) 3)) 4 ((h 239) 4))) 26 (va_cpy (h 240) (h 26) 0 0 10)) 27 (va_cpy (h 241) (h 27) 0 0 10)) 28 (va_cpy (h 242) (h 28) 0 0 10)) 29 (va_cpy (h 243) (h 29) 0 0 10)) 30 (va_cpy (h 244) (h 30) 0 0 10)) 31 (va_cpy (h 245) (h 31) 0 0 120)) 32 (va_cpy (h 246) (h 32) 0 0 40)) 33 (va_cpy (h 247) (h 33) 0 0 40)) 34 (va_cpy (h 248) (h 34) 0 0 40)) 35 (va_cpy (h 249) (h 35) 0 0 60)) 36 (va_cpy (h 250) (h 36) 0 0 60))) C dX5_copyFrom_158 k5_70 v_X11_copyRow rfl rfl (by decide) (Nat.zero_le _) (Nat.zero_le _) (Nat.le_of_ble_eq_true rfl) (c_X11_copyRow hR 250 36 60 bn_250 sh_250 bn_36 sh_36 (by decide)) ?_
  refine am_aload_n (pc := 161) C dX5_copyFrom_161 rfl ?_
  refine am_getR (pc := 162) (j := 251) C dX5_copyFrom_162 f5_49 bn_239 sh_239 (rf_239_16 hR) ?_
  refine am_aload_n (pc := 165) C dX5_copyFrom_165 rfl ?_
  refine am_getR (pc := 166) (j := 37) C dX5_copyFrom_166 f5_49 bn_25 sh_25 (rf_25_16 hR) ?_
  refine am_callSNv (Y := mX11_copyRow) (pc := 169) (st := []) (As := [.ref 251, .ref 37]) (h2 := (am_row (am_row (am_row (am_row (am_row (am_row (am_row (am_row (am_row (am_row (am_row (am_row (am_row h 25 (upd (upd (upd (upd (upd (h 25) 0 ((h 239) 0)) 1 ((h 239) 1)) 2 ((h 239) 2)) 3 ((h 239) 3)) 4 ((h 239) 4))) 26 (va_cpy (h 240) (h 26) 0 0 10)) 27 (va_cpy (h 241) (h 27) 0 0 10)) 28 (va_cpy (h 242) (h 28) 0 0 10)) 29 (va_cpy (h 243) (h 29) 0 0 10)) 30 (va_cpy (h 244) (h 30) 0 0 10)) 31 (va_cpy (h 245) (h 31) 0 0 120)) 32 (va_cpy (h 246) (h 32) 0 0 40)) 33 (va_cpy (h 247) (h 33) 0 0 40)) 34 (va_cpy (h 248) (h 34) 0 0 40)) 35 (va_cpy (h 249) (h 35) 0 0 60)) 36 (va_cpy (h 250) (h 36) 0 0 60)) 37 (va_cpy (h 251) (h 37) 0 0 60))) C dX5_copyFrom_169 k5_70 v_X11_copyRow rfl rfl (by decide) (Nat.zero_le _) (Nat.zero_le _) (Nat.le_of_ble_eq_true rfl) (c_X11_copyRow hR 251 37 60 bn_251 sh_251 bn_37 sh_37 (by decide)) ?_
  refine am_aload_n (pc := 172) C dX5_copyFrom_172 rfl ?_
  refine am_getR (pc := 173) (j := 252) C dX5_copyFrom_173 f5_52 bn_239 sh_239 (rf_239_17 hR) ?_
  refine am_aload_n (pc := 176) C dX5_copyFrom_176 rfl ?_
  refine am_getR (pc := 177) (j := 38) C dX5_copyFrom_177 f5_52 bn_25 sh_25 (rf_25_17 hR) ?_
  refine am_callSNv (Y := mX11_copyRow) (pc := 180) (st := []) (As := [.ref 252, .ref 38]) (h2 := (am_row (am_row (am_row (am_row (am_row (am_row (am_row (am_row (am_row (am_row (am_row (am_row (am_row (am_row h 25 (upd (upd (upd (upd (upd (h 25) 0 ((h 239) 0)) 1 ((h 239) 1)) 2 ((h 239) 2)) 3 ((h 239) 3)) 4 ((h 239) 4))) 26 (va_cpy (h 240) (h 26) 0 0 10)) 27 (va_cpy (h 241) (h 27) 0 0 10)) 28 (va_cpy (h 242) (h 28) 0 0 10)) 29 (va_cpy (h 243) (h 29) 0 0 10)) 30 (va_cpy (h 244) (h 30) 0 0 10)) 31 (va_cpy (h 245) (h 31) 0 0 120)) 32 (va_cpy (h 246) (h 32) 0 0 40)) 33 (va_cpy (h 247) (h 33) 0 0 40)) 34 (va_cpy (h 248) (h 34) 0 0 40)) 35 (va_cpy (h 249) (h 35) 0 0 60)) 36 (va_cpy (h 250) (h 36) 0 0 60)) 37 (va_cpy (h 251) (h 37) 0 0 60)) 38 (va_cpy (h 252) (h 38) 0 0 60))) C dX5_copyFrom_180 k5_70 v_X11_copyRow rfl rfl (by decide) (Nat.zero_le _) (Nat.zero_le _) (Nat.le_of_ble_eq_true rfl) (c_X11_copyRow hR 252 38 60 bn_252 sh_252 bn_38 sh_38 (by decide)) ?_
  refine am_aload_n (pc := 183) C dX5_copyFrom_183 rfl ?_
  refine am_getR (pc := 184) (j := 253) C dX5_copyFrom_184 f5_55 bn_239 sh_239 (rf_239_18 hR) ?_
  refine am_aload_n (pc := 187) C dX5_copyFrom_187 rfl ?_
  refine am_getR (pc := 188) (j := 39) C dX5_copyFrom_188 f5_55 bn_25 sh_25 (rf_25_18 hR) ?_
  refine am_callSNv (Y := mX11_copyRow) (pc := 191) (st := []) (As := [.ref 253, .ref 39]) (h2 := (am_row (am_row (am_row (am_row (am_row (am_row (am_row (am_row (am_row (am_row (am_row (am_row (am_row (am_row (am_row h 25 (upd (upd (upd (upd (upd (h 25) 0 ((h 239) 0)) 1 ((h 239) 1)) 2 ((h 239) 2)) 3 ((h 239) 3)) 4 ((h 239) 4))) 26 (va_cpy (h 240) (h 26) 0 0 10)) 27 (va_cpy (h 241) (h 27) 0 0 10)) 28 (va_cpy (h 242) (h 28) 0 0 10)) 29 (va_cpy (h 243) (h 29) 0 0 10)) 30 (va_cpy (h 244) (h 30) 0 0 10)) 31 (va_cpy (h 245) (h 31) 0 0 120)) 32 (va_cpy (h 246) (h 32) 0 0 40)) 33 (va_cpy (h 247) (h 33) 0 0 40)) 34 (va_cpy (h 248) (h 34) 0 0 40)) 35 (va_cpy (h 249) (h 35) 0 0 60)) 36 (va_cpy (h 250) (h 36) 0 0 60)) 37 (va_cpy (h 251) (h 37) 0 0 60)) 38 (va_cpy (h 252) (h 38) 0 0 60)) 39 (va_cpy (h 253) (h 39) 0 0 60))) C dX5_copyFrom_191 k5_70 v_X11_copyRow rfl rfl (by decide) (Nat.zero_le _) (Nat.zero_le _) (Nat.le_of_ble_eq_true rfl) (c_X11_copyRow hR 253 39 60 bn_253 sh_253 bn_39 sh_39 (by decide)) ?_
  exact am_vretvr T dX5_copyFrom_194 rfl (Nat.le_refl _) (Nat.le_refl _) rfl ⟨cl_Sc_cpy hV hSc rfl rfl rfl rfl rfl (fun k hk => va_cpy_0 hk) (fun k hk => va_cpy_0 hk) (fun k hk => va_cpy_0 hk) (fun k hk => va_cpy_0 hk) (fun k hk => va_cpy_0 hk) (fun k hk => va_cpy_0 hk) (fun k hk => va_cpy_0 hk) (fun k hk => va_cpy_0 hk) (fun k hk => va_cpy_0 hk) (fun k hk => va_cpy_0 hk) (fun k hk => va_cpy_0 hk) (fun k hk => va_cpy_0 hk) (fun k hk => va_cpy_0 hk) (fun k hk => va_cpy_0 hk), (fun i9 h9 => by rw [am_row_ne _ _ _ (by omega), am_row_ne _ _ _ (by omega), am_row_ne _ _ _ (by omega), am_row_ne _ _ _ (by omega), am_row_ne _ _ _ (by omega), am_row_ne _ _ _ (by omega), am_row_ne _ _ _ (by omega), am_row_ne _ _ _ (by omega), am_row_ne _ _ _ (by omega), am_row_ne _ _ _ (by omega), am_row_ne _ _ _ (by omega), am_row_ne _ _ _ (by omega), am_row_ne _ _ _ (by omega), am_row_ne _ _ _ (by omega), am_row_ne _ _ _ (by omega)])⟩

set_option maxHeartbeats 400000 in
set_option maxRecDepth 100000 in
theorem c_X5_copyFrom_d_t8 {ad : Nat → Nat} {r : am_R} (hR : am_rs r) {h : am_H}  (w : rf_W) (hV : rf_I w) (hSc : cl_Sc (h) 254 w)  : am_CM mX5_copyFrom 3 0 0 [.ref 25, .ref 254] (am_VV ad) r h (am_pr none r (fun c9 => cl_Sc c9 25 w ∧ cl_fr (h) c9 25 15)) := by
  refine am_CM.of (by decide +kernel) (Nat.le_of_ble_eq_true rfl) (fun X C T => ?_)
  show am_G X (am_VV ad) (0, 0) 0 [(0, .ref 25), (1, .ref 254)] [] r h
  refine am_aload_n (pc := 0) C dX5_copyFrom_0 rfl ?_
  refine am_aload_n (pc := 1) C dX5_copyFrom_1 rfl ?_
  refine am_getI (pc := 2) C dX5_copyFrom_2 f5_58 bn_254 sh_254 ?_
  refine am_putI (pc := 5) C dX5_copyFrom_5 f5_58 bn_25 sh_25 rfl rfl ?_
  refine am_hp (show am_up h 25 0 ((h 254) 0) = am_row h 25 (upd (h 25) 0 ((h 254) 0)) from am_up_rw _ _ _ _) ?_
  refine am_aload_n (pc := 8) C dX5_copyFrom_8 rfl ?_
  refine am_aload_n (pc := 9) C dX5_copyFrom_9 rfl ?_
  refine am_getI (pc := 10) C dX5_copyFrom_10 f5_9 bn_254 sh_254 ?_
  refine am_putI (pc := 13) C dX5_copyFrom_13 f5_9 bn_25 sh_25 rfl rfl ?_
  refine am_hp (show am_up (am_row h 25 (upd (h 25) 0 ((h 254) 0))) 25 1 ((h 254) 1) = am_row (am_row h 25 (upd (h 25) 0 ((h 254) 0))) 25 (upd (upd (h 25) 0 ((h 254) 0)) 1 ((h 254) 1)) from am_up_rw _ _ _ _) ?_
  refine am_hp (show am_row (am_row h 25 (upd (h 25) 0 ((h 254) 0))) 25 (upd (upd (h 25) 0 ((h 254) 0)) 1 ((h 254) 1)) = (am_row h 25 (upd (upd (h 25) 0 ((h 254) 0)) 1 ((h 254) 1))) from am_row_s0) ?_
  refine am_aload_n (pc := 16) C dX5_copyFrom_16 rfl ?_
  refine am_aload_n (pc := 17) C dX5_copyFrom_17 rfl ?_
  refine am_getI (pc := 18) C dX5_copyFrom_18 f5_61 bn_254 sh_254 ?_
  refine am_putI (pc := 21) C dX5_copyFrom_21 f5_61 bn_25 sh_25 rfl rfl ?_
  refine am_hp (show am_up (am_row h 25 (upd (upd (h 25) 0 ((h 254) 0)) 1 ((h 254) 1))) 25 2 ((h 254) 2) = am_row (am_row h 25 (upd (upd (h 25) 0 ((h 254) 0)) 1 ((h 254) 1))) 25 (upd (upd (upd (h 25) 0 ((h 254) 0)) 1 ((h 254) 1)) 2 ((h 254) 2)) from am_up_rw _ _ _ _) ?_
  refine am_hp (show am_row (am_row h 25 (upd (upd (h 25) 0 ((h 254) 0)) 1 ((h 254) 1))) 25 (upd (upd (upd (h 25) 0 ((h 254) 0)) 1 ((h 254) 1)) 2 ((h 254) 2)) = (am_row h 25 (upd (upd (upd (h 25) 0 ((h 254) 0)) 1 ((h 254) 1)) 2 ((h 254) 2))) from am_row_s0) ?_
  refine am_aload_n (pc := 24) C dX5_copyFrom_24 rfl ?_
  refine am_aload_n (pc := 25) C dX5_copyFrom_25 rfl ?_
  refine am_getI (pc := 26) C dX5_copyFrom_26 f5_64 bn_254 sh_254 ?_
  refine am_putI (pc := 29) C dX5_copyFrom_29 f5_64 bn_25 sh_25 rfl rfl ?_
  refine am_hp (show am_up (am_row h 25 (upd (upd (upd (h 25) 0 ((h 254) 0)) 1 ((h 254) 1)) 2 ((h 254) 2))) 25 3 ((h 254) 3) = am_row (am_row h 25 (upd (upd (upd (h 25) 0 ((h 254) 0)) 1 ((h 254) 1)) 2 ((h 254) 2))) 25 (upd (upd (upd (upd (h 25) 0 ((h 254) 0)) 1 ((h 254) 1)) 2 ((h 254) 2)) 3 ((h 254) 3)) from am_up_rw _ _ _ _) ?_
  refine am_hp (show am_row (am_row h 25 (upd (upd (upd (h 25) 0 ((h 254) 0)) 1 ((h 254) 1)) 2 ((h 254) 2))) 25 (upd (upd (upd (upd (h 25) 0 ((h 254) 0)) 1 ((h 254) 1)) 2 ((h 254) 2)) 3 ((h 254) 3)) = (am_row h 25 (upd (upd (upd (upd (h 25) 0 ((h 254) 0)) 1 ((h 254) 1)) 2 ((h 254) 2)) 3 ((h 254) 3))) from am_row_s0) ?_
  refine am_aload_n (pc := 32) C dX5_copyFrom_32 rfl ?_
  refine am_aload_n (pc := 33) C dX5_copyFrom_33 rfl ?_
  refine am_getI (pc := 34) C dX5_copyFrom_34 f5_67 bn_254 sh_254 ?_
  refine am_putI (pc := 37) C dX5_copyFrom_37 f5_67 bn_25 sh_25 rfl rfl ?_
  refine am_hp (show am_up (am_row h 25 (upd (upd (upd (upd (h 25) 0 ((h 254) 0)) 1 ((h 254) 1)) 2 ((h 254) 2)) 3 ((h 254) 3))) 25 4 ((h 254) 4) = am_row (am_row h 25 (upd (upd (upd (upd (h 25) 0 ((h 254) 0)) 1 ((h 254) 1)) 2 ((h 254) 2)) 3 ((h 254) 3))) 25 (upd (upd (upd (upd (upd (h 25) 0 ((h 254) 0)) 1 ((h 254) 1)) 2 ((h 254) 2)) 3 ((h 254) 3)) 4 ((h 254) 4)) from am_up_rw _ _ _ _) ?_
  refine am_hp (show am_row (am_row h 25 (upd (upd (upd (upd (h 25) 0 ((h 254) 0)) 1 ((h 254) 1)) 2 ((h 254) 2)) 3 ((h 254) 3))) 25 (upd (upd (upd (upd (upd (h 25) 0 ((h 254) 0)) 1 ((h 254) 1)) 2 ((h 254) 2)) 3 ((h 254) 3)) 4 ((h 254) 4)) = (am_row h 25 (upd (upd (upd (upd (upd (h 25) 0 ((h 254) 0)) 1 ((h 254) 1)) 2 ((h 254) 2)) 3 ((h 254) 3)) 4 ((h 254) 4))) from am_row_s0) ?_
  refine am_aload_n (pc := 40) C dX5_copyFrom_40 rfl ?_
  refine am_getR (pc := 41) (j := 255) C dX5_copyFrom_41 f5_15 bn_254 sh_254 (rf_254_5 hR) ?_
  refine am_aload_n (pc := 44) C dX5_copyFrom_44 rfl ?_
  refine am_getR (pc := 45) (j := 26) C dX5_copyFrom_45 f5_15 bn_25 sh_25 (rf_25_5 hR) ?_
  refine am_callSNv (Y := mX11_copyRow) (pc := 48) (st := []) (As := [.ref 255, .ref 26]) (h2 := (am_row (am_row h 25 (upd (upd (upd (upd (upd (h 25) 0 ((h 254) 0)) 1 ((h 254) 1)) 2 ((h 254) 2)) 3 ((h 254) 3)) 4 ((h 254) 4))) 26 (va_cpy (h 255) (h 26) 0 0 10))) C dX5_copyFrom_48 k5_70 v_X11_copyRow rfl rfl (by decide) (Nat.zero_le _) (Nat.zero_le _) (Nat.le_of_ble_eq_true rfl) (c_X11_copyRow hR 255 26 10 bn_255 sh_255 bn_26 sh_26 (by decide)) ?_
  refine am_aload_n (pc := 51) C dX5_copyFrom_51 rfl ?_
  refine am_getR (pc := 52) (j := 256) C dX5_copyFrom_52 f5_19 bn_254 sh_254 (rf_254_6 hR) ?_
  refine am_aload_n (pc := 55) C dX5_copyFrom_55 rfl ?_
  refine am_getR (pc := 56) (j := 27) C dX5_copyFrom_56 f5_19 bn_25 sh_25 (rf_25_6 hR) ?_
  refine am_callSNv (Y := mX11_copyRow) (pc := 59) (st := []) (As := [.ref 256, .ref 27]) (h2 := (am_row (am_row (am_row h 25 (upd (upd (upd (upd (upd (h 25) 0 ((h 254) 0)) 1 ((h 254) 1)) 2 ((h 254) 2)) 3 ((h 254) 3)) 4 ((h 254) 4))) 26 (va_cpy (h 255) (h 26) 0 0 10)) 27 (va_cpy (h 256) (h 27) 0 0 10))) C dX5_copyFrom_59 k5_70 v_X11_copyRow rfl rfl (by decide) (Nat.zero_le _) (Nat.zero_le _) (Nat.le_of_ble_eq_true rfl) (c_X11_copyRow hR 256 27 10 bn_256 sh_256 bn_27 sh_27 (by decide)) ?_
  refine am_aload_n (pc := 62) C dX5_copyFrom_62 rfl ?_
  refine am_getR (pc := 63) (j := 257) C dX5_copyFrom_63 f5_22 bn_254 sh_254 (rf_254_7 hR) ?_
  refine am_aload_n (pc := 66) C dX5_copyFrom_66 rfl ?_
  refine am_getR (pc := 67) (j := 28) C dX5_copyFrom_67 f5_22 bn_25 sh_25 (rf_25_7 hR) ?_
  refine am_callSNv (Y := mX11_copyRow) (pc := 70) (st := []) (As := [.ref 257, .ref 28]) (h2 := (am_row (am_row (am_row (am_row h 25 (upd (upd (upd (upd (upd (h 25) 0 ((h 254) 0)) 1 ((h 254) 1)) 2 ((h 254) 2)) 3 ((h 254) 3)) 4 ((h 254) 4))) 26 (va_cpy (h 255) (h 26) 0 0 10)) 27 (va_cpy (h 256) (h 27) 0 0 10)) 28 (va_cpy (h 257) (h 28) 0 0 10))) C dX5_copyFrom_70 k5_70 v_X11_copyRow rfl rfl (by decide) (Nat.zero_le _) (Nat.zero_le _) (Nat.le_of_ble_eq_true rfl) (c_X11_copyRow hR 257 28 10 bn_257 sh_257 bn_28 sh_28 (by decide)) ?_
  refine am_aload_n (pc := 73) C dX5_copyFrom_73 rfl ?_
  refine am_getR (pc := 74) (j := 258) C dX5_copyFrom_74 f5_25 bn_254 sh_254 (rf_254_8 hR) ?_
  refine am_aload_n (pc := 77) C dX5_copyFrom_77 rfl ?_
  refine am_getR (pc := 78) (j := 29) C dX5_copyFrom_78 f5_25 bn_25 sh_25 (rf_25_8 hR) ?_
  refine am_callSNv (Y := mX11_copyRow) (pc := 81) (st := []) (As := [.ref 258, .ref 29]) (h2 := (am_row (am_row (am_row (am_row (am_row h 25 (upd (upd (upd (upd (upd (h 25) 0 ((h 254) 0)) 1 ((h 254) 1)) 2 ((h 254) 2)) 3 ((h 254) 3)) 4 ((h 254) 4))) 26 (va_cpy (h 255) (h 26) 0 0 10)) 27 (va_cpy (h 256) (h 27) 0 0 10)) 28 (va_cpy (h 257) (h 28) 0 0 10)) 29 (va_cpy (h 258) (h 29) 0 0 10))) C dX5_copyFrom_81 k5_70 v_X11_copyRow rfl rfl (by decide) (Nat.zero_le _) (Nat.zero_le _) (Nat.le_of_ble_eq_true rfl) (c_X11_copyRow hR 258 29 10 bn_258 sh_258 bn_29 sh_29 (by decide)) ?_
  refine am_aload_n (pc := 84) C dX5_copyFrom_84 rfl ?_
  refine am_getR (pc := 85) (j := 259) C dX5_copyFrom_85 f5_28 bn_254 sh_254 (rf_254_9 hR) ?_
  refine am_aload_n (pc := 88) C dX5_copyFrom_88 rfl ?_
  refine am_getR (pc := 89) (j := 30) C dX5_copyFrom_89 f5_28 bn_25 sh_25 (rf_25_9 hR) ?_
  refine am_callSNv (Y := mX11_copyRow) (pc := 92) (st := []) (As := [.ref 259, .ref 30]) (h2 := (am_row (am_row (am_row (am_row (am_row (am_row h 25 (upd (upd (upd (upd (upd (h 25) 0 ((h 254) 0)) 1 ((h 254) 1)) 2 ((h 254) 2)) 3 ((h 254) 3)) 4 ((h 254) 4))) 26 (va_cpy (h 255) (h 26) 0 0 10)) 27 (va_cpy (h 256) (h 27) 0 0 10)) 28 (va_cpy (h 257) (h 28) 0 0 10)) 29 (va_cpy (h 258) (h 29) 0 0 10)) 30 (va_cpy (h 259) (h 30) 0 0 10))) C dX5_copyFrom_92 k5_70 v_X11_copyRow rfl rfl (by decide) (Nat.zero_le _) (Nat.zero_le _) (Nat.le_of_ble_eq_true rfl) (c_X11_copyRow hR 259 30 10 bn_259 sh_259 bn_30 sh_30 (by decide)) ?_
  refine am_aload_n (pc := 95) C dX5_copyFrom_95 rfl ?_
  refine am_getR (pc := 96) (j := 260) C dX5_copyFrom_96 f5_31 bn_254 sh_254 (rf_254_10 hR) ?_
  refine am_aload_n (pc := 99) C dX5_copyFrom_99 rfl ?_
  refine am_getR (pc := 100) (j := 31) C dX5_copyFrom_100 f5_31 bn_25 sh_25 (rf_25_10 hR) ?_
  refine am_callSNv (Y := mX11_copyRow) (pc := 103) (st := []) (As := [.ref 260, .ref 31]) (h2 := (am_row (am_row (am_row (am_row (am_row (am_row (am_row h 25 (upd (upd (upd (upd (upd (h 25) 0 ((h 254) 0)) 1 ((h 254) 1)) 2 ((h 254) 2)) 3 ((h 254) 3)) 4 ((h 254) 4))) 26 (va_cpy (h 255) (h 26) 0 0 10)) 27 (va_cpy (h 256) (h 27) 0 0 10)) 28 (va_cpy (h 257) (h 28) 0 0 10)) 29 (va_cpy (h 258) (h 29) 0 0 10)) 30 (va_cpy (h 259) (h 30) 0 0 10)) 31 (va_cpy (h 260) (h 31) 0 0 120))) C dX5_copyFrom_103 k5_70 v_X11_copyRow rfl rfl (by decide) (Nat.zero_le _) (Nat.zero_le _) (Nat.le_of_ble_eq_true rfl) (c_X11_copyRow hR 260 31 120 bn_260 sh_260 bn_31 sh_31 (by decide)) ?_
  refine am_aload_n (pc := 106) C dX5_copyFrom_106 rfl ?_
  refine am_getR (pc := 107) (j := 261) C dX5_copyFrom_107 f5_34 bn_254 sh_254 (rf_254_11 hR) ?_
  refine am_aload_n (pc := 110) C dX5_copyFrom_110 rfl ?_
  refine am_getR (pc := 111) (j := 32) C dX5_copyFrom_111 f5_34 bn_25 sh_25 (rf_25_11 hR) ?_
  refine am_callSNv (Y := mX11_copyRow) (pc := 114) (st := []) (As := [.ref 261, .ref 32]) (h2 := (am_row (am_row (am_row (am_row (am_row (am_row (am_row (am_row h 25 (upd (upd (upd (upd (upd (h 25) 0 ((h 254) 0)) 1 ((h 254) 1)) 2 ((h 254) 2)) 3 ((h 254) 3)) 4 ((h 254) 4))) 26 (va_cpy (h 255) (h 26) 0 0 10)) 27 (va_cpy (h 256) (h 27) 0 0 10)) 28 (va_cpy (h 257) (h 28) 0 0 10)) 29 (va_cpy (h 258) (h 29) 0 0 10)) 30 (va_cpy (h 259) (h 30) 0 0 10)) 31 (va_cpy (h 260) (h 31) 0 0 120)) 32 (va_cpy (h 261) (h 32) 0 0 40))) C dX5_copyFrom_114 k5_70 v_X11_copyRow rfl rfl (by decide) (Nat.zero_le _) (Nat.zero_le _) (Nat.le_of_ble_eq_true rfl) (c_X11_copyRow hR 261 32 40 bn_261 sh_261 bn_32 sh_32 (by decide)) ?_
  refine am_aload_n (pc := 117) C dX5_copyFrom_117 rfl ?_
  refine am_getR (pc := 118) (j := 262) C dX5_copyFrom_118 f5_37 bn_254 sh_254 (rf_254_12 hR) ?_
  refine am_aload_n (pc := 121) C dX5_copyFrom_121 rfl ?_
  refine am_getR (pc := 122) (j := 33) C dX5_copyFrom_122 f5_37 bn_25 sh_25 (rf_25_12 hR) ?_
  refine am_callSNv (Y := mX11_copyRow) (pc := 125) (st := []) (As := [.ref 262, .ref 33]) (h2 := (am_row (am_row (am_row (am_row (am_row (am_row (am_row (am_row (am_row h 25 (upd (upd (upd (upd (upd (h 25) 0 ((h 254) 0)) 1 ((h 254) 1)) 2 ((h 254) 2)) 3 ((h 254) 3)) 4 ((h 254) 4))) 26 (va_cpy (h 255) (h 26) 0 0 10)) 27 (va_cpy (h 256) (h 27) 0 0 10)) 28 (va_cpy (h 257) (h 28) 0 0 10)) 29 (va_cpy (h 258) (h 29) 0 0 10)) 30 (va_cpy (h 259) (h 30) 0 0 10)) 31 (va_cpy (h 260) (h 31) 0 0 120)) 32 (va_cpy (h 261) (h 32) 0 0 40)) 33 (va_cpy (h 262) (h 33) 0 0 40))) C dX5_copyFrom_125 k5_70 v_X11_copyRow rfl rfl (by decide) (Nat.zero_le _) (Nat.zero_le _) (Nat.le_of_ble_eq_true rfl) (c_X11_copyRow hR 262 33 40 bn_262 sh_262 bn_33 sh_33 (by decide)) ?_
  refine am_aload_n (pc := 128) C dX5_copyFrom_128 rfl ?_
  refine am_getR (pc := 129) (j := 263) C dX5_copyFrom_129 f5_40 bn_254 sh_254 (rf_254_13 hR) ?_
  refine am_aload_n (pc := 132) C dX5_copyFrom_132 rfl ?_
  refine am_getR (pc := 133) (j := 34) C dX5_copyFrom_133 f5_40 bn_25 sh_25 (rf_25_13 hR) ?_
  refine am_callSNv (Y := mX11_copyRow) (pc := 136) (st := []) (As := [.ref 263, .ref 34]) (h2 := (am_row (am_row (am_row (am_row (am_row (am_row (am_row (am_row (am_row (am_row h 25 (upd (upd (upd (upd (upd (h 25) 0 ((h 254) 0)) 1 ((h 254) 1)) 2 ((h 254) 2)) 3 ((h 254) 3)) 4 ((h 254) 4))) 26 (va_cpy (h 255) (h 26) 0 0 10)) 27 (va_cpy (h 256) (h 27) 0 0 10)) 28 (va_cpy (h 257) (h 28) 0 0 10)) 29 (va_cpy (h 258) (h 29) 0 0 10)) 30 (va_cpy (h 259) (h 30) 0 0 10)) 31 (va_cpy (h 260) (h 31) 0 0 120)) 32 (va_cpy (h 261) (h 32) 0 0 40)) 33 (va_cpy (h 262) (h 33) 0 0 40)) 34 (va_cpy (h 263) (h 34) 0 0 40))) C dX5_copyFrom_136 k5_70 v_X11_copyRow rfl rfl (by decide) (Nat.zero_le _) (Nat.zero_le _) (Nat.le_of_ble_eq_true rfl) (c_X11_copyRow hR 263 34 40 bn_263 sh_263 bn_34 sh_34 (by decide)) ?_
  refine am_aload_n (pc := 139) C dX5_copyFrom_139 rfl ?_
  refine am_getR (pc := 140) (j := 264) C dX5_copyFrom_140 f5_43 bn_254 sh_254 (rf_254_14 hR) ?_
  refine am_aload_n (pc := 143) C dX5_copyFrom_143 rfl ?_
  refine am_getR (pc := 144) (j := 35) C dX5_copyFrom_144 f5_43 bn_25 sh_25 (rf_25_14 hR) ?_
  refine am_callSNv (Y := mX11_copyRow) (pc := 147) (st := []) (As := [.ref 264, .ref 35]) (h2 := (am_row (am_row (am_row (am_row (am_row (am_row (am_row (am_row (am_row (am_row (am_row h 25 (upd (upd (upd (upd (upd (h 25) 0 ((h 254) 0)) 1 ((h 254) 1)) 2 ((h 254) 2)) 3 ((h 254) 3)) 4 ((h 254) 4))) 26 (va_cpy (h 255) (h 26) 0 0 10)) 27 (va_cpy (h 256) (h 27) 0 0 10)) 28 (va_cpy (h 257) (h 28) 0 0 10)) 29 (va_cpy (h 258) (h 29) 0 0 10)) 30 (va_cpy (h 259) (h 30) 0 0 10)) 31 (va_cpy (h 260) (h 31) 0 0 120)) 32 (va_cpy (h 261) (h 32) 0 0 40)) 33 (va_cpy (h 262) (h 33) 0 0 40)) 34 (va_cpy (h 263) (h 34) 0 0 40)) 35 (va_cpy (h 264) (h 35) 0 0 60))) C dX5_copyFrom_147 k5_70 v_X11_copyRow rfl rfl (by decide) (Nat.zero_le _) (Nat.zero_le _) (Nat.le_of_ble_eq_true rfl) (c_X11_copyRow hR 264 35 60 bn_264 sh_264 bn_35 sh_35 (by decide)) ?_
  refine am_aload_n (pc := 150) C dX5_copyFrom_150 rfl ?_
  refine am_getR (pc := 151) (j := 265) C dX5_copyFrom_151 f5_46 bn_254 sh_254 (rf_254_15 hR) ?_
  refine am_aload_n (pc := 154) C dX5_copyFrom_154 rfl ?_
  refine am_getR (pc := 155) (j := 36) C dX5_copyFrom_155 f5_46 bn_25 sh_25 (rf_25_15 hR) ?_
  refine am_callSNv (Y := mX11_copyRow) (pc := 158) (st := []) (As := [.ref 265, .ref 36]) (h2 := (am_row (am_row (am_row (am_row (am_row (am_row (am_row (am_row (am_row (am_row (am_row (am_row h 25 (upd (upd (upd (upd (upd (h 25) 0 ((h 254) 0)) 1 ((h 254) 1)) 2 ((h 254) 2)) 3 ((h 254) 3)) 4 ((h 254) 4))) 26 (va_cpy (h 255) (h 26) 0 0 10)) 27 (va_cpy (h 256) (h 27) 0 0 10)) 28 (va_cpy (h 257) (h 28) 0 0 10)) 29 (va_cpy (h 258) (h 29) 0 0 10)) 30 (va_cpy (h 259) (h 30) 0 0 10)) 31 (va_cpy (h 260) (h 31) 0 0 120)) 32 (va_cpy (h 261) (h 32) 0 0 40)) 33 (va_cpy (h 262) (h 33) 0 0 40)) 34 (va_cpy (h 263) (h 34) 0 0 40)) 35 (va_cpy (h 264) (h 35) 0 0 60)) 36 (va_cpy (h 265) (h 36) 0 0 60))) C dX5_copyFrom_158 k5_70 v_X11_copyRow rfl rfl (by decide) (Nat.zero_le _) (Nat.zero_le _) (Nat.le_of_ble_eq_true rfl) (c_X11_copyRow hR 265 36 60 bn_265 sh_265 bn_36 sh_36 (by decide)) ?_
  refine am_aload_n (pc := 161) C dX5_copyFrom_161 rfl ?_
  refine am_getR (pc := 162) (j := 266) C dX5_copyFrom_162 f5_49 bn_254 sh_254 (rf_254_16 hR) ?_
  refine am_aload_n (pc := 165) C dX5_copyFrom_165 rfl ?_
  refine am_getR (pc := 166) (j := 37) C dX5_copyFrom_166 f5_49 bn_25 sh_25 (rf_25_16 hR) ?_
  refine am_callSNv (Y := mX11_copyRow) (pc := 169) (st := []) (As := [.ref 266, .ref 37]) (h2 := (am_row (am_row (am_row (am_row (am_row (am_row (am_row (am_row (am_row (am_row (am_row (am_row (am_row h 25 (upd (upd (upd (upd (upd (h 25) 0 ((h 254) 0)) 1 ((h 254) 1)) 2 ((h 254) 2)) 3 ((h 254) 3)) 4 ((h 254) 4))) 26 (va_cpy (h 255) (h 26) 0 0 10)) 27 (va_cpy (h 256) (h 27) 0 0 10)) 28 (va_cpy (h 257) (h 28) 0 0 10)) 29 (va_cpy (h 258) (h 29) 0 0 10)) 30 (va_cpy (h 259) (h 30) 0 0 10)) 31 (va_cpy (h 260) (h 31) 0 0 120)) 32 (va_cpy (h 261) (h 32) 0 0 40)) 33 (va_cpy (h 262) (h 33) 0 0 40)) 34 (va_cpy (h 263) (h 34) 0 0 40)) 35 (va_cpy (h 264) (h 35) 0 0 60)) 36 (va_cpy (h 265) (h 36) 0 0 60)) 37 (va_cpy (h 266) (h 37) 0 0 60))) C dX5_copyFrom_169 k5_70 v_X11_copyRow rfl rfl (by decide) (Nat.zero_le _) (Nat.zero_le _) (Nat.le_of_ble_eq_true rfl) (c_X11_copyRow hR 266 37 60 bn_266 sh_266 bn_37 sh_37 (by decide)) ?_
  refine am_aload_n (pc := 172) C dX5_copyFrom_172 rfl ?_
  refine am_getR (pc := 173) (j := 267) C dX5_copyFrom_173 f5_52 bn_254 sh_254 (rf_254_17 hR) ?_
  refine am_aload_n (pc := 176) C dX5_copyFrom_176 rfl ?_
  refine am_getR (pc := 177) (j := 38) C dX5_copyFrom_177 f5_52 bn_25 sh_25 (rf_25_17 hR) ?_
  refine am_callSNv (Y := mX11_copyRow) (pc := 180) (st := []) (As := [.ref 267, .ref 38]) (h2 := (am_row (am_row (am_row (am_row (am_row (am_row (am_row (am_row (am_row (am_row (am_row (am_row (am_row (am_row h 25 (upd (upd (upd (upd (upd (h 25) 0 ((h 254) 0)) 1 ((h 254) 1)) 2 ((h 254) 2)) 3 ((h 254) 3)) 4 ((h 254) 4))) 26 (va_cpy (h 255) (h 26) 0 0 10)) 27 (va_cpy (h 256) (h 27) 0 0 10)) 28 (va_cpy (h 257) (h 28) 0 0 10)) 29 (va_cpy (h 258) (h 29) 0 0 10)) 30 (va_cpy (h 259) (h 30) 0 0 10)) 31 (va_cpy (h 260) (h 31) 0 0 120)) 32 (va_cpy (h 261) (h 32) 0 0 40)) 33 (va_cpy (h 262) (h 33) 0 0 40)) 34 (va_cpy (h 263) (h 34) 0 0 40)) 35 (va_cpy (h 264) (h 35) 0 0 60)) 36 (va_cpy (h 265) (h 36) 0 0 60)) 37 (va_cpy (h 266) (h 37) 0 0 60)) 38 (va_cpy (h 267) (h 38) 0 0 60))) C dX5_copyFrom_180 k5_70 v_X11_copyRow rfl rfl (by decide) (Nat.zero_le _) (Nat.zero_le _) (Nat.le_of_ble_eq_true rfl) (c_X11_copyRow hR 267 38 60 bn_267 sh_267 bn_38 sh_38 (by decide)) ?_
  refine am_aload_n (pc := 183) C dX5_copyFrom_183 rfl ?_
  refine am_getR (pc := 184) (j := 268) C dX5_copyFrom_184 f5_55 bn_254 sh_254 (rf_254_18 hR) ?_
  refine am_aload_n (pc := 187) C dX5_copyFrom_187 rfl ?_
  refine am_getR (pc := 188) (j := 39) C dX5_copyFrom_188 f5_55 bn_25 sh_25 (rf_25_18 hR) ?_
  refine am_callSNv (Y := mX11_copyRow) (pc := 191) (st := []) (As := [.ref 268, .ref 39]) (h2 := (am_row (am_row (am_row (am_row (am_row (am_row (am_row (am_row (am_row (am_row (am_row (am_row (am_row (am_row (am_row h 25 (upd (upd (upd (upd (upd (h 25) 0 ((h 254) 0)) 1 ((h 254) 1)) 2 ((h 254) 2)) 3 ((h 254) 3)) 4 ((h 254) 4))) 26 (va_cpy (h 255) (h 26) 0 0 10)) 27 (va_cpy (h 256) (h 27) 0 0 10)) 28 (va_cpy (h 257) (h 28) 0 0 10)) 29 (va_cpy (h 258) (h 29) 0 0 10)) 30 (va_cpy (h 259) (h 30) 0 0 10)) 31 (va_cpy (h 260) (h 31) 0 0 120)) 32 (va_cpy (h 261) (h 32) 0 0 40)) 33 (va_cpy (h 262) (h 33) 0 0 40)) 34 (va_cpy (h 263) (h 34) 0 0 40)) 35 (va_cpy (h 264) (h 35) 0 0 60)) 36 (va_cpy (h 265) (h 36) 0 0 60)) 37 (va_cpy (h 266) (h 37) 0 0 60)) 38 (va_cpy (h 267) (h 38) 0 0 60)) 39 (va_cpy (h 268) (h 39) 0 0 60))) C dX5_copyFrom_191 k5_70 v_X11_copyRow rfl rfl (by decide) (Nat.zero_le _) (Nat.zero_le _) (Nat.le_of_ble_eq_true rfl) (c_X11_copyRow hR 268 39 60 bn_268 sh_268 bn_39 sh_39 (by decide)) ?_
  exact am_vretvr T dX5_copyFrom_194 rfl (Nat.le_refl _) (Nat.le_refl _) rfl ⟨cl_Sc_cpy hV hSc rfl rfl rfl rfl rfl (fun k hk => va_cpy_0 hk) (fun k hk => va_cpy_0 hk) (fun k hk => va_cpy_0 hk) (fun k hk => va_cpy_0 hk) (fun k hk => va_cpy_0 hk) (fun k hk => va_cpy_0 hk) (fun k hk => va_cpy_0 hk) (fun k hk => va_cpy_0 hk) (fun k hk => va_cpy_0 hk) (fun k hk => va_cpy_0 hk) (fun k hk => va_cpy_0 hk) (fun k hk => va_cpy_0 hk) (fun k hk => va_cpy_0 hk) (fun k hk => va_cpy_0 hk), (fun i9 h9 => by rw [am_row_ne _ _ _ (by omega), am_row_ne _ _ _ (by omega), am_row_ne _ _ _ (by omega), am_row_ne _ _ _ (by omega), am_row_ne _ _ _ (by omega), am_row_ne _ _ _ (by omega), am_row_ne _ _ _ (by omega), am_row_ne _ _ _ (by omega), am_row_ne _ _ _ (by omega), am_row_ne _ _ _ (by omega), am_row_ne _ _ _ (by omega), am_row_ne _ _ _ (by omega), am_row_ne _ _ _ (by omega), am_row_ne _ _ _ (by omega), am_row_ne _ _ _ (by omega)])⟩

set_option maxHeartbeats 400000 in
set_option maxRecDepth 100000 in
theorem c_X5_copyFrom_d_t9 {ad : Nat → Nat} {r : am_R} (hR : am_rs r) {h : am_H}  (w : rf_W) (hV : rf_I w) (hSc : cl_Sc (h) 269 w)  : am_CM mX5_copyFrom 3 0 0 [.ref 25, .ref 269] (am_VV ad) r h (am_pr none r (fun c9 => cl_Sc c9 25 w ∧ cl_fr (h) c9 25 15)) := by
  refine am_CM.of (by decide +kernel) (Nat.le_of_ble_eq_true rfl) (fun X C T => ?_)
  show am_G X (am_VV ad) (0, 0) 0 [(0, .ref 25), (1, .ref 269)] [] r h
  refine am_aload_n (pc := 0) C dX5_copyFrom_0 rfl ?_
  refine am_aload_n (pc := 1) C dX5_copyFrom_1 rfl ?_
  refine am_getI (pc := 2) C dX5_copyFrom_2 f5_58 bn_269 sh_269 ?_
  refine am_putI (pc := 5) C dX5_copyFrom_5 f5_58 bn_25 sh_25 rfl rfl ?_
  refine am_hp (show am_up h 25 0 ((h 269) 0) = am_row h 25 (upd (h 25) 0 ((h 269) 0)) from am_up_rw _ _ _ _) ?_
  refine am_aload_n (pc := 8) C dX5_copyFrom_8 rfl ?_
  refine am_aload_n (pc := 9) C dX5_copyFrom_9 rfl ?_
  refine am_getI (pc := 10) C dX5_copyFrom_10 f5_9 bn_269 sh_269 ?_
  refine am_putI (pc := 13) C dX5_copyFrom_13 f5_9 bn_25 sh_25 rfl rfl ?_
  refine am_hp (show am_up (am_row h 25 (upd (h 25) 0 ((h 269) 0))) 25 1 ((h 269) 1) = am_row (am_row h 25 (upd (h 25) 0 ((h 269) 0))) 25 (upd (upd (h 25) 0 ((h 269) 0)) 1 ((h 269) 1)) from am_up_rw _ _ _ _) ?_
  refine am_hp (show am_row (am_row h 25 (upd (h 25) 0 ((h 269) 0))) 25 (upd (upd (h 25) 0 ((h 269) 0)) 1 ((h 269) 1)) = (am_row h 25 (upd (upd (h 25) 0 ((h 269) 0)) 1 ((h 269) 1))) from am_row_s0) ?_
  refine am_aload_n (pc := 16) C dX5_copyFrom_16 rfl ?_
  refine am_aload_n (pc := 17) C dX5_copyFrom_17 rfl ?_
  refine am_getI (pc := 18) C dX5_copyFrom_18 f5_61 bn_269 sh_269 ?_
  refine am_putI (pc := 21) C dX5_copyFrom_21 f5_61 bn_25 sh_25 rfl rfl ?_
  refine am_hp (show am_up (am_row h 25 (upd (upd (h 25) 0 ((h 269) 0)) 1 ((h 269) 1))) 25 2 ((h 269) 2) = am_row (am_row h 25 (upd (upd (h 25) 0 ((h 269) 0)) 1 ((h 269) 1))) 25 (upd (upd (upd (h 25) 0 ((h 269) 0)) 1 ((h 269) 1)) 2 ((h 269) 2)) from am_up_rw _ _ _ _) ?_
  refine am_hp (show am_row (am_row h 25 (upd (upd (h 25) 0 ((h 269) 0)) 1 ((h 269) 1))) 25 (upd (upd (upd (h 25) 0 ((h 269) 0)) 1 ((h 269) 1)) 2 ((h 269) 2)) = (am_row h 25 (upd (upd (upd (h 25) 0 ((h 269) 0)) 1 ((h 269) 1)) 2 ((h 269) 2))) from am_row_s0) ?_
  refine am_aload_n (pc := 24) C dX5_copyFrom_24 rfl ?_
  refine am_aload_n (pc := 25) C dX5_copyFrom_25 rfl ?_
  refine am_getI (pc := 26) C dX5_copyFrom_26 f5_64 bn_269 sh_269 ?_
  refine am_putI (pc := 29) C dX5_copyFrom_29 f5_64 bn_25 sh_25 rfl rfl ?_
  refine am_hp (show am_up (am_row h 25 (upd (upd (upd (h 25) 0 ((h 269) 0)) 1 ((h 269) 1)) 2 ((h 269) 2))) 25 3 ((h 269) 3) = am_row (am_row h 25 (upd (upd (upd (h 25) 0 ((h 269) 0)) 1 ((h 269) 1)) 2 ((h 269) 2))) 25 (upd (upd (upd (upd (h 25) 0 ((h 269) 0)) 1 ((h 269) 1)) 2 ((h 269) 2)) 3 ((h 269) 3)) from am_up_rw _ _ _ _) ?_
  refine am_hp (show am_row (am_row h 25 (upd (upd (upd (h 25) 0 ((h 269) 0)) 1 ((h 269) 1)) 2 ((h 269) 2))) 25 (upd (upd (upd (upd (h 25) 0 ((h 269) 0)) 1 ((h 269) 1)) 2 ((h 269) 2)) 3 ((h 269) 3)) = (am_row h 25 (upd (upd (upd (upd (h 25) 0 ((h 269) 0)) 1 ((h 269) 1)) 2 ((h 269) 2)) 3 ((h 269) 3))) from am_row_s0) ?_
  refine am_aload_n (pc := 32) C dX5_copyFrom_32 rfl ?_
  refine am_aload_n (pc := 33) C dX5_copyFrom_33 rfl ?_
  refine am_getI (pc := 34) C dX5_copyFrom_34 f5_67 bn_269 sh_269 ?_
  refine am_putI (pc := 37) C dX5_copyFrom_37 f5_67 bn_25 sh_25 rfl rfl ?_
  refine am_hp (show am_up (am_row h 25 (upd (upd (upd (upd (h 25) 0 ((h 269) 0)) 1 ((h 269) 1)) 2 ((h 269) 2)) 3 ((h 269) 3))) 25 4 ((h 269) 4) = am_row (am_row h 25 (upd (upd (upd (upd (h 25) 0 ((h 269) 0)) 1 ((h 269) 1)) 2 ((h 269) 2)) 3 ((h 269) 3))) 25 (upd (upd (upd (upd (upd (h 25) 0 ((h 269) 0)) 1 ((h 269) 1)) 2 ((h 269) 2)) 3 ((h 269) 3)) 4 ((h 269) 4)) from am_up_rw _ _ _ _) ?_
  refine am_hp (show am_row (am_row h 25 (upd (upd (upd (upd (h 25) 0 ((h 269) 0)) 1 ((h 269) 1)) 2 ((h 269) 2)) 3 ((h 269) 3))) 25 (upd (upd (upd (upd (upd (h 25) 0 ((h 269) 0)) 1 ((h 269) 1)) 2 ((h 269) 2)) 3 ((h 269) 3)) 4 ((h 269) 4)) = (am_row h 25 (upd (upd (upd (upd (upd (h 25) 0 ((h 269) 0)) 1 ((h 269) 1)) 2 ((h 269) 2)) 3 ((h 269) 3)) 4 ((h 269) 4))) from am_row_s0) ?_
  refine am_aload_n (pc := 40) C dX5_copyFrom_40 rfl ?_
  refine am_getR (pc := 41) (j := 270) C dX5_copyFrom_41 f5_15 bn_269 sh_269 (rf_269_5 hR) ?_
  refine am_aload_n (pc := 44) C dX5_copyFrom_44 rfl ?_
  refine am_getR (pc := 45) (j := 26) C dX5_copyFrom_45 f5_15 bn_25 sh_25 (rf_25_5 hR) ?_
  refine am_callSNv (Y := mX11_copyRow) (pc := 48) (st := []) (As := [.ref 270, .ref 26]) (h2 := (am_row (am_row h 25 (upd (upd (upd (upd (upd (h 25) 0 ((h 269) 0)) 1 ((h 269) 1)) 2 ((h 269) 2)) 3 ((h 269) 3)) 4 ((h 269) 4))) 26 (va_cpy (h 270) (h 26) 0 0 10))) C dX5_copyFrom_48 k5_70 v_X11_copyRow rfl rfl (by decide) (Nat.zero_le _) (Nat.zero_le _) (Nat.le_of_ble_eq_true rfl) (c_X11_copyRow hR 270 26 10 bn_270 sh_270 bn_26 sh_26 (by decide)) ?_
  refine am_aload_n (pc := 51) C dX5_copyFrom_51 rfl ?_
  refine am_getR (pc := 52) (j := 271) C dX5_copyFrom_52 f5_19 bn_269 sh_269 (rf_269_6 hR) ?_
  refine am_aload_n (pc := 55) C dX5_copyFrom_55 rfl ?_
  refine am_getR (pc := 56) (j := 27) C dX5_copyFrom_56 f5_19 bn_25 sh_25 (rf_25_6 hR) ?_
  refine am_callSNv (Y := mX11_copyRow) (pc := 59) (st := []) (As := [.ref 271, .ref 27]) (h2 := (am_row (am_row (am_row h 25 (upd (upd (upd (upd (upd (h 25) 0 ((h 269) 0)) 1 ((h 269) 1)) 2 ((h 269) 2)) 3 ((h 269) 3)) 4 ((h 269) 4))) 26 (va_cpy (h 270) (h 26) 0 0 10)) 27 (va_cpy (h 271) (h 27) 0 0 10))) C dX5_copyFrom_59 k5_70 v_X11_copyRow rfl rfl (by decide) (Nat.zero_le _) (Nat.zero_le _) (Nat.le_of_ble_eq_true rfl) (c_X11_copyRow hR 271 27 10 bn_271 sh_271 bn_27 sh_27 (by decide)) ?_
  refine am_aload_n (pc := 62) C dX5_copyFrom_62 rfl ?_
  refine am_getR (pc := 63) (j := 272) C dX5_copyFrom_63 f5_22 bn_269 sh_269 (rf_269_7 hR) ?_
  refine am_aload_n (pc := 66) C dX5_copyFrom_66 rfl ?_
  refine am_getR (pc := 67) (j := 28) C dX5_copyFrom_67 f5_22 bn_25 sh_25 (rf_25_7 hR) ?_
  refine am_callSNv (Y := mX11_copyRow) (pc := 70) (st := []) (As := [.ref 272, .ref 28]) (h2 := (am_row (am_row (am_row (am_row h 25 (upd (upd (upd (upd (upd (h 25) 0 ((h 269) 0)) 1 ((h 269) 1)) 2 ((h 269) 2)) 3 ((h 269) 3)) 4 ((h 269) 4))) 26 (va_cpy (h 270) (h 26) 0 0 10)) 27 (va_cpy (h 271) (h 27) 0 0 10)) 28 (va_cpy (h 272) (h 28) 0 0 10))) C dX5_copyFrom_70 k5_70 v_X11_copyRow rfl rfl (by decide) (Nat.zero_le _) (Nat.zero_le _) (Nat.le_of_ble_eq_true rfl) (c_X11_copyRow hR 272 28 10 bn_272 sh_272 bn_28 sh_28 (by decide)) ?_
  refine am_aload_n (pc := 73) C dX5_copyFrom_73 rfl ?_
  refine am_getR (pc := 74) (j := 273) C dX5_copyFrom_74 f5_25 bn_269 sh_269 (rf_269_8 hR) ?_
  refine am_aload_n (pc := 77) C dX5_copyFrom_77 rfl ?_
  refine am_getR (pc := 78) (j := 29) C dX5_copyFrom_78 f5_25 bn_25 sh_25 (rf_25_8 hR) ?_
  refine am_callSNv (Y := mX11_copyRow) (pc := 81) (st := []) (As := [.ref 273, .ref 29]) (h2 := (am_row (am_row (am_row (am_row (am_row h 25 (upd (upd (upd (upd (upd (h 25) 0 ((h 269) 0)) 1 ((h 269) 1)) 2 ((h 269) 2)) 3 ((h 269) 3)) 4 ((h 269) 4))) 26 (va_cpy (h 270) (h 26) 0 0 10)) 27 (va_cpy (h 271) (h 27) 0 0 10)) 28 (va_cpy (h 272) (h 28) 0 0 10)) 29 (va_cpy (h 273) (h 29) 0 0 10))) C dX5_copyFrom_81 k5_70 v_X11_copyRow rfl rfl (by decide) (Nat.zero_le _) (Nat.zero_le _) (Nat.le_of_ble_eq_true rfl) (c_X11_copyRow hR 273 29 10 bn_273 sh_273 bn_29 sh_29 (by decide)) ?_
  refine am_aload_n (pc := 84) C dX5_copyFrom_84 rfl ?_
  refine am_getR (pc := 85) (j := 274) C dX5_copyFrom_85 f5_28 bn_269 sh_269 (rf_269_9 hR) ?_
  refine am_aload_n (pc := 88) C dX5_copyFrom_88 rfl ?_
  refine am_getR (pc := 89) (j := 30) C dX5_copyFrom_89 f5_28 bn_25 sh_25 (rf_25_9 hR) ?_
  refine am_callSNv (Y := mX11_copyRow) (pc := 92) (st := []) (As := [.ref 274, .ref 30]) (h2 := (am_row (am_row (am_row (am_row (am_row (am_row h 25 (upd (upd (upd (upd (upd (h 25) 0 ((h 269) 0)) 1 ((h 269) 1)) 2 ((h 269) 2)) 3 ((h 269) 3)) 4 ((h 269) 4))) 26 (va_cpy (h 270) (h 26) 0 0 10)) 27 (va_cpy (h 271) (h 27) 0 0 10)) 28 (va_cpy (h 272) (h 28) 0 0 10)) 29 (va_cpy (h 273) (h 29) 0 0 10)) 30 (va_cpy (h 274) (h 30) 0 0 10))) C dX5_copyFrom_92 k5_70 v_X11_copyRow rfl rfl (by decide) (Nat.zero_le _) (Nat.zero_le _) (Nat.le_of_ble_eq_true rfl) (c_X11_copyRow hR 274 30 10 bn_274 sh_274 bn_30 sh_30 (by decide)) ?_
  refine am_aload_n (pc := 95) C dX5_copyFrom_95 rfl ?_
  refine am_getR (pc := 96) (j := 275) C dX5_copyFrom_96 f5_31 bn_269 sh_269 (rf_269_10 hR) ?_
  refine am_aload_n (pc := 99) C dX5_copyFrom_99 rfl ?_
  refine am_getR (pc := 100) (j := 31) C dX5_copyFrom_100 f5_31 bn_25 sh_25 (rf_25_10 hR) ?_
  refine am_callSNv (Y := mX11_copyRow) (pc := 103) (st := []) (As := [.ref 275, .ref 31]) (h2 := (am_row (am_row (am_row (am_row (am_row (am_row (am_row h 25 (upd (upd (upd (upd (upd (h 25) 0 ((h 269) 0)) 1 ((h 269) 1)) 2 ((h 269) 2)) 3 ((h 269) 3)) 4 ((h 269) 4))) 26 (va_cpy (h 270) (h 26) 0 0 10)) 27 (va_cpy (h 271) (h 27) 0 0 10)) 28 (va_cpy (h 272) (h 28) 0 0 10)) 29 (va_cpy (h 273) (h 29) 0 0 10)) 30 (va_cpy (h 274) (h 30) 0 0 10)) 31 (va_cpy (h 275) (h 31) 0 0 120))) C dX5_copyFrom_103 k5_70 v_X11_copyRow rfl rfl (by decide) (Nat.zero_le _) (Nat.zero_le _) (Nat.le_of_ble_eq_true rfl) (c_X11_copyRow hR 275 31 120 bn_275 sh_275 bn_31 sh_31 (by decide)) ?_
  refine am_aload_n (pc := 106) C dX5_copyFrom_106 rfl ?_
  refine am_getR (pc := 107) (j := 276) C dX5_copyFrom_107 f5_34 bn_269 sh_269 (rf_269_11 hR) ?_
  refine am_aload_n (pc := 110) C dX5_copyFrom_110 rfl ?_
  refine am_getR (pc := 111) (j := 32) C dX5_copyFrom_111 f5_34 bn_25 sh_25 (rf_25_11 hR) ?_
  refine am_callSNv (Y := mX11_copyRow) (pc := 114) (st := []) (As := [.ref 276, .ref 32]) (h2 := (am_row (am_row (am_row (am_row (am_row (am_row (am_row (am_row h 25 (upd (upd (upd (upd (upd (h 25) 0 ((h 269) 0)) 1 ((h 269) 1)) 2 ((h 269) 2)) 3 ((h 269) 3)) 4 ((h 269) 4))) 26 (va_cpy (h 270) (h 26) 0 0 10)) 27 (va_cpy (h 271) (h 27) 0 0 10)) 28 (va_cpy (h 272) (h 28) 0 0 10)) 29 (va_cpy (h 273) (h 29) 0 0 10)) 30 (va_cpy (h 274) (h 30) 0 0 10)) 31 (va_cpy (h 275) (h 31) 0 0 120)) 32 (va_cpy (h 276) (h 32) 0 0 40))) C dX5_copyFrom_114 k5_70 v_X11_copyRow rfl rfl (by decide) (Nat.zero_le _) (Nat.zero_le _) (Nat.le_of_ble_eq_true rfl) (c_X11_copyRow hR 276 32 40 bn_276 sh_276 bn_32 sh_32 (by decide)) ?_
  refine am_aload_n (pc := 117) C dX5_copyFrom_117 rfl ?_
  refine am_getR (pc := 118) (j := 277) C dX5_copyFrom_118 f5_37 bn_269 sh_269 (rf_269_12 hR) ?_
  refine am_aload_n (pc := 121) C dX5_copyFrom_121 rfl ?_
  refine am_getR (pc := 122) (j := 33) C dX5_copyFrom_122 f5_37 bn_25 sh_25 (rf_25_12 hR) ?_
  refine am_callSNv (Y := mX11_copyRow) (pc := 125) (st := []) (As := [.ref 277, .ref 33]) (h2 := (am_row (am_row (am_row (am_row (am_row (am_row (am_row (am_row (am_row h 25 (upd (upd (upd (upd (upd (h 25) 0 ((h 269) 0)) 1 ((h 269) 1)) 2 ((h 269) 2)) 3 ((h 269) 3)) 4 ((h 269) 4))) 26 (va_cpy (h 270) (h 26) 0 0 10)) 27 (va_cpy (h 271) (h 27) 0 0 10)) 28 (va_cpy (h 272) (h 28) 0 0 10)) 29 (va_cpy (h 273) (h 29) 0 0 10)) 30 (va_cpy (h 274) (h 30) 0 0 10)) 31 (va_cpy (h 275) (h 31) 0 0 120)) 32 (va_cpy (h 276) (h 32) 0 0 40)) 33 (va_cpy (h 277) (h 33) 0 0 40))) C dX5_copyFrom_125 k5_70 v_X11_copyRow rfl rfl (by decide) (Nat.zero_le _) (Nat.zero_le _) (Nat.le_of_ble_eq_true rfl) (c_X11_copyRow hR 277 33 40 bn_277 sh_277 bn_33 sh_33 (by decide)) ?_
  refine am_aload_n (pc := 128) C dX5_copyFrom_128 rfl ?_
  refine am_getR (pc := 129) (j := 278) C dX5_copyFrom_129 f5_40 bn_269 sh_269 (rf_269_13 hR) ?_
  refine am_aload_n (pc := 132) C dX5_copyFrom_132 rfl ?_
  refine am_getR (pc := 133) (j := 34) C dX5_copyFrom_133 f5_40 bn_25 sh_25 (rf_25_13 hR) ?_
  refine am_callSNv (Y := mX11_copyRow) (pc := 136) (st := []) (As := [.ref 278, .ref 34]) (h2 := (am_row (am_row (am_row (am_row (am_row (am_row (am_row (am_row (am_row (am_row h 25 (upd (upd (upd (upd (upd (h 25) 0 ((h 269) 0)) 1 ((h 269) 1)) 2 ((h 269) 2)) 3 ((h 269) 3)) 4 ((h 269) 4))) 26 (va_cpy (h 270) (h 26) 0 0 10)) 27 (va_cpy (h 271) (h 27) 0 0 10)) 28 (va_cpy (h 272) (h 28) 0 0 10)) 29 (va_cpy (h 273) (h 29) 0 0 10)) 30 (va_cpy (h 274) (h 30) 0 0 10)) 31 (va_cpy (h 275) (h 31) 0 0 120)) 32 (va_cpy (h 276) (h 32) 0 0 40)) 33 (va_cpy (h 277) (h 33) 0 0 40)) 34 (va_cpy (h 278) (h 34) 0 0 40))) C dX5_copyFrom_136 k5_70 v_X11_copyRow rfl rfl (by decide) (Nat.zero_le _) (Nat.zero_le _) (Nat.le_of_ble_eq_true rfl) (c_X11_copyRow hR 278 34 40 bn_278 sh_278 bn_34 sh_34 (by decide)) ?_
  refine am_aload_n (pc := 139) C dX5_copyFrom_139 rfl ?_
  refine am_getR (pc := 140) (j := 279) C dX5_copyFrom_140 f5_43 bn_269 sh_269 (rf_269_14 hR) ?_
  refine am_aload_n (pc := 143) C dX5_copyFrom_143 rfl ?_
  refine am_getR (pc := 144) (j := 35) C dX5_copyFrom_144 f5_43 bn_25 sh_25 (rf_25_14 hR) ?_
  refine am_callSNv (Y := mX11_copyRow) (pc := 147) (st := []) (As := [.ref 279, .ref 35]) (h2 := (am_row (am_row (am_row (am_row (am_row (am_row (am_row (am_row (am_row (am_row (am_row h 25 (upd (upd (upd (upd (upd (h 25) 0 ((h 269) 0)) 1 ((h 269) 1)) 2 ((h 269) 2)) 3 ((h 269) 3)) 4 ((h 269) 4))) 26 (va_cpy (h 270) (h 26) 0 0 10)) 27 (va_cpy (h 271) (h 27) 0 0 10)) 28 (va_cpy (h 272) (h 28) 0 0 10)) 29 (va_cpy (h 273) (h 29) 0 0 10)) 30 (va_cpy (h 274) (h 30) 0 0 10)) 31 (va_cpy (h 275) (h 31) 0 0 120)) 32 (va_cpy (h 276) (h 32) 0 0 40)) 33 (va_cpy (h 277) (h 33) 0 0 40)) 34 (va_cpy (h 278) (h 34) 0 0 40)) 35 (va_cpy (h 279) (h 35) 0 0 60))) C dX5_copyFrom_147 k5_70 v_X11_copyRow rfl rfl (by decide) (Nat.zero_le _) (Nat.zero_le _) (Nat.le_of_ble_eq_true rfl) (c_X11_copyRow hR 279 35 60 bn_279 sh_279 bn_35 sh_35 (by decide)) ?_
  refine am_aload_n (pc := 150) C dX5_copyFrom_150 rfl ?_
  refine am_getR (pc := 151) (j := 280) C dX5_copyFrom_151 f5_46 bn_269 sh_269 (rf_269_15 hR) ?_
  refine am_aload_n (pc := 154) C dX5_copyFrom_154 rfl ?_
  refine am_getR (pc := 155) (j := 36) C dX5_copyFrom_155 f5_46 bn_25 sh_25 (rf_25_15 hR) ?_
  refine am_callSNv (Y := mX11_copyRow) (pc := 158) (st := []) (As := [.ref 280, .ref 36]) (h2 := (am_row (am_row (am_row (am_row (am_row (am_row (am_row (am_row (am_row (am_row (am_row (am_row h 25 (upd (upd (upd (upd (upd (h 25) 0 ((h 269) 0)) 1 ((h 269) 1)) 2 ((h 269) 2)) 3 ((h 269) 3)) 4 ((h 269) 4))) 26 (va_cpy (h 270) (h 26) 0 0 10)) 27 (va_cpy (h 271) (h 27) 0 0 10)) 28 (va_cpy (h 272) (h 28) 0 0 10)) 29 (va_cpy (h 273) (h 29) 0 0 10)) 30 (va_cpy (h 274) (h 30) 0 0 10)) 31 (va_cpy (h 275) (h 31) 0 0 120)) 32 (va_cpy (h 276) (h 32) 0 0 40)) 33 (va_cpy (h 277) (h 33) 0 0 40)) 34 (va_cpy (h 278) (h 34) 0 0 40)) 35 (va_cpy (h 279) (h 35) 0 0 60)) 36 (va_cpy (h 280) (h 36) 0 0 60))) C dX5_copyFrom_158 k5_70 v_X11_copyRow rfl rfl (by decide) (Nat.zero_le _) (Nat.zero_le _) (Nat.le_of_ble_eq_true rfl) (c_X11_copyRow hR 280 36 60 bn_280 sh_280 bn_36 sh_36 (by decide)) ?_
  refine am_aload_n (pc := 161) C dX5_copyFrom_161 rfl ?_
  refine am_getR (pc := 162) (j := 281) C dX5_copyFrom_162 f5_49 bn_269 sh_269 (rf_269_16 hR) ?_
  refine am_aload_n (pc := 165) C dX5_copyFrom_165 rfl ?_
  refine am_getR (pc := 166) (j := 37) C dX5_copyFrom_166 f5_49 bn_25 sh_25 (rf_25_16 hR) ?_
  refine am_callSNv (Y := mX11_copyRow) (pc := 169) (st := []) (As := [.ref 281, .ref 37]) (h2 := (am_row (am_row (am_row (am_row (am_row (am_row (am_row (am_row (am_row (am_row (am_row (am_row (am_row h 25 (upd (upd (upd (upd (upd (h 25) 0 ((h 269) 0)) 1 ((h 269) 1)) 2 ((h 269) 2)) 3 ((h 269) 3)) 4 ((h 269) 4))) 26 (va_cpy (h 270) (h 26) 0 0 10)) 27 (va_cpy (h 271) (h 27) 0 0 10)) 28 (va_cpy (h 272) (h 28) 0 0 10)) 29 (va_cpy (h 273) (h 29) 0 0 10)) 30 (va_cpy (h 274) (h 30) 0 0 10)) 31 (va_cpy (h 275) (h 31) 0 0 120)) 32 (va_cpy (h 276) (h 32) 0 0 40)) 33 (va_cpy (h 277) (h 33) 0 0 40)) 34 (va_cpy (h 278) (h 34) 0 0 40)) 35 (va_cpy (h 279) (h 35) 0 0 60)) 36 (va_cpy (h 280) (h 36) 0 0 60)) 37 (va_cpy (h 281) (h 37) 0 0 60))) C dX5_copyFrom_169 k5_70 v_X11_copyRow rfl rfl (by decide) (Nat.zero_le _) (Nat.zero_le _) (Nat.le_of_ble_eq_true rfl) (c_X11_copyRow hR 281 37 60 bn_281 sh_281 bn_37 sh_37 (by decide)) ?_
  refine am_aload_n (pc := 172) C dX5_copyFrom_172 rfl ?_
  refine am_getR (pc := 173) (j := 282) C dX5_copyFrom_173 f5_52 bn_269 sh_269 (rf_269_17 hR) ?_
  refine am_aload_n (pc := 176) C dX5_copyFrom_176 rfl ?_
  refine am_getR (pc := 177) (j := 38) C dX5_copyFrom_177 f5_52 bn_25 sh_25 (rf_25_17 hR) ?_
  refine am_callSNv (Y := mX11_copyRow) (pc := 180) (st := []) (As := [.ref 282, .ref 38]) (h2 := (am_row (am_row (am_row (am_row (am_row (am_row (am_row (am_row (am_row (am_row (am_row (am_row (am_row (am_row h 25 (upd (upd (upd (upd (upd (h 25) 0 ((h 269) 0)) 1 ((h 269) 1)) 2 ((h 269) 2)) 3 ((h 269) 3)) 4 ((h 269) 4))) 26 (va_cpy (h 270) (h 26) 0 0 10)) 27 (va_cpy (h 271) (h 27) 0 0 10)) 28 (va_cpy (h 272) (h 28) 0 0 10)) 29 (va_cpy (h 273) (h 29) 0 0 10)) 30 (va_cpy (h 274) (h 30) 0 0 10)) 31 (va_cpy (h 275) (h 31) 0 0 120)) 32 (va_cpy (h 276) (h 32) 0 0 40)) 33 (va_cpy (h 277) (h 33) 0 0 40)) 34 (va_cpy (h 278) (h 34) 0 0 40)) 35 (va_cpy (h 279) (h 35) 0 0 60)) 36 (va_cpy (h 280) (h 36) 0 0 60)) 37 (va_cpy (h 281) (h 37) 0 0 60)) 38 (va_cpy (h 282) (h 38) 0 0 60))) C dX5_copyFrom_180 k5_70 v_X11_copyRow rfl rfl (by decide) (Nat.zero_le _) (Nat.zero_le _) (Nat.le_of_ble_eq_true rfl) (c_X11_copyRow hR 282 38 60 bn_282 sh_282 bn_38 sh_38 (by decide)) ?_
  refine am_aload_n (pc := 183) C dX5_copyFrom_183 rfl ?_
  refine am_getR (pc := 184) (j := 283) C dX5_copyFrom_184 f5_55 bn_269 sh_269 (rf_269_18 hR) ?_
  refine am_aload_n (pc := 187) C dX5_copyFrom_187 rfl ?_
  refine am_getR (pc := 188) (j := 39) C dX5_copyFrom_188 f5_55 bn_25 sh_25 (rf_25_18 hR) ?_
  refine am_callSNv (Y := mX11_copyRow) (pc := 191) (st := []) (As := [.ref 283, .ref 39]) (h2 := (am_row (am_row (am_row (am_row (am_row (am_row (am_row (am_row (am_row (am_row (am_row (am_row (am_row (am_row (am_row h 25 (upd (upd (upd (upd (upd (h 25) 0 ((h 269) 0)) 1 ((h 269) 1)) 2 ((h 269) 2)) 3 ((h 269) 3)) 4 ((h 269) 4))) 26 (va_cpy (h 270) (h 26) 0 0 10)) 27 (va_cpy (h 271) (h 27) 0 0 10)) 28 (va_cpy (h 272) (h 28) 0 0 10)) 29 (va_cpy (h 273) (h 29) 0 0 10)) 30 (va_cpy (h 274) (h 30) 0 0 10)) 31 (va_cpy (h 275) (h 31) 0 0 120)) 32 (va_cpy (h 276) (h 32) 0 0 40)) 33 (va_cpy (h 277) (h 33) 0 0 40)) 34 (va_cpy (h 278) (h 34) 0 0 40)) 35 (va_cpy (h 279) (h 35) 0 0 60)) 36 (va_cpy (h 280) (h 36) 0 0 60)) 37 (va_cpy (h 281) (h 37) 0 0 60)) 38 (va_cpy (h 282) (h 38) 0 0 60)) 39 (va_cpy (h 283) (h 39) 0 0 60))) C dX5_copyFrom_191 k5_70 v_X11_copyRow rfl rfl (by decide) (Nat.zero_le _) (Nat.zero_le _) (Nat.le_of_ble_eq_true rfl) (c_X11_copyRow hR 283 39 60 bn_283 sh_283 bn_39 sh_39 (by decide)) ?_
  exact am_vretvr T dX5_copyFrom_194 rfl (Nat.le_refl _) (Nat.le_refl _) rfl ⟨cl_Sc_cpy hV hSc rfl rfl rfl rfl rfl (fun k hk => va_cpy_0 hk) (fun k hk => va_cpy_0 hk) (fun k hk => va_cpy_0 hk) (fun k hk => va_cpy_0 hk) (fun k hk => va_cpy_0 hk) (fun k hk => va_cpy_0 hk) (fun k hk => va_cpy_0 hk) (fun k hk => va_cpy_0 hk) (fun k hk => va_cpy_0 hk) (fun k hk => va_cpy_0 hk) (fun k hk => va_cpy_0 hk) (fun k hk => va_cpy_0 hk) (fun k hk => va_cpy_0 hk) (fun k hk => va_cpy_0 hk), (fun i9 h9 => by rw [am_row_ne _ _ _ (by omega), am_row_ne _ _ _ (by omega), am_row_ne _ _ _ (by omega), am_row_ne _ _ _ (by omega), am_row_ne _ _ _ (by omega), am_row_ne _ _ _ (by omega), am_row_ne _ _ _ (by omega), am_row_ne _ _ _ (by omega), am_row_ne _ _ _ (by omega), am_row_ne _ _ _ (by omega), am_row_ne _ _ _ (by omega), am_row_ne _ _ _ (by omega), am_row_ne _ _ _ (by omega), am_row_ne _ _ _ (by omega), am_row_ne _ _ _ (by omega)])⟩

set_option maxHeartbeats 400000 in
set_option maxRecDepth 100000 in
theorem c_X5_copyFrom_d_t10 {ad : Nat → Nat} {r : am_R} (hR : am_rs r) {h : am_H}  (w : rf_W) (hV : rf_I w) (hSc : cl_Sc (h) 284 w)  : am_CM mX5_copyFrom 3 0 0 [.ref 25, .ref 284] (am_VV ad) r h (am_pr none r (fun c9 => cl_Sc c9 25 w ∧ cl_fr (h) c9 25 15)) := by
  refine am_CM.of (by decide +kernel) (Nat.le_of_ble_eq_true rfl) (fun X C T => ?_)
  show am_G X (am_VV ad) (0, 0) 0 [(0, .ref 25), (1, .ref 284)] [] r h
  refine am_aload_n (pc := 0) C dX5_copyFrom_0 rfl ?_
  refine am_aload_n (pc := 1) C dX5_copyFrom_1 rfl ?_
  refine am_getI (pc := 2) C dX5_copyFrom_2 f5_58 bn_284 sh_284 ?_
  refine am_putI (pc := 5) C dX5_copyFrom_5 f5_58 bn_25 sh_25 rfl rfl ?_
  refine am_hp (show am_up h 25 0 ((h 284) 0) = am_row h 25 (upd (h 25) 0 ((h 284) 0)) from am_up_rw _ _ _ _) ?_
  refine am_aload_n (pc := 8) C dX5_copyFrom_8 rfl ?_
  refine am_aload_n (pc := 9) C dX5_copyFrom_9 rfl ?_
  refine am_getI (pc := 10) C dX5_copyFrom_10 f5_9 bn_284 sh_284 ?_
  refine am_putI (pc := 13) C dX5_copyFrom_13 f5_9 bn_25 sh_25 rfl rfl ?_
  refine am_hp (show am_up (am_row h 25 (upd (h 25) 0 ((h 284) 0))) 25 1 ((h 284) 1) = am_row (am_row h 25 (upd (h 25) 0 ((h 284) 0))) 25 (upd (upd (h 25) 0 ((h 284) 0)) 1 ((h 284) 1)) from am_up_rw _ _ _ _) ?_
  refine am_hp (show am_row (am_row h 25 (upd (h 25) 0 ((h 284) 0))) 25 (upd (upd (h 25) 0 ((h 284) 0)) 1 ((h 284) 1)) = (am_row h 25 (upd (upd (h 25) 0 ((h 284) 0)) 1 ((h 284) 1))) from am_row_s0) ?_
  refine am_aload_n (pc := 16) C dX5_copyFrom_16 rfl ?_
  refine am_aload_n (pc := 17) C dX5_copyFrom_17 rfl ?_
  refine am_getI (pc := 18) C dX5_copyFrom_18 f5_61 bn_284 sh_284 ?_
  refine am_putI (pc := 21) C dX5_copyFrom_21 f5_61 bn_25 sh_25 rfl rfl ?_
  refine am_hp (show am_up (am_row h 25 (upd (upd (h 25) 0 ((h 284) 0)) 1 ((h 284) 1))) 25 2 ((h 284) 2) = am_row (am_row h 25 (upd (upd (h 25) 0 ((h 284) 0)) 1 ((h 284) 1))) 25 (upd (upd (upd (h 25) 0 ((h 284) 0)) 1 ((h 284) 1)) 2 ((h 284) 2)) from am_up_rw _ _ _ _) ?_
  refine am_hp (show am_row (am_row h 25 (upd (upd (h 25) 0 ((h 284) 0)) 1 ((h 284) 1))) 25 (upd (upd (upd (h 25) 0 ((h 284) 0)) 1 ((h 284) 1)) 2 ((h 284) 2)) = (am_row h 25 (upd (upd (upd (h 25) 0 ((h 284) 0)) 1 ((h 284) 1)) 2 ((h 284) 2))) from am_row_s0) ?_
  refine am_aload_n (pc := 24) C dX5_copyFrom_24 rfl ?_
  refine am_aload_n (pc := 25) C dX5_copyFrom_25 rfl ?_
  refine am_getI (pc := 26) C dX5_copyFrom_26 f5_64 bn_284 sh_284 ?_
  refine am_putI (pc := 29) C dX5_copyFrom_29 f5_64 bn_25 sh_25 rfl rfl ?_
  refine am_hp (show am_up (am_row h 25 (upd (upd (upd (h 25) 0 ((h 284) 0)) 1 ((h 284) 1)) 2 ((h 284) 2))) 25 3 ((h 284) 3) = am_row (am_row h 25 (upd (upd (upd (h 25) 0 ((h 284) 0)) 1 ((h 284) 1)) 2 ((h 284) 2))) 25 (upd (upd (upd (upd (h 25) 0 ((h 284) 0)) 1 ((h 284) 1)) 2 ((h 284) 2)) 3 ((h 284) 3)) from am_up_rw _ _ _ _) ?_
  refine am_hp (show am_row (am_row h 25 (upd (upd (upd (h 25) 0 ((h 284) 0)) 1 ((h 284) 1)) 2 ((h 284) 2))) 25 (upd (upd (upd (upd (h 25) 0 ((h 284) 0)) 1 ((h 284) 1)) 2 ((h 284) 2)) 3 ((h 284) 3)) = (am_row h 25 (upd (upd (upd (upd (h 25) 0 ((h 284) 0)) 1 ((h 284) 1)) 2 ((h 284) 2)) 3 ((h 284) 3))) from am_row_s0) ?_
  refine am_aload_n (pc := 32) C dX5_copyFrom_32 rfl ?_
  refine am_aload_n (pc := 33) C dX5_copyFrom_33 rfl ?_
  refine am_getI (pc := 34) C dX5_copyFrom_34 f5_67 bn_284 sh_284 ?_
  refine am_putI (pc := 37) C dX5_copyFrom_37 f5_67 bn_25 sh_25 rfl rfl ?_
  refine am_hp (show am_up (am_row h 25 (upd (upd (upd (upd (h 25) 0 ((h 284) 0)) 1 ((h 284) 1)) 2 ((h 284) 2)) 3 ((h 284) 3))) 25 4 ((h 284) 4) = am_row (am_row h 25 (upd (upd (upd (upd (h 25) 0 ((h 284) 0)) 1 ((h 284) 1)) 2 ((h 284) 2)) 3 ((h 284) 3))) 25 (upd (upd (upd (upd (upd (h 25) 0 ((h 284) 0)) 1 ((h 284) 1)) 2 ((h 284) 2)) 3 ((h 284) 3)) 4 ((h 284) 4)) from am_up_rw _ _ _ _) ?_
  refine am_hp (show am_row (am_row h 25 (upd (upd (upd (upd (h 25) 0 ((h 284) 0)) 1 ((h 284) 1)) 2 ((h 284) 2)) 3 ((h 284) 3))) 25 (upd (upd (upd (upd (upd (h 25) 0 ((h 284) 0)) 1 ((h 284) 1)) 2 ((h 284) 2)) 3 ((h 284) 3)) 4 ((h 284) 4)) = (am_row h 25 (upd (upd (upd (upd (upd (h 25) 0 ((h 284) 0)) 1 ((h 284) 1)) 2 ((h 284) 2)) 3 ((h 284) 3)) 4 ((h 284) 4))) from am_row_s0) ?_
  refine am_aload_n (pc := 40) C dX5_copyFrom_40 rfl ?_
  refine am_getR (pc := 41) (j := 285) C dX5_copyFrom_41 f5_15 bn_284 sh_284 (rf_284_5 hR) ?_
  refine am_aload_n (pc := 44) C dX5_copyFrom_44 rfl ?_
  refine am_getR (pc := 45) (j := 26) C dX5_copyFrom_45 f5_15 bn_25 sh_25 (rf_25_5 hR) ?_
  refine am_callSNv (Y := mX11_copyRow) (pc := 48) (st := []) (As := [.ref 285, .ref 26]) (h2 := (am_row (am_row h 25 (upd (upd (upd (upd (upd (h 25) 0 ((h 284) 0)) 1 ((h 284) 1)) 2 ((h 284) 2)) 3 ((h 284) 3)) 4 ((h 284) 4))) 26 (va_cpy (h 285) (h 26) 0 0 10))) C dX5_copyFrom_48 k5_70 v_X11_copyRow rfl rfl (by decide) (Nat.zero_le _) (Nat.zero_le _) (Nat.le_of_ble_eq_true rfl) (c_X11_copyRow hR 285 26 10 bn_285 sh_285 bn_26 sh_26 (by decide)) ?_
  refine am_aload_n (pc := 51) C dX5_copyFrom_51 rfl ?_
  refine am_getR (pc := 52) (j := 286) C dX5_copyFrom_52 f5_19 bn_284 sh_284 (rf_284_6 hR) ?_
  refine am_aload_n (pc := 55) C dX5_copyFrom_55 rfl ?_
  refine am_getR (pc := 56) (j := 27) C dX5_copyFrom_56 f5_19 bn_25 sh_25 (rf_25_6 hR) ?_
  refine am_callSNv (Y := mX11_copyRow) (pc := 59) (st := []) (As := [.ref 286, .ref 27]) (h2 := (am_row (am_row (am_row h 25 (upd (upd (upd (upd (upd (h 25) 0 ((h 284) 0)) 1 ((h 284) 1)) 2 ((h 284) 2)) 3 ((h 284) 3)) 4 ((h 284) 4))) 26 (va_cpy (h 285) (h 26) 0 0 10)) 27 (va_cpy (h 286) (h 27) 0 0 10))) C dX5_copyFrom_59 k5_70 v_X11_copyRow rfl rfl (by decide) (Nat.zero_le _) (Nat.zero_le _) (Nat.le_of_ble_eq_true rfl) (c_X11_copyRow hR 286 27 10 bn_286 sh_286 bn_27 sh_27 (by decide)) ?_
  refine am_aload_n (pc := 62) C dX5_copyFrom_62 rfl ?_
  refine am_getR (pc := 63) (j := 287) C dX5_copyFrom_63 f5_22 bn_284 sh_284 (rf_284_7 hR) ?_
  refine am_aload_n (pc := 66) C dX5_copyFrom_66 rfl ?_
  refine am_getR (pc := 67) (j := 28) C dX5_copyFrom_67 f5_22 bn_25 sh_25 (rf_25_7 hR) ?_
  refine am_callSNv (Y := mX11_copyRow) (pc := 70) (st := []) (As := [.ref 287, .ref 28]) (h2 := (am_row (am_row (am_row (am_row h 25 (upd (upd (upd (upd (upd (h 25) 0 ((h 284) 0)) 1 ((h 284) 1)) 2 ((h 284) 2)) 3 ((h 284) 3)) 4 ((h 284) 4))) 26 (va_cpy (h 285) (h 26) 0 0 10)) 27 (va_cpy (h 286) (h 27) 0 0 10)) 28 (va_cpy (h 287) (h 28) 0 0 10))) C dX5_copyFrom_70 k5_70 v_X11_copyRow rfl rfl (by decide) (Nat.zero_le _) (Nat.zero_le _) (Nat.le_of_ble_eq_true rfl) (c_X11_copyRow hR 287 28 10 bn_287 sh_287 bn_28 sh_28 (by decide)) ?_
  refine am_aload_n (pc := 73) C dX5_copyFrom_73 rfl ?_
  refine am_getR (pc := 74) (j := 288) C dX5_copyFrom_74 f5_25 bn_284 sh_284 (rf_284_8 hR) ?_
  refine am_aload_n (pc := 77) C dX5_copyFrom_77 rfl ?_
  refine am_getR (pc := 78) (j := 29) C dX5_copyFrom_78 f5_25 bn_25 sh_25 (rf_25_8 hR) ?_
  refine am_callSNv (Y := mX11_copyRow) (pc := 81) (st := []) (As := [.ref 288, .ref 29]) (h2 := (am_row (am_row (am_row (am_row (am_row h 25 (upd (upd (upd (upd (upd (h 25) 0 ((h 284) 0)) 1 ((h 284) 1)) 2 ((h 284) 2)) 3 ((h 284) 3)) 4 ((h 284) 4))) 26 (va_cpy (h 285) (h 26) 0 0 10)) 27 (va_cpy (h 286) (h 27) 0 0 10)) 28 (va_cpy (h 287) (h 28) 0 0 10)) 29 (va_cpy (h 288) (h 29) 0 0 10))) C dX5_copyFrom_81 k5_70 v_X11_copyRow rfl rfl (by decide) (Nat.zero_le _) (Nat.zero_le _) (Nat.le_of_ble_eq_true rfl) (c_X11_copyRow hR 288 29 10 bn_288 sh_288 bn_29 sh_29 (by decide)) ?_
  refine am_aload_n (pc := 84) C dX5_copyFrom_84 rfl ?_
  refine am_getR (pc := 85) (j := 289) C dX5_copyFrom_85 f5_28 bn_284 sh_284 (rf_284_9 hR) ?_
  refine am_aload_n (pc := 88) C dX5_copyFrom_88 rfl ?_
  refine am_getR (pc := 89) (j := 30) C dX5_copyFrom_89 f5_28 bn_25 sh_25 (rf_25_9 hR) ?_
  refine am_callSNv (Y := mX11_copyRow) (pc := 92) (st := []) (As := [.ref 289, .ref 30]) (h2 := (am_row (am_row (am_row (am_row (am_row (am_row h 25 (upd (upd (upd (upd (upd (h 25) 0 ((h 284) 0)) 1 ((h 284) 1)) 2 ((h 284) 2)) 3 ((h 284) 3)) 4 ((h 284) 4))) 26 (va_cpy (h 285) (h 26) 0 0 10)) 27 (va_cpy (h 286) (h 27) 0 0 10)) 28 (va_cpy (h 287) (h 28) 0 0 10)) 29 (va_cpy (h 288) (h 29) 0 0 10)) 30 (va_cpy (h 289) (h 30) 0 0 10))) C dX5_copyFrom_92 k5_70 v_X11_copyRow rfl rfl (by decide) (Nat.zero_le _) (Nat.zero_le _) (Nat.le_of_ble_eq_true rfl) (c_X11_copyRow hR 289 30 10 bn_289 sh_289 bn_30 sh_30 (by decide)) ?_
  refine am_aload_n (pc := 95) C dX5_copyFrom_95 rfl ?_
  refine am_getR (pc := 96) (j := 290) C dX5_copyFrom_96 f5_31 bn_284 sh_284 (rf_284_10 hR) ?_
  refine am_aload_n (pc := 99) C dX5_copyFrom_99 rfl ?_
  refine am_getR (pc := 100) (j := 31) C dX5_copyFrom_100 f5_31 bn_25 sh_25 (rf_25_10 hR) ?_
  refine am_callSNv (Y := mX11_copyRow) (pc := 103) (st := []) (As := [.ref 290, .ref 31]) (h2 := (am_row (am_row (am_row (am_row (am_row (am_row (am_row h 25 (upd (upd (upd (upd (upd (h 25) 0 ((h 284) 0)) 1 ((h 284) 1)) 2 ((h 284) 2)) 3 ((h 284) 3)) 4 ((h 284) 4))) 26 (va_cpy (h 285) (h 26) 0 0 10)) 27 (va_cpy (h 286) (h 27) 0 0 10)) 28 (va_cpy (h 287) (h 28) 0 0 10)) 29 (va_cpy (h 288) (h 29) 0 0 10)) 30 (va_cpy (h 289) (h 30) 0 0 10)) 31 (va_cpy (h 290) (h 31) 0 0 120))) C dX5_copyFrom_103 k5_70 v_X11_copyRow rfl rfl (by decide) (Nat.zero_le _) (Nat.zero_le _) (Nat.le_of_ble_eq_true rfl) (c_X11_copyRow hR 290 31 120 bn_290 sh_290 bn_31 sh_31 (by decide)) ?_
  refine am_aload_n (pc := 106) C dX5_copyFrom_106 rfl ?_
  refine am_getR (pc := 107) (j := 291) C dX5_copyFrom_107 f5_34 bn_284 sh_284 (rf_284_11 hR) ?_
  refine am_aload_n (pc := 110) C dX5_copyFrom_110 rfl ?_
  refine am_getR (pc := 111) (j := 32) C dX5_copyFrom_111 f5_34 bn_25 sh_25 (rf_25_11 hR) ?_
  refine am_callSNv (Y := mX11_copyRow) (pc := 114) (st := []) (As := [.ref 291, .ref 32]) (h2 := (am_row (am_row (am_row (am_row (am_row (am_row (am_row (am_row h 25 (upd (upd (upd (upd (upd (h 25) 0 ((h 284) 0)) 1 ((h 284) 1)) 2 ((h 284) 2)) 3 ((h 284) 3)) 4 ((h 284) 4))) 26 (va_cpy (h 285) (h 26) 0 0 10)) 27 (va_cpy (h 286) (h 27) 0 0 10)) 28 (va_cpy (h 287) (h 28) 0 0 10)) 29 (va_cpy (h 288) (h 29) 0 0 10)) 30 (va_cpy (h 289) (h 30) 0 0 10)) 31 (va_cpy (h 290) (h 31) 0 0 120)) 32 (va_cpy (h 291) (h 32) 0 0 40))) C dX5_copyFrom_114 k5_70 v_X11_copyRow rfl rfl (by decide) (Nat.zero_le _) (Nat.zero_le _) (Nat.le_of_ble_eq_true rfl) (c_X11_copyRow hR 291 32 40 bn_291 sh_291 bn_32 sh_32 (by decide)) ?_
  refine am_aload_n (pc := 117) C dX5_copyFrom_117 rfl ?_
  refine am_getR (pc := 118) (j := 292) C dX5_copyFrom_118 f5_37 bn_284 sh_284 (rf_284_12 hR) ?_
  refine am_aload_n (pc := 121) C dX5_copyFrom_121 rfl ?_
  refine am_getR (pc := 122) (j := 33) C dX5_copyFrom_122 f5_37 bn_25 sh_25 (rf_25_12 hR) ?_
  refine am_callSNv (Y := mX11_copyRow) (pc := 125) (st := []) (As := [.ref 292, .ref 33]) (h2 := (am_row (am_row (am_row (am_row (am_row (am_row (am_row (am_row (am_row h 25 (upd (upd (upd (upd (upd (h 25) 0 ((h 284) 0)) 1 ((h 284) 1)) 2 ((h 284) 2)) 3 ((h 284) 3)) 4 ((h 284) 4))) 26 (va_cpy (h 285) (h 26) 0 0 10)) 27 (va_cpy (h 286) (h 27) 0 0 10)) 28 (va_cpy (h 287) (h 28) 0 0 10)) 29 (va_cpy (h 288) (h 29) 0 0 10)) 30 (va_cpy (h 289) (h 30) 0 0 10)) 31 (va_cpy (h 290) (h 31) 0 0 120)) 32 (va_cpy (h 291) (h 32) 0 0 40)) 33 (va_cpy (h 292) (h 33) 0 0 40))) C dX5_copyFrom_125 k5_70 v_X11_copyRow rfl rfl (by decide) (Nat.zero_le _) (Nat.zero_le _) (Nat.le_of_ble_eq_true rfl) (c_X11_copyRow hR 292 33 40 bn_292 sh_292 bn_33 sh_33 (by decide)) ?_
  refine am_aload_n (pc := 128) C dX5_copyFrom_128 rfl ?_
  refine am_getR (pc := 129) (j := 293) C dX5_copyFrom_129 f5_40 bn_284 sh_284 (rf_284_13 hR) ?_
  refine am_aload_n (pc := 132) C dX5_copyFrom_132 rfl ?_
  refine am_getR (pc := 133) (j := 34) C dX5_copyFrom_133 f5_40 bn_25 sh_25 (rf_25_13 hR) ?_
  refine am_callSNv (Y := mX11_copyRow) (pc := 136) (st := []) (As := [.ref 293, .ref 34]) (h2 := (am_row (am_row (am_row (am_row (am_row (am_row (am_row (am_row (am_row (am_row h 25 (upd (upd (upd (upd (upd (h 25) 0 ((h 284) 0)) 1 ((h 284) 1)) 2 ((h 284) 2)) 3 ((h 284) 3)) 4 ((h 284) 4))) 26 (va_cpy (h 285) (h 26) 0 0 10)) 27 (va_cpy (h 286) (h 27) 0 0 10)) 28 (va_cpy (h 287) (h 28) 0 0 10)) 29 (va_cpy (h 288) (h 29) 0 0 10)) 30 (va_cpy (h 289) (h 30) 0 0 10)) 31 (va_cpy (h 290) (h 31) 0 0 120)) 32 (va_cpy (h 291) (h 32) 0 0 40)) 33 (va_cpy (h 292) (h 33) 0 0 40)) 34 (va_cpy (h 293) (h 34) 0 0 40))) C dX5_copyFrom_136 k5_70 v_X11_copyRow rfl rfl (by decide) (Nat.zero_le _) (Nat.zero_le _) (Nat.le_of_ble_eq_true rfl) (c_X11_copyRow hR 293 34 40 bn_293 sh_293 bn_34 sh_34 (by decide)) ?_
  refine am_aload_n (pc := 139) C dX5_copyFrom_139 rfl ?_
  refine am_getR (pc := 140) (j := 294) C dX5_copyFrom_140 f5_43 bn_284 sh_284 (rf_284_14 hR) ?_
  refine am_aload_n (pc := 143) C dX5_copyFrom_143 rfl ?_
  refine am_getR (pc := 144) (j := 35) C dX5_copyFrom_144 f5_43 bn_25 sh_25 (rf_25_14 hR) ?_
  refine am_callSNv (Y := mX11_copyRow) (pc := 147) (st := []) (As := [.ref 294, .ref 35]) (h2 := (am_row (am_row (am_row (am_row (am_row (am_row (am_row (am_row (am_row (am_row (am_row h 25 (upd (upd (upd (upd (upd (h 25) 0 ((h 284) 0)) 1 ((h 284) 1)) 2 ((h 284) 2)) 3 ((h 284) 3)) 4 ((h 284) 4))) 26 (va_cpy (h 285) (h 26) 0 0 10)) 27 (va_cpy (h 286) (h 27) 0 0 10)) 28 (va_cpy (h 287) (h 28) 0 0 10)) 29 (va_cpy (h 288) (h 29) 0 0 10)) 30 (va_cpy (h 289) (h 30) 0 0 10)) 31 (va_cpy (h 290) (h 31) 0 0 120)) 32 (va_cpy (h 291) (h 32) 0 0 40)) 33 (va_cpy (h 292) (h 33) 0 0 40)) 34 (va_cpy (h 293) (h 34) 0 0 40)) 35 (va_cpy (h 294) (h 35) 0 0 60))) C dX5_copyFrom_147 k5_70 v_X11_copyRow rfl rfl (by decide) (Nat.zero_le _) (Nat.zero_le _) (Nat.le_of_ble_eq_true rfl) (c_X11_copyRow hR 294 35 60 bn_294 sh_294 bn_35 sh_35 (by decide)) ?_
  refine am_aload_n (pc := 150) C dX5_copyFrom_150 rfl ?_
  refine am_getR (pc := 151) (j := 295) C dX5_copyFrom_151 f5_46 bn_284 sh_284 (rf_284_15 hR) ?_
  refine am_aload_n (pc := 154) C dX5_copyFrom_154 rfl ?_
  refine am_getR (pc := 155) (j := 36) C dX5_copyFrom_155 f5_46 bn_25 sh_25 (rf_25_15 hR) ?_
  refine am_callSNv (Y := mX11_copyRow) (pc := 158) (st := []) (As := [.ref 295, .ref 36]) (h2 := (am_row (am_row (am_row (am_row (am_row (am_row (am_row (am_row (am_row (am_row (am_row (am_row h 25 (upd (upd (upd (upd (upd (h 25) 0 ((h 284) 0)) 1 ((h 284) 1)) 2 ((h 284) 2)) 3 ((h 284) 3)) 4 ((h 284) 4))) 26 (va_cpy (h 285) (h 26) 0 0 10)) 27 (va_cpy (h 286) (h 27) 0 0 10)) 28 (va_cpy (h 287) (h 28) 0 0 10)) 29 (va_cpy (h 288) (h 29) 0 0 10)) 30 (va_cpy (h 289) (h 30) 0 0 10)) 31 (va_cpy (h 290) (h 31) 0 0 120)) 32 (va_cpy (h 291) (h 32) 0 0 40)) 33 (va_cpy (h 292) (h 33) 0 0 40)) 34 (va_cpy (h 293) (h 34) 0 0 40)) 35 (va_cpy (h 294) (h 35) 0 0 60)) 36 (va_cpy (h 295) (h 36) 0 0 60))) C dX5_copyFrom_158 k5_70 v_X11_copyRow rfl rfl (by decide) (Nat.zero_le _) (Nat.zero_le _) (Nat.le_of_ble_eq_true rfl) (c_X11_copyRow hR 295 36 60 bn_295 sh_295 bn_36 sh_36 (by decide)) ?_
  refine am_aload_n (pc := 161) C dX5_copyFrom_161 rfl ?_
  refine am_getR (pc := 162) (j := 296) C dX5_copyFrom_162 f5_49 bn_284 sh_284 (rf_284_16 hR) ?_
  refine am_aload_n (pc := 165) C dX5_copyFrom_165 rfl ?_
  refine am_getR (pc := 166) (j := 37) C dX5_copyFrom_166 f5_49 bn_25 sh_25 (rf_25_16 hR) ?_
  refine am_callSNv (Y := mX11_copyRow) (pc := 169) (st := []) (As := [.ref 296, .ref 37]) (h2 := (am_row (am_row (am_row (am_row (am_row (am_row (am_row (am_row (am_row (am_row (am_row (am_row (am_row h 25 (upd (upd (upd (upd (upd (h 25) 0 ((h 284) 0)) 1 ((h 284) 1)) 2 ((h 284) 2)) 3 ((h 284) 3)) 4 ((h 284) 4))) 26 (va_cpy (h 285) (h 26) 0 0 10)) 27 (va_cpy (h 286) (h 27) 0 0 10)) 28 (va_cpy (h 287) (h 28) 0 0 10)) 29 (va_cpy (h 288) (h 29) 0 0 10)) 30 (va_cpy (h 289) (h 30) 0 0 10)) 31 (va_cpy (h 290) (h 31) 0 0 120)) 32 (va_cpy (h 291) (h 32) 0 0 40)) 33 (va_cpy (h 292) (h 33) 0 0 40)) 34 (va_cpy (h 293) (h 34) 0 0 40)) 35 (va_cpy (h 294) (h 35) 0 0 60)) 36 (va_cpy (h 295) (h 36) 0 0 60)) 37 (va_cpy (h 296) (h 37) 0 0 60))) C dX5_copyFrom_169 k5_70 v_X11_copyRow rfl rfl (by decide) (Nat.zero_le _) (Nat.zero_le _) (Nat.le_of_ble_eq_true rfl) (c_X11_copyRow hR 296 37 60 bn_296 sh_296 bn_37 sh_37 (by decide)) ?_
  refine am_aload_n (pc := 172) C dX5_copyFrom_172 rfl ?_
  refine am_getR (pc := 173) (j := 297) C dX5_copyFrom_173 f5_52 bn_284 sh_284 (rf_284_17 hR) ?_
  refine am_aload_n (pc := 176) C dX5_copyFrom_176 rfl ?_
  refine am_getR (pc := 177) (j := 38) C dX5_copyFrom_177 f5_52 bn_25 sh_25 (rf_25_17 hR) ?_
  refine am_callSNv (Y := mX11_copyRow) (pc := 180) (st := []) (As := [.ref 297, .ref 38]) (h2 := (am_row (am_row (am_row (am_row (am_row (am_row (am_row (am_row (am_row (am_row (am_row (am_row (am_row (am_row h 25 (upd (upd (upd (upd (upd (h 25) 0 ((h 284) 0)) 1 ((h 284) 1)) 2 ((h 284) 2)) 3 ((h 284) 3)) 4 ((h 284) 4))) 26 (va_cpy (h 285) (h 26) 0 0 10)) 27 (va_cpy (h 286) (h 27) 0 0 10)) 28 (va_cpy (h 287) (h 28) 0 0 10)) 29 (va_cpy (h 288) (h 29) 0 0 10)) 30 (va_cpy (h 289) (h 30) 0 0 10)) 31 (va_cpy (h 290) (h 31) 0 0 120)) 32 (va_cpy (h 291) (h 32) 0 0 40)) 33 (va_cpy (h 292) (h 33) 0 0 40)) 34 (va_cpy (h 293) (h 34) 0 0 40)) 35 (va_cpy (h 294) (h 35) 0 0 60)) 36 (va_cpy (h 295) (h 36) 0 0 60)) 37 (va_cpy (h 296) (h 37) 0 0 60)) 38 (va_cpy (h 297) (h 38) 0 0 60))) C dX5_copyFrom_180 k5_70 v_X11_copyRow rfl rfl (by decide) (Nat.zero_le _) (Nat.zero_le _) (Nat.le_of_ble_eq_true rfl) (c_X11_copyRow hR 297 38 60 bn_297 sh_297 bn_38 sh_38 (by decide)) ?_
  refine am_aload_n (pc := 183) C dX5_copyFrom_183 rfl ?_
  refine am_getR (pc := 184) (j := 298) C dX5_copyFrom_184 f5_55 bn_284 sh_284 (rf_284_18 hR) ?_
  refine am_aload_n (pc := 187) C dX5_copyFrom_187 rfl ?_
  refine am_getR (pc := 188) (j := 39) C dX5_copyFrom_188 f5_55 bn_25 sh_25 (rf_25_18 hR) ?_
  refine am_callSNv (Y := mX11_copyRow) (pc := 191) (st := []) (As := [.ref 298, .ref 39]) (h2 := (am_row (am_row (am_row (am_row (am_row (am_row (am_row (am_row (am_row (am_row (am_row (am_row (am_row (am_row (am_row h 25 (upd (upd (upd (upd (upd (h 25) 0 ((h 284) 0)) 1 ((h 284) 1)) 2 ((h 284) 2)) 3 ((h 284) 3)) 4 ((h 284) 4))) 26 (va_cpy (h 285) (h 26) 0 0 10)) 27 (va_cpy (h 286) (h 27) 0 0 10)) 28 (va_cpy (h 287) (h 28) 0 0 10)) 29 (va_cpy (h 288) (h 29) 0 0 10)) 30 (va_cpy (h 289) (h 30) 0 0 10)) 31 (va_cpy (h 290) (h 31) 0 0 120)) 32 (va_cpy (h 291) (h 32) 0 0 40)) 33 (va_cpy (h 292) (h 33) 0 0 40)) 34 (va_cpy (h 293) (h 34) 0 0 40)) 35 (va_cpy (h 294) (h 35) 0 0 60)) 36 (va_cpy (h 295) (h 36) 0 0 60)) 37 (va_cpy (h 296) (h 37) 0 0 60)) 38 (va_cpy (h 297) (h 38) 0 0 60)) 39 (va_cpy (h 298) (h 39) 0 0 60))) C dX5_copyFrom_191 k5_70 v_X11_copyRow rfl rfl (by decide) (Nat.zero_le _) (Nat.zero_le _) (Nat.le_of_ble_eq_true rfl) (c_X11_copyRow hR 298 39 60 bn_298 sh_298 bn_39 sh_39 (by decide)) ?_
  exact am_vretvr T dX5_copyFrom_194 rfl (Nat.le_refl _) (Nat.le_refl _) rfl ⟨cl_Sc_cpy hV hSc rfl rfl rfl rfl rfl (fun k hk => va_cpy_0 hk) (fun k hk => va_cpy_0 hk) (fun k hk => va_cpy_0 hk) (fun k hk => va_cpy_0 hk) (fun k hk => va_cpy_0 hk) (fun k hk => va_cpy_0 hk) (fun k hk => va_cpy_0 hk) (fun k hk => va_cpy_0 hk) (fun k hk => va_cpy_0 hk) (fun k hk => va_cpy_0 hk) (fun k hk => va_cpy_0 hk) (fun k hk => va_cpy_0 hk) (fun k hk => va_cpy_0 hk) (fun k hk => va_cpy_0 hk), (fun i9 h9 => by rw [am_row_ne _ _ _ (by omega), am_row_ne _ _ _ (by omega), am_row_ne _ _ _ (by omega), am_row_ne _ _ _ (by omega), am_row_ne _ _ _ (by omega), am_row_ne _ _ _ (by omega), am_row_ne _ _ _ (by omega), am_row_ne _ _ _ (by omega), am_row_ne _ _ _ (by omega), am_row_ne _ _ _ (by omega), am_row_ne _ _ _ (by omega), am_row_ne _ _ _ (by omega), am_row_ne _ _ _ (by omega), am_row_ne _ _ _ (by omega), am_row_ne _ _ _ (by omega)])⟩

set_option maxHeartbeats 400000 in
set_option maxRecDepth 100000 in
theorem c_X5_copyFrom_d_t11 {ad : Nat → Nat} {r : am_R} (hR : am_rs r) {h : am_H}  (w : rf_W) (hV : rf_I w) (hSc : cl_Sc (h) 299 w)  : am_CM mX5_copyFrom 3 0 0 [.ref 25, .ref 299] (am_VV ad) r h (am_pr none r (fun c9 => cl_Sc c9 25 w ∧ cl_fr (h) c9 25 15)) := by
  refine am_CM.of (by decide +kernel) (Nat.le_of_ble_eq_true rfl) (fun X C T => ?_)
  show am_G X (am_VV ad) (0, 0) 0 [(0, .ref 25), (1, .ref 299)] [] r h
  refine am_aload_n (pc := 0) C dX5_copyFrom_0 rfl ?_
  refine am_aload_n (pc := 1) C dX5_copyFrom_1 rfl ?_
  refine am_getI (pc := 2) C dX5_copyFrom_2 f5_58 bn_299 sh_299 ?_
  refine am_putI (pc := 5) C dX5_copyFrom_5 f5_58 bn_25 sh_25 rfl rfl ?_
  refine am_hp (show am_up h 25 0 ((h 299) 0) = am_row h 25 (upd (h 25) 0 ((h 299) 0)) from am_up_rw _ _ _ _) ?_
  refine am_aload_n (pc := 8) C dX5_copyFrom_8 rfl ?_
  refine am_aload_n (pc := 9) C dX5_copyFrom_9 rfl ?_
  refine am_getI (pc := 10) C dX5_copyFrom_10 f5_9 bn_299 sh_299 ?_
  refine am_putI (pc := 13) C dX5_copyFrom_13 f5_9 bn_25 sh_25 rfl rfl ?_
  refine am_hp (show am_up (am_row h 25 (upd (h 25) 0 ((h 299) 0))) 25 1 ((h 299) 1) = am_row (am_row h 25 (upd (h 25) 0 ((h 299) 0))) 25 (upd (upd (h 25) 0 ((h 299) 0)) 1 ((h 299) 1)) from am_up_rw _ _ _ _) ?_
  refine am_hp (show am_row (am_row h 25 (upd (h 25) 0 ((h 299) 0))) 25 (upd (upd (h 25) 0 ((h 299) 0)) 1 ((h 299) 1)) = (am_row h 25 (upd (upd (h 25) 0 ((h 299) 0)) 1 ((h 299) 1))) from am_row_s0) ?_
  refine am_aload_n (pc := 16) C dX5_copyFrom_16 rfl ?_
  refine am_aload_n (pc := 17) C dX5_copyFrom_17 rfl ?_
  refine am_getI (pc := 18) C dX5_copyFrom_18 f5_61 bn_299 sh_299 ?_
  refine am_putI (pc := 21) C dX5_copyFrom_21 f5_61 bn_25 sh_25 rfl rfl ?_
  refine am_hp (show am_up (am_row h 25 (upd (upd (h 25) 0 ((h 299) 0)) 1 ((h 299) 1))) 25 2 ((h 299) 2) = am_row (am_row h 25 (upd (upd (h 25) 0 ((h 299) 0)) 1 ((h 299) 1))) 25 (upd (upd (upd (h 25) 0 ((h 299) 0)) 1 ((h 299) 1)) 2 ((h 299) 2)) from am_up_rw _ _ _ _) ?_
  refine am_hp (show am_row (am_row h 25 (upd (upd (h 25) 0 ((h 299) 0)) 1 ((h 299) 1))) 25 (upd (upd (upd (h 25) 0 ((h 299) 0)) 1 ((h 299) 1)) 2 ((h 299) 2)) = (am_row h 25 (upd (upd (upd (h 25) 0 ((h 299) 0)) 1 ((h 299) 1)) 2 ((h 299) 2))) from am_row_s0) ?_
  refine am_aload_n (pc := 24) C dX5_copyFrom_24 rfl ?_
  refine am_aload_n (pc := 25) C dX5_copyFrom_25 rfl ?_
  refine am_getI (pc := 26) C dX5_copyFrom_26 f5_64 bn_299 sh_299 ?_
  refine am_putI (pc := 29) C dX5_copyFrom_29 f5_64 bn_25 sh_25 rfl rfl ?_
  refine am_hp (show am_up (am_row h 25 (upd (upd (upd (h 25) 0 ((h 299) 0)) 1 ((h 299) 1)) 2 ((h 299) 2))) 25 3 ((h 299) 3) = am_row (am_row h 25 (upd (upd (upd (h 25) 0 ((h 299) 0)) 1 ((h 299) 1)) 2 ((h 299) 2))) 25 (upd (upd (upd (upd (h 25) 0 ((h 299) 0)) 1 ((h 299) 1)) 2 ((h 299) 2)) 3 ((h 299) 3)) from am_up_rw _ _ _ _) ?_
  refine am_hp (show am_row (am_row h 25 (upd (upd (upd (h 25) 0 ((h 299) 0)) 1 ((h 299) 1)) 2 ((h 299) 2))) 25 (upd (upd (upd (upd (h 25) 0 ((h 299) 0)) 1 ((h 299) 1)) 2 ((h 299) 2)) 3 ((h 299) 3)) = (am_row h 25 (upd (upd (upd (upd (h 25) 0 ((h 299) 0)) 1 ((h 299) 1)) 2 ((h 299) 2)) 3 ((h 299) 3))) from am_row_s0) ?_
  refine am_aload_n (pc := 32) C dX5_copyFrom_32 rfl ?_
  refine am_aload_n (pc := 33) C dX5_copyFrom_33 rfl ?_
  refine am_getI (pc := 34) C dX5_copyFrom_34 f5_67 bn_299 sh_299 ?_
  refine am_putI (pc := 37) C dX5_copyFrom_37 f5_67 bn_25 sh_25 rfl rfl ?_
  refine am_hp (show am_up (am_row h 25 (upd (upd (upd (upd (h 25) 0 ((h 299) 0)) 1 ((h 299) 1)) 2 ((h 299) 2)) 3 ((h 299) 3))) 25 4 ((h 299) 4) = am_row (am_row h 25 (upd (upd (upd (upd (h 25) 0 ((h 299) 0)) 1 ((h 299) 1)) 2 ((h 299) 2)) 3 ((h 299) 3))) 25 (upd (upd (upd (upd (upd (h 25) 0 ((h 299) 0)) 1 ((h 299) 1)) 2 ((h 299) 2)) 3 ((h 299) 3)) 4 ((h 299) 4)) from am_up_rw _ _ _ _) ?_
  refine am_hp (show am_row (am_row h 25 (upd (upd (upd (upd (h 25) 0 ((h 299) 0)) 1 ((h 299) 1)) 2 ((h 299) 2)) 3 ((h 299) 3))) 25 (upd (upd (upd (upd (upd (h 25) 0 ((h 299) 0)) 1 ((h 299) 1)) 2 ((h 299) 2)) 3 ((h 299) 3)) 4 ((h 299) 4)) = (am_row h 25 (upd (upd (upd (upd (upd (h 25) 0 ((h 299) 0)) 1 ((h 299) 1)) 2 ((h 299) 2)) 3 ((h 299) 3)) 4 ((h 299) 4))) from am_row_s0) ?_
  refine am_aload_n (pc := 40) C dX5_copyFrom_40 rfl ?_
  refine am_getR (pc := 41) (j := 300) C dX5_copyFrom_41 f5_15 bn_299 sh_299 (rf_299_5 hR) ?_
  refine am_aload_n (pc := 44) C dX5_copyFrom_44 rfl ?_
  refine am_getR (pc := 45) (j := 26) C dX5_copyFrom_45 f5_15 bn_25 sh_25 (rf_25_5 hR) ?_
  refine am_callSNv (Y := mX11_copyRow) (pc := 48) (st := []) (As := [.ref 300, .ref 26]) (h2 := (am_row (am_row h 25 (upd (upd (upd (upd (upd (h 25) 0 ((h 299) 0)) 1 ((h 299) 1)) 2 ((h 299) 2)) 3 ((h 299) 3)) 4 ((h 299) 4))) 26 (va_cpy (h 300) (h 26) 0 0 10))) C dX5_copyFrom_48 k5_70 v_X11_copyRow rfl rfl (by decide) (Nat.zero_le _) (Nat.zero_le _) (Nat.le_of_ble_eq_true rfl) (c_X11_copyRow hR 300 26 10 bn_300 sh_300 bn_26 sh_26 (by decide)) ?_
  refine am_aload_n (pc := 51) C dX5_copyFrom_51 rfl ?_
  refine am_getR (pc := 52) (j := 301) C dX5_copyFrom_52 f5_19 bn_299 sh_299 (rf_299_6 hR) ?_
  refine am_aload_n (pc := 55) C dX5_copyFrom_55 rfl ?_
  refine am_getR (pc := 56) (j := 27) C dX5_copyFrom_56 f5_19 bn_25 sh_25 (rf_25_6 hR) ?_
  refine am_callSNv (Y := mX11_copyRow) (pc := 59) (st := []) (As := [.ref 301, .ref 27]) (h2 := (am_row (am_row (am_row h 25 (upd (upd (upd (upd (upd (h 25) 0 ((h 299) 0)) 1 ((h 299) 1)) 2 ((h 299) 2)) 3 ((h 299) 3)) 4 ((h 299) 4))) 26 (va_cpy (h 300) (h 26) 0 0 10)) 27 (va_cpy (h 301) (h 27) 0 0 10))) C dX5_copyFrom_59 k5_70 v_X11_copyRow rfl rfl (by decide) (Nat.zero_le _) (Nat.zero_le _) (Nat.le_of_ble_eq_true rfl) (c_X11_copyRow hR 301 27 10 bn_301 sh_301 bn_27 sh_27 (by decide)) ?_
  refine am_aload_n (pc := 62) C dX5_copyFrom_62 rfl ?_
  refine am_getR (pc := 63) (j := 302) C dX5_copyFrom_63 f5_22 bn_299 sh_299 (rf_299_7 hR) ?_
  refine am_aload_n (pc := 66) C dX5_copyFrom_66 rfl ?_
  refine am_getR (pc := 67) (j := 28) C dX5_copyFrom_67 f5_22 bn_25 sh_25 (rf_25_7 hR) ?_
  refine am_callSNv (Y := mX11_copyRow) (pc := 70) (st := []) (As := [.ref 302, .ref 28]) (h2 := (am_row (am_row (am_row (am_row h 25 (upd (upd (upd (upd (upd (h 25) 0 ((h 299) 0)) 1 ((h 299) 1)) 2 ((h 299) 2)) 3 ((h 299) 3)) 4 ((h 299) 4))) 26 (va_cpy (h 300) (h 26) 0 0 10)) 27 (va_cpy (h 301) (h 27) 0 0 10)) 28 (va_cpy (h 302) (h 28) 0 0 10))) C dX5_copyFrom_70 k5_70 v_X11_copyRow rfl rfl (by decide) (Nat.zero_le _) (Nat.zero_le _) (Nat.le_of_ble_eq_true rfl) (c_X11_copyRow hR 302 28 10 bn_302 sh_302 bn_28 sh_28 (by decide)) ?_
  refine am_aload_n (pc := 73) C dX5_copyFrom_73 rfl ?_
  refine am_getR (pc := 74) (j := 303) C dX5_copyFrom_74 f5_25 bn_299 sh_299 (rf_299_8 hR) ?_
  refine am_aload_n (pc := 77) C dX5_copyFrom_77 rfl ?_
  refine am_getR (pc := 78) (j := 29) C dX5_copyFrom_78 f5_25 bn_25 sh_25 (rf_25_8 hR) ?_
  refine am_callSNv (Y := mX11_copyRow) (pc := 81) (st := []) (As := [.ref 303, .ref 29]) (h2 := (am_row (am_row (am_row (am_row (am_row h 25 (upd (upd (upd (upd (upd (h 25) 0 ((h 299) 0)) 1 ((h 299) 1)) 2 ((h 299) 2)) 3 ((h 299) 3)) 4 ((h 299) 4))) 26 (va_cpy (h 300) (h 26) 0 0 10)) 27 (va_cpy (h 301) (h 27) 0 0 10)) 28 (va_cpy (h 302) (h 28) 0 0 10)) 29 (va_cpy (h 303) (h 29) 0 0 10))) C dX5_copyFrom_81 k5_70 v_X11_copyRow rfl rfl (by decide) (Nat.zero_le _) (Nat.zero_le _) (Nat.le_of_ble_eq_true rfl) (c_X11_copyRow hR 303 29 10 bn_303 sh_303 bn_29 sh_29 (by decide)) ?_
  refine am_aload_n (pc := 84) C dX5_copyFrom_84 rfl ?_
  refine am_getR (pc := 85) (j := 304) C dX5_copyFrom_85 f5_28 bn_299 sh_299 (rf_299_9 hR) ?_
  refine am_aload_n (pc := 88) C dX5_copyFrom_88 rfl ?_
  refine am_getR (pc := 89) (j := 30) C dX5_copyFrom_89 f5_28 bn_25 sh_25 (rf_25_9 hR) ?_
  refine am_callSNv (Y := mX11_copyRow) (pc := 92) (st := []) (As := [.ref 304, .ref 30]) (h2 := (am_row (am_row (am_row (am_row (am_row (am_row h 25 (upd (upd (upd (upd (upd (h 25) 0 ((h 299) 0)) 1 ((h 299) 1)) 2 ((h 299) 2)) 3 ((h 299) 3)) 4 ((h 299) 4))) 26 (va_cpy (h 300) (h 26) 0 0 10)) 27 (va_cpy (h 301) (h 27) 0 0 10)) 28 (va_cpy (h 302) (h 28) 0 0 10)) 29 (va_cpy (h 303) (h 29) 0 0 10)) 30 (va_cpy (h 304) (h 30) 0 0 10))) C dX5_copyFrom_92 k5_70 v_X11_copyRow rfl rfl (by decide) (Nat.zero_le _) (Nat.zero_le _) (Nat.le_of_ble_eq_true rfl) (c_X11_copyRow hR 304 30 10 bn_304 sh_304 bn_30 sh_30 (by decide)) ?_
  refine am_aload_n (pc := 95) C dX5_copyFrom_95 rfl ?_
  refine am_getR (pc := 96) (j := 305) C dX5_copyFrom_96 f5_31 bn_299 sh_299 (rf_299_10 hR) ?_
  refine am_aload_n (pc := 99) C dX5_copyFrom_99 rfl ?_
  refine am_getR (pc := 100) (j := 31) C dX5_copyFrom_100 f5_31 bn_25 sh_25 (rf_25_10 hR) ?_
  refine am_callSNv (Y := mX11_copyRow) (pc := 103) (st := []) (As := [.ref 305, .ref 31]) (h2 := (am_row (am_row (am_row (am_row (am_row (am_row (am_row h 25 (upd (upd (upd (upd (upd (h 25) 0 ((h 299) 0)) 1 ((h 299) 1)) 2 ((h 299) 2)) 3 ((h 299) 3)) 4 ((h 299) 4))) 26 (va_cpy (h 300) (h 26) 0 0 10)) 27 (va_cpy (h 301) (h 27) 0 0 10)) 28 (va_cpy (h 302) (h 28) 0 0 10)) 29 (va_cpy (h 303) (h 29) 0 0 10)) 30 (va_cpy (h 304) (h 30) 0 0 10)) 31 (va_cpy (h 305) (h 31) 0 0 120))) C dX5_copyFrom_103 k5_70 v_X11_copyRow rfl rfl (by decide) (Nat.zero_le _) (Nat.zero_le _) (Nat.le_of_ble_eq_true rfl) (c_X11_copyRow hR 305 31 120 bn_305 sh_305 bn_31 sh_31 (by decide)) ?_
  refine am_aload_n (pc := 106) C dX5_copyFrom_106 rfl ?_
  refine am_getR (pc := 107) (j := 306) C dX5_copyFrom_107 f5_34 bn_299 sh_299 (rf_299_11 hR) ?_
  refine am_aload_n (pc := 110) C dX5_copyFrom_110 rfl ?_
  refine am_getR (pc := 111) (j := 32) C dX5_copyFrom_111 f5_34 bn_25 sh_25 (rf_25_11 hR) ?_
  refine am_callSNv (Y := mX11_copyRow) (pc := 114) (st := []) (As := [.ref 306, .ref 32]) (h2 := (am_row (am_row (am_row (am_row (am_row (am_row (am_row (am_row h 25 (upd (upd (upd (upd (upd (h 25) 0 ((h 299) 0)) 1 ((h 299) 1)) 2 ((h 299) 2)) 3 ((h 299) 3)) 4 ((h 299) 4))) 26 (va_cpy (h 300) (h 26) 0 0 10)) 27 (va_cpy (h 301) (h 27) 0 0 10)) 28 (va_cpy (h 302) (h 28) 0 0 10)) 29 (va_cpy (h 303) (h 29) 0 0 10)) 30 (va_cpy (h 304) (h 30) 0 0 10)) 31 (va_cpy (h 305) (h 31) 0 0 120)) 32 (va_cpy (h 306) (h 32) 0 0 40))) C dX5_copyFrom_114 k5_70 v_X11_copyRow rfl rfl (by decide) (Nat.zero_le _) (Nat.zero_le _) (Nat.le_of_ble_eq_true rfl) (c_X11_copyRow hR 306 32 40 bn_306 sh_306 bn_32 sh_32 (by decide)) ?_
  refine am_aload_n (pc := 117) C dX5_copyFrom_117 rfl ?_
  refine am_getR (pc := 118) (j := 307) C dX5_copyFrom_118 f5_37 bn_299 sh_299 (rf_299_12 hR) ?_
  refine am_aload_n (pc := 121) C dX5_copyFrom_121 rfl ?_
  refine am_getR (pc := 122) (j := 33) C dX5_copyFrom_122 f5_37 bn_25 sh_25 (rf_25_12 hR) ?_
  refine am_callSNv (Y := mX11_copyRow) (pc := 125) (st := []) (As := [.ref 307, .ref 33]) (h2 := (am_row (am_row (am_row (am_row (am_row (am_row (am_row (am_row (am_row h 25 (upd (upd (upd (upd (upd (h 25) 0 ((h 299) 0)) 1 ((h 299) 1)) 2 ((h 299) 2)) 3 ((h 299) 3)) 4 ((h 299) 4))) 26 (va_cpy (h 300) (h 26) 0 0 10)) 27 (va_cpy (h 301) (h 27) 0 0 10)) 28 (va_cpy (h 302) (h 28) 0 0 10)) 29 (va_cpy (h 303) (h 29) 0 0 10)) 30 (va_cpy (h 304) (h 30) 0 0 10)) 31 (va_cpy (h 305) (h 31) 0 0 120)) 32 (va_cpy (h 306) (h 32) 0 0 40)) 33 (va_cpy (h 307) (h 33) 0 0 40))) C dX5_copyFrom_125 k5_70 v_X11_copyRow rfl rfl (by decide) (Nat.zero_le _) (Nat.zero_le _) (Nat.le_of_ble_eq_true rfl) (c_X11_copyRow hR 307 33 40 bn_307 sh_307 bn_33 sh_33 (by decide)) ?_
  refine am_aload_n (pc := 128) C dX5_copyFrom_128 rfl ?_
  refine am_getR (pc := 129) (j := 308) C dX5_copyFrom_129 f5_40 bn_299 sh_299 (rf_299_13 hR) ?_
  refine am_aload_n (pc := 132) C dX5_copyFrom_132 rfl ?_
  refine am_getR (pc := 133) (j := 34) C dX5_copyFrom_133 f5_40 bn_25 sh_25 (rf_25_13 hR) ?_
  refine am_callSNv (Y := mX11_copyRow) (pc := 136) (st := []) (As := [.ref 308, .ref 34]) (h2 := (am_row (am_row (am_row (am_row (am_row (am_row (am_row (am_row (am_row (am_row h 25 (upd (upd (upd (upd (upd (h 25) 0 ((h 299) 0)) 1 ((h 299) 1)) 2 ((h 299) 2)) 3 ((h 299) 3)) 4 ((h 299) 4))) 26 (va_cpy (h 300) (h 26) 0 0 10)) 27 (va_cpy (h 301) (h 27) 0 0 10)) 28 (va_cpy (h 302) (h 28) 0 0 10)) 29 (va_cpy (h 303) (h 29) 0 0 10)) 30 (va_cpy (h 304) (h 30) 0 0 10)) 31 (va_cpy (h 305) (h 31) 0 0 120)) 32 (va_cpy (h 306) (h 32) 0 0 40)) 33 (va_cpy (h 307) (h 33) 0 0 40)) 34 (va_cpy (h 308) (h 34) 0 0 40))) C dX5_copyFrom_136 k5_70 v_X11_copyRow rfl rfl (by decide) (Nat.zero_le _) (Nat.zero_le _) (Nat.le_of_ble_eq_true rfl) (c_X11_copyRow hR 308 34 40 bn_308 sh_308 bn_34 sh_34 (by decide)) ?_
  refine am_aload_n (pc := 139) C dX5_copyFrom_139 rfl ?_
  refine am_getR (pc := 140) (j := 309) C dX5_copyFrom_140 f5_43 bn_299 sh_299 (rf_299_14 hR) ?_
  refine am_aload_n (pc := 143) C dX5_copyFrom_143 rfl ?_
  refine am_getR (pc := 144) (j := 35) C dX5_copyFrom_144 f5_43 bn_25 sh_25 (rf_25_14 hR) ?_
  refine am_callSNv (Y := mX11_copyRow) (pc := 147) (st := []) (As := [.ref 309, .ref 35]) (h2 := (am_row (am_row (am_row (am_row (am_row (am_row (am_row (am_row (am_row (am_row (am_row h 25 (upd (upd (upd (upd (upd (h 25) 0 ((h 299) 0)) 1 ((h 299) 1)) 2 ((h 299) 2)) 3 ((h 299) 3)) 4 ((h 299) 4))) 26 (va_cpy (h 300) (h 26) 0 0 10)) 27 (va_cpy (h 301) (h 27) 0 0 10)) 28 (va_cpy (h 302) (h 28) 0 0 10)) 29 (va_cpy (h 303) (h 29) 0 0 10)) 30 (va_cpy (h 304) (h 30) 0 0 10)) 31 (va_cpy (h 305) (h 31) 0 0 120)) 32 (va_cpy (h 306) (h 32) 0 0 40)) 33 (va_cpy (h 307) (h 33) 0 0 40)) 34 (va_cpy (h 308) (h 34) 0 0 40)) 35 (va_cpy (h 309) (h 35) 0 0 60))) C dX5_copyFrom_147 k5_70 v_X11_copyRow rfl rfl (by decide) (Nat.zero_le _) (Nat.zero_le _) (Nat.le_of_ble_eq_true rfl) (c_X11_copyRow hR 309 35 60 bn_309 sh_309 bn_35 sh_35 (by decide)) ?_
  refine am_aload_n (pc := 150) C dX5_copyFrom_150 rfl ?_
  refine am_getR (pc := 151) (j := 310) C dX5_copyFrom_151 f5_46 bn_299 sh_299 (rf_299_15 hR) ?_
  refine am_aload_n (pc := 154) C dX5_copyFrom_154 rfl ?_
  refine am_getR (pc := 155) (j := 36) C dX5_copyFrom_155 f5_46 bn_25 sh_25 (rf_25_15 hR) ?_
  refine am_callSNv (Y := mX11_copyRow) (pc := 158) (st := []) (As := [.ref 310, .ref 36]) (h2 := (am_row (am_row (am_row (am_row (am_row (am_row (am_row (am_row (am_row (am_row (am_row (am_row h 25 (upd (upd (upd (upd (upd (h 25) 0 ((h 299) 0)) 1 ((h 299) 1)) 2 ((h 299) 2)) 3 ((h 299) 3)) 4 ((h 299) 4))) 26 (va_cpy (h 300) (h 26) 0 0 10)) 27 (va_cpy (h 301) (h 27) 0 0 10)) 28 (va_cpy (h 302) (h 28) 0 0 10)) 29 (va_cpy (h 303) (h 29) 0 0 10)) 30 (va_cpy (h 304) (h 30) 0 0 10)) 31 (va_cpy (h 305) (h 31) 0 0 120)) 32 (va_cpy (h 306) (h 32) 0 0 40)) 33 (va_cpy (h 307) (h 33) 0 0 40)) 34 (va_cpy (h 308) (h 34) 0 0 40)) 35 (va_cpy (h 309) (h 35) 0 0 60)) 36 (va_cpy (h 310) (h 36) 0 0 60))) C dX5_copyFrom_158 k5_70 v_X11_copyRow rfl rfl (by decide) (Nat.zero_le _) (Nat.zero_le _) (Nat.le_of_ble_eq_true rfl) (c_X11_copyRow hR 310 36 60 bn_310 sh_310 bn_36 sh_36 (by decide)) ?_
  refine am_aload_n (pc := 161) C dX5_copyFrom_161 rfl ?_
  refine am_getR (pc := 162) (j := 311) C dX5_copyFrom_162 f5_49 bn_299 sh_299 (rf_299_16 hR) ?_
  refine am_aload_n (pc := 165) C dX5_copyFrom_165 rfl ?_
  refine am_getR (pc := 166) (j := 37) C dX5_copyFrom_166 f5_49 bn_25 sh_25 (rf_25_16 hR) ?_
  refine am_callSNv (Y := mX11_copyRow) (pc := 169) (st := []) (As := [.ref 311, .ref 37]) (h2 := (am_row (am_row (am_row (am_row (am_row (am_row (am_row (am_row (am_row (am_row (am_row (am_row (am_row h 25 (upd (upd (upd (upd (upd (h 25) 0 ((h 299) 0)) 1 ((h 299) 1)) 2 ((h 299) 2)) 3 ((h 299) 3)) 4 ((h 299) 4))) 26 (va_cpy (h 300) (h 26) 0 0 10)) 27 (va_cpy (h 301) (h 27) 0 0 10)) 28 (va_cpy (h 302) (h 28) 0 0 10)) 29 (va_cpy (h 303) (h 29) 0 0 10)) 30 (va_cpy (h 304) (h 30) 0 0 10)) 31 (va_cpy (h 305) (h 31) 0 0 120)) 32 (va_cpy (h 306) (h 32) 0 0 40)) 33 (va_cpy (h 307) (h 33) 0 0 40)) 34 (va_cpy (h 308) (h 34) 0 0 40)) 35 (va_cpy (h 309) (h 35) 0 0 60)) 36 (va_cpy (h 310) (h 36) 0 0 60)) 37 (va_cpy (h 311) (h 37) 0 0 60))) C dX5_copyFrom_169 k5_70 v_X11_copyRow rfl rfl (by decide) (Nat.zero_le _) (Nat.zero_le _) (Nat.le_of_ble_eq_true rfl) (c_X11_copyRow hR 311 37 60 bn_311 sh_311 bn_37 sh_37 (by decide)) ?_
  refine am_aload_n (pc := 172) C dX5_copyFrom_172 rfl ?_
  refine am_getR (pc := 173) (j := 312) C dX5_copyFrom_173 f5_52 bn_299 sh_299 (rf_299_17 hR) ?_
  refine am_aload_n (pc := 176) C dX5_copyFrom_176 rfl ?_
  refine am_getR (pc := 177) (j := 38) C dX5_copyFrom_177 f5_52 bn_25 sh_25 (rf_25_17 hR) ?_
  refine am_callSNv (Y := mX11_copyRow) (pc := 180) (st := []) (As := [.ref 312, .ref 38]) (h2 := (am_row (am_row (am_row (am_row (am_row (am_row (am_row (am_row (am_row (am_row (am_row (am_row (am_row (am_row h 25 (upd (upd (upd (upd (upd (h 25) 0 ((h 299) 0)) 1 ((h 299) 1)) 2 ((h 299) 2)) 3 ((h 299) 3)) 4 ((h 299) 4))) 26 (va_cpy (h 300) (h 26) 0 0 10)) 27 (va_cpy (h 301) (h 27) 0 0 10)) 28 (va_cpy (h 302) (h 28) 0 0 10)) 29 (va_cpy (h 303) (h 29) 0 0 10)) 30 (va_cpy (h 304) (h 30) 0 0 10)) 31 (va_cpy (h 305) (h 31) 0 0 120)) 32 (va_cpy (h 306) (h 32) 0 0 40)) 33 (va_cpy (h 307) (h 33) 0 0 40)) 34 (va_cpy (h 308) (h 34) 0 0 40)) 35 (va_cpy (h 309) (h 35) 0 0 60)) 36 (va_cpy (h 310) (h 36) 0 0 60)) 37 (va_cpy (h 311) (h 37) 0 0 60)) 38 (va_cpy (h 312) (h 38) 0 0 60))) C dX5_copyFrom_180 k5_70 v_X11_copyRow rfl rfl (by decide) (Nat.zero_le _) (Nat.zero_le _) (Nat.le_of_ble_eq_true rfl) (c_X11_copyRow hR 312 38 60 bn_312 sh_312 bn_38 sh_38 (by decide)) ?_
  refine am_aload_n (pc := 183) C dX5_copyFrom_183 rfl ?_
  refine am_getR (pc := 184) (j := 313) C dX5_copyFrom_184 f5_55 bn_299 sh_299 (rf_299_18 hR) ?_
  refine am_aload_n (pc := 187) C dX5_copyFrom_187 rfl ?_
  refine am_getR (pc := 188) (j := 39) C dX5_copyFrom_188 f5_55 bn_25 sh_25 (rf_25_18 hR) ?_
  refine am_callSNv (Y := mX11_copyRow) (pc := 191) (st := []) (As := [.ref 313, .ref 39]) (h2 := (am_row (am_row (am_row (am_row (am_row (am_row (am_row (am_row (am_row (am_row (am_row (am_row (am_row (am_row (am_row h 25 (upd (upd (upd (upd (upd (h 25) 0 ((h 299) 0)) 1 ((h 299) 1)) 2 ((h 299) 2)) 3 ((h 299) 3)) 4 ((h 299) 4))) 26 (va_cpy (h 300) (h 26) 0 0 10)) 27 (va_cpy (h 301) (h 27) 0 0 10)) 28 (va_cpy (h 302) (h 28) 0 0 10)) 29 (va_cpy (h 303) (h 29) 0 0 10)) 30 (va_cpy (h 304) (h 30) 0 0 10)) 31 (va_cpy (h 305) (h 31) 0 0 120)) 32 (va_cpy (h 306) (h 32) 0 0 40)) 33 (va_cpy (h 307) (h 33) 0 0 40)) 34 (va_cpy (h 308) (h 34) 0 0 40)) 35 (va_cpy (h 309) (h 35) 0 0 60)) 36 (va_cpy (h 310) (h 36) 0 0 60)) 37 (va_cpy (h 311) (h 37) 0 0 60)) 38 (va_cpy (h 312) (h 38) 0 0 60)) 39 (va_cpy (h 313) (h 39) 0 0 60))) C dX5_copyFrom_191 k5_70 v_X11_copyRow rfl rfl (by decide) (Nat.zero_le _) (Nat.zero_le _) (Nat.le_of_ble_eq_true rfl) (c_X11_copyRow hR 313 39 60 bn_313 sh_313 bn_39 sh_39 (by decide)) ?_
  exact am_vretvr T dX5_copyFrom_194 rfl (Nat.le_refl _) (Nat.le_refl _) rfl ⟨cl_Sc_cpy hV hSc rfl rfl rfl rfl rfl (fun k hk => va_cpy_0 hk) (fun k hk => va_cpy_0 hk) (fun k hk => va_cpy_0 hk) (fun k hk => va_cpy_0 hk) (fun k hk => va_cpy_0 hk) (fun k hk => va_cpy_0 hk) (fun k hk => va_cpy_0 hk) (fun k hk => va_cpy_0 hk) (fun k hk => va_cpy_0 hk) (fun k hk => va_cpy_0 hk) (fun k hk => va_cpy_0 hk) (fun k hk => va_cpy_0 hk) (fun k hk => va_cpy_0 hk) (fun k hk => va_cpy_0 hk), (fun i9 h9 => by rw [am_row_ne _ _ _ (by omega), am_row_ne _ _ _ (by omega), am_row_ne _ _ _ (by omega), am_row_ne _ _ _ (by omega), am_row_ne _ _ _ (by omega), am_row_ne _ _ _ (by omega), am_row_ne _ _ _ (by omega), am_row_ne _ _ _ (by omega), am_row_ne _ _ _ (by omega), am_row_ne _ _ _ (by omega), am_row_ne _ _ _ (by omega), am_row_ne _ _ _ (by omega), am_row_ne _ _ _ (by omega), am_row_ne _ _ _ (by omega), am_row_ne _ _ _ (by omega)])⟩

