/-! THE CLASS: a soldier enters the draft -/

set_option maxHeartbeats 400000 in
set_option maxRecDepth 100000 in
theorem c_X10_enter_d {ad : Nat → Nat} {r : am_R} (hR : am_rs r) {h : am_H} (s : Nat) (hs : s < 10)  : am_CM mX10_enter 1 0 0 [.ref 56, .int (nI s)] (am_VV ad) r h (am_po none r (am_row (am_row (am_row (am_row (am_row h 79 (upd (h 79) s (nI 0))) 80 (upd (h 80) s ((h 66) (s * 6)))) 81 (upd (h 81) s (nI 0))) 82 (upd (h 82) s (nI 0))) 83 (upd (h 83) s (nI 0)))) := by
  refine am_CM.of (by decide +kernel) (Nat.le_of_ble_eq_true rfl) (fun X C T => ?_)
  show am_G X (am_VV ad) (0, 0) 0 [(0, .ref 56), (1, .int (nI s))] [] r h
  refine am_aload_n (pc := 0) C dX10_enter_0 rfl ?_
  refine am_getR (pc := 1) (j := 78) C dX10_enter_1 f10_22 bn_56 sh_56 (rf_56_2 hR) ?_
  refine am_getR (pc := 4) (j := 79) C dX10_enter_4 f10_40 bn_78 sh_78 (rf_78_5 hR) ?_
  refine am_iload_n (pc := 7) C dX10_enter_7 rfl ?_
  refine am_iconstN (pc := 8) (k := 0) C dX10_enter_8 ?_
  refine am_callSNv (Y := mX11_put) (pc := 9) (st := []) (As := [.ref 79, .int (nI s), .int (nI 0)]) (h2 := (am_row h 79 (upd (h 79) s (nI 0)))) C dX10_enter_9 k10_44 v_X11_put rfl rfl (by decide) (Nat.zero_le _) (Nat.zero_le _) (Nat.le_of_ble_eq_true rfl) (c_X11_put 79 s (nI 0) 10 bn_79 sh_79 (show s < 10 from by omega) (by decide)) ?_
  refine am_aload_n (pc := 12) C dX10_enter_12 rfl ?_
  refine am_getR (pc := 13) (j := 78) C dX10_enter_13 f10_22 bn_56 sh_56 (rf_56_2 hR) ?_
  refine am_getR (pc := 16) (j := 80) C dX10_enter_16 f10_48 bn_78 sh_78 (rf_78_6 hR) ?_
  refine am_iload_n (pc := 19) C dX10_enter_19 rfl ?_
  refine am_aload_n (pc := 20) C dX10_enter_20 rfl ?_
  refine am_getR (pc := 21) (j := 57) C dX10_enter_21 f10_9 bn_56 sh_56 (rf_56_0 hR) ?_
  refine am_getR (pc := 24) (j := 66) C dX10_enter_24 f10_51 bn_57 sh_57 (rf_57_12 hR) ?_
  refine am_iload_n (pc := 27) C dX10_enter_27 rfl ?_
  refine am_bipush (pc := 28) (v := nI 6) C dX10_enter_28 (by decide) ?_
  refine am_imulN (pc := 30) C dX10_enter_30 ?_
  refine am_callSNi (Y := mX11_pick) (pc := 31) (st := [.int (nI s), .ref 80]) (As := [.ref 66, .int (nI (s * 6))]) (x := ((h 66) (s * 6))) (h2 := (am_row h 79 (upd (h 79) s (nI 0)))) C dX10_enter_31 k10_54 v_X11_pick rfl rfl (by decide) (Nat.zero_le _) (Nat.zero_le _) (Nat.le_of_ble_eq_true rfl) (c_X11_pick 66 (s * 6) 60 bn_66 sh_66 (show s * 6 < 60 from by omega) (by decide)) ?_
  refine am_callSNv (Y := mX11_put) (pc := 34) (st := []) (As := [.ref 80, .int (nI s), .int ((h 66) (s * 6))]) (h2 := (am_row (am_row h 79 (upd (h 79) s (nI 0))) 80 (upd (h 80) s ((h 66) (s * 6))))) C dX10_enter_34 k10_44 v_X11_put rfl rfl (by decide) (Nat.zero_le _) (Nat.zero_le _) (Nat.le_of_ble_eq_true rfl) (c_X11_put 80 s ((h 66) (s * 6)) 10 bn_80 sh_80 (show s < 10 from by omega) (by decide)) ?_
  refine am_aload_n (pc := 37) C dX10_enter_37 rfl ?_
  refine am_getR (pc := 38) (j := 78) C dX10_enter_38 f10_22 bn_56 sh_56 (rf_56_2 hR) ?_
  refine am_getR (pc := 41) (j := 81) C dX10_enter_41 f10_58 bn_78 sh_78 (rf_78_7 hR) ?_
  refine am_iload_n (pc := 44) C dX10_enter_44 rfl ?_
  refine am_iconstN (pc := 45) (k := 0) C dX10_enter_45 ?_
  refine am_callSNv (Y := mX11_put) (pc := 46) (st := []) (As := [.ref 81, .int (nI s), .int (nI 0)]) (h2 := (am_row (am_row (am_row h 79 (upd (h 79) s (nI 0))) 80 (upd (h 80) s ((h 66) (s * 6)))) 81 (upd (h 81) s (nI 0)))) C dX10_enter_46 k10_44 v_X11_put rfl rfl (by decide) (Nat.zero_le _) (Nat.zero_le _) (Nat.le_of_ble_eq_true rfl) (c_X11_put 81 s (nI 0) 10 bn_81 sh_81 (show s < 10 from by omega) (by decide)) ?_
  refine am_aload_n (pc := 49) C dX10_enter_49 rfl ?_
  refine am_getR (pc := 50) (j := 78) C dX10_enter_50 f10_22 bn_56 sh_56 (rf_56_2 hR) ?_
  refine am_getR (pc := 53) (j := 82) C dX10_enter_53 f10_61 bn_78 sh_78 (rf_78_8 hR) ?_
  refine am_iload_n (pc := 56) C dX10_enter_56 rfl ?_
  refine am_iconstN (pc := 57) (k := 0) C dX10_enter_57 ?_
  refine am_callSNv (Y := mX11_put) (pc := 58) (st := []) (As := [.ref 82, .int (nI s), .int (nI 0)]) (h2 := (am_row (am_row (am_row (am_row h 79 (upd (h 79) s (nI 0))) 80 (upd (h 80) s ((h 66) (s * 6)))) 81 (upd (h 81) s (nI 0))) 82 (upd (h 82) s (nI 0)))) C dX10_enter_58 k10_44 v_X11_put rfl rfl (by decide) (Nat.zero_le _) (Nat.zero_le _) (Nat.le_of_ble_eq_true rfl) (c_X11_put 82 s (nI 0) 10 bn_82 sh_82 (show s < 10 from by omega) (by decide)) ?_
  refine am_aload_n (pc := 61) C dX10_enter_61 rfl ?_
  refine am_getR (pc := 62) (j := 78) C dX10_enter_62 f10_22 bn_56 sh_56 (rf_56_2 hR) ?_
  refine am_getR (pc := 65) (j := 83) C dX10_enter_65 f10_64 bn_78 sh_78 (rf_78_9 hR) ?_
  refine am_iload_n (pc := 68) C dX10_enter_68 rfl ?_
  refine am_iconstN (pc := 69) (k := 0) C dX10_enter_69 ?_
  refine am_callSNv (Y := mX11_put) (pc := 70) (st := []) (As := [.ref 83, .int (nI s), .int (nI 0)]) (h2 := (am_row (am_row (am_row (am_row (am_row h 79 (upd (h 79) s (nI 0))) 80 (upd (h 80) s ((h 66) (s * 6)))) 81 (upd (h 81) s (nI 0))) 82 (upd (h 82) s (nI 0))) 83 (upd (h 83) s (nI 0)))) C dX10_enter_70 k10_44 v_X11_put rfl rfl (by decide) (Nat.zero_le _) (Nat.zero_le _) (Nat.le_of_ble_eq_true rfl) (c_X11_put 83 s (nI 0) 10 bn_83 sh_83 (show s < 10 from by omega) (by decide)) ?_
  exact am_vretv T dX10_enter_73 rfl (Nat.le_refl _) (Nat.le_refl _) rfl rfl

