/-! THE CLASS: the draft of a law -/

set_option maxHeartbeats 400000 in
set_option maxRecDepth 100000 in
theorem c_X1_begin_d {ad : Nat → Nat} {r : am_R} (hR : am_rs r) {h : am_H}    : am_CM mX1_begin 0 0 0 [.ref 70] (am_VV ad) r h (am_po none r (am_row h 70 (upd (upd (h 70) 0 (nI 0)) 1 (nI 0)))) := by
  refine am_CM.of (by decide +kernel) (Nat.le_of_ble_eq_true rfl) (fun X C T => ?_)
  show am_G X (am_VV ad) (0, 0) 0 [(0, .ref 70)] [] r h
  refine am_aload_n (pc := 0) C dX1_begin_0 rfl ?_
  refine am_iconstN (pc := 1) (k := 0) C dX1_begin_1 ?_
  refine am_putI (pc := 2) C dX1_begin_2 f1_9 bn_70 sh_70 rfl rfl ?_
  refine am_hp (show am_up h 70 0 (nI 0) = am_row h 70 (upd (h 70) 0 (nI 0)) from am_up_rw _ _ _ _) ?_
  refine am_aload_n (pc := 5) C dX1_begin_5 rfl ?_
  refine am_iconstN (pc := 6) (k := 0) C dX1_begin_6 ?_
  refine am_putI (pc := 7) C dX1_begin_7 f1_37 bn_70 sh_70 rfl rfl ?_
  refine am_hp (show am_up (am_row h 70 (upd (h 70) 0 (nI 0))) 70 1 (nI 0) = am_row (am_row h 70 (upd (h 70) 0 (nI 0))) 70 (upd (upd (h 70) 0 (nI 0)) 1 (nI 0)) from am_up_rw _ _ _ _) ?_
  refine am_hp (show am_row (am_row h 70 (upd (h 70) 0 (nI 0))) 70 (upd (upd (h 70) 0 (nI 0)) 1 (nI 0)) = (am_row h 70 (upd (upd (h 70) 0 (nI 0)) 1 (nI 0))) from am_row_s0) ?_
  exact am_vretv T dX1_begin_10 rfl (Nat.le_refl _) (Nat.le_refl _) rfl rfl

set_option maxHeartbeats 400000 in
set_option maxRecDepth 100000 in
theorem c_X1_emit_d {ad : Nat → Nat} {r : am_R} (hR : am_rs r) {h : am_H} (op : Int32) (hz : rf_n ((h 70) 1) 400)  : am_CM mX1_emit 1 0 0 [.ref 70, .int op] (am_VV ad) r h (am_po none r (am_row (am_row h 75 (upd (h 75) (rf_nat ((h 70) 1)) op)) 70 (upd (h 70) 1 (nI (rf_nat ((h 70) 1) + 1))))) := by
  refine am_CM.of (by decide +kernel) (Nat.le_of_ble_eq_true rfl) (fun X C T => ?_)
  show am_G X (am_VV ad) (0, 0) 0 [(0, .ref 70), (1, .int op)] [] r h
  have hz2 : rf_nat (h 70 1) < 400 := hz.2
  refine am_aload_n (pc := 0) C dX1_emit_0 rfl ?_
  refine am_getR (pc := 1) (j := 75) C dX1_emit_1 f1_28 bn_70 sh_70 (rf_70_6 hR) ?_
  refine am_aload_n (pc := 4) C dX1_emit_4 rfl ?_
  refine am_getI (pc := 5) C dX1_emit_5 f1_37 bn_70 sh_70 ?_
  refine am_top (show ((h 70) 1) = (nI (rf_nat (h 70 1))) from hz.1) ?_
  refine am_iload_n (pc := 8) C dX1_emit_8 rfl ?_
  refine am_callSNv (Y := mX11_put) (pc := 9) (st := []) (As := [.ref 75, .int (nI (rf_nat (h 70 1))), .int op]) (h2 := (am_row h 75 (upd (h 75) (rf_nat (h 70 1)) op))) C dX1_emit_9 k1_44 v_X11_put rfl rfl (by decide) (Nat.zero_le _) (Nat.zero_le _) (Nat.le_of_ble_eq_true rfl) (c_X11_put 75 (rf_nat (h 70 1)) op 400 bn_75 sh_75 (show rf_nat (h 70 1) < 400 from by omega) (by decide)) ?_
  refine am_aload_n (pc := 12) C dX1_emit_12 rfl ?_
  refine am_dup (pc := 13) C dX1_emit_13 rfl ?_
  refine am_getI (pc := 14) C dX1_emit_14 f1_37 bn_70 sh_70 ?_
  refine am_top (show ((h 70) 1) = (nI (rf_nat (h 70 1))) from hz.1) ?_
  refine am_iconstN (pc := 17) (k := 1) C dX1_emit_17 ?_
  refine am_iaddN (pc := 18) C dX1_emit_18 ?_
  refine am_putI (pc := 19) C dX1_emit_19 f1_37 bn_70 sh_70 rfl rfl ?_
  refine am_hp (show am_up (am_row h 75 (upd (h 75) (rf_nat (h 70 1)) op)) 70 1 (nI ((rf_nat (h 70 1)) + 1)) = am_row (am_row h 75 (upd (h 75) (rf_nat (h 70 1)) op)) 70 (upd (h 70) 1 (nI ((rf_nat (h 70 1)) + 1))) from am_up_rw _ _ _ _) ?_
  exact am_vretv T dX1_emit_22 rfl (Nat.le_refl _) (Nat.le_refl _) rfl rfl

set_option maxHeartbeats 400000 in
set_option maxRecDepth 100000 in
theorem c_X1_addLine_d {ad : Nat → Nat} {r : am_R} (hR : am_rs r) {h : am_H} (kd : Int32) (n : Int32) (s0 : Int32) (hl : rf_n ((h 70) 0) 12)  : am_CM mX1_addLine 1 0 0 [.ref 70, .int kd, .int n, .int s0] (am_VV ad) r h (am_po none r (am_row (am_row (am_row (am_row (am_row h 71 (upd (h 71) (rf_nat ((h 70) 0)) kd)) 72 (upd (h 72) (rf_nat ((h 70) 0)) n)) 73 (upd (h 73) (rf_nat ((h 70) 0)) s0)) 74 (upd (h 74) (rf_nat ((h 70) 0)) ((h 70) 1))) 70 (upd (h 70) 0 (nI (rf_nat ((h 70) 0) + 1))))) := by
  refine am_CM.of (by decide +kernel) (Nat.le_of_ble_eq_true rfl) (fun X C T => ?_)
  show am_G X (am_VV ad) (0, 0) 0 [(0, .ref 70), (1, .int kd), (2, .int n), (3, .int s0)] [] r h
  have hl2 : rf_nat (h 70 0) < 12 := hl.2
  refine am_aload_n (pc := 0) C dX1_addLine_0 rfl ?_
  refine am_getR (pc := 1) (j := 71) C dX1_addLine_1 f1_15 bn_70 sh_70 (rf_70_2 hR) ?_
  refine am_aload_n (pc := 4) C dX1_addLine_4 rfl ?_
  refine am_getI (pc := 5) C dX1_addLine_5 f1_9 bn_70 sh_70 ?_
  refine am_top (show ((h 70) 0) = (nI (rf_nat (h 70 0))) from hl.1) ?_
  refine am_iload_n (pc := 8) C dX1_addLine_8 rfl ?_
  refine am_callSNv (Y := mX11_put) (pc := 9) (st := []) (As := [.ref 71, .int (nI (rf_nat (h 70 0))), .int kd]) (h2 := (am_row h 71 (upd (h 71) (rf_nat (h 70 0)) kd))) C dX1_addLine_9 k1_44 v_X11_put rfl rfl (by decide) (Nat.zero_le _) (Nat.zero_le _) (Nat.le_of_ble_eq_true rfl) (c_X11_put 71 (rf_nat (h 70 0)) kd 12 bn_71 sh_71 (show rf_nat (h 70 0) < 12 from by omega) (by decide)) ?_
  refine am_aload_n (pc := 12) C dX1_addLine_12 rfl ?_
  refine am_getR (pc := 13) (j := 72) C dX1_addLine_13 f1_19 bn_70 sh_70 (rf_70_3 hR) ?_
  refine am_aload_n (pc := 16) C dX1_addLine_16 rfl ?_
  refine am_getI (pc := 17) C dX1_addLine_17 f1_9 bn_70 sh_70 ?_
  refine am_top (show ((h 70) 0) = (nI (rf_nat (h 70 0))) from hl.1) ?_
  refine am_iload_n (pc := 20) C dX1_addLine_20 rfl ?_
  refine am_callSNv (Y := mX11_put) (pc := 21) (st := []) (As := [.ref 72, .int (nI (rf_nat (h 70 0))), .int n]) (h2 := (am_row (am_row h 71 (upd (h 71) (rf_nat (h 70 0)) kd)) 72 (upd (h 72) (rf_nat (h 70 0)) n))) C dX1_addLine_21 k1_44 v_X11_put rfl rfl (by decide) (Nat.zero_le _) (Nat.zero_le _) (Nat.le_of_ble_eq_true rfl) (c_X11_put 72 (rf_nat (h 70 0)) n 12 bn_72 sh_72 (show rf_nat (h 70 0) < 12 from by omega) (by decide)) ?_
  refine am_aload_n (pc := 24) C dX1_addLine_24 rfl ?_
  refine am_getR (pc := 25) (j := 73) C dX1_addLine_25 f1_22 bn_70 sh_70 (rf_70_4 hR) ?_
  refine am_aload_n (pc := 28) C dX1_addLine_28 rfl ?_
  refine am_getI (pc := 29) C dX1_addLine_29 f1_9 bn_70 sh_70 ?_
  refine am_top (show ((h 70) 0) = (nI (rf_nat (h 70 0))) from hl.1) ?_
  refine am_iload_n (pc := 32) C dX1_addLine_32 rfl ?_
  refine am_callSNv (Y := mX11_put) (pc := 33) (st := []) (As := [.ref 73, .int (nI (rf_nat (h 70 0))), .int s0]) (h2 := (am_row (am_row (am_row h 71 (upd (h 71) (rf_nat (h 70 0)) kd)) 72 (upd (h 72) (rf_nat (h 70 0)) n)) 73 (upd (h 73) (rf_nat (h 70 0)) s0))) C dX1_addLine_33 k1_44 v_X11_put rfl rfl (by decide) (Nat.zero_le _) (Nat.zero_le _) (Nat.le_of_ble_eq_true rfl) (c_X11_put 73 (rf_nat (h 70 0)) s0 12 bn_73 sh_73 (show rf_nat (h 70 0) < 12 from by omega) (by decide)) ?_
  refine am_aload_n (pc := 36) C dX1_addLine_36 rfl ?_
  refine am_getR (pc := 37) (j := 74) C dX1_addLine_37 f1_25 bn_70 sh_70 (rf_70_5 hR) ?_
  refine am_aload_n (pc := 40) C dX1_addLine_40 rfl ?_
  refine am_getI (pc := 41) C dX1_addLine_41 f1_9 bn_70 sh_70 ?_
  refine am_top (show ((h 70) 0) = (nI (rf_nat (h 70 0))) from hl.1) ?_
  refine am_aload_n (pc := 44) C dX1_addLine_44 rfl ?_
  refine am_getI (pc := 45) C dX1_addLine_45 f1_37 bn_70 sh_70 ?_
  refine am_callSNv (Y := mX11_put) (pc := 48) (st := []) (As := [.ref 74, .int (nI (rf_nat (h 70 0))), .int ((h 70) 1)]) (h2 := (am_row (am_row (am_row (am_row h 71 (upd (h 71) (rf_nat (h 70 0)) kd)) 72 (upd (h 72) (rf_nat (h 70 0)) n)) 73 (upd (h 73) (rf_nat (h 70 0)) s0)) 74 (upd (h 74) (rf_nat (h 70 0)) ((h 70) 1)))) C dX1_addLine_48 k1_44 v_X11_put rfl rfl (by decide) (Nat.zero_le _) (Nat.zero_le _) (Nat.le_of_ble_eq_true rfl) (c_X11_put 74 (rf_nat (h 70 0)) ((h 70) 1) 12 bn_74 sh_74 (show rf_nat (h 70 0) < 12 from by omega) (by decide)) ?_
  refine am_aload_n (pc := 51) C dX1_addLine_51 rfl ?_
  refine am_dup (pc := 52) C dX1_addLine_52 rfl ?_
  refine am_getI (pc := 53) C dX1_addLine_53 f1_9 bn_70 sh_70 ?_
  refine am_top (show ((h 70) 0) = (nI (rf_nat (h 70 0))) from hl.1) ?_
  refine am_iconstN (pc := 56) (k := 1) C dX1_addLine_56 ?_
  refine am_iaddN (pc := 57) C dX1_addLine_57 ?_
  refine am_putI (pc := 58) C dX1_addLine_58 f1_9 bn_70 sh_70 rfl rfl ?_
  refine am_hp (show am_up (am_row (am_row (am_row (am_row h 71 (upd (h 71) (rf_nat (h 70 0)) kd)) 72 (upd (h 72) (rf_nat (h 70 0)) n)) 73 (upd (h 73) (rf_nat (h 70 0)) s0)) 74 (upd (h 74) (rf_nat (h 70 0)) ((h 70) 1))) 70 0 (nI ((rf_nat (h 70 0)) + 1)) = am_row (am_row (am_row (am_row (am_row h 71 (upd (h 71) (rf_nat (h 70 0)) kd)) 72 (upd (h 72) (rf_nat (h 70 0)) n)) 73 (upd (h 73) (rf_nat (h 70 0)) s0)) 74 (upd (h 74) (rf_nat (h 70 0)) ((h 70) 1))) 70 (upd (h 70) 0 (nI ((rf_nat (h 70 0)) + 1))) from am_up_rw _ _ _ _) ?_
  exact am_vretv T dX1_addLine_61 rfl (Nat.le_refl _) (Nat.le_refl _) rfl rfl

