/-! THE CLASS: the law read -/

set_option maxHeartbeats 400000 in
set_option maxRecDepth 100000 in
theorem c_X1_withoutText {ad : Nat → Nat} {r : am_R} (hR : am_rs r) {h : am_H} (kd : Nat) (hkd : kd < 3)  : am_CM mX1_withoutText 0 0 0 [.ref 17, .int (nI kd)] (am_VV ad) r h (am_po (some (.int (nI (if kd = 0 then 50 else if kd = 1 then 20 else 1)))) r h) := by
  refine am_CM.of (by decide +kernel) (Nat.le_of_ble_eq_true rfl) (fun X C T => ?_)
  show am_G X (am_VV ad) (0, 0) 0 [(0, .ref 17), (1, .int (nI kd))] [] r h
  refine am_iload_n (pc := 0) C dX1_withoutText_0 rfl ?_
  by_cases e1_0 : kd = 0
  · refine am_lookup (pc := 1) (tgt := 28) (off := 27) C dX1_withoutText_1 (by decide) (by rw [e1_0]; rfl) (by decide) ?_
    refine am_bipush (pc := 28) (v := nI 50) C dX1_withoutText_28 (by decide) ?_
    exact am_ireti T dX1_withoutText_30 rfl (Nat.le_refl _) (Nat.le_refl _) (by rw [e1_0]; rfl) rfl rfl
  by_cases e1_1 : kd = 1
  · refine am_lookup (pc := 1) (tgt := 31) (off := 30) C dX1_withoutText_1 (by decide) (by rw [e1_1]; rfl) (by decide) ?_
    refine am_bipush (pc := 31) (v := nI 20) C dX1_withoutText_31 (by decide) ?_
    exact am_ireti T dX1_withoutText_33 rfl (Nat.le_refl _) (Nat.le_refl _) (by rw [e1_1]; rfl) rfl rfl
  refine am_lookup (pc := 1) (tgt := 34) (off := 33) C dX1_withoutText_1 (by decide) (by rw [show kd = 2 by omega]; rfl) (by decide) ?_
  refine am_iconstN (pc := 34) (k := 1) C dX1_withoutText_34 ?_
  exact am_ireti T dX1_withoutText_35 rfl (Nat.le_refl _) (Nat.le_refl _) (by rw [if_neg e1_0, if_neg e1_1]) rfl rfl

set_option maxHeartbeats 400000 in
set_option maxRecDepth 100000 in
theorem c_X1_joined {ad : Nat → Nat} {r : am_R} (hR : am_rs r) {h : am_H} (op : Nat) (a : Int32) (b : Int32) (hop : op < 1014)  : am_CM mX1_joined 0 0 0 [.int (nI op), .int a, .int b] (am_VV ad) r h (am_po (some (.int (cl_jn op a b))) r h) := by
  refine am_CM.of (by decide +kernel) (Nat.le_of_ble_eq_true rfl) (fun X C T => ?_)
  show am_G X (am_VV ad) (0, 0) 0 [(0, .int (nI op)), (1, .int a), (2, .int b)] [] r h
  refine am_iload_n (pc := 0) C dX1_joined_0 rfl ?_
  by_cases e1_1008 : op = 1008
  · refine am_tableIn (pc := 1) (tgt := 36) C dX1_joined_1 (by rw [e1_1008]; decide) (by rw [e1_1008]; decide) (by rw [e1_1008]; rfl) (by decide) ?_
    refine am_iload_n (pc := 36) C dX1_joined_36 rfl ?_
    refine am_iload_n (pc := 37) C dX1_joined_37 rfl ?_
    refine am_iadd (pc := 38) C dX1_joined_38 ?_
    exact am_ireti T dX1_joined_39 rfl (Nat.le_refl _) (Nat.le_refl _) (by rw [e1_1008]; rfl) rfl rfl
  by_cases e1_1009 : op = 1009
  · refine am_tableIn (pc := 1) (tgt := 40) C dX1_joined_1 (by rw [e1_1009]; decide) (by rw [e1_1009]; decide) (by rw [e1_1009]; rfl) (by decide) ?_
    refine am_iload_n (pc := 40) C dX1_joined_40 rfl ?_
    refine am_iload_n (pc := 41) C dX1_joined_41 rfl ?_
    refine am_icmp_ge (pc := 42) (tgt := 49) C dX1_joined_42 (by decide) (fun q42 => ?_) (fun q42 => ?_)
    · skip
      refine am_iconstN (pc := 49) (k := 0) C dX1_joined_49 ?_
      exact am_ireti T dX1_joined_50 rfl (Nat.le_refl _) (Nat.le_refl _) (by rw [e1_1009]; exact (if_neg (Int32.not_lt.mpr q42)).symm) rfl rfl
    · skip
      refine am_iconstN (pc := 45) (k := 1) C dX1_joined_45 ?_
      refine am_goto (pc := 46) (tgt := 50) C dX1_joined_46 (by decide) ?_
      exact am_ireti T dX1_joined_50 rfl (Nat.le_refl _) (Nat.le_refl _) (by rw [e1_1009]; exact (if_pos (Int32.not_le.mp q42)).symm) rfl rfl
  by_cases e1_1010 : op = 1010
  · refine am_tableIn (pc := 1) (tgt := 51) C dX1_joined_1 (by rw [e1_1010]; decide) (by rw [e1_1010]; decide) (by rw [e1_1010]; rfl) (by decide) ?_
    refine am_iload_n (pc := 51) C dX1_joined_51 rfl ?_
    refine am_iload_n (pc := 52) C dX1_joined_52 rfl ?_
    refine am_icmp_le (pc := 53) (tgt := 60) C dX1_joined_53 (by decide) (fun q53 => ?_) (fun q53 => ?_)
    · skip
      refine am_iconstN (pc := 60) (k := 0) C dX1_joined_60 ?_
      exact am_ireti T dX1_joined_61 rfl (Nat.le_refl _) (Nat.le_refl _) (by rw [e1_1010]; exact (if_neg (Int32.not_lt.mpr q53)).symm) rfl rfl
    · skip
      refine am_iconstN (pc := 56) (k := 1) C dX1_joined_56 ?_
      refine am_goto (pc := 57) (tgt := 61) C dX1_joined_57 (by decide) ?_
      exact am_ireti T dX1_joined_61 rfl (Nat.le_refl _) (Nat.le_refl _) (by rw [e1_1010]; exact (if_pos (Int32.not_le.mp q53)).symm) rfl rfl
  by_cases e1_1011 : op = 1011
  · refine am_tableIn (pc := 1) (tgt := 66) C dX1_joined_1 (by rw [e1_1011]; decide) (by rw [e1_1011]; decide) (by rw [e1_1011]; rfl) (by decide) ?_
    refine am_iload_n (pc := 66) C dX1_joined_66 rfl ?_
    refine am_iload_n (pc := 67) C dX1_joined_67 rfl ?_
    refine am_ior (pc := 68) C dX1_joined_68 ?_
    exact am_ireti T dX1_joined_69 rfl (Nat.le_refl _) (Nat.le_refl _) (by rw [e1_1011]; rfl) rfl rfl
  by_cases e1_1012 : op = 1012
  · refine am_tableIn (pc := 1) (tgt := 62) C dX1_joined_1 (by rw [e1_1012]; decide) (by rw [e1_1012]; decide) (by rw [e1_1012]; rfl) (by decide) ?_
    refine am_iload_n (pc := 62) C dX1_joined_62 rfl ?_
    refine am_iload_n (pc := 63) C dX1_joined_63 rfl ?_
    refine am_iand (pc := 64) C dX1_joined_64 ?_
    exact am_ireti T dX1_joined_65 rfl (Nat.le_refl _) (Nat.le_refl _) (by rw [e1_1012]; rfl) rfl rfl
  refine am_tableOut (pc := 1) (tgt := 66) C dX1_joined_1 (by rw [nI_toInt (by omega)]; omega) (by decide) ?_
  refine am_iload_n (pc := 66) C dX1_joined_66 rfl ?_
  refine am_iload_n (pc := 67) C dX1_joined_67 rfl ?_
  refine am_ior (pc := 68) C dX1_joined_68 ?_
  exact am_ireti T dX1_joined_69 rfl (Nat.le_refl _) (Nat.le_refl _) (by rw [cl_jn, if_neg e1_1008, if_neg e1_1009, if_neg e1_1010, if_neg e1_1012]) rfl rfl

set_option maxHeartbeats 400000 in
set_option maxRecDepth 100000 in
theorem c_X1_apply {ad : Nat → Nat} {r : am_R} (hR : am_rs r) {h : am_H} (op : Nat) (top : Nat) (hop : op < 1014) (ht : top < 40) (h1 : 1008 ≤ op → op = 1011 → 1 ≤ top) (h2 : 1008 ≤ op → op ≠ 1011 → 2 ≤ top)  : am_CM mX1_apply 1 0 0 [.ref 17, .int (nI op), .int (nI top)] (am_VV ad) r h (am_po (some (.int (nI (cl_at op top)))) r (am_row h 24 (cl_av (h 23) (h 24) op top))) := by
  refine am_CM.of (by decide +kernel) (Nat.le_of_ble_eq_true rfl) (fun X C T => ?_)
  show am_G X (am_VV ad) (0, 0) 0 [(0, .ref 17), (1, .int (nI op)), (2, .int (nI top))] [] r h
  refine am_iload_n (pc := 0) C dX1_apply_0 rfl ?_
  refine am_sipush (pc := 1) (v := nI 1008) C dX1_apply_1 (by decide) ?_
  refine am_icmp_geN (pc := 4) (tgt := 42) C dX1_apply_4 (by decide) (by omega) (by omega) (fun q4 => ?_) (fun q4 => ?_)
  · skip
    refine am_iload_n (pc := 42) C dX1_apply_42 rfl ?_
    refine am_sipush (pc := 43) (v := nI 1011) C dX1_apply_43 (by decide) ?_
    refine am_icmp_neN (pc := 46) (tgt := 73) C dX1_apply_46 (by decide) (by omega) (by omega) (fun q46 => ?_) (fun q46 => ?_)
    · skip
      have h2b := h2 (by omega) q46
      refine am_aload_n (pc := 73) C dX1_apply_73 rfl ?_
      refine am_getR (pc := 74) (j := 24) C dX1_apply_74 f1_34 bn_17 sh_17 (rf_17_8 hR) ?_
      refine am_iload_n (pc := 77) C dX1_apply_77 rfl ?_
      refine am_iconstN (pc := 78) (k := 2) C dX1_apply_78 ?_
      refine am_isubN (pc := 79) C dX1_apply_79 (by omega) ?_
      refine am_iload_n (pc := 80) C dX1_apply_80 rfl ?_
      refine am_aload_n (pc := 81) C dX1_apply_81 rfl ?_
      refine am_getR (pc := 82) (j := 24) C dX1_apply_82 f1_34 bn_17 sh_17 (rf_17_8 hR) ?_
      refine am_iload_n (pc := 85) C dX1_apply_85 rfl ?_
      refine am_iconstN (pc := 86) (k := 2) C dX1_apply_86 ?_
      refine am_isubN (pc := 87) C dX1_apply_87 (by omega) ?_
      refine am_callSNi (Y := mX11_pick) (pc := 88) (st := [.int (nI op), .int (nI (top - 2)), .ref 24]) (As := [.ref 24, .int (nI (top - 2))]) (x := ((h 24) (top - 2))) (h2 := h) C dX1_apply_88 k1_48 v_X11_pick rfl rfl (by decide) (Nat.zero_le _) (Nat.zero_le _) (Nat.le_of_ble_eq_true rfl) (c_X11_pick 24 (top - 2) 40 bn_24 sh_24 (show top - 2 < 40 from by omega) (by decide)) ?_
      refine am_aload_n (pc := 91) C dX1_apply_91 rfl ?_
      refine am_getR (pc := 92) (j := 24) C dX1_apply_92 f1_34 bn_17 sh_17 (rf_17_8 hR) ?_
      refine am_iload_n (pc := 95) C dX1_apply_95 rfl ?_
      refine am_iconstN (pc := 96) (k := 1) C dX1_apply_96 ?_
      refine am_isubN (pc := 97) C dX1_apply_97 (by omega) ?_
      refine am_callSNi (Y := mX11_pick) (pc := 98) (st := [.int ((h 24) (top - 2)), .int (nI op), .int (nI (top - 2)), .ref 24]) (As := [.ref 24, .int (nI (top - 1))]) (x := ((h 24) (top - 1))) (h2 := h) C dX1_apply_98 k1_48 v_X11_pick rfl rfl (by decide) (Nat.zero_le _) (Nat.zero_le _) (Nat.le_of_ble_eq_true rfl) (c_X11_pick 24 (top - 1) 40 bn_24 sh_24 (show top - 1 < 40 from by omega) (by decide)) ?_
      refine am_callSi (Y := mX1_joined) (pc := 101) (st := [.int (nI (top - 2)), .ref 24]) (As := [.int (nI op), .int ((h 24) (top - 2)), .int ((h 24) (top - 1))]) (x := (cl_jn op ((h 24) (top - 2)) ((h 24) (top - 1)))) (h2 := h) C dX1_apply_101 k1_65 v_X1_joined rfl rfl (by decide) (Nat.zero_le _) (Nat.zero_le _) (Nat.le_of_ble_eq_true rfl) (c_X1_joined hR op ((h 24) (top - 2)) ((h 24) (top - 1)) (show op < 1014 from (by omega))) ?_
      refine am_callSNv (Y := mX11_put) (pc := 104) (st := []) (As := [.ref 24, .int (nI (top - 2)), .int (cl_jn op ((h 24) (top - 2)) ((h 24) (top - 1)))]) (h2 := (am_row h 24 (upd (h 24) (top - 2) (cl_jn op ((h 24) (top - 2)) ((h 24) (top - 1)))))) C dX1_apply_104 k1_44 v_X11_put rfl rfl (by decide) (Nat.zero_le _) (Nat.zero_le _) (Nat.le_of_ble_eq_true rfl) (c_X11_put 24 (top - 2) (cl_jn op ((h 24) (top - 2)) ((h 24) (top - 1))) 40 bn_24 sh_24 (show top - 2 < 40 from by omega) (by decide)) ?_
      refine am_iload_n (pc := 107) C dX1_apply_107 rfl ?_
      refine am_iconstN (pc := 108) (k := 1) C dX1_apply_108 ?_
      refine am_isubN (pc := 109) C dX1_apply_109 (by omega) ?_
      exact am_ireti T dX1_apply_110 rfl (Nat.le_refl _) (Nat.le_refl _) (by rw [cl_at, if_neg (by omega), if_neg q46]) rfl (congrArg (am_row h 24) (by rw [cl_av, if_neg (by omega), if_neg q46]))
    · skip
      have h1b := h1 (by omega) q46
      refine am_aload_n (pc := 49) C dX1_apply_49 rfl ?_
      refine am_getR (pc := 50) (j := 24) C dX1_apply_50 f1_34 bn_17 sh_17 (rf_17_8 hR) ?_
      refine am_iload_n (pc := 53) C dX1_apply_53 rfl ?_
      refine am_iconstN (pc := 54) (k := 1) C dX1_apply_54 ?_
      refine am_isubN (pc := 55) C dX1_apply_55 (by omega) ?_
      refine am_iconstN (pc := 56) (k := 1) C dX1_apply_56 ?_
      refine am_aload_n (pc := 57) C dX1_apply_57 rfl ?_
      refine am_getR (pc := 58) (j := 24) C dX1_apply_58 f1_34 bn_17 sh_17 (rf_17_8 hR) ?_
      refine am_iload_n (pc := 61) C dX1_apply_61 rfl ?_
      refine am_iconstN (pc := 62) (k := 1) C dX1_apply_62 ?_
      refine am_isubN (pc := 63) C dX1_apply_63 (by omega) ?_
      refine am_callSNi (Y := mX11_pick) (pc := 64) (st := [.int (nI 1), .int (nI (top - 1)), .ref 24]) (As := [.ref 24, .int (nI (top - 1))]) (x := ((h 24) (top - 1))) (h2 := h) C dX1_apply_64 k1_48 v_X11_pick rfl rfl (by decide) (Nat.zero_le _) (Nat.zero_le _) (Nat.le_of_ble_eq_true rfl) (c_X11_pick 24 (top - 1) 40 bn_24 sh_24 (show top - 1 < 40 from by omega) (by decide)) ?_
      refine am_isub (pc := 67) C dX1_apply_67 ?_
      refine am_callSNv (Y := mX11_put) (pc := 68) (st := []) (As := [.ref 24, .int (nI (top - 1)), .int ((nI 1) - ((h 24) (top - 1)))]) (h2 := (am_row h 24 (upd (h 24) (top - 1) ((nI 1) - ((h 24) (top - 1)))))) C dX1_apply_68 k1_44 v_X11_put rfl rfl (by decide) (Nat.zero_le _) (Nat.zero_le _) (Nat.le_of_ble_eq_true rfl) (c_X11_put 24 (top - 1) ((nI 1) - ((h 24) (top - 1))) 40 bn_24 sh_24 (show top - 1 < 40 from by omega) (by decide)) ?_
      refine am_iload_n (pc := 71) C dX1_apply_71 rfl ?_
      exact am_ireti T dX1_apply_72 rfl (Nat.le_refl _) (Nat.le_refl _) (by rw [cl_at, if_neg (by omega), if_pos q46]) rfl (congrArg (am_row h 24) (by rw [cl_av, if_neg (by omega), if_pos q46]))
  · skip
    refine am_aload_n (pc := 7) C dX1_apply_7 rfl ?_
    refine am_getR (pc := 8) (j := 24) C dX1_apply_8 f1_34 bn_17 sh_17 (rf_17_8 hR) ?_
    refine am_iload_n (pc := 11) C dX1_apply_11 rfl ?_
    refine am_iload_n (pc := 12) C dX1_apply_12 rfl ?_
    refine am_sipush (pc := 13) (v := nI 1000) C dX1_apply_13 (by decide) ?_
    refine am_icmp_geN (pc := 16) (tgt := 23) C dX1_apply_16 (by decide) (by omega) (by omega) (fun q16 => ?_) (fun q16 => ?_)
    · skip
      refine am_aload_n (pc := 23) C dX1_apply_23 rfl ?_
      refine am_getR (pc := 24) (j := 23) C dX1_apply_24 f1_31 bn_17 sh_17 (rf_17_7 hR) ?_
      refine am_iload_n (pc := 27) C dX1_apply_27 rfl ?_
      refine am_sipush (pc := 28) (v := nI 1000) C dX1_apply_28 (by decide) ?_
      refine am_isubN (pc := 31) C dX1_apply_31 (by omega) ?_
      refine am_callSNi (Y := mX11_pick) (pc := 32) (st := [.int (nI top), .ref 24]) (As := [.ref 23, .int (nI (op - 1000))]) (x := ((h 23) (op - 1000))) (h2 := h) C dX1_apply_32 k1_48 v_X11_pick rfl rfl (by decide) (Nat.zero_le _) (Nat.zero_le _) (Nat.le_of_ble_eq_true rfl) (c_X11_pick 23 (op - 1000) 8 bn_23 sh_23 (show op - 1000 < 8 from by omega) (by decide)) ?_
      refine am_top (show ((h 23) (op - 1000)) = (if op < 1000 then nI op else h 23 (op - 1000)) from (if_neg (by omega)).symm) ?_
      refine am_callSNv (Y := mX11_put) (pc := 35) (st := []) (As := [.ref 24, .int (nI top), .int (if op < 1000 then nI op else h 23 (op - 1000))]) (h2 := (am_row h 24 (upd (h 24) top (if op < 1000 then nI op else h 23 (op - 1000))))) C dX1_apply_35 k1_44 v_X11_put rfl rfl (by decide) (Nat.zero_le _) (Nat.zero_le _) (Nat.le_of_ble_eq_true rfl) (c_X11_put 24 top (if op < 1000 then nI op else h 23 (op - 1000)) 40 bn_24 sh_24 (show top < 40 from by omega) (by decide)) ?_
      refine am_iload_n (pc := 38) C dX1_apply_38 rfl ?_
      refine am_iconstN (pc := 39) (k := 1) C dX1_apply_39 ?_
      refine am_iaddN (pc := 40) C dX1_apply_40 ?_
      exact am_ireti T dX1_apply_41 rfl (Nat.le_refl _) (Nat.le_refl _) (by rw [cl_at, if_pos q4]) rfl (congrArg (am_row h 24) (by rw [cl_av, if_pos q4]))
    · skip
      refine am_iload_n (pc := 19) C dX1_apply_19 rfl ?_
      refine am_goto (pc := 20) (tgt := 35) C dX1_apply_20 (by decide) ?_
      refine am_top (show (nI op) = (if op < 1000 then nI op else h 23 (op - 1000)) from (if_pos q16).symm) ?_
      refine am_callSNv (Y := mX11_put) (pc := 35) (st := []) (As := [.ref 24, .int (nI top), .int (if op < 1000 then nI op else h 23 (op - 1000))]) (h2 := (am_row h 24 (upd (h 24) top (if op < 1000 then nI op else h 23 (op - 1000))))) C dX1_apply_35 k1_44 v_X11_put rfl rfl (by decide) (Nat.zero_le _) (Nat.zero_le _) (Nat.le_of_ble_eq_true rfl) (c_X11_put 24 top (if op < 1000 then nI op else h 23 (op - 1000)) 40 bn_24 sh_24 (show top < 40 from by omega) (by decide)) ?_
      refine am_iload_n (pc := 38) C dX1_apply_38 rfl ?_
      refine am_iconstN (pc := 39) (k := 1) C dX1_apply_39 ?_
      refine am_iaddN (pc := 40) C dX1_apply_40 ?_
      exact am_ireti T dX1_apply_41 rfl (Nat.le_refl _) (Nat.le_refl _) (by rw [cl_at, if_pos q4]) rfl (congrArg (am_row h 24) (by rw [cl_av, if_pos q4]))

set_option maxHeartbeats 400000 in
set_option maxRecDepth 100000 in
theorem c_X1_holds {ad : Nat → Nat} {r : am_R} (hR : am_rs r) {h : am_H} (line : Nat) (w : rf_W) (hLw : rf_Lw w) (hLk : rf_Lk w) (hA : cl_La (h) 17 w) (h4 : 0 < rf_nat (w 4)) (hl : line < rf_nat (w 731)) (hpt : ∀ c, c < 8 → (h 23) c = rf_fact w c (nI 0) (rf_nat ((h 23) 0)))  : am_CM mX1_holds 2 0 0 [.ref 17, .int (nI line)] (am_VV ad) r h (am_pr (some (.int (am_b (rf_holds w line (rf_nat ((h 23) 0)))))) r (fun c9 => cl_fr (h) c9 24 1)) := by
  refine am_CM.of (by decide +kernel) (Nat.le_of_ble_eq_true rfl) (fun X C T => ?_)
  show am_G X (am_VV ad) (0, 0) 0 [(0, .ref 17), (1, .int (nI line))] [] r h
  have hW := hLw h4
  have h13 : rf_nat (w 731) < 13 := hW.1.2
  obtain ⟨l1, l2, l3, l4, l5, l6⟩ := hW.2 line hl
  have l3b : rf_nat (w (732 + 4 * line + 2)) < 401 := l3.2
  have l4b : rf_nat (w (732 + 4 * line + 3)) < 401 := l4.2
  obtain ⟨g1, g2, g3, g4, g5⟩ := (hA.2 h4).2 line hl
  obtain ⟨hk8, hk9⟩ := hLk h4 line hl
  refine am_aload_n (pc := 0) C dX1_holds_0 rfl ?_
  refine am_getR (pc := 1) (j := 20) C dX1_holds_1 f1_22 bn_17 sh_17 (rf_17_4 hR) ?_
  refine am_iload_n (pc := 4) C dX1_holds_4 rfl ?_
  refine am_callSNi (Y := mX11_pick) (pc := 5) (st := []) (As := [.ref 20, .int (nI line)]) (x := ((h 20) line)) (h2 := h) C dX1_holds_5 k1_48 v_X11_pick rfl rfl (by decide) (Nat.zero_le _) (Nat.zero_le _) (Nat.le_of_ble_eq_true rfl) (c_X11_pick 20 line 12 bn_20 sh_20 (show line < 12 from by omega) (by decide)) ?_
  refine am_top (show ((h 20) line) = (nI (rf_nat (w (732 + 4 * line + 2)))) from (g3.trans l3.1)) ?_
  refine am_istore_n (pc := 8) (ls' := [(0, .ref 17), (1, .int (nI line)), (2, .int (nI (rf_nat (w (732 + 4 * line + 2)))))]) C dX1_holds_8 (by decide) rfl ?_
  refine am_aload_n (pc := 9) C dX1_holds_9 rfl ?_
  refine am_getR (pc := 10) (j := 21) C dX1_holds_10 f1_25 bn_17 sh_17 (rf_17_5 hR) ?_
  refine am_iload_n (pc := 13) C dX1_holds_13 rfl ?_
  refine am_callSNi (Y := mX11_pick) (pc := 14) (st := []) (As := [.ref 21, .int (nI line)]) (x := ((h 21) line)) (h2 := h) C dX1_holds_14 k1_48 v_X11_pick rfl rfl (by decide) (Nat.zero_le _) (Nat.zero_le _) (Nat.le_of_ble_eq_true rfl) (c_X11_pick 21 line 12 bn_21 sh_21 (show line < 12 from by omega) (by decide)) ?_
  refine am_top (show ((h 21) line) = (nI (rf_nat (w (732 + 4 * line + 3)))) from (g4.trans l4.1)) ?_
  refine am_istore_n (pc := 17) (ls' := [(0, .ref 17), (1, .int (nI line)), (2, .int (nI (rf_nat (w (732 + 4 * line + 2))))), (3, .int (nI (rf_nat (w (732 + 4 * line + 3)))))]) C dX1_holds_17 (by decide) rfl ?_
  refine am_iload_n (pc := 18) C dX1_holds_18 rfl ?_
  refine am_iload_n (pc := 19) C dX1_holds_19 rfl ?_
  refine am_icmp_ltN (pc := 20) (tgt := 25) C dX1_holds_20 (by decide) (by omega) (by omega) (fun q20 => ?_) (fun q20 => ?_)
  · skip
    have hT := hk9 q20
    have hrun := cl_run (s := rf_nat (h 23 0)) (p := h 23) (v := h 24) (code := h 22) hpt (fun k a b => g5 k a (by omega)) (fun k a b e => hk8 k a (by omega) e) l6 hT
    refine am_iconstN (pc := 25) (k := 0) C dX1_holds_25 ?_
    refine am_istore (pc := 26) (ls' := [(0, .ref 17), (1, .int (nI line)), (2, .int (nI (rf_nat (w (732 + 4 * line + 2))))), (3, .int (nI (rf_nat (w (732 + 4 * line + 3))))), (4, .int (nI 0))]) C dX1_holds_26 (by decide) rfl ?_
    refine am_iload_n (pc := 28) C dX1_holds_28 rfl ?_
    refine am_istore (pc := 29) (ls' := [(0, .ref 17), (1, .int (nI line)), (2, .int (nI (rf_nat (w (732 + 4 * line + 2))))), (3, .int (nI (rf_nat (w (732 + 4 * line + 3))))), (4, .int (nI 0)), (5, .int (nI (rf_nat (w (732 + 4 * line + 2)))))]) C dX1_holds_29 (by decide) rfl ?_
    have L31 : ∀ (j31 i31 : Nat), i31 + j31 = (rf_nat (w (732 + 4 * line + 3)) - rf_nat (w (732 + 4 * line + 2))) → am_G X (am_VV ad) (0, 0) 31 [(0, .ref 17), (1, .int (nI line)), (2, .int (nI (rf_nat (w (732 + 4 * line + 2))))), (3, .int (nI (rf_nat (w (732 + 4 * line + 3))))), (4, .int (nI ((cl_rn (h 23) (h 22) (h 24) (rf_nat (w (732 + 4 * line + 2))) i31).2))), (5, .int (nI (rf_nat (w (732 + 4 * line + 2)) + i31)))] [] r (am_row h 24 ((cl_rn (h 23) (h 22) (h 24) (rf_nat (w (732 + 4 * line + 2))) i31).1)) := by
      intro j31
      induction j31 with
      | zero =>
        intro i31 hi31 
        obtain rfl : i31 = (rf_nat (w (732 + 4 * line + 3)) - rf_nat (w (732 + 4 * line + 2))) := by omega
        obtain ⟨⟨ts9, z1, z2⟩, z3, -⟩ := hrun (rf_nat (w (732 + 4 * line + 3)) - rf_nat (w (732 + 4 * line + 2))) (Nat.le_refl _)
        rw [hT] at z1
        obtain rfl := Option.some.inj z1
        refine am_iload (pc := 31) C dX1_holds_31 rfl ?_
        refine am_iload_n (pc := 33) C dX1_holds_33 rfl ?_
        refine am_icmp_geN (pc := 34) (tgt := 60) C dX1_holds_34 (by decide) (by omega) (by omega) (fun q34 => ?_) (fun q34 => ?_)
        · skip
          refine am_aload_n (pc := 60) C dX1_holds_60 rfl ?_
          refine am_getR (pc := 61) (j := 24) C dX1_holds_61 f1_34 bn_17 sh_17 (rf_17_8 hR) ?_
          refine am_iconstN (pc := 64) (k := 0) C dX1_holds_64 ?_
          refine am_iaload (pc := 65) C dX1_holds_65 bn_24 sh_24 (vp_in_nI (by omega) (by decide)) ?_
          refine am_top (show ((cl_rn (h 23) (h 22) (h 24) (rf_nat (w (732 + 4 * line + 2))) (rf_nat (w (732 + 4 * line + 3)) - rf_nat (w (732 + 4 * line + 2)))).1) (nI 0).toNatClampNeg = ((cl_rn (h 23) (h 22) (h 24) (rf_nat (w (732 + 4 * line + 2))) (rf_nat (w (732 + 4 * line + 3)) - rf_nat (w (732 + 4 * line + 2)))).1) 0 from by rw [nI_clamp (by omega)]) ?_
          refine am_if_eq (pc := 66) (tgt := 73) C dX1_holds_66 (by decide) (fun q66 => ?_) (fun q66 => ?_)
          · skip
            refine am_iconstN (pc := 73) (k := 0) C dX1_holds_73 ?_
            exact am_iretbr T dX1_holds_74 rfl (Nat.le_refl _) (Nat.le_refl _) (by rw [cl_run_end q20 z2 z3, decide_eq_false (fun z => z q66)]; rfl) rfl (fun i9 h9 => by rw [am_row_ne _ _ _ (by omega)])
          · skip
            refine am_iconstN (pc := 69) (k := 1) C dX1_holds_69 ?_
            refine am_goto (pc := 70) (tgt := 74) C dX1_holds_70 (by decide) ?_
            exact am_iretbr T dX1_holds_74 rfl (Nat.le_refl _) (Nat.le_refl _) (by rw [cl_run_end q20 z2 z3, decide_eq_true q66]; rfl) rfl (fun i9 h9 => by rw [am_row_ne _ _ _ (by omega)])
        · skip
          exact absurd q34 (by omega)
      | succ j31 ih31 =>
        intro i31 hi31 
        have hl31 : i31 < (rf_nat (w (732 + 4 * line + 3)) - rf_nat (w (732 + 4 * line + 2))) := by omega
        obtain ⟨-, -, r3, r4, -, r6⟩ := hrun i31 (by omega)
        obtain ⟨⟨r7, r8⟩, r9, r10⟩ := r6 (by omega)
        refine am_iload (pc := 31) C dX1_holds_31 rfl ?_
        refine am_iload_n (pc := 33) C dX1_holds_33 rfl ?_
        refine am_icmp_geN (pc := 34) (tgt := 60) C dX1_holds_34 (by decide) (by omega) (by omega) (fun q34 => ?_) (fun q34 => ?_)
        · skip
          exact absurd q34 (by omega)
        · skip
          refine am_aload_n (pc := 37) C dX1_holds_37 rfl ?_
          refine am_aload_n (pc := 38) C dX1_holds_38 rfl ?_
          refine am_getR (pc := 39) (j := 22) C dX1_holds_39 f1_28 bn_17 sh_17 (rf_17_6 hR) ?_
          refine am_iload (pc := 42) C dX1_holds_42 rfl ?_
          refine am_callSNi (Y := mX11_pick) (pc := 44) (st := [.ref 17]) (As := [.ref 22, .int (nI (rf_nat (w (732 + 4 * line + 2)) + i31))]) (x := ((h 22) (rf_nat (w (732 + 4 * line + 2)) + i31))) (h2 := (am_row h 24 ((cl_rn (h 23) (h 22) (h 24) (rf_nat (w (732 + 4 * line + 2))) i31).1))) C dX1_holds_44 k1_48 v_X11_pick rfl rfl (by decide) (Nat.zero_le _) (Nat.zero_le _) (Nat.le_of_ble_eq_true rfl) (c_X11_pick 22 (rf_nat (w (732 + 4 * line + 2)) + i31) 400 bn_22 sh_22 (show rf_nat (w (732 + 4 * line + 2)) + i31 < 400 from by omega) (by decide)) ?_
          refine am_top (show ((h 22) (rf_nat (w (732 + 4 * line + 2)) + i31)) = (nI (rf_nat (h 22 (rf_nat (w (732 + 4 * line + 2)) + i31)))) from r8) ?_
          refine am_iload (pc := 47) C dX1_holds_47 rfl ?_
          refine am_callVi (Y := mX1_apply) (pc := 49) (st := []) (As := [.int (nI (rf_nat (h 22 (rf_nat (w (732 + 4 * line + 2)) + i31)))), .int (nI ((cl_rn (h 23) (h 22) (h 24) (rf_nat (w (732 + 4 * line + 2))) i31).2))]) (x := (nI (cl_at (rf_nat (h 22 (rf_nat (w (732 + 4 * line + 2)) + i31))) ((cl_rn (h 23) (h 22) (h 24) (rf_nat (w (732 + 4 * line + 2))) i31).2)))) (h2 := (am_row (am_row h 24 ((cl_rn (h 23) (h 22) (h 24) (rf_nat (w (732 + 4 * line + 2))) i31).1)) 24 (cl_av (h 23) ((cl_rn (h 23) (h 22) (h 24) (rf_nat (w (732 + 4 * line + 2))) i31).1) (rf_nat (h 22 (rf_nat (w (732 + 4 * line + 2)) + i31))) ((cl_rn (h 23) (h 22) (h 24) (rf_nat (w (732 + 4 * line + 2))) i31).2)))) C dX1_holds_49 k1_62 v_X1_apply rfl rfl bn_17 sh_17 ⟨by decide, rfl⟩ (by decide) (Nat.zero_le _) (Nat.zero_le _) (Nat.le_of_ble_eq_true rfl) (c_X1_apply hR (rf_nat (h 22 (rf_nat (w (732 + 4 * line + 2)) + i31))) ((cl_rn (h 23) (h 22) (h 24) (rf_nat (w (732 + 4 * line + 2))) i31).2) (show (rf_nat (h 22 (rf_nat (w (732 + 4 * line + 2)) + i31))) < 1014 from r7) (show ((cl_rn (h 23) (h 22) (h 24) (rf_nat (w (732 + 4 * line + 2))) i31).2) < 40 from (by omega)) (show 1008 ≤ (rf_nat (h 22 (rf_nat (w (732 + 4 * line + 2)) + i31))) → (rf_nat (h 22 (rf_nat (w (732 + 4 * line + 2)) + i31))) = 1011 → 1 ≤ ((cl_rn (h 23) (h 22) (h 24) (rf_nat (w (732 + 4 * line + 2))) i31).2) from r9) (show 1008 ≤ (rf_nat (h 22 (rf_nat (w (732 + 4 * line + 2)) + i31))) → (rf_nat (h 22 (rf_nat (w (732 + 4 * line + 2)) + i31))) ≠ 1011 → 2 ≤ ((cl_rn (h 23) (h 22) (h 24) (rf_nat (w (732 + 4 * line + 2))) i31).2) from r10)) ?_
          refine am_hp (show (am_row (am_row h 24 ((cl_rn (h 23) (h 22) (h 24) (rf_nat (w (732 + 4 * line + 2))) i31).1)) 24 (cl_av (h 23) ((cl_rn (h 23) (h 22) (h 24) (rf_nat (w (732 + 4 * line + 2))) i31).1) (rf_nat (h 22 (rf_nat (w (732 + 4 * line + 2)) + i31))) ((cl_rn (h 23) (h 22) (h 24) (rf_nat (w (732 + 4 * line + 2))) i31).2))) = (am_row h 24 (cl_av (h 23) ((cl_rn (h 23) (h 22) (h 24) (rf_nat (w (732 + 4 * line + 2))) i31).1) (rf_nat (h 22 (rf_nat (w (732 + 4 * line + 2)) + i31))) ((cl_rn (h 23) (h 22) (h 24) (rf_nat (w (732 + 4 * line + 2))) i31).2))) from am_row_s0) ?_
          refine am_istore (pc := 52) (ls' := [(0, .ref 17), (1, .int (nI line)), (2, .int (nI (rf_nat (w (732 + 4 * line + 2))))), (3, .int (nI (rf_nat (w (732 + 4 * line + 3))))), (4, .int (nI (cl_at (rf_nat (h 22 (rf_nat (w (732 + 4 * line + 2)) + i31))) ((cl_rn (h 23) (h 22) (h 24) (rf_nat (w (732 + 4 * line + 2))) i31).2)))), (5, .int (nI (rf_nat (w (732 + 4 * line + 2)) + i31)))]) C dX1_holds_52 (by decide) rfl ?_
          refine am_iincN (pc := 54) (ls' := [(0, .ref 17), (1, .int (nI line)), (2, .int (nI (rf_nat (w (732 + 4 * line + 2))))), (3, .int (nI (rf_nat (w (732 + 4 * line + 3))))), (4, .int (nI (cl_at (rf_nat (h 22 (rf_nat (w (732 + 4 * line + 2)) + i31))) ((cl_rn (h 23) (h 22) (h 24) (rf_nat (w (732 + 4 * line + 2))) i31).2)))), (5, .int (nI (rf_nat (w (732 + 4 * line + 2)) + i31 + 1)))]) C dX1_holds_54 rfl (am_up1 _) (by decide) rfl ?_
          refine am_goto (pc := 57) (tgt := 31) C dX1_holds_57 (by decide) ?_
          refine am_hp (show (am_row h 24 (cl_av (h 23) ((cl_rn (h 23) (h 22) (h 24) (rf_nat (w (732 + 4 * line + 2))) i31).1) (rf_nat (h 22 (rf_nat (w (732 + 4 * line + 2)) + i31))) ((cl_rn (h 23) (h 22) (h 24) (rf_nat (w (732 + 4 * line + 2))) i31).2))) = (am_row h 24 ((cl_rn (h 23) (h 22) (h 24) (rf_nat (w (732 + 4 * line + 2))) (i31 + 1)).1)) from rfl) ?_
          refine am_lsv (ls' := [(0, .ref 17), (1, .int (nI line)), (2, .int (nI (rf_nat (w (732 + 4 * line + 2))))), (3, .int (nI (rf_nat (w (732 + 4 * line + 3))))), (4, .int (nI ((cl_rn (h 23) (h 22) (h 24) (rf_nat (w (732 + 4 * line + 2))) (i31 + 1)).2))), (5, .int (nI (rf_nat (w (732 + 4 * line + 2)) + i31 + 1)))]) (congrArg (fun z9 : Int32 => ([(0, .ref 17), (1, .int (nI line)), (2, .int (nI (rf_nat (w (732 + 4 * line + 2))))), (3, .int (nI (rf_nat (w (732 + 4 * line + 3))))), (4, Value.int z9), (5, .int (nI (rf_nat (w (732 + 4 * line + 2)) + i31 + 1)))] : List (Nat × Value))) (show (nI (cl_at (rf_nat (h 22 (rf_nat (w (732 + 4 * line + 2)) + i31))) ((cl_rn (h 23) (h 22) (h 24) (rf_nat (w (732 + 4 * line + 2))) i31).2))) = (nI ((cl_rn (h 23) (h 22) (h 24) (rf_nat (w (732 + 4 * line + 2))) (i31 + 1)).2)) from rfl)) ?_
          refine am_lsv (ls' := [(0, .ref 17), (1, .int (nI line)), (2, .int (nI (rf_nat (w (732 + 4 * line + 2))))), (3, .int (nI (rf_nat (w (732 + 4 * line + 3))))), (4, .int (nI ((cl_rn (h 23) (h 22) (h 24) (rf_nat (w (732 + 4 * line + 2))) (i31 + 1)).2))), (5, .int (nI (rf_nat (w (732 + 4 * line + 2)) + (i31 + 1))))]) (congrArg (fun z9 : Int32 => ([(0, .ref 17), (1, .int (nI line)), (2, .int (nI (rf_nat (w (732 + 4 * line + 2))))), (3, .int (nI (rf_nat (w (732 + 4 * line + 3))))), (4, .int (nI ((cl_rn (h 23) (h 22) (h 24) (rf_nat (w (732 + 4 * line + 2))) (i31 + 1)).2))), (5, Value.int z9)] : List (Nat × Value))) (show (nI (rf_nat (w (732 + 4 * line + 2)) + i31 + 1)) = (nI (rf_nat (w (732 + 4 * line + 2)) + (i31 + 1))) from rfl)) ?_
          exact ih31 (i31 + 1) (by omega) 
    refine am_hp (show h = (am_row h 24 ((cl_rn (h 23) (h 22) (h 24) (rf_nat (w (732 + 4 * line + 2))) 0).1)) from (am_row_id _ 24).symm) ?_
    refine am_lsv (ls' := [(0, .ref 17), (1, .int (nI line)), (2, .int (nI (rf_nat (w (732 + 4 * line + 2))))), (3, .int (nI (rf_nat (w (732 + 4 * line + 3))))), (4, .int (nI ((cl_rn (h 23) (h 22) (h 24) (rf_nat (w (732 + 4 * line + 2))) 0).2))), (5, .int (nI (rf_nat (w (732 + 4 * line + 2)))))]) (congrArg (fun z9 : Int32 => ([(0, .ref 17), (1, .int (nI line)), (2, .int (nI (rf_nat (w (732 + 4 * line + 2))))), (3, .int (nI (rf_nat (w (732 + 4 * line + 3))))), (4, Value.int z9), (5, .int (nI (rf_nat (w (732 + 4 * line + 2)))))] : List (Nat × Value))) (show (nI 0) = (nI ((cl_rn (h 23) (h 22) (h 24) (rf_nat (w (732 + 4 * line + 2))) 0).2)) from rfl)) ?_
    refine am_lsv (ls' := [(0, .ref 17), (1, .int (nI line)), (2, .int (nI (rf_nat (w (732 + 4 * line + 2))))), (3, .int (nI (rf_nat (w (732 + 4 * line + 3))))), (4, .int (nI ((cl_rn (h 23) (h 22) (h 24) (rf_nat (w (732 + 4 * line + 2))) 0).2))), (5, .int (nI (rf_nat (w (732 + 4 * line + 2)) + 0)))]) (congrArg (fun z9 : Int32 => ([(0, .ref 17), (1, .int (nI line)), (2, .int (nI (rf_nat (w (732 + 4 * line + 2))))), (3, .int (nI (rf_nat (w (732 + 4 * line + 3))))), (4, .int (nI ((cl_rn (h 23) (h 22) (h 24) (rf_nat (w (732 + 4 * line + 2))) 0).2))), (5, Value.int z9)] : List (Nat × Value))) (show (nI (rf_nat (w (732 + 4 * line + 2)))) = (nI (rf_nat (w (732 + 4 * line + 2)) + 0)) from rfl)) ?_
    exact L31 (rf_nat (w (732 + 4 * line + 3)) - rf_nat (w (732 + 4 * line + 2))) 0 (by omega) 
  · skip
    refine am_iconstN (pc := 23) (k := 1) C dX1_holds_23 ?_
    exact am_iretbr T dX1_holds_24 rfl (Nat.le_refl _) (Nat.le_refl _) (by rw [rf_holds_0 (by omega)]; rfl) rfl (fun _ _ => rfl)

set_option maxHeartbeats 400000 in
set_option maxRecDepth 100000 in
theorem c_X1_sumOf {ad : Nat → Nat} {r : am_R} (hR : am_rs r) {h : am_H} (kd : Nat) (w : rf_W) (hLw : rf_Lw w) (hLk : rf_Lk w) (hA : cl_La (h) 17 w) (h4 : 0 < rf_nat (w 4)) (hkd : kd < 3) (hpt : ∀ c, c < 8 → (h 23) c = rf_fact w c (nI 0) (rf_nat ((h 23) 0)))  : am_CM mX1_sumOf 3 0 0 [.ref 17, .int (nI kd)] (am_VV ad) r h (am_pr (some (.int (nI (min (rf_sayn w kd (rf_nat ((h 23) 0)) (rf_nat (w 731))) 100)))) r (fun c9 => cl_fr (h) c9 24 1)) := by
  refine am_CM.of (by decide +kernel) (Nat.le_of_ble_eq_true rfl) (fun X C T => ?_)
  show am_G X (am_VV ad) (0, 0) 0 [(0, .ref 17), (1, .int (nI kd))] [] r h
  have hW := hLw h4
  have h13 : rf_nat (w 731) < 13 := hW.1.2
  have hsy : ∀ n, n ≤ rf_nat (w 731) → rf_sayn w kd (rf_nat (h 23 0)) n ≤ 1000 * n := fun n hn => rf_sayn_le n (fun k hk => (hW.2 k (by omega)).2.1.2)
  refine am_iconstN (pc := 0) (k := 0) C dX1_sumOf_0 ?_
  refine am_istore_n (pc := 1) (ls' := [(0, .ref 17), (1, .int (nI kd)), (2, .int (nI 0))]) C dX1_sumOf_1 (by decide) rfl ?_
  refine am_iconstN (pc := 2) (k := 0) C dX1_sumOf_2 ?_
  refine am_istore_n (pc := 3) (ls' := [(0, .ref 17), (1, .int (nI kd)), (2, .int (nI 0)), (3, .int (nI 0))]) C dX1_sumOf_3 (by decide) rfl ?_
  have L4 : ∀ (j4 : Nat) (g : am_H) (n : Nat), (hnj : n + j4 = rf_nat (w 731)) → (hF : cl_fr h g 24 1) → am_G X (am_VV ad) (0, 0) 4 [(0, .ref 17), (1, .int (nI kd)), (2, .int (nI (rf_sayn w kd (rf_nat (h 23 0)) n))), (3, .int (nI n))] [] r g := by
    intro j4
    induction j4 with
    | zero =>
      intro g n hnj hF
      have hsn := hsy n (by omega)
      refine am_iload_n (pc := 4) C dX1_sumOf_4 rfl ?_
      refine am_aload_n (pc := 5) C dX1_sumOf_5 rfl ?_
      refine am_getI (pc := 6) C dX1_sumOf_6 f1_9 bn_17 sh_17 ?_
      refine am_top (show ((g 17) 0) = (nI (rf_nat (w 731))) from ((congrFun (hF 17 (by omega)) 0).trans ((hA.2 h4).1.trans hW.1.1))) ?_
      refine am_icmp_geN (pc := 9) (tgt := 55) C dX1_sumOf_9 (by decide) (by omega) (by omega) (fun q9 => ?_) (fun q9 => ?_)
      · skip
        refine am_iload_n (pc := 55) C dX1_sumOf_55 rfl ?_
        refine am_bipush (pc := 56) (v := nI 100) C dX1_sumOf_56 (by decide) ?_
        refine am_callSi (Y := mJ9_min_7cf53) (pc := 58) (st := []) (As := [.int (nI (rf_sayn w kd (rf_nat (h 23 0)) n)), .int (nI 100)]) (x := (rf_min (nI (rf_sayn w kd (rf_nat (h 23 0)) n)) (nI 100))) (h2 := g) C dX1_sumOf_58 k1_56 v_J9_min_7cf53 rfl rfl (by decide) (Nat.zero_le _) (Nat.zero_le _) (Nat.le_of_ble_eq_true rfl) (c_J9_min_7cf53 hR (nI (rf_sayn w kd (rf_nat (h 23 0)) n)) (nI 100)) ?_
        refine am_top (show (rf_min (nI (rf_sayn w kd (rf_nat (h 23 0)) n)) (nI 100)) = (nI (min (rf_sayn w kd (rf_nat (h 23 0)) n) 100)) from (rf_min_N (by omega) (by omega))) ?_
        exact am_iretir T dX1_sumOf_61 rfl (Nat.le_refl _) (Nat.le_refl _) (by rw [show n = rf_nat (w 731) by omega]) rfl hF
      · skip
        exact absurd q9 (by omega)
    | succ j4 ih4 =>
      intro g n hnj hF
      have hsn := hsy n (by omega)
      have hn9 : n < rf_nat (w 731) := by omega
      obtain ⟨l1, l2, l3, l4, l5, l6⟩ := hW.2 n hn9
      have l2b : rf_nat (w (732 + 4 * n + 1)) < 1000 := l2.2
      have l1b : rf_nat (w (732 + 4 * n)) < 3 := l1.2
      obtain ⟨g1, g2, g3, g4, g5⟩ := (hA.2 h4).2 n hn9
      refine am_iload_n (pc := 4) C dX1_sumOf_4 rfl ?_
      refine am_aload_n (pc := 5) C dX1_sumOf_5 rfl ?_
      refine am_getI (pc := 6) C dX1_sumOf_6 f1_9 bn_17 sh_17 ?_
      refine am_top (show ((g 17) 0) = (nI (rf_nat (w 731))) from ((congrFun (hF 17 (by omega)) 0).trans ((hA.2 h4).1.trans hW.1.1))) ?_
      refine am_icmp_geN (pc := 9) (tgt := 55) C dX1_sumOf_9 (by decide) (by omega) (by omega) (fun q9 => ?_) (fun q9 => ?_)
      · skip
        exact absurd q9 (by omega)
      · skip
        refine am_iload_n (pc := 12) C dX1_sumOf_12 rfl ?_
        refine am_bipush (pc := 13) (v := nI 12) C dX1_sumOf_13 (by decide) ?_
        refine am_icmp_geN (pc := 15) (tgt := 55) C dX1_sumOf_15 (by decide) (by omega) (by omega) (fun q15 => ?_) (fun q15 => ?_)
        · skip
          exact absurd q15 (by omega)
        · skip
          refine am_aload_n (pc := 18) C dX1_sumOf_18 rfl ?_
          refine am_getR (pc := 19) (j := 18) C dX1_sumOf_19 f1_15 bn_17 sh_17 (rf_17_2 hR) ?_
          refine am_iload_n (pc := 22) C dX1_sumOf_22 rfl ?_
          refine am_callSNi (Y := mX11_pick) (pc := 23) (st := []) (As := [.ref 18, .int (nI n)]) (x := ((g 18) n)) (h2 := g) C dX1_sumOf_23 k1_48 v_X11_pick rfl rfl (by decide) (Nat.zero_le _) (Nat.zero_le _) (Nat.le_of_ble_eq_true rfl) (c_X11_pick 18 n 12 bn_18 sh_18 (show n < 12 from by omega) (by decide)) ?_
          refine am_top (show ((g 18) n) = (nI (rf_nat (w (732 + 4 * n)))) from ((congrFun (hF 18 (by omega)) n).trans (g1.trans l1.1))) ?_
          refine am_iload_n (pc := 26) C dX1_sumOf_26 rfl ?_
          refine am_icmp_neN (pc := 27) (tgt := 49) C dX1_sumOf_27 (by decide) (by omega) (by omega) (fun q25 => ?_) (fun q25 => ?_)
          · skip
            refine am_iincN (pc := 49) (ls' := [(0, .ref 17), (1, .int (nI kd)), (2, .int (nI (rf_sayn w kd (rf_nat (h 23 0)) n))), (3, .int (nI (n + 1)))]) C dX1_sumOf_49 rfl (am_up1 _) (by decide) rfl ?_
            refine am_goto (pc := 52) (tgt := 4) C dX1_sumOf_52 (by decide) ?_
            refine am_lsv (ls' := [(0, .ref 17), (1, .int (nI kd)), (2, .int (nI (rf_sayn w kd (rf_nat (h 23 0)) (n + 1)))), (3, .int (nI (n + 1)))]) (by rw [show (nI (rf_sayn w kd (rf_nat (h 23 0)) n)) = (nI (rf_sayn w kd (rf_nat (h 23 0)) (n + 1))) from congrArg nI (by rw [rf_sayn, if_neg (fun z => q25 z.1)]; rfl)]) ?_
            exact ih4 g (n + 1) (by omega) hF
          · skip
            refine am_aload_n (pc := 30) C dX1_sumOf_30 rfl ?_
            refine am_iload_n (pc := 31) C dX1_sumOf_31 rfl ?_
            refine am_callVir (Y := mX1_holds) (pc := 32) (st := []) (As := [.int (nI n)]) (x := (am_b (rf_holds w n (rf_nat ((g 23) 0))))) (PP := fun c9 => cl_fr (g) c9 24 1) C dX1_sumOf_32 k1_52 v_X1_holds rfl rfl bn_17 sh_17 ⟨by decide, rfl⟩ (by decide) (Nat.zero_le _) (Nat.zero_le _) (Nat.le_of_ble_eq_true rfl) (c_X1_holds hR n w (show rf_Lw w from hLw) (show rf_Lk w from hLk) (show cl_La (g) 17 w from (cl_La_eq (fun i a b => hF i (by omega)) hA)) (show 0 < rf_nat (w 4) from h4) (show n < rf_nat (w 731) from hn9) (show ∀ c, c < 8 → (g 23) c = rf_fact w c (nI 0) (rf_nat ((g 23) 0)) from (by rw [hF 23 (by omega)]; exact hpt))) (fun g30_1 hg30_1 => ?_)
            have F30 := hg30_1
            refine am_top (show (am_b (rf_holds w n (rf_nat ((g 23) 0)))) = (am_b (rf_holds w n (rf_nat (h 23 0)))) from (by rw [hF 23 (by omega)])) ?_
            refine am_if_eqB (pc := 35) (tgt := 49) C dX1_sumOf_35 (by decide) (fun q33 => ?_) (fun q33 => ?_)
            · skip
              refine am_iincN (pc := 49) (ls' := [(0, .ref 17), (1, .int (nI kd)), (2, .int (nI (rf_sayn w kd (rf_nat (h 23 0)) n))), (3, .int (nI (n + 1)))]) C dX1_sumOf_49 rfl (am_up1 _) (by decide) rfl ?_
              refine am_goto (pc := 52) (tgt := 4) C dX1_sumOf_52 (by decide) ?_
              refine am_lsv (ls' := [(0, .ref 17), (1, .int (nI kd)), (2, .int (nI (rf_sayn w kd (rf_nat (h 23 0)) (n + 1)))), (3, .int (nI (n + 1)))]) (by rw [show (nI (rf_sayn w kd (rf_nat (h 23 0)) n)) = (nI (rf_sayn w kd (rf_nat (h 23 0)) (n + 1))) from congrArg nI (by rw [rf_sayn, if_neg (fun z => Bool.false_ne_true (q33.symm.trans z.2))]; rfl)]) ?_
              exact ih4 g30_1 (n + 1) (by omega) (fun i h9 => (F30 i h9).trans (hF i h9))
            · skip
              refine am_iload_n (pc := 38) C dX1_sumOf_38 rfl ?_
              refine am_aload_n (pc := 39) C dX1_sumOf_39 rfl ?_
              refine am_getR (pc := 40) (j := 19) C dX1_sumOf_40 f1_19 bn_17 sh_17 (rf_17_3 hR) ?_
              refine am_iload_n (pc := 43) C dX1_sumOf_43 rfl ?_
              refine am_callSNi (Y := mX11_pick) (pc := 44) (st := [.int (nI (rf_sayn w kd (rf_nat (h 23 0)) n))]) (As := [.ref 19, .int (nI n)]) (x := ((g30_1 19) n)) (h2 := g30_1) C dX1_sumOf_44 k1_48 v_X11_pick rfl rfl (by decide) (Nat.zero_le _) (Nat.zero_le _) (Nat.le_of_ble_eq_true rfl) (c_X11_pick 19 n 12 bn_19 sh_19 (show n < 12 from by omega) (by decide)) ?_
              refine am_top (show ((g30_1 19) n) = (nI (rf_nat (w (732 + 4 * n + 1)))) from ((congrFun (F30 19 (by omega)) n).trans ((congrFun (hF 19 (by omega)) n).trans (g2.trans l2.1)))) ?_
              refine am_iaddN (pc := 47) C dX1_sumOf_47 ?_
              refine am_istore_n (pc := 48) (ls' := [(0, .ref 17), (1, .int (nI kd)), (2, .int (nI ((rf_sayn w kd (rf_nat (h 23 0)) n) + (rf_nat (w (732 + 4 * n + 1)))))), (3, .int (nI n))]) C dX1_sumOf_48 (by decide) rfl ?_
              refine am_iincN (pc := 49) (ls' := [(0, .ref 17), (1, .int (nI kd)), (2, .int (nI ((rf_sayn w kd (rf_nat (h 23 0)) n) + (rf_nat (w (732 + 4 * n + 1)))))), (3, .int (nI (n + 1)))]) C dX1_sumOf_49 rfl (am_up1 _) (by decide) rfl ?_
              refine am_goto (pc := 52) (tgt := 4) C dX1_sumOf_52 (by decide) ?_
              refine am_lsv (ls' := [(0, .ref 17), (1, .int (nI kd)), (2, .int (nI (rf_sayn w kd (rf_nat (h 23 0)) (n + 1)))), (3, .int (nI (n + 1)))]) (by rw [show (nI ((rf_sayn w kd (rf_nat (h 23 0)) n) + (rf_nat (w (732 + 4 * n + 1))))) = (nI (rf_sayn w kd (rf_nat (h 23 0)) (n + 1))) from congrArg nI (by rw [rf_sayn, if_pos ⟨q25, q33⟩])]) ?_
              exact ih4 g30_1 (n + 1) (by omega) (fun i h9 => (F30 i h9).trans (hF i h9))
  refine am_lsv (ls' := [(0, .ref 17), (1, .int (nI kd)), (2, .int (nI (rf_sayn w kd (rf_nat (h 23 0)) 0))), (3, .int (nI 0))]) (congrArg (fun z9 : Int32 => ([(0, .ref 17), (1, .int (nI kd)), (2, Value.int z9), (3, .int (nI 0))] : List (Nat × Value))) (show (nI 0) = (nI (rf_sayn w kd (rf_nat (h 23 0)) 0)) from rfl)) ?_
  exact L4 (rf_nat (w 731)) h 0 (by omega) (fun _ _ => rfl)

