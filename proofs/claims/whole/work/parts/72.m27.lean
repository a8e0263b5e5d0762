/-! THE CLASS: the same over the world in which trials are made -/

set_option maxHeartbeats 400000 in
set_option maxRecDepth 100000 in
theorem c_X5_knownAt_p {ad : Nat → Nat} {r : am_R} (hR : am_rs r) {h : am_H} (s : Nat) (k : Nat) (w : rf_W) (hV : rf_I w) (hSc : cl_Sc (h) 41 w) (hs : s < rf_S w) (hk : k < rf_kn w s)  : am_CM mX5_knownAt 1 0 0 [.ref 41, .int (nI s), .int (nI k)] (am_VV ad) r h (am_po (some (.int (nI (rf_li w s k)))) r h) := by
  refine am_CM.of (by decide +kernel) (Nat.le_of_ble_eq_true rfl) (fun X C T => ?_)
  show am_G X (am_VV ad) (0, 0) 0 [(0, .ref 41), (1, .int (nI s)), (2, .int (nI k))] [] r h
  have hM9 : rf_M w < 17 := hV.1.1.2
  have hS9 : rf_S w < 11 := hV.1.2.1.2
  have hO9 : rf_O w < 11 := hV.1.2.2.2
  have hIs := hV.2.1 s hs
  have hk13 : rf_kn w s < 13 := hIs.2.2.2.2.1.2
  refine am_iload_n (pc := 0) C dX5_knownAt_0 rfl ?_
  refine am_if_ltN (pc := 1) (tgt := 32) C dX5_knownAt_1 (by decide) (by omega) ?_
  refine am_iload_n (pc := 4) C dX5_knownAt_4 rfl ?_
  refine am_aload_n (pc := 5) C dX5_knownAt_5 rfl ?_
  refine am_getR (pc := 6) (j := 44) C dX5_knownAt_6 f5_22 bn_41 sh_41 (rf_41_7 hR) ?_
  refine am_iload_n (pc := 9) C dX5_knownAt_9 rfl ?_
  refine am_callSNi (Y := mX11_pick) (pc := 10) (st := [.int (nI k)]) (As := [.ref 44, .int (nI s)]) (x := ((h 44) s)) (h2 := h) C dX5_knownAt_10 k5_75 v_X11_pick rfl rfl (by decide) (Nat.zero_le _) (Nat.zero_le _) (Nat.le_of_ble_eq_true rfl) (c_X11_pick 44 s 10 bn_44 sh_44 (show s < 10 from by omega) (by decide)) ?_
  refine am_top (show ((h 44) s) = (nI (rf_kn w s)) from ((hSc.2.1 s (by omega)).2.2.1.trans (hV.2.1 s (by omega)).2.2.2.2.1.1)) ?_
  refine am_icmp_geN (pc := 13) (tgt := 32) C dX5_knownAt_13 (by decide) (by omega) (by omega) (fun q13 => ?_) (fun q13 => ?_)
  · skip
    exact absurd q13 (by omega)
  · skip
    refine am_aload_n (pc := 16) C dX5_knownAt_16 rfl ?_
    refine am_getR (pc := 17) (j := 47) C dX5_knownAt_17 f5_31 bn_41 sh_41 (rf_41_10 hR) ?_
    refine am_iload_n (pc := 20) C dX5_knownAt_20 rfl ?_
    refine am_bipush (pc := 21) (v := nI 12) C dX5_knownAt_21 (by decide) ?_
    refine am_imulN (pc := 23) C dX5_knownAt_23 ?_
    refine am_iload_n (pc := 24) C dX5_knownAt_24 rfl ?_
    refine am_iaddN (pc := 25) C dX5_knownAt_25 ?_
    refine am_callSNi (Y := mX11_pick) (pc := 26) (st := []) (As := [.ref 47, .int (nI ((s * 12) + k))]) (x := ((h 47) ((s * 12) + k))) (h2 := h) C dX5_knownAt_26 k5_75 v_X11_pick rfl rfl (by decide) (Nat.zero_le _) (Nat.zero_le _) (Nat.le_of_ble_eq_true rfl) (c_X11_pick 47 ((s * 12) + k) 120 bn_47 sh_47 (show (s * 12) + k < 120 from by omega) (by decide)) ?_
    refine am_top (show ((h 47) ((s * 12) + k)) = (nI (rf_li w s k)) from (((hSc.2.1 s hs).2.2.2.2.2 k hk).trans (hIs.2.2.2.2.2.1 k hk).1)) ?_
    refine am_goto (pc := 29) (tgt := 33) C dX5_knownAt_29 (by decide) ?_
    exact am_ireti T dX5_knownAt_33 rfl (Nat.le_refl _) (Nat.le_refl _) rfl rfl rfl

set_option maxHeartbeats 400000 in
set_option maxRecDepth 100000 in
theorem c_X10_canUse_p {ad : Nat → Nat} {r : am_R} (hR : am_rs r) {h : am_H} (s : Nat) (m : Nat) (w : rf_W) (hV : rf_I w) (hLo : cl_Lo (h) 4 w) (hSc : cl_Sc (h) 41 w) (hs : s < rf_S w) (hm : m < 32)  : am_CM mX10_canUse 1 0 0 [.ref 40, .int (nI s), .int (nI m)] (am_VV ad) r h (am_po (some (.int (am_b (am_bt (rf_use w s) m)))) r h) := by
  refine am_CM.of (by decide +kernel) (Nat.le_of_ble_eq_true rfl) (fun X C T => ?_)
  show am_G X (am_VV ad) (0, 0) 0 [(0, .ref 40), (1, .int (nI s)), (2, .int (nI m))] [] r h
  have hM9 : rf_M w < 17 := hV.1.1.2
  have hS9 : rf_S w < 11 := hV.1.2.1.2
  have hO9 : rf_O w < 11 := hV.1.2.2.2
  refine am_aload_n (pc := 0) C dX10_canUse_0 rfl ?_
  refine am_getR (pc := 1) (j := 41) C dX10_canUse_1 f10_22 bn_40 sh_40 (rf_40_2 hR) ?_
  refine am_getR (pc := 4) (j := 46) C dX10_canUse_4 f10_64 bn_41 sh_41 (rf_41_9 hR) ?_
  refine am_iload_n (pc := 7) C dX10_canUse_7 rfl ?_
  refine am_callSNi (Y := mX11_pick) (pc := 8) (st := []) (As := [.ref 46, .int (nI s)]) (x := ((h 46) s)) (h2 := h) C dX10_canUse_8 k10_54 v_X11_pick rfl rfl (by decide) (Nat.zero_le _) (Nat.zero_le _) (Nat.le_of_ble_eq_true rfl) (c_X11_pick 46 s 10 bn_46 sh_46 (show s < 10 from by omega) (by decide)) ?_
  refine am_top (show ((h 46) s) = (rf_use w s) from (hSc.2.1 s (by omega)).2.2.2.2.1) ?_
  refine am_iload_n (pc := 11) C dX10_canUse_11 rfl ?_
  refine am_callSNi (Y := mX11_has) (pc := 12) (st := []) (As := [.int (rf_use w s), .int (nI m)]) (x := (am_b (am_bt (rf_use w s) m))) (h2 := h) C dX10_canUse_12 k10_67 v_X11_has rfl rfl (by decide) (Nat.zero_le _) (Nat.zero_le _) (Nat.le_of_ble_eq_true rfl) (c_X11_has (rf_use w s) m hm) ?_
  exact am_iretb T dX10_canUse_15 rfl (Nat.le_refl _) (Nat.le_refl _) rfl rfl rfl

set_option maxHeartbeats 400000 in
set_option maxRecDepth 100000 in
theorem c_X10_usableInAll_p {ad : Nat → Nat} {r : am_R} (hR : am_rs r) {h : am_H} (d : Int32) (w : rf_W) (hV : rf_I w) (hLo : cl_Lo (h) 4 w) (hSc : cl_Sc (h) 41 w)  : am_CM mX10_usableInAll 1 0 0 [.ref 40, .int d] (am_VV ad) r h (am_po (some (.int (rf_ui w d (rf_S w)))) r h) := by
  refine am_CM.of (by decide +kernel) (Nat.le_of_ble_eq_true rfl) (fun X C T => ?_)
  show am_G X (am_VV ad) (0, 0) 0 [(0, .ref 40), (1, .int d)] [] r h
  have hM9 : rf_M w < 17 := hV.1.1.2
  have hS9 : rf_S w < 11 := hV.1.2.1.2
  have hO9 : rf_O w < 11 := hV.1.2.2.2
  refine am_iconstN (pc := 0) (k := 0) C dX10_usableInAll_0 ?_
  refine am_istore_n (pc := 1) (ls' := [(0, .ref 40), (1, .int d), (2, .int (nI 0))]) C dX10_usableInAll_1 (by decide) rfl ?_
  refine am_iconstN (pc := 2) (k := 0) C dX10_usableInAll_2 ?_
  refine am_istore_n (pc := 3) (ls' := [(0, .ref 40), (1, .int d), (2, .int (nI 0)), (3, .int (nI 0))]) C dX10_usableInAll_3 (by decide) rfl ?_
  have L4 : ∀ (j4 i4 : Nat), i4 + j4 = rf_S w → am_G X (am_VV ad) (0, 0) 4 [(0, .ref 40), (1, .int d), (2, .int (rf_ui w d i4)), (3, .int (nI i4))] [] r h := by
    intro j4
    induction j4 with
    | zero =>
      intro i4 hi4 
      obtain rfl : i4 = rf_S w := by omega
      refine am_iload_n (pc := 4) C dX10_usableInAll_4 rfl ?_
      refine am_aload_n (pc := 5) C dX10_usableInAll_5 rfl ?_
      refine am_getR (pc := 6) (j := 4) C dX10_usableInAll_6 f10_9 bn_40 sh_40 (rf_40_0 hR) ?_
      refine am_getI (pc := 9) C dX10_usableInAll_9 f10_138 bn_4 sh_4 ?_
      refine am_top (show ((h 4) 2) = (nI (rf_S w)) from (hLo.1.2.2.1.trans hV.1.2.1.1)) ?_
      refine am_icmp_geN (pc := 12) (tgt := 53) C dX10_usableInAll_12 (by decide) (by omega) (by omega) (fun q12 => ?_) (fun q12 => ?_)
      · skip
        refine am_iload_n (pc := 53) C dX10_usableInAll_53 rfl ?_
        exact am_ireti T dX10_usableInAll_54 rfl (Nat.le_refl _) (Nat.le_refl _) rfl rfl rfl
      · skip
        exact absurd q12 (by omega)
    | succ j4 ih4 =>
      intro i4 hi4 
      have hl4 : i4 < rf_S w := by omega
      refine am_iload_n (pc := 4) C dX10_usableInAll_4 rfl ?_
      refine am_aload_n (pc := 5) C dX10_usableInAll_5 rfl ?_
      refine am_getR (pc := 6) (j := 4) C dX10_usableInAll_6 f10_9 bn_40 sh_40 (rf_40_0 hR) ?_
      refine am_getI (pc := 9) C dX10_usableInAll_9 f10_138 bn_4 sh_4 ?_
      refine am_top (show ((h 4) 2) = (nI (rf_S w)) from (hLo.1.2.2.1.trans hV.1.2.1.1)) ?_
      refine am_icmp_geN (pc := 12) (tgt := 53) C dX10_usableInAll_12 (by decide) (by omega) (by omega) (fun q12 => ?_) (fun q12 => ?_)
      · skip
        exact absurd q12 (by omega)
      · skip
        refine am_aload_n (pc := 15) C dX10_usableInAll_15 rfl ?_
        refine am_getR (pc := 16) (j := 4) C dX10_usableInAll_16 f10_9 bn_40 sh_40 (rf_40_0 hR) ?_
        refine am_getR (pc := 19) (j := 10) C dX10_usableInAll_19 f10_88 bn_4 sh_4 (rf_4_9 hR) ?_
        refine am_iload_n (pc := 22) C dX10_usableInAll_22 rfl ?_
        refine am_callSNi (Y := mX11_pick) (pc := 23) (st := []) (As := [.ref 10, .int (nI i4)]) (x := ((h 10) i4)) (h2 := h) C dX10_usableInAll_23 k10_54 v_X11_pick rfl rfl (by decide) (Nat.zero_le _) (Nat.zero_le _) (Nat.le_of_ble_eq_true rfl) (c_X11_pick 10 i4 10 bn_10 sh_10 (show i4 < 10 from by omega) (by decide)) ?_
        refine am_top (show ((h 10) i4) = (rf_of w i4 0) from (hLo.2.2.1 i4 (by omega)).1) ?_
        refine am_iload_n (pc := 26) C dX10_usableInAll_26 rfl ?_
        refine am_icmp_ne (pc := 27) (tgt := 47) C dX10_usableInAll_27 (by decide) (fun q27 => ?_) (fun q27 => ?_)
        · skip
          refine am_iincN (pc := 47) (ls' := [(0, .ref 40), (1, .int d), (2, .int (rf_ui w d i4)), (3, .int (nI (i4 + 1)))]) C dX10_usableInAll_47 rfl (am_up1 _) (by decide) rfl ?_
          refine am_goto (pc := 50) (tgt := 4) C dX10_usableInAll_50 (by decide) ?_
          refine am_lsv (ls' := [(0, .ref 40), (1, .int d), (2, .int (rf_ui w d (i4 + 1))), (3, .int (nI (i4 + 1)))]) (by rw [show (rf_ui w d i4) = (rf_ui w d (i4 + 1)) from (by rw [rf_ui, if_neg q27]; exact (Int32.add_zero _).symm)]) ?_
          exact ih4 (i4 + 1) (by omega) 
        · skip
          refine am_iload_n (pc := 30) C dX10_usableInAll_30 rfl ?_
          refine am_aload_n (pc := 31) C dX10_usableInAll_31 rfl ?_
          refine am_getR (pc := 32) (j := 41) C dX10_usableInAll_32 f10_22 bn_40 sh_40 (rf_40_2 hR) ?_
          refine am_getR (pc := 35) (j := 46) C dX10_usableInAll_35 f10_64 bn_41 sh_41 (rf_41_9 hR) ?_
          refine am_iload_n (pc := 38) C dX10_usableInAll_38 rfl ?_
          refine am_callSNi (Y := mX11_pick) (pc := 39) (st := [.int (rf_ui w d i4)]) (As := [.ref 46, .int (nI i4)]) (x := ((h 46) i4)) (h2 := h) C dX10_usableInAll_39 k10_54 v_X11_pick rfl rfl (by decide) (Nat.zero_le _) (Nat.zero_le _) (Nat.le_of_ble_eq_true rfl) (c_X11_pick 46 i4 10 bn_46 sh_46 (show i4 < 10 from by omega) (by decide)) ?_
          refine am_top (show ((h 46) i4) = (rf_use w i4) from (hSc.2.1 i4 (by omega)).2.2.2.2.1) ?_
          refine am_callSi (Y := mJ6_bitCount_0f7a4) (pc := 42) (st := [.int (rf_ui w d i4)]) (As := [.int (rf_use w i4)]) (x := (rf_pc (rf_use w i4))) (h2 := h) C dX10_usableInAll_42 k10_107 v_J6_bitCount_0f7a4 rfl rfl (by decide) (Nat.zero_le _) (Nat.zero_le _) (Nat.le_of_ble_eq_true rfl) (c_J6_bitCount_0f7a4 hR (rf_use w i4)) ?_
          refine am_iadd (pc := 45) C dX10_usableInAll_45 ?_
          refine am_istore_n (pc := 46) (ls' := [(0, .ref 40), (1, .int d), (2, .int ((rf_ui w d i4) + (rf_pc (rf_use w i4)))), (3, .int (nI i4))]) C dX10_usableInAll_46 (by decide) rfl ?_
          refine am_iincN (pc := 47) (ls' := [(0, .ref 40), (1, .int d), (2, .int ((rf_ui w d i4) + (rf_pc (rf_use w i4)))), (3, .int (nI (i4 + 1)))]) C dX10_usableInAll_47 rfl (am_up1 _) (by decide) rfl ?_
          refine am_goto (pc := 50) (tgt := 4) C dX10_usableInAll_50 (by decide) ?_
          refine am_lsv (ls' := [(0, .ref 40), (1, .int d), (2, .int (rf_ui w d (i4 + 1))), (3, .int (nI (i4 + 1)))]) (by rw [show ((rf_ui w d i4) + (rf_pc (rf_use w i4))) = (rf_ui w d (i4 + 1)) from (by rw [rf_ui, if_pos q27])]) ?_
          exact ih4 (i4 + 1) (by omega) 
  exact L4 (rf_S w) 0 (by omega) 

set_option maxHeartbeats 400000 in
set_option maxRecDepth 100000 in
theorem c_X10_knownInAll_p {ad : Nat → Nat} {r : am_R} (hR : am_rs r) {h : am_H}  (w : rf_W) (hV : rf_I w) (hLo : cl_Lo (h) 4 w) (hSc : cl_Sc (h) 41 w)  : am_CM mX10_knownInAll 1 0 0 [.ref 40] (am_VV ad) r h (am_po (some (.int (nI (rf_ak w (rf_S w))))) r h) := by
  refine am_CM.of (by decide +kernel) (Nat.le_of_ble_eq_true rfl) (fun X C T => ?_)
  show am_G X (am_VV ad) (0, 0) 0 [(0, .ref 40)] [] r h
  have hM9 : rf_M w < 17 := hV.1.1.2
  have hS9 : rf_S w < 11 := hV.1.2.1.2
  have hO9 : rf_O w < 11 := hV.1.2.2.2
  refine am_iconstN (pc := 0) (k := 0) C dX10_knownInAll_0 ?_
  refine am_istore_n (pc := 1) (ls' := [(0, .ref 40), (1, .int (nI 0))]) C dX10_knownInAll_1 (by decide) rfl ?_
  refine am_iconstN (pc := 2) (k := 0) C dX10_knownInAll_2 ?_
  refine am_istore_n (pc := 3) (ls' := [(0, .ref 40), (1, .int (nI 0)), (2, .int (nI 0))]) C dX10_knownInAll_3 (by decide) rfl ?_
  have L4 : ∀ (j4 i4 : Nat), i4 + j4 = rf_S w → am_G X (am_VV ad) (0, 0) 4 [(0, .ref 40), (1, .int (nI (rf_ak w i4))), (2, .int (nI i4))] [] r h := by
    intro j4
    induction j4 with
    | zero =>
      intro i4 hi4 
      obtain rfl : i4 = rf_S w := by omega
      refine am_iload_n (pc := 4) C dX10_knownInAll_4 rfl ?_
      refine am_aload_n (pc := 5) C dX10_knownInAll_5 rfl ?_
      refine am_getR (pc := 6) (j := 4) C dX10_knownInAll_6 f10_9 bn_40 sh_40 (rf_40_0 hR) ?_
      refine am_getI (pc := 9) C dX10_knownInAll_9 f10_138 bn_4 sh_4 ?_
      refine am_top (show ((h 4) 2) = (nI (rf_S w)) from (hLo.1.2.2.1.trans hV.1.2.1.1)) ?_
      refine am_icmp_geN (pc := 12) (tgt := 35) C dX10_knownInAll_12 (by decide) (by omega) (by omega) (fun q12 => ?_) (fun q12 => ?_)
      · skip
        refine am_iload_n (pc := 35) C dX10_knownInAll_35 rfl ?_
        exact am_ireti T dX10_knownInAll_36 rfl (Nat.le_refl _) (Nat.le_refl _) rfl rfl rfl
      · skip
        exact absurd q12 (by omega)
    | succ j4 ih4 =>
      intro i4 hi4 
      have hl4 : i4 < rf_S w := by omega
      refine am_iload_n (pc := 4) C dX10_knownInAll_4 rfl ?_
      refine am_aload_n (pc := 5) C dX10_knownInAll_5 rfl ?_
      refine am_getR (pc := 6) (j := 4) C dX10_knownInAll_6 f10_9 bn_40 sh_40 (rf_40_0 hR) ?_
      refine am_getI (pc := 9) C dX10_knownInAll_9 f10_138 bn_4 sh_4 ?_
      refine am_top (show ((h 4) 2) = (nI (rf_S w)) from (hLo.1.2.2.1.trans hV.1.2.1.1)) ?_
      refine am_icmp_geN (pc := 12) (tgt := 35) C dX10_knownInAll_12 (by decide) (by omega) (by omega) (fun q12 => ?_) (fun q12 => ?_)
      · skip
        exact absurd q12 (by omega)
      · skip
        refine am_iload_n (pc := 15) C dX10_knownInAll_15 rfl ?_
        refine am_aload_n (pc := 16) C dX10_knownInAll_16 rfl ?_
        refine am_getR (pc := 17) (j := 41) C dX10_knownInAll_17 f10_22 bn_40 sh_40 (rf_40_2 hR) ?_
        refine am_getR (pc := 20) (j := 44) C dX10_knownInAll_20 f10_58 bn_41 sh_41 (rf_41_7 hR) ?_
        refine am_iload_n (pc := 23) C dX10_knownInAll_23 rfl ?_
        refine am_callSNi (Y := mX11_pick) (pc := 24) (st := [.int (nI (rf_ak w i4))]) (As := [.ref 44, .int (nI i4)]) (x := ((h 44) i4)) (h2 := h) C dX10_knownInAll_24 k10_54 v_X11_pick rfl rfl (by decide) (Nat.zero_le _) (Nat.zero_le _) (Nat.le_of_ble_eq_true rfl) (c_X11_pick 44 i4 10 bn_44 sh_44 (show i4 < 10 from by omega) (by decide)) ?_
        refine am_top (show ((h 44) i4) = (nI (rf_kn w i4)) from ((hSc.2.1 i4 (by omega)).2.2.1.trans (hV.2.1 i4 (by omega)).2.2.2.2.1.1)) ?_
        refine am_iaddN (pc := 27) C dX10_knownInAll_27 ?_
        refine am_istore_n (pc := 28) (ls' := [(0, .ref 40), (1, .int (nI ((rf_ak w i4) + (rf_kn w i4)))), (2, .int (nI i4))]) C dX10_knownInAll_28 (by decide) rfl ?_
        refine am_iincN (pc := 29) (ls' := [(0, .ref 40), (1, .int (nI ((rf_ak w i4) + (rf_kn w i4)))), (2, .int (nI (i4 + 1)))]) C dX10_knownInAll_29 rfl (am_up1 _) (by decide) rfl ?_
        refine am_goto (pc := 32) (tgt := 4) C dX10_knownInAll_32 (by decide) ?_
        refine am_lsv (ls' := [(0, .ref 40), (1, .int (nI (rf_ak w (i4 + 1)))), (2, .int (nI (i4 + 1)))]) (by rw [show (nI ((rf_ak w i4) + (rf_kn w i4))) = (nI (rf_ak w (i4 + 1))) from rfl]) ?_
        exact ih4 (i4 + 1) (by omega) 
  exact L4 (rf_S w) 0 (by omega) 

set_option maxHeartbeats 400000 in
set_option maxRecDepth 100000 in
theorem c_X10_obeyedOrders_p {ad : Nat → Nat} {r : am_R} (hR : am_rs r) {h : am_H}  (w : rf_W) (hV : rf_I w) (hLo : cl_Lo (h) 4 w) (hSc : cl_Sc (h) 41 w)  : am_CM mX10_obeyedOrders 1 0 0 [.ref 40] (am_VV ad) r h (am_po (some (.int (rf_obeyed w 12))) r h) := by
  refine am_CM.of (by decide +kernel) (Nat.le_of_ble_eq_true rfl) (fun X C T => ?_)
  show am_G X (am_VV ad) (0, 0) 0 [(0, .ref 40)] [] r h
  have hM9 : rf_M w < 17 := hV.1.1.2
  have hS9 : rf_S w < 11 := hV.1.2.1.2
  have hO9 : rf_O w < 11 := hV.1.2.2.2
  refine am_iconstN (pc := 0) (k := 0) C dX10_obeyedOrders_0 ?_
  refine am_istore_n (pc := 1) (ls' := [(0, .ref 40), (1, .int (nI 0))]) C dX10_obeyedOrders_1 (by decide) rfl ?_
  refine am_iconstN (pc := 2) (k := 0) C dX10_obeyedOrders_2 ?_
  refine am_istore_n (pc := 3) (ls' := [(0, .ref 40), (1, .int (nI 0)), (2, .int (nI 0))]) C dX10_obeyedOrders_3 (by decide) rfl ?_
  have L4 : ∀ (j4 i4 : Nat), i4 + j4 = rf_O w → am_G X (am_VV ad) (0, 0) 4 [(0, .ref 40), (1, .int (rf_set (fun o => decide (rf_ord w o 1 &&& (rf_use w (rf_nat (rf_ord w o 0)) ^^^ (-1)) = 0)) i4)), (2, .int (nI i4))] [] r h := by
    intro j4
    induction j4 with
    | zero =>
      intro i4 hi4 
      obtain rfl : i4 = rf_O w := by omega
      refine am_iload_n (pc := 4) C dX10_obeyedOrders_4 rfl ?_
      refine am_aload_n (pc := 5) C dX10_obeyedOrders_5 rfl ?_
      refine am_getR (pc := 6) (j := 4) C dX10_obeyedOrders_6 f10_9 bn_40 sh_40 (rf_40_0 hR) ?_
      refine am_getI (pc := 9) C dX10_obeyedOrders_9 f10_198 bn_4 sh_4 ?_
      refine am_top (show ((h 4) 3) = (nI (rf_O w)) from (hLo.1.2.2.2.trans hV.1.2.2.1)) ?_
      refine am_icmp_geN (pc := 12) (tgt := 67) C dX10_obeyedOrders_12 (by decide) (by omega) (by omega) (fun q12 => ?_) (fun q12 => ?_)
      · skip
        refine am_iload_n (pc := 67) C dX10_obeyedOrders_67 rfl ?_
        exact am_ireti T dX10_obeyedOrders_68 rfl (Nat.le_refl _) (Nat.le_refl _) rfl rfl rfl
      · skip
        exact absurd q12 (by omega)
    | succ j4 ih4 =>
      intro i4 hi4 
      have hl4 : i4 < rf_O w := by omega
      have ho9 := (hV.2.2.2.1 i4 hl4).1.2
      refine am_iload_n (pc := 4) C dX10_obeyedOrders_4 rfl ?_
      refine am_aload_n (pc := 5) C dX10_obeyedOrders_5 rfl ?_
      refine am_getR (pc := 6) (j := 4) C dX10_obeyedOrders_6 f10_9 bn_40 sh_40 (rf_40_0 hR) ?_
      refine am_getI (pc := 9) C dX10_obeyedOrders_9 f10_198 bn_4 sh_4 ?_
      refine am_top (show ((h 4) 3) = (nI (rf_O w)) from (hLo.1.2.2.2.trans hV.1.2.2.1)) ?_
      refine am_icmp_geN (pc := 12) (tgt := 67) C dX10_obeyedOrders_12 (by decide) (by omega) (by omega) (fun q12 => ?_) (fun q12 => ?_)
      · skip
        exact absurd q12 (by omega)
      · skip
        refine am_aload_n (pc := 15) C dX10_obeyedOrders_15 rfl ?_
        refine am_getR (pc := 16) (j := 41) C dX10_obeyedOrders_16 f10_22 bn_40 sh_40 (rf_40_2 hR) ?_
        refine am_getR (pc := 19) (j := 46) C dX10_obeyedOrders_19 f10_64 bn_41 sh_41 (rf_41_9 hR) ?_
        refine am_aload_n (pc := 22) C dX10_obeyedOrders_22 rfl ?_
        refine am_getR (pc := 23) (j := 4) C dX10_obeyedOrders_23 f10_9 bn_40 sh_40 (rf_40_0 hR) ?_
        refine am_getR (pc := 26) (j := 14) C dX10_obeyedOrders_26 f10_201 bn_4 sh_4 (rf_4_13 hR) ?_
        refine am_iload_n (pc := 29) C dX10_obeyedOrders_29 rfl ?_
        refine am_callSNi (Y := mX11_pick) (pc := 30) (st := [.ref 46]) (As := [.ref 14, .int (nI i4)]) (x := ((h 14) i4)) (h2 := h) C dX10_obeyedOrders_30 k10_54 v_X11_pick rfl rfl (by decide) (Nat.zero_le _) (Nat.zero_le _) (Nat.le_of_ble_eq_true rfl) (c_X11_pick 14 i4 10 bn_14 sh_14 (show i4 < 10 from by omega) (by decide)) ?_
        refine am_top (show ((h 14) i4) = (nI (rf_nat (rf_ord w i4 0))) from ((hLo.2.2.2.1 i4 (by omega)).1.trans (hV.2.2.2.1 i4 (by omega)).1.1)) ?_
        refine am_callSNi (Y := mX11_pick) (pc := 33) (st := []) (As := [.ref 46, .int (nI (rf_nat (rf_ord w i4 0)))]) (x := ((h 46) (rf_nat (rf_ord w i4 0)))) (h2 := h) C dX10_obeyedOrders_33 k10_54 v_X11_pick rfl rfl (by decide) (Nat.zero_le _) (Nat.zero_le _) (Nat.le_of_ble_eq_true rfl) (c_X11_pick 46 (rf_nat (rf_ord w i4 0)) 10 bn_46 sh_46 (show rf_nat (rf_ord w i4 0) < 10 from by omega) (by decide)) ?_
        refine am_top (show ((h 46) (rf_nat (rf_ord w i4 0))) = (rf_use w (rf_nat (rf_ord w i4 0))) from (hSc.2.1 (rf_nat (rf_ord w i4 0)) (by omega)).2.2.2.2.1) ?_
        refine am_istore_n (pc := 36) (ls' := [(0, .ref 40), (1, .int (rf_set (fun o => decide (rf_ord w o 1 &&& (rf_use w (rf_nat (rf_ord w o 0)) ^^^ (-1)) = 0)) i4)), (2, .int (nI i4)), (3, .int (rf_use w (rf_nat (rf_ord w i4 0))))]) C dX10_obeyedOrders_36 (by decide) rfl ?_
        refine am_aload_n (pc := 37) C dX10_obeyedOrders_37 rfl ?_
        refine am_getR (pc := 38) (j := 4) C dX10_obeyedOrders_38 f10_9 bn_40 sh_40 (rf_40_0 hR) ?_
        refine am_getR (pc := 41) (j := 15) C dX10_obeyedOrders_41 f10_204 bn_4 sh_4 (rf_4_14 hR) ?_
        refine am_iload_n (pc := 44) C dX10_obeyedOrders_44 rfl ?_
        refine am_callSNi (Y := mX11_pick) (pc := 45) (st := []) (As := [.ref 15, .int (nI i4)]) (x := ((h 15) i4)) (h2 := h) C dX10_obeyedOrders_45 k10_54 v_X11_pick rfl rfl (by decide) (Nat.zero_le _) (Nat.zero_le _) (Nat.le_of_ble_eq_true rfl) (c_X11_pick 15 i4 10 bn_15 sh_15 (show i4 < 10 from by omega) (by decide)) ?_
        refine am_top (show ((h 15) i4) = (rf_ord w i4 1) from (hLo.2.2.2.1 i4 (by omega)).2) ?_
        refine am_iload_n (pc := 48) C dX10_obeyedOrders_48 rfl ?_
        refine am_iconst (pc := 49) (v := -1) C dX10_obeyedOrders_49 rfl ?_
        refine am_ixor (pc := 50) C dX10_obeyedOrders_50 ?_
        refine am_iand (pc := 51) C dX10_obeyedOrders_51 ?_
        refine am_if_ne (pc := 52) (tgt := 61) C dX10_obeyedOrders_52 (by decide) (fun q52 => ?_) (fun q52 => ?_)
        · skip
          refine am_iincN (pc := 61) (ls' := [(0, .ref 40), (1, .int (rf_set (fun o => decide (rf_ord w o 1 &&& (rf_use w (rf_nat (rf_ord w o 0)) ^^^ (-1)) = 0)) i4)), (2, .int (nI (i4 + 1))), (3, .int (rf_use w (rf_nat (rf_ord w i4 0))))]) C dX10_obeyedOrders_61 rfl (am_up1 _) (by decide) rfl ?_
          refine am_goto (pc := 64) (tgt := 4) C dX10_obeyedOrders_64 (by decide) ?_
          refine am_sub (ls' := [(0, .ref 40), (1, .int (rf_set (fun o => decide (rf_ord w o 1 &&& (rf_use w (rf_nat (rf_ord w o 0)) ^^^ (-1)) = 0)) i4)), (2, .int (nI (i4 + 1)))]) (by intro q hq; simp only [List.mem_cons, List.not_mem_nil, or_false] at hq ⊢; rcases hq with rfl | rfl | rfl <;> simp) ?_
          refine am_lsv (ls' := [(0, .ref 40), (1, .int (rf_set (fun o => decide (rf_ord w o 1 &&& (rf_use w (rf_nat (rf_ord w o 0)) ^^^ (-1)) = 0)) (i4 + 1))), (2, .int (nI (i4 + 1)))]) (by rw [show (rf_set (fun o => decide (rf_ord w o 1 &&& (rf_use w (rf_nat (rf_ord w o 0)) ^^^ (-1)) = 0)) i4) = (rf_set (fun o => decide (rf_ord w o 1 &&& (rf_use w (rf_nat (rf_ord w o 0)) ^^^ (-1)) = 0)) (i4 + 1)) from rf_set_n (decide_eq_false q52)]) ?_
          exact ih4 (i4 + 1) (by omega) 
        · skip
          refine am_iload_n (pc := 55) C dX10_obeyedOrders_55 rfl ?_
          refine am_iconstN (pc := 56) (k := 1) C dX10_obeyedOrders_56 ?_
          refine am_iload_n (pc := 57) C dX10_obeyedOrders_57 rfl ?_
          refine am_ishl (pc := 58) C dX10_obeyedOrders_58 ?_
          refine am_ior (pc := 59) C dX10_obeyedOrders_59 ?_
          refine am_istore_n (pc := 60) (ls' := [(0, .ref 40), (1, .int ((rf_set (fun o => decide (rf_ord w o 1 &&& (rf_use w (rf_nat (rf_ord w o 0)) ^^^ (-1)) = 0)) i4) ||| ((nI 1) <<< ((nI i4) &&& 31)))), (2, .int (nI i4)), (3, .int (rf_use w (rf_nat (rf_ord w i4 0))))]) C dX10_obeyedOrders_60 (by decide) rfl ?_
          refine am_iincN (pc := 61) (ls' := [(0, .ref 40), (1, .int ((rf_set (fun o => decide (rf_ord w o 1 &&& (rf_use w (rf_nat (rf_ord w o 0)) ^^^ (-1)) = 0)) i4) ||| ((nI 1) <<< ((nI i4) &&& 31)))), (2, .int (nI (i4 + 1))), (3, .int (rf_use w (rf_nat (rf_ord w i4 0))))]) C dX10_obeyedOrders_61 rfl (am_up1 _) (by decide) rfl ?_
          refine am_goto (pc := 64) (tgt := 4) C dX10_obeyedOrders_64 (by decide) ?_
          refine am_sub (ls' := [(0, .ref 40), (1, .int ((rf_set (fun o => decide (rf_ord w o 1 &&& (rf_use w (rf_nat (rf_ord w o 0)) ^^^ (-1)) = 0)) i4) ||| ((nI 1) <<< ((nI i4) &&& 31)))), (2, .int (nI (i4 + 1)))]) (by intro q hq; simp only [List.mem_cons, List.not_mem_nil, or_false] at hq ⊢; rcases hq with rfl | rfl | rfl <;> simp) ?_
          refine am_lsv (ls' := [(0, .ref 40), (1, .int (rf_set (fun o => decide (rf_ord w o 1 &&& (rf_use w (rf_nat (rf_ord w o 0)) ^^^ (-1)) = 0)) (i4 + 1))), (2, .int (nI (i4 + 1)))]) (by rw [show ((rf_set (fun o => decide (rf_ord w o 1 &&& (rf_use w (rf_nat (rf_ord w o 0)) ^^^ (-1)) = 0)) i4) ||| ((nI 1) <<< ((nI i4) &&& 31))) = (rf_set (fun o => decide (rf_ord w o 1 &&& (rf_use w (rf_nat (rf_ord w o 0)) ^^^ (-1)) = 0)) (i4 + 1)) from rf_set_t (decide_eq_true q52)]) ?_
          exact ih4 (i4 + 1) (by omega) 
  refine am_sub (ls' := [(0, .ref 40), (1, .int (nI 0)), (2, .int (nI 0))]) (by intro q hq; simp only [List.mem_cons, List.not_mem_nil, or_false] at hq ⊢; rcases hq with rfl | rfl | rfl <;> simp) ?_
  exact L4 (rf_O w) 0 (by omega) 

set_option maxHeartbeats 400000 in
set_option maxRecDepth 100000 in
theorem c_X10_together_p {ad : Nat → Nat} {r : am_R} (hR : am_rs r) {h : am_H} (a : Nat) (b : Nat) (w : rf_W) (hV : rf_I w) (hLo : cl_Lo (h) 4 w) (hSc : cl_Sc (h) 41 w) (ha : a < rf_S w) (hb : b < rf_S w)  : am_CM mX10_together 1 0 0 [.ref 40, .int (nI a), .int (nI b)] (am_VV ad) r h (am_po (some (.int (am_b (decide (rf_pl w a = rf_pl w b))))) r h) := by
  refine am_CM.of (by decide +kernel) (Nat.le_of_ble_eq_true rfl) (fun X C T => ?_)
  show am_G X (am_VV ad) (0, 0) 0 [(0, .ref 40), (1, .int (nI a)), (2, .int (nI b))] [] r h
  have hM9 : rf_M w < 17 := hV.1.1.2
  have hS9 : rf_S w < 11 := hV.1.2.1.2
  have hO9 : rf_O w < 11 := hV.1.2.2.2
  refine am_aload_n (pc := 0) C dX10_together_0 rfl ?_
  refine am_getR (pc := 1) (j := 41) C dX10_together_1 f10_22 bn_40 sh_40 (rf_40_2 hR) ?_
  refine am_getR (pc := 4) (j := 43) C dX10_together_4 f10_48 bn_41 sh_41 (rf_41_6 hR) ?_
  refine am_iload_n (pc := 7) C dX10_together_7 rfl ?_
  refine am_callSNi (Y := mX11_pick) (pc := 8) (st := []) (As := [.ref 43, .int (nI a)]) (x := ((h 43) a)) (h2 := h) C dX10_together_8 k10_54 v_X11_pick rfl rfl (by decide) (Nat.zero_le _) (Nat.zero_le _) (Nat.le_of_ble_eq_true rfl) (c_X11_pick 43 a 10 bn_43 sh_43 (show a < 10 from by omega) (by decide)) ?_
  refine am_top (show ((h 43) a) = (rf_pl w a) from (hSc.2.1 a (by omega)).2.1) ?_
  refine am_aload_n (pc := 11) C dX10_together_11 rfl ?_
  refine am_getR (pc := 12) (j := 41) C dX10_together_12 f10_22 bn_40 sh_40 (rf_40_2 hR) ?_
  refine am_getR (pc := 15) (j := 43) C dX10_together_15 f10_48 bn_41 sh_41 (rf_41_6 hR) ?_
  refine am_iload_n (pc := 18) C dX10_together_18 rfl ?_
  refine am_callSNi (Y := mX11_pick) (pc := 19) (st := [.int (rf_pl w a)]) (As := [.ref 43, .int (nI b)]) (x := ((h 43) b)) (h2 := h) C dX10_together_19 k10_54 v_X11_pick rfl rfl (by decide) (Nat.zero_le _) (Nat.zero_le _) (Nat.le_of_ble_eq_true rfl) (c_X11_pick 43 b 10 bn_43 sh_43 (show b < 10 from by omega) (by decide)) ?_
  refine am_top (show ((h 43) b) = (rf_pl w b) from (hSc.2.1 b (by omega)).2.1) ?_
  refine am_icmp_ne (pc := 22) (tgt := 29) C dX10_together_22 (by decide) (fun q22 => ?_) (fun q22 => ?_)
  · skip
    refine am_iconstN (pc := 29) (k := 0) C dX10_together_29 ?_
    exact am_iretb T dX10_together_30 rfl (Nat.le_refl _) (Nat.le_refl _) (by rw [decide_eq_false q22]; rfl) rfl rfl
  · skip
    refine am_iconstN (pc := 25) (k := 1) C dX10_together_25 ?_
    refine am_goto (pc := 26) (tgt := 30) C dX10_together_26 (by decide) ?_
    exact am_iretb T dX10_together_30 rfl (Nat.le_refl _) (Nat.le_refl _) (by rw [decide_eq_true q22]; rfl) rfl rfl

set_option maxHeartbeats 400000 in
set_option maxRecDepth 100000 in
theorem c_X10_ofOneSide_p {ad : Nat → Nat} {r : am_R} (hR : am_rs r) {h : am_H} (a : Nat) (b : Nat) (w : rf_W) (hV : rf_I w) (hLo : cl_Lo (h) 4 w) (hSc : cl_Sc (h) 41 w) (ha : a < rf_S w) (hb : b < rf_S w)  : am_CM mX10_ofOneSide 1 0 0 [.ref 40, .int (nI a), .int (nI b)] (am_VV ad) r h (am_po (some (.int (am_b (decide (rf_of w a 0 = rf_of w b 0))))) r h) := by
  refine am_CM.of (by decide +kernel) (Nat.le_of_ble_eq_true rfl) (fun X C T => ?_)
  show am_G X (am_VV ad) (0, 0) 0 [(0, .ref 40), (1, .int (nI a)), (2, .int (nI b))] [] r h
  have hM9 : rf_M w < 17 := hV.1.1.2
  have hS9 : rf_S w < 11 := hV.1.2.1.2
  have hO9 : rf_O w < 11 := hV.1.2.2.2
  refine am_aload_n (pc := 0) C dX10_ofOneSide_0 rfl ?_
  refine am_getR (pc := 1) (j := 4) C dX10_ofOneSide_1 f10_9 bn_40 sh_40 (rf_40_0 hR) ?_
  refine am_getR (pc := 4) (j := 10) C dX10_ofOneSide_4 f10_88 bn_4 sh_4 (rf_4_9 hR) ?_
  refine am_iload_n (pc := 7) C dX10_ofOneSide_7 rfl ?_
  refine am_callSNi (Y := mX11_pick) (pc := 8) (st := []) (As := [.ref 10, .int (nI a)]) (x := ((h 10) a)) (h2 := h) C dX10_ofOneSide_8 k10_54 v_X11_pick rfl rfl (by decide) (Nat.zero_le _) (Nat.zero_le _) (Nat.le_of_ble_eq_true rfl) (c_X11_pick 10 a 10 bn_10 sh_10 (show a < 10 from by omega) (by decide)) ?_
  refine am_top (show ((h 10) a) = (rf_of w a 0) from (hLo.2.2.1 a (by omega)).1) ?_
  refine am_aload_n (pc := 11) C dX10_ofOneSide_11 rfl ?_
  refine am_getR (pc := 12) (j := 4) C dX10_ofOneSide_12 f10_9 bn_40 sh_40 (rf_40_0 hR) ?_
  refine am_getR (pc := 15) (j := 10) C dX10_ofOneSide_15 f10_88 bn_4 sh_4 (rf_4_9 hR) ?_
  refine am_iload_n (pc := 18) C dX10_ofOneSide_18 rfl ?_
  refine am_callSNi (Y := mX11_pick) (pc := 19) (st := [.int (rf_of w a 0)]) (As := [.ref 10, .int (nI b)]) (x := ((h 10) b)) (h2 := h) C dX10_ofOneSide_19 k10_54 v_X11_pick rfl rfl (by decide) (Nat.zero_le _) (Nat.zero_le _) (Nat.le_of_ble_eq_true rfl) (c_X11_pick 10 b 10 bn_10 sh_10 (show b < 10 from by omega) (by decide)) ?_
  refine am_top (show ((h 10) b) = (rf_of w b 0) from (hLo.2.2.1 b (by omega)).1) ?_
  refine am_icmp_ne (pc := 22) (tgt := 29) C dX10_ofOneSide_22 (by decide) (fun q22 => ?_) (fun q22 => ?_)
  · skip
    refine am_iconstN (pc := 29) (k := 0) C dX10_ofOneSide_29 ?_
    exact am_iretb T dX10_ofOneSide_30 rfl (Nat.le_refl _) (Nat.le_refl _) (by rw [decide_eq_false q22]; rfl) rfl rfl
  · skip
    refine am_iconstN (pc := 25) (k := 1) C dX10_ofOneSide_25 ?_
    refine am_goto (pc := 26) (tgt := 30) C dX10_ofOneSide_26 (by decide) ?_
    exact am_iretb T dX10_ofOneSide_30 rfl (Nat.le_refl _) (Nat.le_refl _) (by rw [decide_eq_true q22]; rfl) rfl rfl

set_option maxHeartbeats 400000 in
set_option maxRecDepth 100000 in
theorem c_X10_isNewTo_p {ad : Nat → Nat} {r : am_R} (hR : am_rs r) {h : am_H} (s : Nat) (m : Nat) (w : rf_W) (hV : rf_I w) (hLo : cl_Lo (h) 4 w) (hSc : cl_Sc (h) 41 w) (hs : s < rf_S w) (hm : m < 32)  : am_CM mX10_isNewTo 1 0 0 [.ref 40, .int (nI s), .int (nI m)] (am_VV ad) r h (am_po (some (.int (am_b ((!am_bt (rf_known w s) m) && decide (rf_kn w s < 12))))) r h) := by
  refine am_CM.of (by decide +kernel) (Nat.le_of_ble_eq_true rfl) (fun X C T => ?_)
  show am_G X (am_VV ad) (0, 0) 0 [(0, .ref 40), (1, .int (nI s)), (2, .int (nI m))] [] r h
  have hM9 : rf_M w < 17 := hV.1.1.2
  have hS9 : rf_S w < 11 := hV.1.2.1.2
  have hO9 : rf_O w < 11 := hV.1.2.2.2
  have hk13 : rf_kn w s < 13 := (hV.2.1 s hs).2.2.2.2.1.2
  refine am_aload_n (pc := 0) C dX10_isNewTo_0 rfl ?_
  refine am_getR (pc := 1) (j := 41) C dX10_isNewTo_1 f10_22 bn_40 sh_40 (rf_40_2 hR) ?_
  refine am_getR (pc := 4) (j := 45) C dX10_isNewTo_4 f10_61 bn_41 sh_41 (rf_41_8 hR) ?_
  refine am_iload_n (pc := 7) C dX10_isNewTo_7 rfl ?_
  refine am_callSNi (Y := mX11_pick) (pc := 8) (st := []) (As := [.ref 45, .int (nI s)]) (x := ((h 45) s)) (h2 := h) C dX10_isNewTo_8 k10_54 v_X11_pick rfl rfl (by decide) (Nat.zero_le _) (Nat.zero_le _) (Nat.le_of_ble_eq_true rfl) (c_X11_pick 45 s 10 bn_45 sh_45 (show s < 10 from by omega) (by decide)) ?_
  refine am_top (show ((h 45) s) = (rf_known w s) from (hSc.2.1 s (by omega)).2.2.2.1) ?_
  refine am_iload_n (pc := 11) C dX10_isNewTo_11 rfl ?_
  refine am_callSNi (Y := mX11_has) (pc := 12) (st := []) (As := [.int (rf_known w s), .int (nI m)]) (x := (am_b (am_bt (rf_known w s) m))) (h2 := h) C dX10_isNewTo_12 k10_67 v_X11_has rfl rfl (by decide) (Nat.zero_le _) (Nat.zero_le _) (Nat.le_of_ble_eq_true rfl) (c_X11_has (rf_known w s) m hm) ?_
  refine am_if_neB (pc := 15) (tgt := 38) C dX10_isNewTo_15 (by decide) (fun q15 => ?_) (fun q15 => ?_)
  · skip
    refine am_iconstN (pc := 38) (k := 0) C dX10_isNewTo_38 ?_
    exact am_iretb T dX10_isNewTo_39 rfl (Nat.le_refl _) (Nat.le_refl _) (by rw [q15]; rfl) rfl rfl
  · skip
    refine am_aload_n (pc := 18) C dX10_isNewTo_18 rfl ?_
    refine am_getR (pc := 19) (j := 41) C dX10_isNewTo_19 f10_22 bn_40 sh_40 (rf_40_2 hR) ?_
    refine am_getR (pc := 22) (j := 44) C dX10_isNewTo_22 f10_58 bn_41 sh_41 (rf_41_7 hR) ?_
    refine am_iload_n (pc := 25) C dX10_isNewTo_25 rfl ?_
    refine am_callSNi (Y := mX11_pick) (pc := 26) (st := []) (As := [.ref 44, .int (nI s)]) (x := ((h 44) s)) (h2 := h) C dX10_isNewTo_26 k10_54 v_X11_pick rfl rfl (by decide) (Nat.zero_le _) (Nat.zero_le _) (Nat.le_of_ble_eq_true rfl) (c_X11_pick 44 s 10 bn_44 sh_44 (show s < 10 from by omega) (by decide)) ?_
    refine am_top (show ((h 44) s) = (nI (rf_kn w s)) from ((hSc.2.1 s (by omega)).2.2.1.trans (hV.2.1 s (by omega)).2.2.2.2.1.1)) ?_
    refine am_bipush (pc := 29) (v := nI 12) C dX10_isNewTo_29 (by decide) ?_
    refine am_icmp_geN (pc := 31) (tgt := 38) C dX10_isNewTo_31 (by decide) (by omega) (by omega) (fun q31 => ?_) (fun q31 => ?_)
    · skip
      refine am_iconstN (pc := 38) (k := 0) C dX10_isNewTo_38 ?_
      exact am_iretb T dX10_isNewTo_39 rfl (Nat.le_refl _) (Nat.le_refl _) (by rw [q15, decide_eq_false (by omega)]; rfl) rfl rfl
    · skip
      refine am_iconstN (pc := 34) (k := 1) C dX10_isNewTo_34 ?_
      refine am_goto (pc := 35) (tgt := 39) C dX10_isNewTo_35 (by decide) ?_
      exact am_iretb T dX10_isNewTo_39 rfl (Nat.le_refl _) (Nat.le_refl _) (by rw [q15, decide_eq_true (by omega)]; rfl) rfl rfl

set_option maxHeartbeats 400000 in
set_option maxRecDepth 100000 in
theorem c_X10_canLearn_p {ad : Nat → Nat} {r : am_R} (hR : am_rs r) {h : am_H} (s : Nat) (m : Nat) (w : rf_W) (hV : rf_I w) (hLo : cl_Lo (h) 4 w) (hSc : cl_Sc (h) 41 w) (hs : s < rf_S w) (hm : m < rf_M w)  : am_CM mX10_canLearn 2 0 0 [.ref 40, .int (nI s), .int (nI m)] (am_VV ad) r h (am_po (some (.int (am_b (rf_can w s m)))) r h) := by
  refine am_CM.of (by decide +kernel) (Nat.le_of_ble_eq_true rfl) (fun X C T => ?_)
  show am_G X (am_VV ad) (0, 0) 0 [(0, .ref 40), (1, .int (nI s)), (2, .int (nI m))] [] r h
  have hM9 : rf_M w < 17 := hV.1.1.2
  have hS9 : rf_S w < 11 := hV.1.2.1.2
  have hO9 : rf_O w < 11 := hV.1.2.2.2
  refine am_aload_n (pc := 0) C dX10_canLearn_0 rfl ?_
  refine am_iload_n (pc := 1) C dX10_canLearn_1 rfl ?_
  refine am_iload_n (pc := 2) C dX10_canLearn_2 rfl ?_
  refine am_callVi (Y := mX10_isNewTo) (pc := 3) (st := []) (As := [.int (nI s), .int (nI m)]) (x := (am_b ((!am_bt (rf_known w s) m) && decide (rf_kn w s < 12)))) (h2 := h) C dX10_canLearn_3 k10_91 v_X10_isNewTo rfl rfl bn_40 sh_40 ⟨by decide, rfl⟩ (by decide) (Nat.zero_le _) (Nat.zero_le _) (Nat.le_of_ble_eq_true rfl) (c_X10_isNewTo_p hR s m w hV hLo hSc hs (show m < 32 from by omega)) ?_
  refine am_if_eqB (pc := 6) (tgt := 41) C dX10_canLearn_6 (by decide) (fun q6 => ?_) (fun q6 => ?_)
  · skip
    refine am_iconstN (pc := 41) (k := 0) C dX10_canLearn_41 ?_
    exact am_iretb T dX10_canLearn_42 rfl (Nat.le_refl _) (Nat.le_refl _) (by rw [rf_can, ← Bool.and_assoc, q6]; rfl) rfl rfl
  · skip
    refine am_aload_n (pc := 9) C dX10_canLearn_9 rfl ?_
    refine am_getR (pc := 10) (j := 4) C dX10_canLearn_10 f10_9 bn_40 sh_40 (rf_40_0 hR) ?_
    refine am_getR (pc := 13) (j := 6) C dX10_canLearn_13 f10_94 bn_4 sh_4 (rf_4_5 hR) ?_
    refine am_iload_n (pc := 16) C dX10_canLearn_16 rfl ?_
    refine am_callSNi (Y := mX11_pick) (pc := 17) (st := []) (As := [.ref 6, .int (nI m)]) (x := ((h 6) m)) (h2 := h) C dX10_canLearn_17 k10_54 v_X11_pick rfl rfl (by decide) (Nat.zero_le _) (Nat.zero_le _) (Nat.le_of_ble_eq_true rfl) (c_X11_pick 6 m 16 bn_6 sh_6 (show m < 16 from by omega) (by decide)) ?_
    refine am_top (show ((h 6) m) = (rf_mem w m 1) from (hLo.2.1 m (by omega)).2.1) ?_
    refine am_aload_n (pc := 20) C dX10_canLearn_20 rfl ?_
    refine am_getR (pc := 21) (j := 41) C dX10_canLearn_21 f10_22 bn_40 sh_40 (rf_40_2 hR) ?_
    refine am_getR (pc := 24) (j := 46) C dX10_canLearn_24 f10_64 bn_41 sh_41 (rf_41_9 hR) ?_
    refine am_iload_n (pc := 27) C dX10_canLearn_27 rfl ?_
    refine am_callSNi (Y := mX11_pick) (pc := 28) (st := [.int (rf_mem w m 1)]) (As := [.ref 46, .int (nI s)]) (x := ((h 46) s)) (h2 := h) C dX10_canLearn_28 k10_54 v_X11_pick rfl rfl (by decide) (Nat.zero_le _) (Nat.zero_le _) (Nat.le_of_ble_eq_true rfl) (c_X11_pick 46 s 10 bn_46 sh_46 (show s < 10 from by omega) (by decide)) ?_
    refine am_top (show ((h 46) s) = (rf_use w s) from (hSc.2.1 s (by omega)).2.2.2.2.1) ?_
    refine am_iconst (pc := 31) (v := -1) C dX10_canLearn_31 rfl ?_
    refine am_ixor (pc := 32) C dX10_canLearn_32 ?_
    refine am_iand (pc := 33) C dX10_canLearn_33 ?_
    refine am_if_ne (pc := 34) (tgt := 41) C dX10_canLearn_34 (by decide) (fun q34 => ?_) (fun q34 => ?_)
    · skip
      refine am_iconstN (pc := 41) (k := 0) C dX10_canLearn_41 ?_
      exact am_iretb T dX10_canLearn_42 rfl (Nat.le_refl _) (Nat.le_refl _) (by rw [rf_can, ← Bool.and_assoc, q6, decide_eq_false q34]; rfl) rfl rfl
    · skip
      refine am_iconstN (pc := 37) (k := 1) C dX10_canLearn_37 ?_
      refine am_goto (pc := 38) (tgt := 42) C dX10_canLearn_38 (by decide) ?_
      exact am_iretb T dX10_canLearn_42 rfl (Nat.le_refl _) (Nat.le_refl _) (by rw [rf_can, ← Bool.and_assoc, q6, decide_eq_true q34]; rfl) rfl rfl

set_option maxHeartbeats 400000 in
set_option maxRecDepth 100000 in
theorem c_X10_fallsOf_p {ad : Nat → Nat} {r : am_R} (hR : am_rs r) {h : am_H} (s : Nat) (m : Nat) (w : rf_W) (hV : rf_I w) (hLo : cl_Lo (h) 4 w) (hSc : cl_Sc (h) 41 w) (hs : s < rf_S w) (hm : m < rf_M w)  : am_CM mX10_fallsOf 1 0 0 [.ref 40, .int (nI s), .int (nI m)] (am_VV ad) r h (am_po (some (.int (rf_falls w (rf_known w s) m))) r h) := by
  refine am_CM.of (by decide +kernel) (Nat.le_of_ble_eq_true rfl) (fun X C T => ?_)
  show am_G X (am_VV ad) (0, 0) 0 [(0, .ref 40), (1, .int (nI s)), (2, .int (nI m))] [] r h
  have hM9 : rf_M w < 17 := hV.1.1.2
  have hS9 : rf_S w < 11 := hV.1.2.1.2
  have hO9 : rf_O w < 11 := hV.1.2.2.2
  refine am_aload_n (pc := 0) C dX10_fallsOf_0 rfl ?_
  refine am_getR (pc := 1) (j := 41) C dX10_fallsOf_1 f10_22 bn_40 sh_40 (rf_40_2 hR) ?_
  refine am_getR (pc := 4) (j := 46) C dX10_fallsOf_4 f10_64 bn_41 sh_41 (rf_41_9 hR) ?_
  refine am_iload_n (pc := 7) C dX10_fallsOf_7 rfl ?_
  refine am_callSNi (Y := mX11_pick) (pc := 8) (st := []) (As := [.ref 46, .int (nI s)]) (x := ((h 46) s)) (h2 := h) C dX10_fallsOf_8 k10_54 v_X11_pick rfl rfl (by decide) (Nat.zero_le _) (Nat.zero_le _) (Nat.le_of_ble_eq_true rfl) (c_X11_pick 46 s 10 bn_46 sh_46 (show s < 10 from by omega) (by decide)) ?_
  refine am_top (show ((h 46) s) = (rf_use w s) from (hSc.2.1 s (by omega)).2.2.2.2.1) ?_
  refine am_aload_n (pc := 11) C dX10_fallsOf_11 rfl ?_
  refine am_getR (pc := 12) (j := 4) C dX10_fallsOf_12 f10_9 bn_40 sh_40 (rf_40_0 hR) ?_
  refine am_getR (pc := 15) (j := 8) C dX10_fallsOf_15 f10_104 bn_4 sh_4 (rf_4_7 hR) ?_
  refine am_iload_n (pc := 18) C dX10_fallsOf_18 rfl ?_
  refine am_callSNi (Y := mX11_pick) (pc := 19) (st := [.int (rf_use w s)]) (As := [.ref 8, .int (nI m)]) (x := ((h 8) m)) (h2 := h) C dX10_fallsOf_19 k10_54 v_X11_pick rfl rfl (by decide) (Nat.zero_le _) (Nat.zero_le _) (Nat.le_of_ble_eq_true rfl) (c_X11_pick 8 m 16 bn_8 sh_8 (show m < 16 from by omega) (by decide)) ?_
  refine am_top (show ((h 8) m) = (rf_rests w m) from (hLo.2.1 m (by omega)).2.2.2.1) ?_
  refine am_iconstN (pc := 22) (k := 1) C dX10_fallsOf_22 ?_
  refine am_iload_n (pc := 23) C dX10_fallsOf_23 rfl ?_
  refine am_ishl (pc := 24) C dX10_fallsOf_24 ?_
  refine am_ior (pc := 25) C dX10_fallsOf_25 ?_
  refine am_iand (pc := 26) C dX10_fallsOf_26 ?_
  refine am_callSi (Y := mJ6_bitCount_0f7a4) (pc := 27) (st := []) (As := [.int ((rf_use w s) &&& ((rf_rests w m) ||| ((nI 1) <<< ((nI m) &&& 31))))]) (x := (rf_pc ((rf_use w s) &&& ((rf_rests w m) ||| ((nI 1) <<< ((nI m) &&& 31)))))) (h2 := h) C dX10_fallsOf_27 k10_107 v_J6_bitCount_0f7a4 rfl rfl (by decide) (Nat.zero_le _) (Nat.zero_le _) (Nat.le_of_ble_eq_true rfl) (c_J6_bitCount_0f7a4 hR ((rf_use w s) &&& ((rf_rests w m) ||| ((nI 1) <<< ((nI m) &&& 31))))) ?_
  exact am_ireti T dX10_fallsOf_30 rfl (Nat.le_refl _) (Nat.le_refl _) (by rw [rf_falls_eq hV hm]; exact rf_pc_bc (am_lo_and (am_lo_mono (rf_usable_lo hV) (by omega)))) rfl rfl

set_option maxHeartbeats 400000 in
set_option maxRecDepth 100000 in
theorem c_X10_dearestOf_p {ad : Nat → Nat} {r : am_R} (hR : am_rs r) {h : am_H} (s : Nat) (w : rf_W) (hV : rf_I w) (hLo : cl_Lo (h) 4 w) (hSc : cl_Sc (h) 41 w) (hs : s < rf_S w)  : am_CM mX10_dearestOf 2 0 0 [.ref 40, .int (nI s)] (am_VV ad) r h (am_po (some (.int (am_oi (rf_tk w (rf_known w s) (rf_M w))))) r h) := by
  refine am_CM.of (by decide +kernel) (Nat.le_of_ble_eq_true rfl) (fun X C T => ?_)
  show am_G X (am_VV ad) (0, 0) 0 [(0, .ref 40), (1, .int (nI s))] [] r h
  have hM9 : rf_M w < 17 := hV.1.1.2
  have hS9 : rf_S w < 11 := hV.1.2.1.2
  have hO9 : rf_O w < 11 := hV.1.2.2.2
  refine am_aload_n (pc := 0) C dX10_dearestOf_0 rfl ?_
  refine am_getR (pc := 1) (j := 41) C dX10_dearestOf_1 f10_22 bn_40 sh_40 (rf_40_2 hR) ?_
  refine am_getR (pc := 4) (j := 45) C dX10_dearestOf_4 f10_61 bn_41 sh_41 (rf_41_8 hR) ?_
  refine am_iload_n (pc := 7) C dX10_dearestOf_7 rfl ?_
  refine am_callSNi (Y := mX11_pick) (pc := 8) (st := []) (As := [.ref 45, .int (nI s)]) (x := ((h 45) s)) (h2 := h) C dX10_dearestOf_8 k10_54 v_X11_pick rfl rfl (by decide) (Nat.zero_le _) (Nat.zero_le _) (Nat.le_of_ble_eq_true rfl) (c_X11_pick 45 s 10 bn_45 sh_45 (show s < 10 from by omega) (by decide)) ?_
  refine am_top (show ((h 45) s) = (rf_known w s) from (hSc.2.1 s (by omega)).2.2.2.1) ?_
  refine am_istore_n (pc := 11) (ls' := [(0, .ref 40), (1, .int (nI s)), (2, .int (rf_known w s))]) C dX10_dearestOf_11 (by decide) rfl ?_
  refine am_iconst (pc := 12) (v := -1) C dX10_dearestOf_12 rfl ?_
  refine am_istore_n (pc := 13) (ls' := [(0, .ref 40), (1, .int (nI s)), (2, .int (rf_known w s)), (3, .int (-1))]) C dX10_dearestOf_13 (by decide) rfl ?_
  refine am_iconst (pc := 14) (v := -1) C dX10_dearestOf_14 rfl ?_
  refine am_istore (pc := 15) (ls' := [(0, .ref 40), (1, .int (nI s)), (2, .int (rf_known w s)), (3, .int (-1)), (4, .int (-1))]) C dX10_dearestOf_15 (by decide) rfl ?_
  refine am_iconstN (pc := 17) (k := 0) C dX10_dearestOf_17 ?_
  refine am_istore (pc := 18) (ls' := [(0, .ref 40), (1, .int (nI s)), (2, .int (rf_known w s)), (3, .int (-1)), (4, .int (-1)), (5, .int (nI 0))]) C dX10_dearestOf_18 (by decide) rfl ?_
  have L20 : ∀ (j20 i20 : Nat), i20 + j20 = rf_M w → am_G X (am_VV ad) (0, 0) 20 [(0, .ref 40), (1, .int (nI s)), (2, .int (rf_known w s)), (3, .int (am_oi (rf_tk w (rf_known w s) i20))), (4, .int (rf_mo w (rf_known w s) (rf_tk w (rf_known w s) i20))), (5, .int (nI i20))] [] r h := by
    intro j20
    induction j20 with
    | zero =>
      intro i20 hi20 
      obtain rfl : i20 = rf_M w := by omega
      refine am_iload (pc := 20) C dX10_dearestOf_20 rfl ?_
      refine am_aload_n (pc := 22) C dX10_dearestOf_22 rfl ?_
      refine am_getR (pc := 23) (j := 4) C dX10_dearestOf_23 f10_9 bn_40 sh_40 (rf_40_0 hR) ?_
      refine am_getI (pc := 26) C dX10_dearestOf_26 f10_129 bn_4 sh_4 ?_
      refine am_top (show ((h 4) 1) = (nI (rf_M w)) from (hLo.1.2.1.trans hV.1.1.1)) ?_
      refine am_icmp_geN (pc := 29) (tgt := 74) C dX10_dearestOf_29 (by decide) (by omega) (by omega) (fun q29 => ?_) (fun q29 => ?_)
      · skip
        refine am_iload_n (pc := 74) C dX10_dearestOf_74 rfl ?_
        exact am_ireti T dX10_dearestOf_75 rfl (Nat.le_refl _) (Nat.le_refl _) rfl rfl rfl
      · skip
        exact absurd q29 (by omega)
    | succ j20 ih20 =>
      intro i20 hi20 
      have hl20 : i20 < rf_M w := by omega
      have ht9 := rf_tk_le w (rf_known w s) i20
      refine am_iload (pc := 20) C dX10_dearestOf_20 rfl ?_
      refine am_aload_n (pc := 22) C dX10_dearestOf_22 rfl ?_
      refine am_getR (pc := 23) (j := 4) C dX10_dearestOf_23 f10_9 bn_40 sh_40 (rf_40_0 hR) ?_
      refine am_getI (pc := 26) C dX10_dearestOf_26 f10_129 bn_4 sh_4 ?_
      refine am_top (show ((h 4) 1) = (nI (rf_M w)) from (hLo.1.2.1.trans hV.1.1.1)) ?_
      refine am_icmp_geN (pc := 29) (tgt := 74) C dX10_dearestOf_29 (by decide) (by omega) (by omega) (fun q29 => ?_) (fun q29 => ?_)
      · skip
        exact absurd q29 (by omega)
      · skip
        refine am_iload_n (pc := 32) C dX10_dearestOf_32 rfl ?_
        refine am_iload (pc := 33) C dX10_dearestOf_33 rfl ?_
        refine am_callSNi (Y := mX11_has) (pc := 35) (st := []) (As := [.int (rf_known w s), .int (nI i20)]) (x := (am_b (am_bt (rf_known w s) i20))) (h2 := h) C dX10_dearestOf_35 k10_67 v_X11_has rfl rfl (by decide) (Nat.zero_le _) (Nat.zero_le _) (Nat.le_of_ble_eq_true rfl) (c_X11_has (rf_known w s) i20 (show i20 < 32 from by omega)) ?_
        refine am_if_eqB (pc := 38) (tgt := 51) C dX10_dearestOf_38 (by decide) (fun q38 => ?_) (fun q38 => ?_)
        · skip
          refine am_iconst (pc := 51) (v := -1) C dX10_dearestOf_51 rfl ?_
          refine am_istore (pc := 52) (ls' := [(0, .ref 40), (1, .int (nI s)), (2, .int (rf_known w s)), (3, .int (am_oi (rf_tk w (rf_known w s) i20))), (4, .int (rf_mo w (rf_known w s) (rf_tk w (rf_known w s) i20))), (5, .int (nI i20)), (6, .int (-1))]) C dX10_dearestOf_52 (by decide) rfl ?_
          refine am_iload (pc := 54) C dX10_dearestOf_54 rfl ?_
          refine am_iload (pc := 56) C dX10_dearestOf_56 rfl ?_
          refine am_icmp_le (pc := 58) (tgt := 68) C dX10_dearestOf_58 (by decide) (fun q58 => ?_) (fun q58 => ?_)
          · skip
            refine am_iincN (pc := 68) (ls' := [(0, .ref 40), (1, .int (nI s)), (2, .int (rf_known w s)), (3, .int (am_oi (rf_tk w (rf_known w s) i20))), (4, .int (rf_mo w (rf_known w s) (rf_tk w (rf_known w s) i20))), (5, .int (nI (i20 + 1))), (6, .int (-1))]) C dX10_dearestOf_68 rfl (am_up1 _) (by decide) rfl ?_
            refine am_goto (pc := 71) (tgt := 20) C dX10_dearestOf_71 (by decide) ?_
            refine am_sub (ls' := [(0, .ref 40), (1, .int (nI s)), (2, .int (rf_known w s)), (3, .int (am_oi (rf_tk w (rf_known w s) i20))), (4, .int (rf_mo w (rf_known w s) (rf_tk w (rf_known w s) i20))), (5, .int (nI (i20 + 1)))]) (by intro q hq; simp only [List.mem_cons, List.not_mem_nil, or_false] at hq ⊢; rcases hq with rfl | rfl | rfl | rfl | rfl | rfl <;> simp) ?_
            refine am_lsv (ls' := [(0, .ref 40), (1, .int (nI s)), (2, .int (rf_known w s)), (3, .int (am_oi (rf_tk w (rf_known w s) (i20 + 1)))), (4, .int (rf_mo w (rf_known w s) (rf_tk w (rf_known w s) i20))), (5, .int (nI (i20 + 1)))]) (congrArg (fun z9 : Int32 => ([(0, .ref 40), (1, .int (nI s)), (2, .int (rf_known w s)), (3, Value.int z9), (4, .int (rf_mo w (rf_known w s) (rf_tk w (rf_known w s) i20))), (5, .int (nI (i20 + 1)))] : List (Nat × Value))) (show (am_oi (rf_tk w (rf_known w s) i20)) = (am_oi (rf_tk w (rf_known w s) (i20 + 1))) from rf_tk_no (fun z => Bool.false_ne_true (q38.symm.trans z.1)))) ?_
            refine am_lsv (ls' := [(0, .ref 40), (1, .int (nI s)), (2, .int (rf_known w s)), (3, .int (am_oi (rf_tk w (rf_known w s) (i20 + 1)))), (4, .int (rf_mo w (rf_known w s) (rf_tk w (rf_known w s) (i20 + 1)))), (5, .int (nI (i20 + 1)))]) (congrArg (fun z9 : Int32 => ([(0, .ref 40), (1, .int (nI s)), (2, .int (rf_known w s)), (3, .int (am_oi (rf_tk w (rf_known w s) (i20 + 1)))), (4, Value.int z9), (5, .int (nI (i20 + 1)))] : List (Nat × Value))) (show (rf_mo w (rf_known w s) (rf_tk w (rf_known w s) i20)) = (rf_mo w (rf_known w s) (rf_tk w (rf_known w s) (i20 + 1))) from congrArg (rf_mo w _) (rf_tk_n (fun z => Bool.false_ne_true (q38.symm.trans z.1))))) ?_
            exact ih20 (i20 + 1) (by omega) 
          · skip
            exact absurd (rf_mo_ge hV (by omega)) q58
        · skip
          refine am_aload_n (pc := 41) C dX10_dearestOf_41 rfl ?_
          refine am_iload_n (pc := 42) C dX10_dearestOf_42 rfl ?_
          refine am_iload (pc := 43) C dX10_dearestOf_43 rfl ?_
          refine am_callVi (Y := mX10_fallsOf) (pc := 45) (st := []) (As := [.int (nI s), .int (nI i20)]) (x := (rf_falls w (rf_known w s) i20)) (h2 := h) C dX10_dearestOf_45 k10_132 v_X10_fallsOf rfl rfl bn_40 sh_40 ⟨by decide, rfl⟩ (by decide) (Nat.zero_le _) (Nat.zero_le _) (Nat.le_of_ble_eq_true rfl) (c_X10_fallsOf_p hR s i20 w hV hLo hSc hs (show i20 < rf_M w from by omega)) ?_
          refine am_goto (pc := 48) (tgt := 52) C dX10_dearestOf_48 (by decide) ?_
          refine am_istore (pc := 52) (ls' := [(0, .ref 40), (1, .int (nI s)), (2, .int (rf_known w s)), (3, .int (am_oi (rf_tk w (rf_known w s) i20))), (4, .int (rf_mo w (rf_known w s) (rf_tk w (rf_known w s) i20))), (5, .int (nI i20)), (6, .int (rf_falls w (rf_known w s) i20))]) C dX10_dearestOf_52 (by decide) rfl ?_
          refine am_iload (pc := 54) C dX10_dearestOf_54 rfl ?_
          refine am_iload (pc := 56) C dX10_dearestOf_56 rfl ?_
          refine am_icmp_le (pc := 58) (tgt := 68) C dX10_dearestOf_58 (by decide) (fun q58 => ?_) (fun q58 => ?_)
          · skip
            refine am_iincN (pc := 68) (ls' := [(0, .ref 40), (1, .int (nI s)), (2, .int (rf_known w s)), (3, .int (am_oi (rf_tk w (rf_known w s) i20))), (4, .int (rf_mo w (rf_known w s) (rf_tk w (rf_known w s) i20))), (5, .int (nI (i20 + 1))), (6, .int (rf_falls w (rf_known w s) i20))]) C dX10_dearestOf_68 rfl (am_up1 _) (by decide) rfl ?_
            refine am_goto (pc := 71) (tgt := 20) C dX10_dearestOf_71 (by decide) ?_
            refine am_sub (ls' := [(0, .ref 40), (1, .int (nI s)), (2, .int (rf_known w s)), (3, .int (am_oi (rf_tk w (rf_known w s) i20))), (4, .int (rf_mo w (rf_known w s) (rf_tk w (rf_known w s) i20))), (5, .int (nI (i20 + 1)))]) (by intro q hq; simp only [List.mem_cons, List.not_mem_nil, or_false] at hq ⊢; rcases hq with rfl | rfl | rfl | rfl | rfl | rfl <;> simp) ?_
            refine am_lsv (ls' := [(0, .ref 40), (1, .int (nI s)), (2, .int (rf_known w s)), (3, .int (am_oi (rf_tk w (rf_known w s) (i20 + 1)))), (4, .int (rf_mo w (rf_known w s) (rf_tk w (rf_known w s) i20))), (5, .int (nI (i20 + 1)))]) (congrArg (fun z9 : Int32 => ([(0, .ref 40), (1, .int (nI s)), (2, .int (rf_known w s)), (3, Value.int z9), (4, .int (rf_mo w (rf_known w s) (rf_tk w (rf_known w s) i20))), (5, .int (nI (i20 + 1)))] : List (Nat × Value))) (show (am_oi (rf_tk w (rf_known w s) i20)) = (am_oi (rf_tk w (rf_known w s) (i20 + 1))) from rf_tk_no (fun z => rf_mo_no hV hl20 (by omega) q58 z.2))) ?_
            refine am_lsv (ls' := [(0, .ref 40), (1, .int (nI s)), (2, .int (rf_known w s)), (3, .int (am_oi (rf_tk w (rf_known w s) (i20 + 1)))), (4, .int (rf_mo w (rf_known w s) (rf_tk w (rf_known w s) (i20 + 1)))), (5, .int (nI (i20 + 1)))]) (congrArg (fun z9 : Int32 => ([(0, .ref 40), (1, .int (nI s)), (2, .int (rf_known w s)), (3, .int (am_oi (rf_tk w (rf_known w s) (i20 + 1)))), (4, Value.int z9), (5, .int (nI (i20 + 1)))] : List (Nat × Value))) (show (rf_mo w (rf_known w s) (rf_tk w (rf_known w s) i20)) = (rf_mo w (rf_known w s) (rf_tk w (rf_known w s) (i20 + 1))) from congrArg (rf_mo w _) (rf_tk_n (fun z => rf_mo_no hV hl20 (by omega) q58 z.2)))) ?_
            exact ih20 (i20 + 1) (by omega) 
          · skip
            refine am_iload (pc := 61) C dX10_dearestOf_61 rfl ?_
            refine am_istore_n (pc := 63) (ls' := [(0, .ref 40), (1, .int (nI s)), (2, .int (rf_known w s)), (3, .int (nI i20)), (4, .int (rf_mo w (rf_known w s) (rf_tk w (rf_known w s) i20))), (5, .int (nI i20)), (6, .int (rf_falls w (rf_known w s) i20))]) C dX10_dearestOf_63 (by decide) rfl ?_
            refine am_iload (pc := 64) C dX10_dearestOf_64 rfl ?_
            refine am_istore (pc := 66) (ls' := [(0, .ref 40), (1, .int (nI s)), (2, .int (rf_known w s)), (3, .int (nI i20)), (4, .int (rf_falls w (rf_known w s) i20)), (5, .int (nI i20)), (6, .int (rf_falls w (rf_known w s) i20))]) C dX10_dearestOf_66 (by decide) rfl ?_
            refine am_iincN (pc := 68) (ls' := [(0, .ref 40), (1, .int (nI s)), (2, .int (rf_known w s)), (3, .int (nI i20)), (4, .int (rf_falls w (rf_known w s) i20)), (5, .int (nI (i20 + 1))), (6, .int (rf_falls w (rf_known w s) i20))]) C dX10_dearestOf_68 rfl (am_up1 _) (by decide) rfl ?_
            refine am_goto (pc := 71) (tgt := 20) C dX10_dearestOf_71 (by decide) ?_
            refine am_sub (ls' := [(0, .ref 40), (1, .int (nI s)), (2, .int (rf_known w s)), (3, .int (nI i20)), (4, .int (rf_falls w (rf_known w s) i20)), (5, .int (nI (i20 + 1)))]) (by intro q hq; simp only [List.mem_cons, List.not_mem_nil, or_false] at hq ⊢; rcases hq with rfl | rfl | rfl | rfl | rfl | rfl <;> simp) ?_
            refine am_lsv (ls' := [(0, .ref 40), (1, .int (nI s)), (2, .int (rf_known w s)), (3, .int (am_oi (rf_tk w (rf_known w s) (i20 + 1)))), (4, .int (rf_falls w (rf_known w s) i20)), (5, .int (nI (i20 + 1)))]) (congrArg (fun z9 : Int32 => ([(0, .ref 40), (1, .int (nI s)), (2, .int (rf_known w s)), (3, Value.int z9), (4, .int (rf_falls w (rf_known w s) i20)), (5, .int (nI (i20 + 1)))] : List (Nat × Value))) (show (nI i20) = (am_oi (rf_tk w (rf_known w s) (i20 + 1))) from rf_tk_yes ⟨q38, rf_mo_yes q58⟩)) ?_
            refine am_lsv (ls' := [(0, .ref 40), (1, .int (nI s)), (2, .int (rf_known w s)), (3, .int (am_oi (rf_tk w (rf_known w s) (i20 + 1)))), (4, .int (rf_mo w (rf_known w s) (rf_tk w (rf_known w s) (i20 + 1)))), (5, .int (nI (i20 + 1)))]) (congrArg (fun z9 : Int32 => ([(0, .ref 40), (1, .int (nI s)), (2, .int (rf_known w s)), (3, .int (am_oi (rf_tk w (rf_known w s) (i20 + 1)))), (4, Value.int z9), (5, .int (nI (i20 + 1)))] : List (Nat × Value))) (show (rf_falls w (rf_known w s) i20) = (rf_mo w (rf_known w s) (rf_tk w (rf_known w s) (i20 + 1))) from rf_mo_new ⟨q38, rf_mo_yes q58⟩)) ?_
            exact ih20 (i20 + 1) (by omega) 
  refine am_sub (ls' := [(0, .ref 40), (1, .int (nI s)), (2, .int (rf_known w s)), (3, .int (-1)), (4, .int (-1)), (5, .int (nI 0))]) (by intro q hq; simp only [List.mem_cons, List.not_mem_nil, or_false] at hq ⊢; rcases hq with rfl | rfl | rfl | rfl | rfl | rfl <;> simp) ?_
  refine am_lsv (ls' := [(0, .ref 40), (1, .int (nI s)), (2, .int (rf_known w s)), (3, .int (am_oi (rf_tk w (rf_known w s) 0))), (4, .int (-1)), (5, .int (nI 0))]) (congrArg (fun z9 : Int32 => ([(0, .ref 40), (1, .int (nI s)), (2, .int (rf_known w s)), (3, Value.int z9), (4, .int (-1)), (5, .int (nI 0))] : List (Nat × Value))) (show (-1) = (am_oi (rf_tk w (rf_known w s) 0)) from (by first | exact am_oi_0.symm | rfl))) ?_
  refine am_lsv (ls' := [(0, .ref 40), (1, .int (nI s)), (2, .int (rf_known w s)), (3, .int (am_oi (rf_tk w (rf_known w s) 0))), (4, .int (rf_mo w (rf_known w s) (rf_tk w (rf_known w s) 0))), (5, .int (nI 0))]) (congrArg (fun z9 : Int32 => ([(0, .ref 40), (1, .int (nI s)), (2, .int (rf_known w s)), (3, .int (am_oi (rf_tk w (rf_known w s) 0))), (4, Value.int z9), (5, .int (nI 0))] : List (Nat × Value))) (show (-1) = (rf_mo w (rf_known w s) (rf_tk w (rf_known w s) 0)) from (by first | exact am_oi_0.symm | rfl))) ?_
  exact L20 (rf_M w) 0 (by omega) 

set_option maxHeartbeats 400000 in
set_option maxRecDepth 100000 in
theorem c_X10_targetOf_p {ad : Nat → Nat} {r : am_R} (hR : am_rs r) {h : am_H} (s : Nat) (w : rf_W) (hV : rf_I w) (hLo : cl_Lo (h) 4 w) (hSc : cl_Sc (h) 41 w) (hs : s < rf_S w)  : am_CM mX10_targetOf 2 0 0 [.ref 40, .int (nI s)] (am_VV ad) r h (am_po (some (.int (am_oi (rf_target w s)))) r h) := by
  refine am_CM.of (by decide +kernel) (Nat.le_of_ble_eq_true rfl) (fun X C T => ?_)
  show am_G X (am_VV ad) (0, 0) 0 [(0, .ref 40), (1, .int (nI s))] [] r h
  have hM9 : rf_M w < 17 := hV.1.1.2
  have hS9 : rf_S w < 11 := hV.1.2.1.2
  have hO9 : rf_O w < 11 := hV.1.2.2.2
  refine am_iconst (pc := 0) (v := -1) C dX10_targetOf_0 rfl ?_
  refine am_istore_n (pc := 1) (ls' := [(0, .ref 40), (1, .int (nI s)), (2, .int (-1))]) C dX10_targetOf_1 (by decide) rfl ?_
  refine am_iconstN (pc := 2) (k := 0) C dX10_targetOf_2 ?_
  refine am_istore_n (pc := 3) (ls' := [(0, .ref 40), (1, .int (nI s)), (2, .int (-1)), (3, .int (nI 0))]) C dX10_targetOf_3 (by decide) rfl ?_
  refine am_aload_n (pc := 4) C dX10_targetOf_4 rfl ?_
  refine am_getR (pc := 5) (j := 41) C dX10_targetOf_5 f10_22 bn_40 sh_40 (rf_40_2 hR) ?_
  refine am_getR (pc := 8) (j := 46) C dX10_targetOf_8 f10_64 bn_41 sh_41 (rf_41_9 hR) ?_
  refine am_iload_n (pc := 11) C dX10_targetOf_11 rfl ?_
  refine am_callSNi (Y := mX11_pick) (pc := 12) (st := []) (As := [.ref 46, .int (nI s)]) (x := ((h 46) s)) (h2 := h) C dX10_targetOf_12 k10_54 v_X11_pick rfl rfl (by decide) (Nat.zero_le _) (Nat.zero_le _) (Nat.le_of_ble_eq_true rfl) (c_X11_pick 46 s 10 bn_46 sh_46 (show s < 10 from by omega) (by decide)) ?_
  refine am_top (show ((h 46) s) = (rf_use w s) from (hSc.2.1 s (by omega)).2.2.2.2.1) ?_
  refine am_if_ne (pc := 15) (tgt := 20) C dX10_targetOf_15 (by decide) (fun q15 => ?_) (fun q15 => ?_)
  · skip
    refine am_iconstN (pc := 20) (k := 0) C dX10_targetOf_20 ?_
    refine am_istore (pc := 21) (ls' := [(0, .ref 40), (1, .int (nI s)), (2, .int (-1)), (3, .int (nI 0)), (4, .int (nI 0))]) C dX10_targetOf_21 (by decide) rfl ?_
    have L23 : ∀ (j23 i23 : Nat), i23 + j23 = rf_S w → am_G X (am_VV ad) (0, 0) 23 [(0, .ref 40), (1, .int (nI s)), (2, .int (am_oi (rf_tgt w (rf_sideIn w (nI 1 - rf_of w s 0) (rf_pl w s)) i23))), (3, .int (nI (rf_mst w (rf_tgt w (rf_sideIn w (nI 1 - rf_of w s 0) (rf_pl w s)) i23)))), (4, .int (nI i23))] [] r h := by
      intro j23
      induction j23 with
      | zero =>
        intro i23 hi23 
        obtain rfl : i23 = rf_S w := by omega
        refine am_iload (pc := 23) C dX10_targetOf_23 rfl ?_
        refine am_aload_n (pc := 25) C dX10_targetOf_25 rfl ?_
        refine am_getR (pc := 26) (j := 4) C dX10_targetOf_26 f10_9 bn_40 sh_40 (rf_40_0 hR) ?_
        refine am_getI (pc := 29) C dX10_targetOf_29 f10_138 bn_4 sh_4 ?_
        refine am_top (show ((h 4) 2) = (nI (rf_S w)) from (hLo.1.2.2.1.trans hV.1.2.1.1)) ?_
        refine am_icmp_geN (pc := 32) (tgt := 87) C dX10_targetOf_32 (by decide) (by omega) (by omega) (fun q32 => ?_) (fun q32 => ?_)
        · skip
          refine am_iload_n (pc := 87) C dX10_targetOf_87 rfl ?_
          exact am_ireti T dX10_targetOf_88 rfl (Nat.le_refl _) (Nat.le_refl _) (by rw [rf_target, if_neg q15]) rfl rfl
        · skip
          exact absurd q32 (by omega)
      | succ j23 ih23 =>
        intro i23 hi23 
        have hl23 : i23 < rf_S w := by omega
        have ht9 := rf_tgt_le w (rf_sideIn w (nI 1 - rf_of w s 0) (rf_pl w s)) i23
        have hm9 : rf_mst w (rf_tgt w (rf_sideIn w (nI 1 - rf_of w s 0) (rf_pl w s)) i23) < 13 := rf_mst_lt hV (by omega)
        have hkn9 : rf_kn w i23 < 13 := (hV.2.1 i23 hl23).2.2.2.2.1.2
        refine am_iload (pc := 23) C dX10_targetOf_23 rfl ?_
        refine am_aload_n (pc := 25) C dX10_targetOf_25 rfl ?_
        refine am_getR (pc := 26) (j := 4) C dX10_targetOf_26 f10_9 bn_40 sh_40 (rf_40_0 hR) ?_
        refine am_getI (pc := 29) C dX10_targetOf_29 f10_138 bn_4 sh_4 ?_
        refine am_top (show ((h 4) 2) = (nI (rf_S w)) from (hLo.1.2.2.1.trans hV.1.2.1.1)) ?_
        refine am_icmp_geN (pc := 32) (tgt := 87) C dX10_targetOf_32 (by decide) (by omega) (by omega) (fun q32 => ?_) (fun q32 => ?_)
        · skip
          exact absurd q32 (by omega)
        · skip
          refine am_aload_n (pc := 35) C dX10_targetOf_35 rfl ?_
          refine am_getR (pc := 36) (j := 41) C dX10_targetOf_36 f10_22 bn_40 sh_40 (rf_40_2 hR) ?_
          refine am_getR (pc := 39) (j := 44) C dX10_targetOf_39 f10_58 bn_41 sh_41 (rf_41_7 hR) ?_
          refine am_iload (pc := 42) C dX10_targetOf_42 rfl ?_
          refine am_callSNi (Y := mX11_pick) (pc := 44) (st := []) (As := [.ref 44, .int (nI i23)]) (x := ((h 44) i23)) (h2 := h) C dX10_targetOf_44 k10_54 v_X11_pick rfl rfl (by decide) (Nat.zero_le _) (Nat.zero_le _) (Nat.le_of_ble_eq_true rfl) (c_X11_pick 44 i23 10 bn_44 sh_44 (show i23 < 10 from by omega) (by decide)) ?_
          refine am_top (show ((h 44) i23) = (nI (rf_kn w i23)) from ((hSc.2.1 i23 (by omega)).2.2.1.trans (hV.2.1 i23 (by omega)).2.2.2.2.1.1)) ?_
          refine am_istore (pc := 47) (ls' := [(0, .ref 40), (1, .int (nI s)), (2, .int (am_oi (rf_tgt w (rf_sideIn w (nI 1 - rf_of w s 0) (rf_pl w s)) i23))), (3, .int (nI (rf_mst w (rf_tgt w (rf_sideIn w (nI 1 - rf_of w s 0) (rf_pl w s)) i23)))), (4, .int (nI i23)), (5, .int (nI (rf_kn w i23)))]) C dX10_targetOf_47 (by decide) rfl ?_
          refine am_iload (pc := 49) C dX10_targetOf_49 rfl ?_
          refine am_iload_n (pc := 51) C dX10_targetOf_51 rfl ?_
          refine am_icmp_leN (pc := 52) (tgt := 81) C dX10_targetOf_52 (by decide) (by omega) (by omega) (fun q52 => ?_) (fun q52 => ?_)
          · skip
            refine am_iincN (pc := 81) (ls' := [(0, .ref 40), (1, .int (nI s)), (2, .int (am_oi (rf_tgt w (rf_sideIn w (nI 1 - rf_of w s 0) (rf_pl w s)) i23))), (3, .int (nI (rf_mst w (rf_tgt w (rf_sideIn w (nI 1 - rf_of w s 0) (rf_pl w s)) i23)))), (4, .int (nI (i23 + 1))), (5, .int (nI (rf_kn w i23)))]) C dX10_targetOf_81 rfl (am_up1 _) (by decide) rfl ?_
            refine am_goto (pc := 84) (tgt := 23) C dX10_targetOf_84 (by decide) ?_
            refine am_sub (ls' := [(0, .ref 40), (1, .int (nI s)), (2, .int (am_oi (rf_tgt w (rf_sideIn w (nI 1 - rf_of w s 0) (rf_pl w s)) i23))), (3, .int (nI (rf_mst w (rf_tgt w (rf_sideIn w (nI 1 - rf_of w s 0) (rf_pl w s)) i23)))), (4, .int (nI (i23 + 1)))]) (by intro q hq; simp only [List.mem_cons, List.not_mem_nil, or_false] at hq ⊢; rcases hq with rfl | rfl | rfl | rfl | rfl <;> simp) ?_
            refine am_lsv (ls' := [(0, .ref 40), (1, .int (nI s)), (2, .int (am_oi (rf_tgt w (rf_sideIn w (nI 1 - rf_of w s 0) (rf_pl w s)) (i23 + 1)))), (3, .int (nI (rf_mst w (rf_tgt w (rf_sideIn w (nI 1 - rf_of w s 0) (rf_pl w s)) i23)))), (4, .int (nI (i23 + 1)))]) (congrArg (fun z9 : Int32 => ([(0, .ref 40), (1, .int (nI s)), (2, Value.int z9), (3, .int (nI (rf_mst w (rf_tgt w (rf_sideIn w (nI 1 - rf_of w s 0) (rf_pl w s)) i23)))), (4, .int (nI (i23 + 1)))] : List (Nat × Value))) (show (am_oi (rf_tgt w (rf_sideIn w (nI 1 - rf_of w s 0) (rf_pl w s)) i23)) = (am_oi (rf_tgt w (rf_sideIn w (nI 1 - rf_of w s 0) (rf_pl w s)) (i23 + 1))) from rf_tgt_no (fun z => rf_mst_no (by omega) z.2))) ?_
            refine am_lsv (ls' := [(0, .ref 40), (1, .int (nI s)), (2, .int (am_oi (rf_tgt w (rf_sideIn w (nI 1 - rf_of w s 0) (rf_pl w s)) (i23 + 1)))), (3, .int (nI (rf_mst w (rf_tgt w (rf_sideIn w (nI 1 - rf_of w s 0) (rf_pl w s)) (i23 + 1))))), (4, .int (nI (i23 + 1)))]) (congrArg (fun z9 : Int32 => ([(0, .ref 40), (1, .int (nI s)), (2, .int (am_oi (rf_tgt w (rf_sideIn w (nI 1 - rf_of w s 0) (rf_pl w s)) (i23 + 1)))), (3, Value.int z9), (4, .int (nI (i23 + 1)))] : List (Nat × Value))) (show (nI (rf_mst w (rf_tgt w (rf_sideIn w (nI 1 - rf_of w s 0) (rf_pl w s)) i23))) = (nI (rf_mst w (rf_tgt w (rf_sideIn w (nI 1 - rf_of w s 0) (rf_pl w s)) (i23 + 1)))) from congrArg (fun z => nI (rf_mst w z)) (rf_tgt_n (fun z => rf_mst_no (by omega) z.2)))) ?_
            exact ih23 (i23 + 1) (by omega) 
          · skip
            refine am_aload_n (pc := 55) C dX10_targetOf_55 rfl ?_
            refine am_iload_n (pc := 56) C dX10_targetOf_56 rfl ?_
            refine am_iload (pc := 57) C dX10_targetOf_57 rfl ?_
            refine am_callVi (Y := mX10_ofOneSide) (pc := 59) (st := []) (As := [.int (nI s), .int (nI i23)]) (x := (am_b (decide (rf_of w s 0 = rf_of w i23 0)))) (h2 := h) C dX10_targetOf_59 k10_141 v_X10_ofOneSide rfl rfl bn_40 sh_40 ⟨by decide, rfl⟩ (by decide) (Nat.zero_le _) (Nat.zero_le _) (Nat.le_of_ble_eq_true rfl) (c_X10_ofOneSide_p hR s i23 w hV hLo hSc hs (show i23 < rf_S w from by omega)) ?_
            refine am_if_neB (pc := 62) (tgt := 81) C dX10_targetOf_62 (by decide) (fun q62 => ?_) (fun q62 => ?_)
            · skip
              refine am_iincN (pc := 81) (ls' := [(0, .ref 40), (1, .int (nI s)), (2, .int (am_oi (rf_tgt w (rf_sideIn w (nI 1 - rf_of w s 0) (rf_pl w s)) i23))), (3, .int (nI (rf_mst w (rf_tgt w (rf_sideIn w (nI 1 - rf_of w s 0) (rf_pl w s)) i23)))), (4, .int (nI (i23 + 1))), (5, .int (nI (rf_kn w i23)))]) C dX10_targetOf_81 rfl (am_up1 _) (by decide) rfl ?_
              refine am_goto (pc := 84) (tgt := 23) C dX10_targetOf_84 (by decide) ?_
              refine am_sub (ls' := [(0, .ref 40), (1, .int (nI s)), (2, .int (am_oi (rf_tgt w (rf_sideIn w (nI 1 - rf_of w s 0) (rf_pl w s)) i23))), (3, .int (nI (rf_mst w (rf_tgt w (rf_sideIn w (nI 1 - rf_of w s 0) (rf_pl w s)) i23)))), (4, .int (nI (i23 + 1)))]) (by intro q hq; simp only [List.mem_cons, List.not_mem_nil, or_false] at hq ⊢; rcases hq with rfl | rfl | rfl | rfl | rfl <;> simp) ?_
              refine am_lsv (ls' := [(0, .ref 40), (1, .int (nI s)), (2, .int (am_oi (rf_tgt w (rf_sideIn w (nI 1 - rf_of w s 0) (rf_pl w s)) (i23 + 1)))), (3, .int (nI (rf_mst w (rf_tgt w (rf_sideIn w (nI 1 - rf_of w s 0) (rf_pl w s)) i23)))), (4, .int (nI (i23 + 1)))]) (congrArg (fun z9 : Int32 => ([(0, .ref 40), (1, .int (nI s)), (2, Value.int z9), (3, .int (nI (rf_mst w (rf_tgt w (rf_sideIn w (nI 1 - rf_of w s 0) (rf_pl w s)) i23)))), (4, .int (nI (i23 + 1)))] : List (Nat × Value))) (show (am_oi (rf_tgt w (rf_sideIn w (nI 1 - rf_of w s 0) (rf_pl w s)) i23)) = (am_oi (rf_tgt w (rf_sideIn w (nI 1 - rf_of w s 0) (rf_pl w s)) (i23 + 1))) from rf_tgt_no (fun z => of_decide_eq_true q62 |> fun e => rf_foe_no hV hs hl23 e z.1))) ?_
              refine am_lsv (ls' := [(0, .ref 40), (1, .int (nI s)), (2, .int (am_oi (rf_tgt w (rf_sideIn w (nI 1 - rf_of w s 0) (rf_pl w s)) (i23 + 1)))), (3, .int (nI (rf_mst w (rf_tgt w (rf_sideIn w (nI 1 - rf_of w s 0) (rf_pl w s)) (i23 + 1))))), (4, .int (nI (i23 + 1)))]) (congrArg (fun z9 : Int32 => ([(0, .ref 40), (1, .int (nI s)), (2, .int (am_oi (rf_tgt w (rf_sideIn w (nI 1 - rf_of w s 0) (rf_pl w s)) (i23 + 1)))), (3, Value.int z9), (4, .int (nI (i23 + 1)))] : List (Nat × Value))) (show (nI (rf_mst w (rf_tgt w (rf_sideIn w (nI 1 - rf_of w s 0) (rf_pl w s)) i23))) = (nI (rf_mst w (rf_tgt w (rf_sideIn w (nI 1 - rf_of w s 0) (rf_pl w s)) (i23 + 1)))) from congrArg (fun z => nI (rf_mst w z)) (rf_tgt_n (fun z => of_decide_eq_true q62 |> fun e => rf_foe_no hV hs hl23 e z.1)))) ?_
              exact ih23 (i23 + 1) (by omega) 
            · skip
              refine am_aload_n (pc := 65) C dX10_targetOf_65 rfl ?_
              refine am_iload_n (pc := 66) C dX10_targetOf_66 rfl ?_
              refine am_iload (pc := 67) C dX10_targetOf_67 rfl ?_
              refine am_callVi (Y := mX10_together) (pc := 69) (st := []) (As := [.int (nI s), .int (nI i23)]) (x := (am_b (decide (rf_pl w s = rf_pl w i23)))) (h2 := h) C dX10_targetOf_69 k10_144 v_X10_together rfl rfl bn_40 sh_40 ⟨by decide, rfl⟩ (by decide) (Nat.zero_le _) (Nat.zero_le _) (Nat.le_of_ble_eq_true rfl) (c_X10_together_p hR s i23 w hV hLo hSc hs (show i23 < rf_S w from by omega)) ?_
              refine am_if_eqB (pc := 72) (tgt := 81) C dX10_targetOf_72 (by decide) (fun q72 => ?_) (fun q72 => ?_)
              · skip
                refine am_iincN (pc := 81) (ls' := [(0, .ref 40), (1, .int (nI s)), (2, .int (am_oi (rf_tgt w (rf_sideIn w (nI 1 - rf_of w s 0) (rf_pl w s)) i23))), (3, .int (nI (rf_mst w (rf_tgt w (rf_sideIn w (nI 1 - rf_of w s 0) (rf_pl w s)) i23)))), (4, .int (nI (i23 + 1))), (5, .int (nI (rf_kn w i23)))]) C dX10_targetOf_81 rfl (am_up1 _) (by decide) rfl ?_
                refine am_goto (pc := 84) (tgt := 23) C dX10_targetOf_84 (by decide) ?_
                refine am_sub (ls' := [(0, .ref 40), (1, .int (nI s)), (2, .int (am_oi (rf_tgt w (rf_sideIn w (nI 1 - rf_of w s 0) (rf_pl w s)) i23))), (3, .int (nI (rf_mst w (rf_tgt w (rf_sideIn w (nI 1 - rf_of w s 0) (rf_pl w s)) i23)))), (4, .int (nI (i23 + 1)))]) (by intro q hq; simp only [List.mem_cons, List.not_mem_nil, or_false] at hq ⊢; rcases hq with rfl | rfl | rfl | rfl | rfl <;> simp) ?_
                refine am_lsv (ls' := [(0, .ref 40), (1, .int (nI s)), (2, .int (am_oi (rf_tgt w (rf_sideIn w (nI 1 - rf_of w s 0) (rf_pl w s)) (i23 + 1)))), (3, .int (nI (rf_mst w (rf_tgt w (rf_sideIn w (nI 1 - rf_of w s 0) (rf_pl w s)) i23)))), (4, .int (nI (i23 + 1)))]) (congrArg (fun z9 : Int32 => ([(0, .ref 40), (1, .int (nI s)), (2, Value.int z9), (3, .int (nI (rf_mst w (rf_tgt w (rf_sideIn w (nI 1 - rf_of w s 0) (rf_pl w s)) i23)))), (4, .int (nI (i23 + 1)))] : List (Nat × Value))) (show (am_oi (rf_tgt w (rf_sideIn w (nI 1 - rf_of w s 0) (rf_pl w s)) i23)) = (am_oi (rf_tgt w (rf_sideIn w (nI 1 - rf_of w s 0) (rf_pl w s)) (i23 + 1))) from rf_tgt_no (fun z => rf_foe_no2 hV hs hl23 (of_decide_eq_false q72) z.1))) ?_
                refine am_lsv (ls' := [(0, .ref 40), (1, .int (nI s)), (2, .int (am_oi (rf_tgt w (rf_sideIn w (nI 1 - rf_of w s 0) (rf_pl w s)) (i23 + 1)))), (3, .int (nI (rf_mst w (rf_tgt w (rf_sideIn w (nI 1 - rf_of w s 0) (rf_pl w s)) (i23 + 1))))), (4, .int (nI (i23 + 1)))]) (congrArg (fun z9 : Int32 => ([(0, .ref 40), (1, .int (nI s)), (2, .int (am_oi (rf_tgt w (rf_sideIn w (nI 1 - rf_of w s 0) (rf_pl w s)) (i23 + 1)))), (3, Value.int z9), (4, .int (nI (i23 + 1)))] : List (Nat × Value))) (show (nI (rf_mst w (rf_tgt w (rf_sideIn w (nI 1 - rf_of w s 0) (rf_pl w s)) i23))) = (nI (rf_mst w (rf_tgt w (rf_sideIn w (nI 1 - rf_of w s 0) (rf_pl w s)) (i23 + 1)))) from congrArg (fun z => nI (rf_mst w z)) (rf_tgt_n (fun z => rf_foe_no2 hV hs hl23 (of_decide_eq_false q72) z.1)))) ?_
                exact ih23 (i23 + 1) (by omega) 
              · skip
                refine am_iload (pc := 75) C dX10_targetOf_75 rfl ?_
                refine am_istore_n (pc := 77) (ls' := [(0, .ref 40), (1, .int (nI s)), (2, .int (nI i23)), (3, .int (nI (rf_mst w (rf_tgt w (rf_sideIn w (nI 1 - rf_of w s 0) (rf_pl w s)) i23)))), (4, .int (nI i23)), (5, .int (nI (rf_kn w i23)))]) C dX10_targetOf_77 (by decide) rfl ?_
                refine am_iload (pc := 78) C dX10_targetOf_78 rfl ?_
                refine am_istore_n (pc := 80) (ls' := [(0, .ref 40), (1, .int (nI s)), (2, .int (nI i23)), (3, .int (nI (rf_kn w i23))), (4, .int (nI i23)), (5, .int (nI (rf_kn w i23)))]) C dX10_targetOf_80 (by decide) rfl ?_
                refine am_iincN (pc := 81) (ls' := [(0, .ref 40), (1, .int (nI s)), (2, .int (nI i23)), (3, .int (nI (rf_kn w i23))), (4, .int (nI (i23 + 1))), (5, .int (nI (rf_kn w i23)))]) C dX10_targetOf_81 rfl (am_up1 _) (by decide) rfl ?_
                refine am_goto (pc := 84) (tgt := 23) C dX10_targetOf_84 (by decide) ?_
                refine am_sub (ls' := [(0, .ref 40), (1, .int (nI s)), (2, .int (nI i23)), (3, .int (nI (rf_kn w i23))), (4, .int (nI (i23 + 1)))]) (by intro q hq; simp only [List.mem_cons, List.not_mem_nil, or_false] at hq ⊢; rcases hq with rfl | rfl | rfl | rfl | rfl <;> simp) ?_
                refine am_lsv (ls' := [(0, .ref 40), (1, .int (nI s)), (2, .int (am_oi (rf_tgt w (rf_sideIn w (nI 1 - rf_of w s 0) (rf_pl w s)) (i23 + 1)))), (3, .int (nI (rf_kn w i23))), (4, .int (nI (i23 + 1)))]) (congrArg (fun z9 : Int32 => ([(0, .ref 40), (1, .int (nI s)), (2, Value.int z9), (3, .int (nI (rf_kn w i23))), (4, .int (nI (i23 + 1)))] : List (Nat × Value))) (show (nI i23) = (am_oi (rf_tgt w (rf_sideIn w (nI 1 - rf_of w s 0) (rf_pl w s)) (i23 + 1))) from rf_tgt_yes ⟨rf_foe_yes hV hs hl23 (of_decide_eq_false q62) (of_decide_eq_true q72), rf_mst_yes (by omega)⟩)) ?_
                refine am_lsv (ls' := [(0, .ref 40), (1, .int (nI s)), (2, .int (am_oi (rf_tgt w (rf_sideIn w (nI 1 - rf_of w s 0) (rf_pl w s)) (i23 + 1)))), (3, .int (nI (rf_mst w (rf_tgt w (rf_sideIn w (nI 1 - rf_of w s 0) (rf_pl w s)) (i23 + 1))))), (4, .int (nI (i23 + 1)))]) (congrArg (fun z9 : Int32 => ([(0, .ref 40), (1, .int (nI s)), (2, .int (am_oi (rf_tgt w (rf_sideIn w (nI 1 - rf_of w s 0) (rf_pl w s)) (i23 + 1)))), (3, Value.int z9), (4, .int (nI (i23 + 1)))] : List (Nat × Value))) (show (nI (rf_kn w i23)) = (nI (rf_mst w (rf_tgt w (rf_sideIn w (nI 1 - rf_of w s 0) (rf_pl w s)) (i23 + 1)))) from congrArg nI (rf_mst_new ⟨rf_foe_yes hV hs hl23 (of_decide_eq_false q62) (of_decide_eq_true q72), rf_mst_yes (by omega)⟩))) ?_
                exact ih23 (i23 + 1) (by omega) 
    refine am_sub (ls' := [(0, .ref 40), (1, .int (nI s)), (2, .int (-1)), (3, .int (nI 0)), (4, .int (nI 0))]) (by intro q hq; simp only [List.mem_cons, List.not_mem_nil, or_false] at hq ⊢; rcases hq with rfl | rfl | rfl | rfl | rfl <;> simp) ?_
    refine am_lsv (ls' := [(0, .ref 40), (1, .int (nI s)), (2, .int (am_oi (rf_tgt w (rf_sideIn w (nI 1 - rf_of w s 0) (rf_pl w s)) 0))), (3, .int (nI 0)), (4, .int (nI 0))]) (congrArg (fun z9 : Int32 => ([(0, .ref 40), (1, .int (nI s)), (2, Value.int z9), (3, .int (nI 0)), (4, .int (nI 0))] : List (Nat × Value))) (show (-1) = (am_oi (rf_tgt w (rf_sideIn w (nI 1 - rf_of w s 0) (rf_pl w s)) 0)) from (by first | exact am_oi_0.symm | rfl))) ?_
    refine am_lsv (ls' := [(0, .ref 40), (1, .int (nI s)), (2, .int (am_oi (rf_tgt w (rf_sideIn w (nI 1 - rf_of w s 0) (rf_pl w s)) 0))), (3, .int (nI (rf_mst w (rf_tgt w (rf_sideIn w (nI 1 - rf_of w s 0) (rf_pl w s)) 0)))), (4, .int (nI 0))]) (congrArg (fun z9 : Int32 => ([(0, .ref 40), (1, .int (nI s)), (2, .int (am_oi (rf_tgt w (rf_sideIn w (nI 1 - rf_of w s 0) (rf_pl w s)) 0))), (3, Value.int z9), (4, .int (nI 0))] : List (Nat × Value))) (show (nI 0) = (nI (rf_mst w (rf_tgt w (rf_sideIn w (nI 1 - rf_of w s 0) (rf_pl w s)) 0))) from (by first | exact am_oi_0.symm | rfl))) ?_
    exact L23 (rf_S w) 0 (by omega) 
  · skip
    refine am_iconst (pc := 18) (v := -1) C dX10_targetOf_18 rfl ?_
    exact am_ireti T dX10_targetOf_19 rfl (Nat.le_refl _) (Nat.le_refl _) (by rw [rf_target, if_pos q15]; exact am_oi_0.symm) rfl rfl

set_option maxHeartbeats 400000 in
set_option maxRecDepth 100000 in
theorem c_X5_append_p {ad : Nat → Nat} {r : am_R} (hR : am_rs r) {h : am_H} (s : Nat) (m : Nat) (w : rf_W) (hV : rf_I w) (hSc : cl_Sc (h) 41 w) (hs : s < rf_S w) (hk : rf_kn w s < 12) (hm : m < 32)  : am_CM mX5_append 1 0 0 [.ref 41, .int (nI s), .int (nI m)] (am_VV ad) r h (am_po none r (am_row (am_row (am_row h 47 (upd (h 47) (s * 12 + rf_kn w s) (nI m))) 44 (upd (h 44) s (nI (rf_kn w s + 1)))) 45 (upd (h 45) s (rf_known w s ||| (nI 1 <<< (nI m &&& 31)))))) := by
  refine am_CM.of (by decide +kernel) (Nat.le_of_ble_eq_true rfl) (fun X C T => ?_)
  show am_G X (am_VV ad) (0, 0) 0 [(0, .ref 41), (1, .int (nI s)), (2, .int (nI m))] [] r h
  have hM9 : rf_M w < 17 := hV.1.1.2
  have hS9 : rf_S w < 11 := hV.1.2.1.2
  have hO9 : rf_O w < 11 := hV.1.2.2.2
  refine am_aload_n (pc := 0) C dX5_append_0 rfl ?_
  refine am_getR (pc := 1) (j := 44) C dX5_append_1 f5_22 bn_41 sh_41 (rf_41_7 hR) ?_
  refine am_iload_n (pc := 4) C dX5_append_4 rfl ?_
  refine am_callSNi (Y := mX11_pick) (pc := 5) (st := []) (As := [.ref 44, .int (nI s)]) (x := ((h 44) s)) (h2 := h) C dX5_append_5 k5_75 v_X11_pick rfl rfl (by decide) (Nat.zero_le _) (Nat.zero_le _) (Nat.le_of_ble_eq_true rfl) (c_X11_pick 44 s 10 bn_44 sh_44 (show s < 10 from by omega) (by decide)) ?_
  refine am_top (show ((h 44) s) = (nI (rf_kn w s)) from ((hSc.2.1 s (by omega)).2.2.1.trans (hV.2.1 s (by omega)).2.2.2.2.1.1)) ?_
  refine am_istore_n (pc := 8) (ls' := [(0, .ref 41), (1, .int (nI s)), (2, .int (nI m)), (3, .int (nI (rf_kn w s)))]) C dX5_append_8 (by decide) rfl ?_
  refine am_iload_n (pc := 9) C dX5_append_9 rfl ?_
  refine am_bipush (pc := 10) (v := nI 12) C dX5_append_10 (by decide) ?_
  refine am_icmp_geN (pc := 12) (tgt := 60) C dX5_append_12 (by decide) (by omega) (by omega) (fun q12 => ?_) (fun q12 => ?_)
  · skip
    exact absurd q12 (by omega)
  · skip
    refine am_aload_n (pc := 15) C dX5_append_15 rfl ?_
    refine am_getR (pc := 16) (j := 47) C dX5_append_16 f5_31 bn_41 sh_41 (rf_41_10 hR) ?_
    refine am_iload_n (pc := 19) C dX5_append_19 rfl ?_
    refine am_bipush (pc := 20) (v := nI 12) C dX5_append_20 (by decide) ?_
    refine am_imulN (pc := 22) C dX5_append_22 ?_
    refine am_iload_n (pc := 23) C dX5_append_23 rfl ?_
    refine am_iaddN (pc := 24) C dX5_append_24 ?_
    refine am_iload_n (pc := 25) C dX5_append_25 rfl ?_
    refine am_callSNv (Y := mX11_put) (pc := 26) (st := []) (As := [.ref 47, .int (nI ((s * 12) + (rf_kn w s))), .int (nI m)]) (h2 := (am_row h 47 (upd (h 47) ((s * 12) + (rf_kn w s)) (nI m)))) C dX5_append_26 k5_79 v_X11_put rfl rfl (by decide) (Nat.zero_le _) (Nat.zero_le _) (Nat.le_of_ble_eq_true rfl) (c_X11_put 47 ((s * 12) + (rf_kn w s)) (nI m) 120 bn_47 sh_47 (show (s * 12) + (rf_kn w s) < 120 from by omega) (by decide)) ?_
    refine am_aload_n (pc := 29) C dX5_append_29 rfl ?_
    refine am_getR (pc := 30) (j := 44) C dX5_append_30 f5_22 bn_41 sh_41 (rf_41_7 hR) ?_
    refine am_iload_n (pc := 33) C dX5_append_33 rfl ?_
    refine am_iload_n (pc := 34) C dX5_append_34 rfl ?_
    refine am_iconstN (pc := 35) (k := 1) C dX5_append_35 ?_
    refine am_iaddN (pc := 36) C dX5_append_36 ?_
    refine am_callSNv (Y := mX11_put) (pc := 37) (st := []) (As := [.ref 44, .int (nI s), .int (nI ((rf_kn w s) + 1))]) (h2 := (am_row (am_row h 47 (upd (h 47) ((s * 12) + (rf_kn w s)) (nI m))) 44 (upd (h 44) s (nI ((rf_kn w s) + 1))))) C dX5_append_37 k5_79 v_X11_put rfl rfl (by decide) (Nat.zero_le _) (Nat.zero_le _) (Nat.le_of_ble_eq_true rfl) (c_X11_put 44 s (nI ((rf_kn w s) + 1)) 10 bn_44 sh_44 (show s < 10 from by omega) (by decide)) ?_
    refine am_aload_n (pc := 40) C dX5_append_40 rfl ?_
    refine am_getR (pc := 41) (j := 45) C dX5_append_41 f5_25 bn_41 sh_41 (rf_41_8 hR) ?_
    refine am_iload_n (pc := 44) C dX5_append_44 rfl ?_
    refine am_aload_n (pc := 45) C dX5_append_45 rfl ?_
    refine am_getR (pc := 46) (j := 45) C dX5_append_46 f5_25 bn_41 sh_41 (rf_41_8 hR) ?_
    refine am_iload_n (pc := 49) C dX5_append_49 rfl ?_
    refine am_callSNi (Y := mX11_pick) (pc := 50) (st := [.int (nI s), .ref 45]) (As := [.ref 45, .int (nI s)]) (x := ((h 45) s)) (h2 := (am_row (am_row h 47 (upd (h 47) ((s * 12) + (rf_kn w s)) (nI m))) 44 (upd (h 44) s (nI ((rf_kn w s) + 1))))) C dX5_append_50 k5_75 v_X11_pick rfl rfl (by decide) (Nat.zero_le _) (Nat.zero_le _) (Nat.le_of_ble_eq_true rfl) (c_X11_pick 45 s 10 bn_45 sh_45 (show s < 10 from by omega) (by decide)) ?_
    refine am_top (show ((h 45) s) = (rf_known w s) from (hSc.2.1 s (by omega)).2.2.2.1) ?_
    refine am_iconstN (pc := 53) (k := 1) C dX5_append_53 ?_
    refine am_iload_n (pc := 54) C dX5_append_54 rfl ?_
    refine am_ishl (pc := 55) C dX5_append_55 ?_
    refine am_ior (pc := 56) C dX5_append_56 ?_
    refine am_callSNv (Y := mX11_put) (pc := 57) (st := []) (As := [.ref 45, .int (nI s), .int ((rf_known w s) ||| ((nI 1) <<< ((nI m) &&& 31)))]) (h2 := (am_row (am_row (am_row h 47 (upd (h 47) ((s * 12) + (rf_kn w s)) (nI m))) 44 (upd (h 44) s (nI ((rf_kn w s) + 1)))) 45 (upd (h 45) s ((rf_known w s) ||| ((nI 1) <<< ((nI m) &&& 31)))))) C dX5_append_57 k5_79 v_X11_put rfl rfl (by decide) (Nat.zero_le _) (Nat.zero_le _) (Nat.le_of_ble_eq_true rfl) (c_X11_put 45 s ((rf_known w s) ||| ((nI 1) <<< ((nI m) &&& 31))) 10 bn_45 sh_45 (show s < 10 from by omega) (by decide)) ?_
    exact am_vretv T dX5_append_60 rfl (Nat.le_refl _) (Nat.le_refl _) rfl rfl

set_option maxHeartbeats 400000 in
set_option maxRecDepth 100000 in
theorem c_X10_addKnown_p {ad : Nat → Nat} {r : am_R} (hR : am_rs r) {h : am_H} (s : Nat) (m : Nat) (w : rf_W) (hV : rf_I w) (hLo : cl_Lo (h) 4 w) (hSc : cl_Sc (h) 41 w) (hs : s < rf_S w) (hk : rf_kn w s < 12) (hm : m < 32)  : am_CM mX10_addKnown 2 0 0 [.ref 40, .int (nI s), .int (nI m)] (am_VV ad) r h (am_po none r (am_row (am_row (am_row (am_row h 47 (upd (h 47) (s * 12 + rf_kn w s) (nI m))) 44 (upd (h 44) s (nI (rf_kn w s + 1)))) 45 (upd (h 45) s (rf_known w s ||| (nI 1 <<< (nI m &&& 31))))) 46 (upd (h 46) s (rf_usable w (rf_known w s ||| (nI 1 <<< (nI m &&& 31))))))) := by
  refine am_CM.of (by decide +kernel) (Nat.le_of_ble_eq_true rfl) (fun X C T => ?_)
  show am_G X (am_VV ad) (0, 0) 0 [(0, .ref 40), (1, .int (nI s)), (2, .int (nI m))] [] r h
  have hM9 : rf_M w < 17 := hV.1.1.2
  have hS9 : rf_S w < 11 := hV.1.2.1.2
  have hO9 : rf_O w < 11 := hV.1.2.2.2
  refine am_aload_n (pc := 0) C dX10_addKnown_0 rfl ?_
  refine am_getR (pc := 1) (j := 41) C dX10_addKnown_1 f10_22 bn_40 sh_40 (rf_40_2 hR) ?_
  refine am_iload_n (pc := 4) C dX10_addKnown_4 rfl ?_
  refine am_iload_n (pc := 5) C dX10_addKnown_5 rfl ?_
  refine am_callVv (Y := mX5_append) (pc := 6) (st := []) (As := [.int (nI s), .int (nI m)]) (h2 := (am_row (am_row (am_row h 47 (upd (h 47) (s * 12 + rf_kn w s) (nI m))) 44 (upd (h 44) s (nI (rf_kn w s + 1)))) 45 (upd (h 45) s (rf_known w s ||| (nI 1 <<< (nI m &&& 31)))))) C dX10_addKnown_6 k10_71 v_X5_append rfl rfl bn_41 sh_41 ⟨by decide, rfl⟩ (by decide) (Nat.zero_le _) (Nat.zero_le _) (Nat.le_of_ble_eq_true rfl) (c_X5_append_p hR s m w hV hSc hs hk hm) ?_
  refine am_aload_n (pc := 9) C dX10_addKnown_9 rfl ?_
  refine am_getR (pc := 10) (j := 41) C dX10_addKnown_10 f10_22 bn_40 sh_40 (rf_40_2 hR) ?_
  refine am_getR (pc := 13) (j := 46) C dX10_addKnown_13 f10_64 bn_41 sh_41 (rf_41_9 hR) ?_
  refine am_iload_n (pc := 16) C dX10_addKnown_16 rfl ?_
  refine am_aload_n (pc := 17) C dX10_addKnown_17 rfl ?_
  refine am_getR (pc := 18) (j := 4) C dX10_addKnown_18 f10_9 bn_40 sh_40 (rf_40_0 hR) ?_
  refine am_aload_n (pc := 21) C dX10_addKnown_21 rfl ?_
  refine am_getR (pc := 22) (j := 41) C dX10_addKnown_22 f10_22 bn_40 sh_40 (rf_40_2 hR) ?_
  refine am_getR (pc := 25) (j := 45) C dX10_addKnown_25 f10_61 bn_41 sh_41 (rf_41_8 hR) ?_
  refine am_iload_n (pc := 28) C dX10_addKnown_28 rfl ?_
  refine am_callSNi (Y := mX11_pick) (pc := 29) (st := [.ref 4, .int (nI s), .ref 46]) (As := [.ref 45, .int (nI s)]) (x := ((upd (h 45) s (rf_known w s ||| (nI 1 <<< (nI m &&& 31)))) s)) (h2 := (am_row (am_row (am_row h 47 (upd (h 47) (s * 12 + rf_kn w s) (nI m))) 44 (upd (h 44) s (nI (rf_kn w s + 1)))) 45 (upd (h 45) s (rf_known w s ||| (nI 1 <<< (nI m &&& 31)))))) C dX10_addKnown_29 k10_54 v_X11_pick rfl rfl (by decide) (Nat.zero_le _) (Nat.zero_le _) (Nat.le_of_ble_eq_true rfl) (c_X11_pick 45 s 10 bn_45 sh_45 (show s < 10 from by omega) (by decide)) ?_
  refine am_top (show ((upd (h 45) s (rf_known w s ||| (nI 1 <<< (nI m &&& 31)))) s) = (rf_known w s ||| (nI 1 <<< (nI m &&& 31))) from rf_upd_eq) ?_
  refine am_callVi (Y := mX3_usableOf) (pc := 32) (st := [.int (nI s), .ref 46]) (As := [.int (rf_known w s ||| (nI 1 <<< (nI m &&& 31)))]) (x := (rf_usable w (rf_known w s ||| (nI 1 <<< (nI m &&& 31))))) (h2 := (am_row (am_row (am_row h 47 (upd (h 47) (s * 12 + rf_kn w s) (nI m))) 44 (upd (h 44) s (nI (rf_kn w s + 1)))) 45 (upd (h 45) s (rf_known w s ||| (nI 1 <<< (nI m &&& 31)))))) C dX10_addKnown_32 k10_75 v_X3_usableOf rfl rfl bn_4 sh_4 ⟨by decide, rfl⟩ (by decide) (Nat.zero_le _) (Nat.zero_le _) (Nat.le_of_ble_eq_true rfl) (c_X3_usableOf hR (rf_known w s ||| (nI 1 <<< (nI m &&& 31))) w hV (cl_Lo_eq (fun i9 h9 g9 => by rw [am_row_ne _ _ _ (by omega), am_row_ne _ _ _ (by omega), am_row_ne _ _ _ (by omega)]) hLo)) ?_
  refine am_callSNv (Y := mX11_put) (pc := 35) (st := []) (As := [.ref 46, .int (nI s), .int (rf_usable w (rf_known w s ||| (nI 1 <<< (nI m &&& 31))))]) (h2 := (am_row (am_row (am_row (am_row h 47 (upd (h 47) (s * 12 + rf_kn w s) (nI m))) 44 (upd (h 44) s (nI (rf_kn w s + 1)))) 45 (upd (h 45) s (rf_known w s ||| (nI 1 <<< (nI m &&& 31))))) 46 (upd (h 46) s (rf_usable w (rf_known w s ||| (nI 1 <<< (nI m &&& 31))))))) C dX10_addKnown_35 k10_44 v_X11_put rfl rfl (by decide) (Nat.zero_le _) (Nat.zero_le _) (Nat.le_of_ble_eq_true rfl) (c_X11_put 46 s (rf_usable w (rf_known w s ||| (nI 1 <<< (nI m &&& 31)))) 10 bn_46 sh_46 (show s < 10 from by omega) (by decide)) ?_
  exact am_vretv T dX10_addKnown_38 rfl (Nat.le_refl _) (Nat.le_refl _) rfl rfl

set_option maxHeartbeats 400000 in
set_option maxRecDepth 100000 in
theorem c_X10_learn_p {ad : Nat → Nat} {r : am_R} (hR : am_rs r) {h : am_H} (s : Nat) (m : Nat) (w : rf_W) (hV : rf_I w) (hLo : cl_Lo (h) 4 w) (hSc : cl_Sc (h) 41 w) (hs : s < rf_S w) (hm : m < rf_M w) (hcan : rf_can w s m = true)  : am_CM mX10_learn 3 0 0 [.ref 40, .int (nI s), .int (nI m)] (am_VV ad) r h (am_pr none r (fun c9 => cl_Sc c9 41 (rf_learn w s m) ∧ cl_fr (h) c9 41 15)) := by
  refine am_CM.of (by decide +kernel) (Nat.le_of_ble_eq_true rfl) (fun X C T => ?_)
  show am_G X (am_VV ad) (0, 0) 0 [(0, .ref 40), (1, .int (nI s)), (2, .int (nI m))] [] r h
  have hM9 : rf_M w < 17 := hV.1.1.2
  have hS9 : rf_S w < 11 := hV.1.2.1.2
  have hO9 : rf_O w < 11 := hV.1.2.2.2
  have hcn := hcan
  simp only [rf_can, Bool.and_eq_true, decide_eq_true_eq, Bool.not_eq_true'] at hcn
  obtain ⟨hkn, hk12, -⟩ := hcn
  have h8 : rf_app w s m 8 = w 8 := by rw [rf_app, rf_upd_ne (by omega), rf_upd_ne (by omega)]
  refine am_aload_n (pc := 0) C dX10_learn_0 rfl ?_
  refine am_iload_n (pc := 1) C dX10_learn_1 rfl ?_
  refine am_iload_n (pc := 2) C dX10_learn_2 rfl ?_
  refine am_callVv (Y := mX10_addKnown) (pc := 3) (st := []) (As := [.int (nI s), .int (nI m)]) (h2 := (am_row (am_row (am_row (am_row h 47 (upd (h 47) (s * 12 + rf_kn w s) (nI m))) 44 (upd (h 44) s (nI (rf_kn w s + 1)))) 45 (upd (h 45) s (rf_known w s ||| (nI 1 <<< (nI m &&& 31))))) 46 (upd (h 46) s (rf_usable w (rf_known w s ||| (nI 1 <<< (nI m &&& 31))))))) C dX10_learn_3 k10_97 v_X10_addKnown rfl rfl bn_40 sh_40 ⟨by decide, rfl⟩ (by decide) (Nat.zero_le _) (Nat.zero_le _) (Nat.le_of_ble_eq_true rfl) (c_X10_addKnown_p hR s m w hV hLo hSc hs (show rf_kn w s < 12 from by omega) (show m < 32 from by omega)) ?_
  have S1 : cl_Sc ((am_row (am_row (am_row (am_row h 47 (upd (h 47) (s * 12 + rf_kn w s) (nI m))) 44 (upd (h 44) s (nI (rf_kn w s + 1)))) 45 (upd (h 45) s (rf_known w s ||| (nI 1 <<< (nI m &&& 31))))) 46 (upd (h 46) s (rf_usable w (rf_known w s ||| (nI 1 <<< (nI m &&& 31))))))) 41 (rf_app w s m) := cl_Sc_app hV hs hk12 hm hSc rfl rfl rfl rfl rfl rfl rfl (fun i h7 g7 => by rw [am_row_ne _ _ _ (by omega), am_row_ne _ _ _ (by omega), am_row_ne _ _ _ (by omega), am_row_ne _ _ _ (by omega)])
  refine am_aload_n (pc := 6) C dX10_learn_6 rfl ?_
  refine am_getR (pc := 7) (j := 41) C dX10_learn_7 f10_22 bn_40 sh_40 (rf_40_2 hR) ?_
  refine am_dup (pc := 10) C dX10_learn_10 rfl ?_
  refine am_getI (pc := 11) C dX10_learn_11 f10_100 bn_41 sh_41 ?_
  refine am_top (show ((h 41) 3) = (w 8) from hSc.1.2.2.2.1) ?_
  refine am_iconstN (pc := 14) (k := 1) C dX10_learn_14 ?_
  refine am_iadd (pc := 15) C dX10_learn_15 ?_
  refine am_putI (pc := 16) C dX10_learn_16 f10_100 bn_41 sh_41 rfl rfl ?_
  refine am_hp (show am_up (am_row (am_row (am_row (am_row h 47 (upd (h 47) (s * 12 + rf_kn w s) (nI m))) 44 (upd (h 44) s (nI (rf_kn w s + 1)))) 45 (upd (h 45) s (rf_known w s ||| (nI 1 <<< (nI m &&& 31))))) 46 (upd (h 46) s (rf_usable w (rf_known w s ||| (nI 1 <<< (nI m &&& 31)))))) 41 3 ((w 8) + (nI 1)) = am_row (am_row (am_row (am_row (am_row h 47 (upd (h 47) (s * 12 + rf_kn w s) (nI m))) 44 (upd (h 44) s (nI (rf_kn w s + 1)))) 45 (upd (h 45) s (rf_known w s ||| (nI 1 <<< (nI m &&& 31))))) 46 (upd (h 46) s (rf_usable w (rf_known w s ||| (nI 1 <<< (nI m &&& 31)))))) 41 (upd (h 41) 3 ((w 8) + (nI 1))) from am_up_rw _ _ _ _) ?_
  exact am_vretvr T dX10_learn_19 rfl (Nat.le_refl _) (Nat.le_refl _) rfl ⟨by rw [rf_learn, hcan]; exact cl_Sc_num (rf_I_app hV hs hk12 hm hkn) S1 (Or.inr (Or.inr ⟨rfl, rfl⟩)) (by show upd (h 41) 3 (w 8 + nI 1) = upd (h 41) 3 (rf_app w s m 8 + nI 1); rw [h8]) (fun i h7 g7 => by rw [am_row_ne _ _ _ (by omega)]), (fun i9 h9 => by rw [am_row_ne _ _ _ (by omega), am_row_ne _ _ _ (by omega), am_row_ne _ _ _ (by omega), am_row_ne _ _ _ (by omega), am_row_ne _ _ _ (by omega)])⟩

set_option maxHeartbeats 400000 in
set_option maxRecDepth 100000 in
theorem c_X10_learnAll_p {ad : Nat → Nat} {r : am_R} (hR : am_rs r) {h : am_H} (s : Nat) (set : Int32) (w : rf_W) (hV : rf_I w) (hLo : cl_Lo (h) 4 w) (hSc : cl_Sc (h) 41 w) (hs : s < rf_S w)  : am_CM mX10_learnAll 4 0 0 [.ref 40, .int (nI s), .int set] (am_VV ad) r h (am_pr none r (fun c9 => cl_Sc c9 41 (rf_la w s set (rf_M w)) ∧ cl_fr (h) c9 41 15)) := by
  refine am_CM.of (by decide +kernel) (Nat.le_of_ble_eq_true rfl) (fun X C T => ?_)
  show am_G X (am_VV ad) (0, 0) 0 [(0, .ref 40), (1, .int (nI s)), (2, .int set)] [] r h
  have hM9 : rf_M w < 17 := hV.1.1.2
  have hS9 : rf_S w < 11 := hV.1.2.1.2
  have hO9 : rf_O w < 11 := hV.1.2.2.2
  refine am_iconstN (pc := 0) (k := 0) C dX10_learnAll_0 ?_
  refine am_istore_n (pc := 1) (ls' := [(0, .ref 40), (1, .int (nI s)), (2, .int set), (3, .int (nI 0))]) C dX10_learnAll_1 (by decide) rfl ?_
  have L2 : ∀ (j2 : Nat) (g : am_H) (m : Nat), (hmj : m + j2 = rf_M w) → (hS9 : cl_Sc g 41 (rf_la w s set m)) → (hF : cl_fr h g 41 15) → am_G X (am_VV ad) (0, 0) 2 [(0, .ref 40), (1, .int (nI s)), (2, .int set), (3, .int (nI m))] [] r g := by
    intro j2
    induction j2 with
    | zero =>
      intro g m hmj hS9 hF
      obtain ⟨laI, laE⟩ := rf_la_ok (set := set) hV hs m (by omega)
      have L9 := cl_Lo_Es hV laE (cl_Lo_eq (fun i h1 h2 => hF i (by omega)) hLo)
      refine am_iload_n (pc := 2) C dX10_learnAll_2 rfl ?_
      refine am_aload_n (pc := 3) C dX10_learnAll_3 rfl ?_
      refine am_getR (pc := 4) (j := 4) C dX10_learnAll_4 f10_9 bn_40 sh_40 (rf_40_0 hR) ?_
      refine am_getI (pc := 7) C dX10_learnAll_7 f10_129 bn_4 sh_4 ?_
      refine am_top (show ((g 4) 1) = (nI (rf_M (rf_la w s set m))) from (L9.1.2.1.trans laI.1.1.1)) ?_
      refine am_top (show (nI (rf_M (rf_la w s set m))) = (nI (rf_M w)) from (congrArg nI laE.M)) ?_
      refine am_icmp_geN (pc := 10) (tgt := 42) C dX10_learnAll_10 (by decide) (by omega) (by omega) (fun q10 => ?_) (fun q10 => ?_)
      · skip
        exact am_vretvr T dX10_learnAll_42 rfl (Nat.le_refl _) (Nat.le_refl _) rfl ⟨by rw [← show m = rf_M w by omega]; exact hS9, hF⟩
      · skip
        exact absurd hmj (by omega)
    | succ j2 ih2 =>
      intro g m hmj hS9 hF
      obtain ⟨laI, laE⟩ := rf_la_ok (set := set) hV hs m (by omega)
      have L9 := cl_Lo_Es hV laE (cl_Lo_eq (fun i h1 h2 => hF i (by omega)) hLo)
      have hMe := laE.M
      have hSe := laE.S
      refine am_iload_n (pc := 2) C dX10_learnAll_2 rfl ?_
      refine am_aload_n (pc := 3) C dX10_learnAll_3 rfl ?_
      refine am_getR (pc := 4) (j := 4) C dX10_learnAll_4 f10_9 bn_40 sh_40 (rf_40_0 hR) ?_
      refine am_getI (pc := 7) C dX10_learnAll_7 f10_129 bn_4 sh_4 ?_
      refine am_top (show ((g 4) 1) = (nI (rf_M (rf_la w s set m))) from (L9.1.2.1.trans laI.1.1.1)) ?_
      refine am_top (show (nI (rf_M (rf_la w s set m))) = (nI (rf_M w)) from (congrArg nI laE.M)) ?_
      refine am_icmp_geN (pc := 10) (tgt := 42) C dX10_learnAll_10 (by decide) (by omega) (by omega) (fun q10 => ?_) (fun q10 => ?_)
      · skip
        exact absurd q10 (by omega)
      · skip
        refine am_iload_n (pc := 13) C dX10_learnAll_13 rfl ?_
        refine am_iload_n (pc := 14) C dX10_learnAll_14 rfl ?_
        refine am_callSNi (Y := mX11_has) (pc := 15) (st := []) (As := [.int set, .int (nI m)]) (x := (am_b (am_bt set m))) (h2 := g) C dX10_learnAll_15 k10_67 v_X11_has rfl rfl (by decide) (Nat.zero_le _) (Nat.zero_le _) (Nat.le_of_ble_eq_true rfl) (c_X11_has set m (show m < 32 from by omega)) ?_
        refine am_if_eqB (pc := 18) (tgt := 36) C dX10_learnAll_18 (by decide) (fun q18 => ?_) (fun q18 => ?_)
        · skip
          refine am_iincN (pc := 36) (ls' := [(0, .ref 40), (1, .int (nI s)), (2, .int set), (3, .int (nI (m + 1)))]) C dX10_learnAll_36 rfl (am_up1 _) (by decide) rfl ?_
          refine am_goto (pc := 39) (tgt := 2) C dX10_learnAll_39 (by decide) ?_
          exact ih2 g (m + 1) (by omega) (by rw [rf_la_n (fun z => Bool.false_ne_true (q18.symm.trans z.1))]; exact hS9) hF
        · skip
          refine am_aload_n (pc := 21) C dX10_learnAll_21 rfl ?_
          refine am_iload_n (pc := 22) C dX10_learnAll_22 rfl ?_
          refine am_iload_n (pc := 23) C dX10_learnAll_23 rfl ?_
          refine am_callVi (Y := mX10_canLearn) (pc := 24) (st := []) (As := [.int (nI s), .int (nI m)]) (x := (am_b (rf_can (rf_la w s set m) s m))) (h2 := g) C dX10_learnAll_24 k10_150 v_X10_canLearn rfl rfl bn_40 sh_40 ⟨by decide, rfl⟩ (by decide) (Nat.zero_le _) (Nat.zero_le _) (Nat.le_of_ble_eq_true rfl) (c_X10_canLearn_p hR s m (rf_la w s set m) laI L9 hS9 (show s < rf_S (rf_la w s set m) from (by omega)) (show m < rf_M (rf_la w s set m) from (by omega))) ?_
          refine am_if_eqB (pc := 27) (tgt := 36) C dX10_learnAll_27 (by decide) (fun q27 => ?_) (fun q27 => ?_)
          · skip
            refine am_iincN (pc := 36) (ls' := [(0, .ref 40), (1, .int (nI s)), (2, .int set), (3, .int (nI (m + 1)))]) C dX10_learnAll_36 rfl (am_up1 _) (by decide) rfl ?_
            refine am_goto (pc := 39) (tgt := 2) C dX10_learnAll_39 (by decide) ?_
            exact ih2 g (m + 1) (by omega) (by rw [rf_la_n (fun z => Bool.false_ne_true (q27.symm.trans z.2))]; exact hS9) hF
          · skip
            refine am_aload_n (pc := 30) C dX10_learnAll_30 rfl ?_
            refine am_iload_n (pc := 31) C dX10_learnAll_31 rfl ?_
            refine am_iload_n (pc := 32) C dX10_learnAll_32 rfl ?_
            refine am_callVvr (Y := mX10_learn) (pc := 33) (st := []) (As := [.int (nI s), .int (nI m)]) (PP := fun c9 => cl_Sc c9 41 (rf_learn (rf_la w s set m) s m) ∧ cl_fr (g) c9 41 15) C dX10_learnAll_33 k10_153 v_X10_learn rfl rfl bn_40 sh_40 ⟨by decide, rfl⟩ (by decide) (Nat.zero_le _) (Nat.zero_le _) (Nat.le_of_ble_eq_true rfl) (c_X10_learn_p hR s m (rf_la w s set m) laI L9 hS9 (show s < rf_S (rf_la w s set m) from (by omega)) (show m < rf_M (rf_la w s set m) from (by omega)) (show rf_can (rf_la w s set m) s m = true from q27)) (fun g33_1 hg33_1 => ?_)
            obtain ⟨S33, F33⟩ := hg33_1
            refine am_iincN (pc := 36) (ls' := [(0, .ref 40), (1, .int (nI s)), (2, .int set), (3, .int (nI (m + 1)))]) C dX10_learnAll_36 rfl (am_up1 _) (by decide) rfl ?_
            refine am_goto (pc := 39) (tgt := 2) C dX10_learnAll_39 (by decide) ?_
            exact ih2 g33_1 (m + 1) (by omega) (by rw [rf_la_y ⟨q18, q27⟩]; exact S33) (fun i h9 => (F33 i h9).trans (hF i h9))
  exact L2 (rf_M w) h 0 (by omega) hSc (fun _ _ => rfl)

set_option maxHeartbeats 400000 in
set_option maxRecDepth 100000 in
theorem c_X5_forget_p {ad : Nat → Nat} {r : am_R} (hR : am_rs r) {h : am_H} (s : Nat) (m : Nat) (w : rf_W) (hV : rf_I w) (hSc : cl_Sc (h) 41 w) (hs : s < rf_S w) (hm : m < 32) (hP : rf_pos w s m < rf_kn w s) (hPm : rf_li w s (rf_pos w s m) = m)  : am_CM mX5_forget 1 0 0 [.ref 41, .int (nI s), .int (nI m)] (am_VV ad) r h (am_po none r (am_row (am_row (am_row h 47 ((cl_fg (h 47) w s m (rf_kn w s)).1)) 44 (upd (h 44) s (nI (rf_kn w s - 1)))) 45 (upd (h 45) s (rf_known w s &&& ((nI 1 <<< (nI m &&& 31)) ^^^ (-1)))))) := by
  refine am_CM.of (by decide +kernel) (Nat.le_of_ble_eq_true rfl) (fun X C T => ?_)
  show am_G X (am_VV ad) (0, 0) 0 [(0, .ref 41), (1, .int (nI s)), (2, .int (nI m))] [] r h
  have hM9 : rf_M w < 17 := hV.1.1.2
  have hS9 : rf_S w < 11 := hV.1.2.1.2
  have hO9 : rf_O w < 11 := hV.1.2.2.2
  have hIs := hV.2.1 s hs
  have hk13 : rf_kn w s < 13 := hIs.2.2.2.2.1.2
  have hfg := cl_fg_ok (f := h 47) hIs hP hPm
  refine am_aload_n (pc := 0) C dX5_forget_0 rfl ?_
  refine am_getR (pc := 1) (j := 44) C dX5_forget_1 f5_22 bn_41 sh_41 (rf_41_7 hR) ?_
  refine am_iload_n (pc := 4) C dX5_forget_4 rfl ?_
  refine am_callSNi (Y := mX11_pick) (pc := 5) (st := []) (As := [.ref 44, .int (nI s)]) (x := ((h 44) s)) (h2 := h) C dX5_forget_5 k5_75 v_X11_pick rfl rfl (by decide) (Nat.zero_le _) (Nat.zero_le _) (Nat.le_of_ble_eq_true rfl) (c_X11_pick 44 s 10 bn_44 sh_44 (show s < 10 from by omega) (by decide)) ?_
  refine am_top (show ((h 44) s) = (nI (rf_kn w s)) from ((hSc.2.1 s (by omega)).2.2.1.trans (hV.2.1 s (by omega)).2.2.2.2.1.1)) ?_
  refine am_istore_n (pc := 8) (ls' := [(0, .ref 41), (1, .int (nI s)), (2, .int (nI m)), (3, .int (nI (rf_kn w s)))]) C dX5_forget_8 (by decide) rfl ?_
  refine am_iconstN (pc := 9) (k := 0) C dX5_forget_9 ?_
  refine am_istore (pc := 10) (ls' := [(0, .ref 41), (1, .int (nI s)), (2, .int (nI m)), (3, .int (nI (rf_kn w s))), (4, .int (nI 0))]) C dX5_forget_10 (by decide) rfl ?_
  refine am_iconstN (pc := 12) (k := 0) C dX5_forget_12 ?_
  refine am_istore (pc := 13) (ls' := [(0, .ref 41), (1, .int (nI s)), (2, .int (nI m)), (3, .int (nI (rf_kn w s))), (4, .int (nI 0)), (5, .int (nI 0))]) C dX5_forget_13 (by decide) rfl ?_
  have L15 : ∀ (j15 i15 : Nat), i15 + j15 = rf_kn w s → am_G X (am_VV ad) (0, 0) 15 [(0, .ref 41), (1, .int (nI s)), (2, .int (nI m)), (3, .int (nI (rf_kn w s))), (4, .int (nI ((cl_fg (h 47) w s m i15).2))), (5, .int (nI i15))] [] r (am_row h 47 ((cl_fg (h 47) w s m i15).1)) := by
    intro j15
    induction j15 with
    | zero =>
      intro i15 hi15 
      obtain rfl : i15 = rf_kn w s := by omega
      obtain ⟨f1, f2, f3⟩ := hfg (rf_kn w s) (Nat.le_refl _)
      rw [if_neg (by omega)] at f1
      refine am_iload (pc := 15) C dX5_forget_15 rfl ?_
      refine am_iload_n (pc := 17) C dX5_forget_17 rfl ?_
      refine am_icmp_geN (pc := 18) (tgt := 68) C dX5_forget_18 (by decide) (by omega) (by omega) (fun q18 => ?_) (fun q18 => ?_)
      · skip
        refine am_lsv (ls' := [(0, .ref 41), (1, .int (nI s)), (2, .int (nI m)), (3, .int (nI (rf_kn w s))), (4, .int (nI (rf_kn w s - 1))), (5, .int (nI (rf_kn w s)))]) (congrArg (fun z9 : Int32 => ([(0, .ref 41), (1, .int (nI s)), (2, .int (nI m)), (3, .int (nI (rf_kn w s))), (4, Value.int z9), (5, .int (nI (rf_kn w s)))] : List (Nat × Value))) (show (nI ((cl_fg (h 47) w s m (rf_kn w s)).2)) = (nI (rf_kn w s - 1)) from (congrArg nI f1))) ?_
        refine am_aload_n (pc := 68) C dX5_forget_68 rfl ?_
        refine am_getR (pc := 69) (j := 44) C dX5_forget_69 f5_22 bn_41 sh_41 (rf_41_7 hR) ?_
        refine am_iload_n (pc := 72) C dX5_forget_72 rfl ?_
        refine am_iload (pc := 73) C dX5_forget_73 rfl ?_
        refine am_callSNv (Y := mX11_put) (pc := 75) (st := []) (As := [.ref 44, .int (nI s), .int (nI (rf_kn w s - 1))]) (h2 := (am_row (am_row h 47 ((cl_fg (h 47) w s m (rf_kn w s)).1)) 44 (upd (h 44) s (nI (rf_kn w s - 1))))) C dX5_forget_75 k5_79 v_X11_put rfl rfl (by decide) (Nat.zero_le _) (Nat.zero_le _) (Nat.le_of_ble_eq_true rfl) (c_X11_put 44 s (nI (rf_kn w s - 1)) 10 bn_44 sh_44 (show s < 10 from by omega) (by decide)) ?_
        refine am_aload_n (pc := 78) C dX5_forget_78 rfl ?_
        refine am_getR (pc := 79) (j := 45) C dX5_forget_79 f5_25 bn_41 sh_41 (rf_41_8 hR) ?_
        refine am_iload_n (pc := 82) C dX5_forget_82 rfl ?_
        refine am_aload_n (pc := 83) C dX5_forget_83 rfl ?_
        refine am_getR (pc := 84) (j := 45) C dX5_forget_84 f5_25 bn_41 sh_41 (rf_41_8 hR) ?_
        refine am_iload_n (pc := 87) C dX5_forget_87 rfl ?_
        refine am_callSNi (Y := mX11_pick) (pc := 88) (st := [.int (nI s), .ref 45]) (As := [.ref 45, .int (nI s)]) (x := ((h 45) s)) (h2 := (am_row (am_row h 47 ((cl_fg (h 47) w s m (rf_kn w s)).1)) 44 (upd (h 44) s (nI (rf_kn w s - 1))))) C dX5_forget_88 k5_75 v_X11_pick rfl rfl (by decide) (Nat.zero_le _) (Nat.zero_le _) (Nat.le_of_ble_eq_true rfl) (c_X11_pick 45 s 10 bn_45 sh_45 (show s < 10 from by omega) (by decide)) ?_
        refine am_top (show ((h 45) s) = (rf_known w s) from (hSc.2.1 s (by omega)).2.2.2.1) ?_
        refine am_iconstN (pc := 91) (k := 1) C dX5_forget_91 ?_
        refine am_iload_n (pc := 92) C dX5_forget_92 rfl ?_
        refine am_ishl (pc := 93) C dX5_forget_93 ?_
        refine am_iconst (pc := 94) (v := -1) C dX5_forget_94 rfl ?_
        refine am_ixor (pc := 95) C dX5_forget_95 ?_
        refine am_iand (pc := 96) C dX5_forget_96 ?_
        refine am_callSNv (Y := mX11_put) (pc := 97) (st := []) (As := [.ref 45, .int (nI s), .int ((rf_known w s) &&& (((nI 1) <<< ((nI m) &&& 31)) ^^^ (-1)))]) (h2 := (am_row (am_row (am_row h 47 ((cl_fg (h 47) w s m (rf_kn w s)).1)) 44 (upd (h 44) s (nI (rf_kn w s - 1)))) 45 (upd (h 45) s ((rf_known w s) &&& (((nI 1) <<< ((nI m) &&& 31)) ^^^ (-1)))))) C dX5_forget_97 k5_79 v_X11_put rfl rfl (by decide) (Nat.zero_le _) (Nat.zero_le _) (Nat.le_of_ble_eq_true rfl) (c_X11_put 45 s ((rf_known w s) &&& (((nI 1) <<< ((nI m) &&& 31)) ^^^ (-1))) 10 bn_45 sh_45 (show s < 10 from by omega) (by decide)) ?_
        exact am_vretv T dX5_forget_100 rfl (Nat.le_refl _) (Nat.le_refl _) rfl rfl
      · skip
        exact absurd q18 (by omega)
    | succ j15 ih15 =>
      intro i15 hi15 
      have hl15 : i15 < rf_kn w s := by omega
      obtain ⟨f1, f2, f3⟩ := hfg i15 (by omega)
      have f4 : (cl_fg (h 47) w s m i15).2 ≤ i15 := by rw [f1]; split <;> omega
      have f5 := hIs.2.2.2.2.2.1 i15 hl15
      have f6 : rf_li w s i15 < rf_M w := f5.2
      refine am_iload (pc := 15) C dX5_forget_15 rfl ?_
      refine am_iload_n (pc := 17) C dX5_forget_17 rfl ?_
      refine am_icmp_geN (pc := 18) (tgt := 68) C dX5_forget_18 (by decide) (by omega) (by omega) (fun q18 => ?_) (fun q18 => ?_)
      · skip
        exact absurd q18 (by omega)
      · skip
        refine am_aload_n (pc := 21) C dX5_forget_21 rfl ?_
        refine am_getR (pc := 22) (j := 47) C dX5_forget_22 f5_31 bn_41 sh_41 (rf_41_10 hR) ?_
        refine am_iload_n (pc := 25) C dX5_forget_25 rfl ?_
        refine am_bipush (pc := 26) (v := nI 12) C dX5_forget_26 (by decide) ?_
        refine am_imulN (pc := 28) C dX5_forget_28 ?_
        refine am_iload (pc := 29) C dX5_forget_29 rfl ?_
        refine am_iaddN (pc := 31) C dX5_forget_31 ?_
        refine am_callSNi (Y := mX11_pick) (pc := 32) (st := []) (As := [.ref 47, .int (nI ((s * 12) + i15))]) (x := (((cl_fg (h 47) w s m i15).1) ((s * 12) + i15))) (h2 := (am_row h 47 ((cl_fg (h 47) w s m i15).1))) C dX5_forget_32 k5_75 v_X11_pick rfl rfl (by decide) (Nat.zero_le _) (Nat.zero_le _) (Nat.le_of_ble_eq_true rfl) (c_X11_pick 47 ((s * 12) + i15) 120 bn_47 sh_47 (show (s * 12) + i15 < 120 from by omega) (by decide)) ?_
        refine am_top (show (((cl_fg (h 47) w s m i15).1) ((s * 12) + i15)) = (nI (rf_li w s i15)) from ((f3 _ (by omega)).trans (((hSc.2.1 s hs).2.2.2.2.2 i15 hl15).trans f5.1))) ?_
        refine am_istore (pc := 35) (ls' := [(0, .ref 41), (1, .int (nI s)), (2, .int (nI m)), (3, .int (nI (rf_kn w s))), (4, .int (nI ((cl_fg (h 47) w s m i15).2))), (5, .int (nI i15)), (6, .int (nI (rf_li w s i15)))]) C dX5_forget_35 (by decide) rfl ?_
        refine am_iload (pc := 37) C dX5_forget_37 rfl ?_
        refine am_iload_n (pc := 39) C dX5_forget_39 rfl ?_
        refine am_icmp_eqN (pc := 40) (tgt := 62) C dX5_forget_40 (by decide) (by omega) (by omega) (fun q40 => ?_) (fun q40 => ?_)
        · skip
          refine am_iincN (pc := 62) (ls' := [(0, .ref 41), (1, .int (nI s)), (2, .int (nI m)), (3, .int (nI (rf_kn w s))), (4, .int (nI ((cl_fg (h 47) w s m i15).2))), (5, .int (nI (i15 + 1))), (6, .int (nI (rf_li w s i15)))]) C dX5_forget_62 rfl (am_up1 _) (by decide) rfl ?_
          refine am_goto (pc := 65) (tgt := 15) C dX5_forget_65 (by decide) ?_
          refine am_sub (ls' := [(0, .ref 41), (1, .int (nI s)), (2, .int (nI m)), (3, .int (nI (rf_kn w s))), (4, .int (nI ((cl_fg (h 47) w s m i15).2))), (5, .int (nI (i15 + 1)))]) (by intro q hq; simp only [List.mem_cons, List.not_mem_nil, or_false] at hq ⊢; rcases hq with rfl | rfl | rfl | rfl | rfl | rfl <;> simp) ?_
          refine am_hp (show (am_row h 47 ((cl_fg (h 47) w s m i15).1)) = (am_row h 47 ((cl_fg (h 47) w s m (i15 + 1)).1)) from congrArg (am_row _ 47) (by rw [cl_fg, if_pos q40])) ?_
          refine am_lsv (ls' := [(0, .ref 41), (1, .int (nI s)), (2, .int (nI m)), (3, .int (nI (rf_kn w s))), (4, .int (nI ((cl_fg (h 47) w s m (i15 + 1)).2))), (5, .int (nI (i15 + 1)))]) (by rw [show (nI ((cl_fg (h 47) w s m i15).2)) = (nI ((cl_fg (h 47) w s m (i15 + 1)).2)) from congrArg nI (by rw [cl_fg, if_pos q40])]) ?_
          exact ih15 (i15 + 1) (by omega) 
        · skip
          refine am_aload_n (pc := 43) C dX5_forget_43 rfl ?_
          refine am_getR (pc := 44) (j := 47) C dX5_forget_44 f5_31 bn_41 sh_41 (rf_41_10 hR) ?_
          refine am_iload_n (pc := 47) C dX5_forget_47 rfl ?_
          refine am_bipush (pc := 48) (v := nI 12) C dX5_forget_48 (by decide) ?_
          refine am_imulN (pc := 50) C dX5_forget_50 ?_
          refine am_iload (pc := 51) C dX5_forget_51 rfl ?_
          refine am_iaddN (pc := 53) C dX5_forget_53 ?_
          refine am_iload (pc := 54) C dX5_forget_54 rfl ?_
          refine am_callSNv (Y := mX11_put) (pc := 56) (st := []) (As := [.ref 47, .int (nI ((s * 12) + ((cl_fg (h 47) w s m i15).2))), .int (nI (rf_li w s i15))]) (h2 := (am_row (am_row h 47 ((cl_fg (h 47) w s m i15).1)) 47 (upd ((cl_fg (h 47) w s m i15).1) ((s * 12) + ((cl_fg (h 47) w s m i15).2)) (nI (rf_li w s i15))))) C dX5_forget_56 k5_79 v_X11_put rfl rfl (by decide) (Nat.zero_le _) (Nat.zero_le _) (Nat.le_of_ble_eq_true rfl) (c_X11_put 47 ((s * 12) + ((cl_fg (h 47) w s m i15).2)) (nI (rf_li w s i15)) 120 bn_47 sh_47 (show (s * 12) + ((cl_fg (h 47) w s m i15).2) < 120 from by omega) (by decide)) ?_
          refine am_hp (show (am_row (am_row h 47 ((cl_fg (h 47) w s m i15).1)) 47 (upd ((cl_fg (h 47) w s m i15).1) ((s * 12) + ((cl_fg (h 47) w s m i15).2)) (nI (rf_li w s i15)))) = (am_row h 47 (upd ((cl_fg (h 47) w s m i15).1) ((s * 12) + ((cl_fg (h 47) w s m i15).2)) (nI (rf_li w s i15)))) from am_row_s0) ?_
          refine am_iincN (pc := 59) (ls' := [(0, .ref 41), (1, .int (nI s)), (2, .int (nI m)), (3, .int (nI (rf_kn w s))), (4, .int (nI ((cl_fg (h 47) w s m i15).2 + 1))), (5, .int (nI i15)), (6, .int (nI (rf_li w s i15)))]) C dX5_forget_59 rfl (am_up1 _) (by decide) rfl ?_
          refine am_iincN (pc := 62) (ls' := [(0, .ref 41), (1, .int (nI s)), (2, .int (nI m)), (3, .int (nI (rf_kn w s))), (4, .int (nI ((cl_fg (h 47) w s m i15).2 + 1))), (5, .int (nI (i15 + 1))), (6, .int (nI (rf_li w s i15)))]) C dX5_forget_62 rfl (am_up1 _) (by decide) rfl ?_
          refine am_goto (pc := 65) (tgt := 15) C dX5_forget_65 (by decide) ?_
          refine am_sub (ls' := [(0, .ref 41), (1, .int (nI s)), (2, .int (nI m)), (3, .int (nI (rf_kn w s))), (4, .int (nI ((cl_fg (h 47) w s m i15).2 + 1))), (5, .int (nI (i15 + 1)))]) (by intro q hq; simp only [List.mem_cons, List.not_mem_nil, or_false] at hq ⊢; rcases hq with rfl | rfl | rfl | rfl | rfl | rfl <;> simp) ?_
          refine am_hp (show (am_row h 47 (upd ((cl_fg (h 47) w s m i15).1) ((s * 12) + ((cl_fg (h 47) w s m i15).2)) (nI (rf_li w s i15)))) = (am_row h 47 ((cl_fg (h 47) w s m (i15 + 1)).1)) from congrArg (am_row _ 47) (by rw [cl_fg, if_neg q40])) ?_
          refine am_lsv (ls' := [(0, .ref 41), (1, .int (nI s)), (2, .int (nI m)), (3, .int (nI (rf_kn w s))), (4, .int (nI ((cl_fg (h 47) w s m (i15 + 1)).2))), (5, .int (nI (i15 + 1)))]) (by rw [show (nI ((cl_fg (h 47) w s m i15).2 + 1)) = (nI ((cl_fg (h 47) w s m (i15 + 1)).2)) from congrArg nI (by rw [cl_fg, if_neg q40])]) ?_
          exact ih15 (i15 + 1) (by omega) 
  refine am_sub (ls' := [(0, .ref 41), (1, .int (nI s)), (2, .int (nI m)), (3, .int (nI (rf_kn w s))), (4, .int (nI 0)), (5, .int (nI 0))]) (by intro q hq; simp only [List.mem_cons, List.not_mem_nil, or_false] at hq ⊢; rcases hq with rfl | rfl | rfl | rfl | rfl | rfl <;> simp) ?_
  refine am_hp (show h = (am_row h 47 ((cl_fg (h 47) w s m 0).1)) from (am_row_id _ 47).symm) ?_
  refine am_lsv (ls' := [(0, .ref 41), (1, .int (nI s)), (2, .int (nI m)), (3, .int (nI (rf_kn w s))), (4, .int (nI ((cl_fg (h 47) w s m 0).2))), (5, .int (nI 0))]) (by rw [show (nI 0) = (nI ((cl_fg (h 47) w s m 0).2)) from rfl]) ?_
  exact L15 (rf_kn w s) 0 (by omega) 

set_option maxHeartbeats 400000 in
set_option maxRecDepth 100000 in
theorem c_X5_takeThing_p {ad : Nat → Nat} {r : am_R} (hR : am_rs r) {h : am_H} (k : Nat) (w : rf_W) (hV : rf_I w) (hSc : cl_Sc (h) 41 w) (hk : k < rf_F w)  : am_CM mX5_takeThing 2 0 0 [.ref 41, .int (nI k)] (am_VV ad) r h (am_po none r (am_row (am_row (am_row (am_row h 48 (va_cpy (h 48) (h 48) (k + 1) k (rf_F w - 1 - k))) 49 (va_cpy (h 49) (h 49) (k + 1) k (rf_F w - 1 - k))) 50 (va_cpy (h 50) (h 50) (k + 1) k (rf_F w - 1 - k))) 41 (upd (h 41) 4 (nI (rf_F w - 1))))) := by
  refine am_CM.of (by decide +kernel) (Nat.le_of_ble_eq_true rfl) (fun X C T => ?_)
  show am_G X (am_VV ad) (0, 0) 0 [(0, .ref 41), (1, .int (nI k))] [] r h
  have hM9 : rf_M w < 17 := hV.1.1.2
  have hS9 : rf_S w < 11 := hV.1.2.1.2
  have hO9 : rf_O w < 11 := hV.1.2.2.2
  have hF9 : rf_F w < 41 := hV.2.2.2.2.1.2.2.1.2
  refine am_aload_n (pc := 0) C dX5_takeThing_0 rfl ?_
  refine am_getI (pc := 1) C dX5_takeThing_1 f5_67 bn_41 sh_41 ?_
  refine am_top (show ((h 41) 4) = (nI (rf_F w)) from (hSc.1.2.2.2.2.trans hV.2.2.2.2.1.2.2.1.1)) ?_
  refine am_iconstN (pc := 4) (k := 1) C dX5_takeThing_4 ?_
  refine am_isubN (pc := 5) C dX5_takeThing_5 (by omega) ?_
  refine am_iload_n (pc := 6) C dX5_takeThing_6 rfl ?_
  refine am_isubN (pc := 7) C dX5_takeThing_7 (by omega) ?_
  refine am_istore_n (pc := 8) (ls' := [(0, .ref 41), (1, .int (nI k)), (2, .int (nI (((rf_F w) - 1) - k)))]) C dX5_takeThing_8 (by decide) rfl ?_
  refine am_iload_n (pc := 9) C dX5_takeThing_9 rfl ?_
  refine am_if_ltN (pc := 10) (tgt := 26) C dX5_takeThing_10 (by decide) (by omega) ?_
  refine am_iload_n (pc := 13) C dX5_takeThing_13 rfl ?_
  refine am_if_ltN (pc := 14) (tgt := 26) C dX5_takeThing_14 (by decide) (by omega) ?_
  refine am_aload_n (pc := 17) C dX5_takeThing_17 rfl ?_
  refine am_getI (pc := 18) C dX5_takeThing_18 f5_67 bn_41 sh_41 ?_
  refine am_top (show ((h 41) 4) = (nI (rf_F w)) from (hSc.1.2.2.2.2.trans hV.2.2.2.2.1.2.2.1.1)) ?_
  refine am_bipush (pc := 21) (v := nI 40) C dX5_takeThing_21 (by decide) ?_
  refine am_icmp_leN (pc := 23) (tgt := 27) C dX5_takeThing_23 (by decide) (by omega) (by omega) (fun q23 => ?_) (fun q23 => ?_)
  · skip
    refine am_aload_n (pc := 27) C dX5_takeThing_27 rfl ?_
    refine am_getR (pc := 28) (j := 48) C dX5_takeThing_28 f5_34 bn_41 sh_41 (rf_41_11 hR) ?_
    refine am_iload_n (pc := 31) C dX5_takeThing_31 rfl ?_
    refine am_iconstN (pc := 32) (k := 1) C dX5_takeThing_32 ?_
    refine am_iaddN (pc := 33) C dX5_takeThing_33 ?_
    refine am_aload_n (pc := 34) C dX5_takeThing_34 rfl ?_
    refine am_getR (pc := 35) (j := 48) C dX5_takeThing_35 f5_34 bn_41 sh_41 (rf_41_11 hR) ?_
    refine am_iload_n (pc := 38) C dX5_takeThing_38 rfl ?_
    refine am_iload_n (pc := 39) C dX5_takeThing_39 rfl ?_
    refine am_hp2 (h2 := (am_row h 48 (va_cpy (h 48) (h 48) (k + 1) k (((rf_F w) - 1) - k)))) (am_copyi (pc := 40) C dX5_takeThing_40 (am_mem 1357 (by decide +kernel) rfl) bn_48 sh_48 bn_48 sh_48 (by omega) (by omega) (by decide) (by decide) (by decide) (Nat.le_of_ble_eq_true rfl)) rfl ?_
    refine am_aload_n (pc := 43) C dX5_takeThing_43 rfl ?_
    refine am_getR (pc := 44) (j := 49) C dX5_takeThing_44 f5_37 bn_41 sh_41 (rf_41_12 hR) ?_
    refine am_iload_n (pc := 47) C dX5_takeThing_47 rfl ?_
    refine am_iconstN (pc := 48) (k := 1) C dX5_takeThing_48 ?_
    refine am_iaddN (pc := 49) C dX5_takeThing_49 ?_
    refine am_aload_n (pc := 50) C dX5_takeThing_50 rfl ?_
    refine am_getR (pc := 51) (j := 49) C dX5_takeThing_51 f5_37 bn_41 sh_41 (rf_41_12 hR) ?_
    refine am_iload_n (pc := 54) C dX5_takeThing_54 rfl ?_
    refine am_iload_n (pc := 55) C dX5_takeThing_55 rfl ?_
    refine am_hp2 (h2 := (am_row (am_row h 48 (va_cpy (h 48) (h 48) (k + 1) k (((rf_F w) - 1) - k))) 49 (va_cpy (h 49) (h 49) (k + 1) k (((rf_F w) - 1) - k)))) (am_copyi (pc := 56) C dX5_takeThing_56 (am_mem 1357 (by decide +kernel) rfl) bn_49 sh_49 bn_49 sh_49 (by omega) (by omega) (by decide) (by decide) (by decide) (Nat.le_of_ble_eq_true rfl)) rfl ?_
    refine am_aload_n (pc := 59) C dX5_takeThing_59 rfl ?_
    refine am_getR (pc := 60) (j := 50) C dX5_takeThing_60 f5_40 bn_41 sh_41 (rf_41_13 hR) ?_
    refine am_iload_n (pc := 63) C dX5_takeThing_63 rfl ?_
    refine am_iconstN (pc := 64) (k := 1) C dX5_takeThing_64 ?_
    refine am_iaddN (pc := 65) C dX5_takeThing_65 ?_
    refine am_aload_n (pc := 66) C dX5_takeThing_66 rfl ?_
    refine am_getR (pc := 67) (j := 50) C dX5_takeThing_67 f5_40 bn_41 sh_41 (rf_41_13 hR) ?_
    refine am_iload_n (pc := 70) C dX5_takeThing_70 rfl ?_
    refine am_iload_n (pc := 71) C dX5_takeThing_71 rfl ?_
    refine am_hp2 (h2 := (am_row (am_row (am_row h 48 (va_cpy (h 48) (h 48) (k + 1) k (((rf_F w) - 1) - k))) 49 (va_cpy (h 49) (h 49) (k + 1) k (((rf_F w) - 1) - k))) 50 (va_cpy (h 50) (h 50) (k + 1) k (((rf_F w) - 1) - k)))) (am_copyi (pc := 72) C dX5_takeThing_72 (am_mem 1357 (by decide +kernel) rfl) bn_50 sh_50 bn_50 sh_50 (by omega) (by omega) (by decide) (by decide) (by decide) (Nat.le_of_ble_eq_true rfl)) rfl ?_
    refine am_aload_n (pc := 75) C dX5_takeThing_75 rfl ?_
    refine am_dup (pc := 76) C dX5_takeThing_76 rfl ?_
    refine am_getI (pc := 77) C dX5_takeThing_77 f5_67 bn_41 sh_41 ?_
    refine am_top (show ((h 41) 4) = (nI (rf_F w)) from (hSc.1.2.2.2.2.trans hV.2.2.2.2.1.2.2.1.1)) ?_
    refine am_iconstN (pc := 80) (k := 1) C dX5_takeThing_80 ?_
    refine am_isubN (pc := 81) C dX5_takeThing_81 (by omega) ?_
    refine am_putI (pc := 82) C dX5_takeThing_82 f5_67 bn_41 sh_41 rfl rfl ?_
    refine am_hp (show am_up (am_row (am_row (am_row h 48 (va_cpy (h 48) (h 48) (k + 1) k (((rf_F w) - 1) - k))) 49 (va_cpy (h 49) (h 49) (k + 1) k (((rf_F w) - 1) - k))) 50 (va_cpy (h 50) (h 50) (k + 1) k (((rf_F w) - 1) - k))) 41 4 (nI ((rf_F w) - 1)) = am_row (am_row (am_row (am_row h 48 (va_cpy (h 48) (h 48) (k + 1) k (((rf_F w) - 1) - k))) 49 (va_cpy (h 49) (h 49) (k + 1) k (((rf_F w) - 1) - k))) 50 (va_cpy (h 50) (h 50) (k + 1) k (((rf_F w) - 1) - k))) 41 (upd (h 41) 4 (nI ((rf_F w) - 1))) from am_up_rw _ _ _ _) ?_
    exact am_vretv T dX5_takeThing_85 rfl (Nat.le_refl _) (Nat.le_refl _) rfl rfl
  · skip
    exact absurd (show rf_F w ≤ 40 by omega) (by omega)

set_option maxHeartbeats 400000 in
set_option maxRecDepth 100000 in
theorem c_X5_layDown_p {ad : Nat → Nat} {r : am_R} (hR : am_rs r) {h : am_H} (m : Int32) (p : Int32) (x : Int32) (w : rf_W) (hV : rf_I w) (hSc : cl_Sc (h) 41 w)  : am_CM mX5_layDown 3 0 0 [.ref 41, .int m, .int p, .int x] (am_VV ad) r h (am_pr none r (fun c9 => cl_Sc c9 41 (rf_lie w m p x) ∧ cl_fr (h) c9 41 15)) := by
  refine am_CM.of (by decide +kernel) (Nat.le_of_ble_eq_true rfl) (fun X C T => ?_)
  show am_G X (am_VV ad) (0, 0) 0 [(0, .ref 41), (1, .int m), (2, .int p), (3, .int x)] [] r h
  have hM9 : rf_M w < 17 := hV.1.1.2
  have hS9 : rf_S w < 11 := hV.1.2.1.2
  have hO9 : rf_O w < 11 := hV.1.2.2.2
  have hF9 : rf_F w < 41 := hV.2.2.2.2.1.2.2.1.2
  refine am_aload_n (pc := 0) C dX5_layDown_0 rfl ?_
  refine am_getI (pc := 1) C dX5_layDown_1 f5_67 bn_41 sh_41 ?_
  refine am_top (show ((h 41) 4) = (nI (rf_F w)) from (hSc.1.2.2.2.2.trans hV.2.2.2.2.1.2.2.1.1)) ?_
  refine am_bipush (pc := 4) (v := nI 40) C dX5_layDown_4 (by decide) ?_
  refine am_icmp_ltN (pc := 6) (tgt := 14) C dX5_layDown_6 (by decide) (by omega) (by omega) (fun q6 => ?_) (fun q6 => ?_)
  · skip
    refine am_aload_n (pc := 14) C dX5_layDown_14 rfl ?_
    refine am_getR (pc := 15) (j := 48) C dX5_layDown_15 f5_34 bn_41 sh_41 (rf_41_11 hR) ?_
    refine am_aload_n (pc := 18) C dX5_layDown_18 rfl ?_
    refine am_getI (pc := 19) C dX5_layDown_19 f5_67 bn_41 sh_41 ?_
    refine am_top (show ((h 41) 4) = (nI (rf_F w)) from (hSc.1.2.2.2.2.trans hV.2.2.2.2.1.2.2.1.1)) ?_
    refine am_iload_n (pc := 22) C dX5_layDown_22 rfl ?_
    refine am_callSNv (Y := mX11_put) (pc := 23) (st := []) (As := [.ref 48, .int (nI (rf_F w)), .int m]) (h2 := (am_row h 48 (upd (h 48) (rf_F w) m))) C dX5_layDown_23 k5_79 v_X11_put rfl rfl (by decide) (Nat.zero_le _) (Nat.zero_le _) (Nat.le_of_ble_eq_true rfl) (c_X11_put 48 (rf_F w) m 40 bn_48 sh_48 (show rf_F w < 40 from by omega) (by decide)) ?_
    refine am_aload_n (pc := 26) C dX5_layDown_26 rfl ?_
    refine am_getR (pc := 27) (j := 49) C dX5_layDown_27 f5_37 bn_41 sh_41 (rf_41_12 hR) ?_
    refine am_aload_n (pc := 30) C dX5_layDown_30 rfl ?_
    refine am_getI (pc := 31) C dX5_layDown_31 f5_67 bn_41 sh_41 ?_
    refine am_top (show ((h 41) 4) = (nI (rf_F w)) from (hSc.1.2.2.2.2.trans hV.2.2.2.2.1.2.2.1.1)) ?_
    refine am_iload_n (pc := 34) C dX5_layDown_34 rfl ?_
    refine am_callSNv (Y := mX11_put) (pc := 35) (st := []) (As := [.ref 49, .int (nI (rf_F w)), .int p]) (h2 := (am_row (am_row h 48 (upd (h 48) (rf_F w) m)) 49 (upd (h 49) (rf_F w) p))) C dX5_layDown_35 k5_79 v_X11_put rfl rfl (by decide) (Nat.zero_le _) (Nat.zero_le _) (Nat.le_of_ble_eq_true rfl) (c_X11_put 49 (rf_F w) p 40 bn_49 sh_49 (show rf_F w < 40 from by omega) (by decide)) ?_
    refine am_aload_n (pc := 38) C dX5_layDown_38 rfl ?_
    refine am_getR (pc := 39) (j := 50) C dX5_layDown_39 f5_40 bn_41 sh_41 (rf_41_13 hR) ?_
    refine am_aload_n (pc := 42) C dX5_layDown_42 rfl ?_
    refine am_getI (pc := 43) C dX5_layDown_43 f5_67 bn_41 sh_41 ?_
    refine am_top (show ((h 41) 4) = (nI (rf_F w)) from (hSc.1.2.2.2.2.trans hV.2.2.2.2.1.2.2.1.1)) ?_
    refine am_iload_n (pc := 46) C dX5_layDown_46 rfl ?_
    refine am_callSNv (Y := mX11_put) (pc := 47) (st := []) (As := [.ref 50, .int (nI (rf_F w)), .int x]) (h2 := (am_row (am_row (am_row h 48 (upd (h 48) (rf_F w) m)) 49 (upd (h 49) (rf_F w) p)) 50 (upd (h 50) (rf_F w) x))) C dX5_layDown_47 k5_79 v_X11_put rfl rfl (by decide) (Nat.zero_le _) (Nat.zero_le _) (Nat.le_of_ble_eq_true rfl) (c_X11_put 50 (rf_F w) x 40 bn_50 sh_50 (show rf_F w < 40 from by omega) (by decide)) ?_
    refine am_aload_n (pc := 50) C dX5_layDown_50 rfl ?_
    refine am_dup (pc := 51) C dX5_layDown_51 rfl ?_
    refine am_getI (pc := 52) C dX5_layDown_52 f5_67 bn_41 sh_41 ?_
    refine am_top (show ((h 41) 4) = (nI (rf_F w)) from (hSc.1.2.2.2.2.trans hV.2.2.2.2.1.2.2.1.1)) ?_
    refine am_iconstN (pc := 55) (k := 1) C dX5_layDown_55 ?_
    refine am_iaddN (pc := 56) C dX5_layDown_56 ?_
    refine am_putI (pc := 57) C dX5_layDown_57 f5_67 bn_41 sh_41 rfl rfl ?_
    refine am_hp (show am_up (am_row (am_row (am_row h 48 (upd (h 48) (rf_F w) m)) 49 (upd (h 49) (rf_F w) p)) 50 (upd (h 50) (rf_F w) x)) 41 4 (nI ((rf_F w) + 1)) = am_row (am_row (am_row (am_row h 48 (upd (h 48) (rf_F w) m)) 49 (upd (h 49) (rf_F w) p)) 50 (upd (h 50) (rf_F w) x)) 41 (upd (h 41) 4 (nI ((rf_F w) + 1))) from am_up_rw _ _ _ _) ?_
    exact am_vretvr T dX5_layDown_60 rfl (Nat.le_refl _) (Nat.le_refl _) rfl ⟨by rw [rf_lie, if_neg (by omega)]; exact (cl_Sc_put hV (by omega) hSc rfl (fun i h7 g7 n7 n8 n9 => by rw [am_row_ne _ _ _ (by omega), am_row_ne _ _ _ (by omega), am_row_ne _ _ _ (by omega), am_row_ne _ _ _ (by omega)]) rfl rfl rfl).1, (fun i9 h9 => by rw [am_row_ne _ _ _ (by omega), am_row_ne _ _ _ (by omega), am_row_ne _ _ _ (by omega), am_row_ne _ _ _ (by omega)])⟩
  · skip
    refine am_aload_n (pc := 9) C dX5_layDown_9 rfl ?_
    refine am_iconstN (pc := 10) (k := 0) C dX5_layDown_10 ?_
    refine am_callVv (Y := mX5_takeThing) (pc := 11) (st := []) (As := [.int (nI 0)]) (h2 := (am_row (am_row (am_row (am_row h 48 (va_cpy (h 48) (h 48) (0 + 1) 0 (rf_F w - 1 - 0))) 49 (va_cpy (h 49) (h 49) (0 + 1) 0 (rf_F w - 1 - 0))) 50 (va_cpy (h 50) (h 50) (0 + 1) 0 (rf_F w - 1 - 0))) 41 (upd (h 41) 4 (nI (rf_F w - 1))))) C dX5_layDown_11 k5_83 v_X5_takeThing rfl rfl bn_41 sh_41 ⟨by decide, rfl⟩ (by decide) (Nat.zero_le _) (Nat.zero_le _) (Nat.le_of_ble_eq_true rfl) (c_X5_takeThing_p hR 0 w hV hSc (show 0 < rf_F w from (by omega))) ?_
    have hF40 : rf_F w = 40 := by omega
    have hS1 := cl_Sc_remove (k := 0) hV (by omega) hSc (h' := (am_row (am_row (am_row (am_row h 48 (va_cpy (h 48) (h 48) (0 + 1) 0 (rf_F w - 1 - 0))) 49 (va_cpy (h 49) (h 49) (0 + 1) 0 (rf_F w - 1 - 0))) 50 (va_cpy (h 50) (h 50) (0 + 1) 0 (rf_F w - 1 - 0))) 41 (upd (h 41) 4 (nI (rf_F w - 1))))) rfl (fun i h7 g7 n7 n8 n9 => by rw [am_row_ne _ _ _ (by omega), am_row_ne _ _ _ (by omega), am_row_ne _ _ _ (by omega), am_row_ne _ _ _ (by omega)]) rfl rfl rfl
    have hFA : cl_fr h ((am_row (am_row (am_row (am_row h 48 (va_cpy (h 48) (h 48) (0 + 1) 0 (rf_F w - 1 - 0))) 49 (va_cpy (h 49) (h 49) (0 + 1) 0 (rf_F w - 1 - 0))) 50 (va_cpy (h 50) (h 50) (0 + 1) 0 (rf_F w - 1 - 0))) 41 (upd (h 41) 4 (nI (rf_F w - 1))))) 41 15 := (fun i9 h9 => by rw [am_row_ne _ _ _ (by omega), am_row_ne _ _ _ (by omega), am_row_ne _ _ _ (by omega), am_row_ne _ _ _ (by omega)])
    obtain ⟨gA, hzgA⟩ : ∃ z : am_H, z = (am_row (am_row (am_row (am_row h 48 (va_cpy (h 48) (h 48) (0 + 1) 0 (rf_F w - 1 - 0))) 49 (va_cpy (h 49) (h 49) (0 + 1) 0 (rf_F w - 1 - 0))) 50 (va_cpy (h 50) (h 50) (0 + 1) 0 (rf_F w - 1 - 0))) 41 (upd (h 41) 4 (nI (rf_F w - 1)))) := ⟨_, rfl⟩
    rw [← hzgA] at hS1 hFA
    have hSA := hS1
    have hVA := rf_I_remove (k := 0) hV (by omega)
    have hFm := rf_remove_F (k := 0) hF9
    refine am_hp (show (am_row (am_row (am_row (am_row h 48 (va_cpy (h 48) (h 48) (0 + 1) 0 (rf_F w - 1 - 0))) 49 (va_cpy (h 49) (h 49) (0 + 1) 0 (rf_F w - 1 - 0))) 50 (va_cpy (h 50) (h 50) (0 + 1) 0 (rf_F w - 1 - 0))) 41 (upd (h 41) 4 (nI (rf_F w - 1)))) = gA from hzgA.symm) ?_
    refine am_aload_n (pc := 14) C dX5_layDown_14 rfl ?_
    refine am_getR (pc := 15) (j := 48) C dX5_layDown_15 f5_34 bn_41 sh_41 (rf_41_11 hR) ?_
    refine am_aload_n (pc := 18) C dX5_layDown_18 rfl ?_
    refine am_getI (pc := 19) C dX5_layDown_19 f5_67 bn_41 sh_41 ?_
    refine am_top (show ((gA 41) 4) = (nI (rf_F (rf_remove w 0))) from (hSA.1.1.2.2.2.2.trans hVA.2.2.2.2.1.2.2.1.1)) ?_
    refine am_iload_n (pc := 22) C dX5_layDown_22 rfl ?_
    refine am_callSNv (Y := mX11_put) (pc := 23) (st := []) (As := [.ref 48, .int (nI (rf_F (rf_remove w 0))), .int m]) (h2 := (am_row gA 48 (upd (gA 48) (rf_F (rf_remove w 0)) m))) C dX5_layDown_23 k5_79 v_X11_put rfl rfl (by decide) (Nat.zero_le _) (Nat.zero_le _) (Nat.le_of_ble_eq_true rfl) (c_X11_put 48 (rf_F (rf_remove w 0)) m 40 bn_48 sh_48 (show rf_F (rf_remove w 0) < 40 from by omega) (by decide)) ?_
    refine am_aload_n (pc := 26) C dX5_layDown_26 rfl ?_
    refine am_getR (pc := 27) (j := 49) C dX5_layDown_27 f5_37 bn_41 sh_41 (rf_41_12 hR) ?_
    refine am_aload_n (pc := 30) C dX5_layDown_30 rfl ?_
    refine am_getI (pc := 31) C dX5_layDown_31 f5_67 bn_41 sh_41 ?_
    refine am_top (show ((gA 41) 4) = (nI (rf_F (rf_remove w 0))) from (hSA.1.1.2.2.2.2.trans hVA.2.2.2.2.1.2.2.1.1)) ?_
    refine am_iload_n (pc := 34) C dX5_layDown_34 rfl ?_
    refine am_callSNv (Y := mX11_put) (pc := 35) (st := []) (As := [.ref 49, .int (nI (rf_F (rf_remove w 0))), .int p]) (h2 := (am_row (am_row gA 48 (upd (gA 48) (rf_F (rf_remove w 0)) m)) 49 (upd (gA 49) (rf_F (rf_remove w 0)) p))) C dX5_layDown_35 k5_79 v_X11_put rfl rfl (by decide) (Nat.zero_le _) (Nat.zero_le _) (Nat.le_of_ble_eq_true rfl) (c_X11_put 49 (rf_F (rf_remove w 0)) p 40 bn_49 sh_49 (show rf_F (rf_remove w 0) < 40 from by omega) (by decide)) ?_
    refine am_aload_n (pc := 38) C dX5_layDown_38 rfl ?_
    refine am_getR (pc := 39) (j := 50) C dX5_layDown_39 f5_40 bn_41 sh_41 (rf_41_13 hR) ?_
    refine am_aload_n (pc := 42) C dX5_layDown_42 rfl ?_
    refine am_getI (pc := 43) C dX5_layDown_43 f5_67 bn_41 sh_41 ?_
    refine am_top (show ((gA 41) 4) = (nI (rf_F (rf_remove w 0))) from (hSA.1.1.2.2.2.2.trans hVA.2.2.2.2.1.2.2.1.1)) ?_
    refine am_iload_n (pc := 46) C dX5_layDown_46 rfl ?_
    refine am_callSNv (Y := mX11_put) (pc := 47) (st := []) (As := [.ref 50, .int (nI (rf_F (rf_remove w 0))), .int x]) (h2 := (am_row (am_row (am_row gA 48 (upd (gA 48) (rf_F (rf_remove w 0)) m)) 49 (upd (gA 49) (rf_F (rf_remove w 0)) p)) 50 (upd (gA 50) (rf_F (rf_remove w 0)) x))) C dX5_layDown_47 k5_79 v_X11_put rfl rfl (by decide) (Nat.zero_le _) (Nat.zero_le _) (Nat.le_of_ble_eq_true rfl) (c_X11_put 50 (rf_F (rf_remove w 0)) x 40 bn_50 sh_50 (show rf_F (rf_remove w 0) < 40 from by omega) (by decide)) ?_
    refine am_aload_n (pc := 50) C dX5_layDown_50 rfl ?_
    refine am_dup (pc := 51) C dX5_layDown_51 rfl ?_
    refine am_getI (pc := 52) C dX5_layDown_52 f5_67 bn_41 sh_41 ?_
    refine am_top (show ((gA 41) 4) = (nI (rf_F (rf_remove w 0))) from (hSA.1.1.2.2.2.2.trans hVA.2.2.2.2.1.2.2.1.1)) ?_
    refine am_iconstN (pc := 55) (k := 1) C dX5_layDown_55 ?_
    refine am_iaddN (pc := 56) C dX5_layDown_56 ?_
    refine am_putI (pc := 57) C dX5_layDown_57 f5_67 bn_41 sh_41 rfl rfl ?_
    refine am_hp (show am_up (am_row (am_row (am_row gA 48 (upd (gA 48) (rf_F (rf_remove w 0)) m)) 49 (upd (gA 49) (rf_F (rf_remove w 0)) p)) 50 (upd (gA 50) (rf_F (rf_remove w 0)) x)) 41 4 (nI ((rf_F (rf_remove w 0)) + 1)) = am_row (am_row (am_row (am_row gA 48 (upd (gA 48) (rf_F (rf_remove w 0)) m)) 49 (upd (gA 49) (rf_F (rf_remove w 0)) p)) 50 (upd (gA 50) (rf_F (rf_remove w 0)) x)) 41 (upd (gA 41) 4 (nI ((rf_F (rf_remove w 0)) + 1))) from am_up_rw _ _ _ _) ?_
    exact am_vretvr T dX5_layDown_60 rfl (Nat.le_refl _) (Nat.le_refl _) rfl ⟨by rw [rf_lie, if_pos hF40]; exact (cl_Sc_put hVA (by omega) hSA.1 rfl (fun i h7 g7 n7 n8 n9 => by rw [am_row_ne _ _ _ (by omega), am_row_ne _ _ _ (by omega), am_row_ne _ _ _ (by omega), am_row_ne _ _ _ (by omega)]) rfl rfl rfl).1, (fun i9 h9 => by rw [am_row_ne _ _ _ (by omega), am_row_ne _ _ _ (by omega), am_row_ne _ _ _ (by omega), am_row_ne _ _ _ (by omega)]; exact hFA i9 h9)⟩

set_option maxHeartbeats 400000 in
set_option maxRecDepth 100000 in
theorem c_X5_writeRow_p {ad : Nat → Nat} {r : am_R} (hR : am_rs r) {h : am_H} (y : Int32) (x : Int32) (m : Int32) (good : Bool) (w : rf_W) (hV : rf_I w) (hSc : cl_Sc (h) 41 w) (hB : rf_n (w 7) 2147483647)  : am_CM mX5_writeRow 1 0 0 [.ref 41, .int y, .int x, .int m, .int (am_b good)] (am_VV ad) r h (am_pr none r (fun c9 => cl_Sc c9 41 (rf_logs w y x m good) ∧ cl_fr (h) c9 41 15)) := by
  refine am_CM.of (by decide +kernel) (Nat.le_of_ble_eq_true rfl) (fun X C T => ?_)
  show am_G X (am_VV ad) (0, 0) 0 [(0, .ref 41), (1, .int y), (2, .int x), (3, .int m), (4, .int (am_b good))] [] r h
  have hM9 : rf_M w < 17 := hV.1.1.2
  have hS9 : rf_S w < 11 := hV.1.2.1.2
  have hO9 : rf_O w < 11 := hV.1.2.2.2
  have hB9 : rf_nat (w 7) < 2147483647 := hB.2
  refine am_aload_n (pc := 0) C dX5_writeRow_0 rfl ?_
  refine am_getI (pc := 1) C dX5_writeRow_1 f5_61 bn_41 sh_41 ?_
  refine am_top (show ((h 41) 2) = (w 7) from hSc.1.2.2.1) ?_
  refine am_top (show (w 7) = (nI (rf_nat (w 7))) from hB.1) ?_
  refine am_bipush (pc := 4) (v := nI 60) C dX5_writeRow_4 (by decide) ?_
  refine am_iremN (pc := 6) C dX5_writeRow_6 (by omega) (by omega) (by omega) ?_
  refine am_istore (pc := 7) (ls' := [(0, .ref 41), (1, .int y), (2, .int x), (3, .int m), (4, .int (am_b good)), (5, .int (nI ((rf_nat (w 7)) % 60)))]) C dX5_writeRow_7 (by decide) rfl ?_
  refine am_aload_n (pc := 9) C dX5_writeRow_9 rfl ?_
  refine am_getR (pc := 10) (j := 51) C dX5_writeRow_10 f5_43 bn_41 sh_41 (rf_41_14 hR) ?_
  refine am_iload (pc := 13) C dX5_writeRow_13 rfl ?_
  refine am_aload_n (pc := 15) C dX5_writeRow_15 rfl ?_
  refine am_getI (pc := 16) C dX5_writeRow_16 f5_58 bn_41 sh_41 ?_
  refine am_top (show ((h 41) 0) = (w 5) from hSc.1.1) ?_
  refine am_callSNv (Y := mX11_put) (pc := 19) (st := []) (As := [.ref 51, .int (nI ((rf_nat (w 7)) % 60)), .int (w 5)]) (h2 := (am_row h 51 (upd (h 51) ((rf_nat (w 7)) % 60) (w 5)))) C dX5_writeRow_19 k5_79 v_X11_put rfl rfl (by decide) (Nat.zero_le _) (Nat.zero_le _) (Nat.le_of_ble_eq_true rfl) (c_X11_put 51 ((rf_nat (w 7)) % 60) (w 5) 60 bn_51 sh_51 (show (rf_nat (w 7)) % 60 < 60 from by omega) (by decide)) ?_
  refine am_aload_n (pc := 22) C dX5_writeRow_22 rfl ?_
  refine am_getR (pc := 23) (j := 52) C dX5_writeRow_23 f5_46 bn_41 sh_41 (rf_41_15 hR) ?_
  refine am_iload (pc := 26) C dX5_writeRow_26 rfl ?_
  refine am_iload_n (pc := 28) C dX5_writeRow_28 rfl ?_
  refine am_callSNv (Y := mX11_put) (pc := 29) (st := []) (As := [.ref 52, .int (nI ((rf_nat (w 7)) % 60)), .int y]) (h2 := (am_row (am_row h 51 (upd (h 51) ((rf_nat (w 7)) % 60) (w 5))) 52 (upd (h 52) ((rf_nat (w 7)) % 60) y))) C dX5_writeRow_29 k5_79 v_X11_put rfl rfl (by decide) (Nat.zero_le _) (Nat.zero_le _) (Nat.le_of_ble_eq_true rfl) (c_X11_put 52 ((rf_nat (w 7)) % 60) y 60 bn_52 sh_52 (show (rf_nat (w 7)) % 60 < 60 from by omega) (by decide)) ?_
  refine am_aload_n (pc := 32) C dX5_writeRow_32 rfl ?_
  refine am_getR (pc := 33) (j := 53) C dX5_writeRow_33 f5_49 bn_41 sh_41 (rf_41_16 hR) ?_
  refine am_iload (pc := 36) C dX5_writeRow_36 rfl ?_
  refine am_iload_n (pc := 38) C dX5_writeRow_38 rfl ?_
  refine am_callSNv (Y := mX11_put) (pc := 39) (st := []) (As := [.ref 53, .int (nI ((rf_nat (w 7)) % 60)), .int x]) (h2 := (am_row (am_row (am_row h 51 (upd (h 51) ((rf_nat (w 7)) % 60) (w 5))) 52 (upd (h 52) ((rf_nat (w 7)) % 60) y)) 53 (upd (h 53) ((rf_nat (w 7)) % 60) x))) C dX5_writeRow_39 k5_79 v_X11_put rfl rfl (by decide) (Nat.zero_le _) (Nat.zero_le _) (Nat.le_of_ble_eq_true rfl) (c_X11_put 53 ((rf_nat (w 7)) % 60) x 60 bn_53 sh_53 (show (rf_nat (w 7)) % 60 < 60 from by omega) (by decide)) ?_
  refine am_aload_n (pc := 42) C dX5_writeRow_42 rfl ?_
  refine am_getR (pc := 43) (j := 54) C dX5_writeRow_43 f5_52 bn_41 sh_41 (rf_41_17 hR) ?_
  refine am_iload (pc := 46) C dX5_writeRow_46 rfl ?_
  refine am_iload_n (pc := 48) C dX5_writeRow_48 rfl ?_
  refine am_callSNv (Y := mX11_put) (pc := 49) (st := []) (As := [.ref 54, .int (nI ((rf_nat (w 7)) % 60)), .int m]) (h2 := (am_row (am_row (am_row (am_row h 51 (upd (h 51) ((rf_nat (w 7)) % 60) (w 5))) 52 (upd (h 52) ((rf_nat (w 7)) % 60) y)) 53 (upd (h 53) ((rf_nat (w 7)) % 60) x)) 54 (upd (h 54) ((rf_nat (w 7)) % 60) m))) C dX5_writeRow_49 k5_79 v_X11_put rfl rfl (by decide) (Nat.zero_le _) (Nat.zero_le _) (Nat.le_of_ble_eq_true rfl) (c_X11_put 54 ((rf_nat (w 7)) % 60) m 60 bn_54 sh_54 (show (rf_nat (w 7)) % 60 < 60 from by omega) (by decide)) ?_
  refine am_aload_n (pc := 52) C dX5_writeRow_52 rfl ?_
  refine am_getR (pc := 53) (j := 55) C dX5_writeRow_53 f5_55 bn_41 sh_41 (rf_41_18 hR) ?_
  refine am_iload (pc := 56) C dX5_writeRow_56 rfl ?_
  refine am_iload (pc := 58) C dX5_writeRow_58 rfl ?_
  refine am_if_eqB (pc := 60) (tgt := 67) C dX5_writeRow_60 (by decide) (fun q60 => ?_) (fun q60 => ?_)
  · skip
    refine am_iconstN (pc := 67) (k := 0) C dX5_writeRow_67 ?_
    refine am_top (show (nI 0) = (am_b good) from (by rw [q60]; rfl)) ?_
    refine am_callSNv (Y := mX11_put) (pc := 68) (st := []) (As := [.ref 55, .int (nI ((rf_nat (w 7)) % 60)), .int (am_b good)]) (h2 := (am_row (am_row (am_row (am_row (am_row h 51 (upd (h 51) ((rf_nat (w 7)) % 60) (w 5))) 52 (upd (h 52) ((rf_nat (w 7)) % 60) y)) 53 (upd (h 53) ((rf_nat (w 7)) % 60) x)) 54 (upd (h 54) ((rf_nat (w 7)) % 60) m)) 55 (upd (h 55) ((rf_nat (w 7)) % 60) (am_b good)))) C dX5_writeRow_68 k5_79 v_X11_put rfl rfl (by decide) (Nat.zero_le _) (Nat.zero_le _) (Nat.le_of_ble_eq_true rfl) (c_X11_put 55 ((rf_nat (w 7)) % 60) (am_b good) 60 bn_55 sh_55 (show (rf_nat (w 7)) % 60 < 60 from by omega) (by decide)) ?_
    refine am_aload_n (pc := 71) C dX5_writeRow_71 rfl ?_
    refine am_dup (pc := 72) C dX5_writeRow_72 rfl ?_
    refine am_getI (pc := 73) C dX5_writeRow_73 f5_61 bn_41 sh_41 ?_
    refine am_top (show ((h 41) 2) = (w 7) from hSc.1.2.2.1) ?_
    refine am_top (show (w 7) = (nI (rf_nat (w 7))) from hB.1) ?_
    refine am_iconstN (pc := 76) (k := 1) C dX5_writeRow_76 ?_
    refine am_iaddN (pc := 77) C dX5_writeRow_77 ?_
    refine am_putI (pc := 78) C dX5_writeRow_78 f5_61 bn_41 sh_41 rfl rfl ?_
    refine am_hp (show am_up (am_row (am_row (am_row (am_row (am_row h 51 (upd (h 51) ((rf_nat (w 7)) % 60) (w 5))) 52 (upd (h 52) ((rf_nat (w 7)) % 60) y)) 53 (upd (h 53) ((rf_nat (w 7)) % 60) x)) 54 (upd (h 54) ((rf_nat (w 7)) % 60) m)) 55 (upd (h 55) ((rf_nat (w 7)) % 60) (am_b good))) 41 2 (nI ((rf_nat (w 7)) + 1)) = am_row (am_row (am_row (am_row (am_row (am_row h 51 (upd (h 51) ((rf_nat (w 7)) % 60) (w 5))) 52 (upd (h 52) ((rf_nat (w 7)) % 60) y)) 53 (upd (h 53) ((rf_nat (w 7)) % 60) x)) 54 (upd (h 54) ((rf_nat (w 7)) % 60) m)) 55 (upd (h 55) ((rf_nat (w 7)) % 60) (am_b good))) 41 (upd (h 41) 2 (nI ((rf_nat (w 7)) + 1))) from am_up_rw _ _ _ _) ?_
    exact am_vretvr T dX5_writeRow_81 rfl (Nat.le_refl _) (Nat.le_refl _) rfl ⟨(cl_Sc_logs (g := good) hV hB hSc rfl (fun i h7 g7 => by rw [am_row_ne _ _ _ (by omega), am_row_ne _ _ _ (by omega), am_row_ne _ _ _ (by omega), am_row_ne _ _ _ (by omega), am_row_ne _ _ _ (by omega), am_row_ne _ _ _ (by omega)]) rfl rfl rfl rfl rfl).1, (fun i9 h9 => by rw [am_row_ne _ _ _ (by omega), am_row_ne _ _ _ (by omega), am_row_ne _ _ _ (by omega), am_row_ne _ _ _ (by omega), am_row_ne _ _ _ (by omega), am_row_ne _ _ _ (by omega)])⟩
  · skip
    refine am_iconstN (pc := 63) (k := 1) C dX5_writeRow_63 ?_
    refine am_goto (pc := 64) (tgt := 68) C dX5_writeRow_64 (by decide) ?_
    refine am_top (show (nI 1) = (am_b good) from (by rw [q60]; rfl)) ?_
    refine am_callSNv (Y := mX11_put) (pc := 68) (st := []) (As := [.ref 55, .int (nI ((rf_nat (w 7)) % 60)), .int (am_b good)]) (h2 := (am_row (am_row (am_row (am_row (am_row h 51 (upd (h 51) ((rf_nat (w 7)) % 60) (w 5))) 52 (upd (h 52) ((rf_nat (w 7)) % 60) y)) 53 (upd (h 53) ((rf_nat (w 7)) % 60) x)) 54 (upd (h 54) ((rf_nat (w 7)) % 60) m)) 55 (upd (h 55) ((rf_nat (w 7)) % 60) (am_b good)))) C dX5_writeRow_68 k5_79 v_X11_put rfl rfl (by decide) (Nat.zero_le _) (Nat.zero_le _) (Nat.le_of_ble_eq_true rfl) (c_X11_put 55 ((rf_nat (w 7)) % 60) (am_b good) 60 bn_55 sh_55 (show (rf_nat (w 7)) % 60 < 60 from by omega) (by decide)) ?_
    refine am_aload_n (pc := 71) C dX5_writeRow_71 rfl ?_
    refine am_dup (pc := 72) C dX5_writeRow_72 rfl ?_
    refine am_getI (pc := 73) C dX5_writeRow_73 f5_61 bn_41 sh_41 ?_
    refine am_top (show ((h 41) 2) = (w 7) from hSc.1.2.2.1) ?_
    refine am_top (show (w 7) = (nI (rf_nat (w 7))) from hB.1) ?_
    refine am_iconstN (pc := 76) (k := 1) C dX5_writeRow_76 ?_
    refine am_iaddN (pc := 77) C dX5_writeRow_77 ?_
    refine am_putI (pc := 78) C dX5_writeRow_78 f5_61 bn_41 sh_41 rfl rfl ?_
    refine am_hp (show am_up (am_row (am_row (am_row (am_row (am_row h 51 (upd (h 51) ((rf_nat (w 7)) % 60) (w 5))) 52 (upd (h 52) ((rf_nat (w 7)) % 60) y)) 53 (upd (h 53) ((rf_nat (w 7)) % 60) x)) 54 (upd (h 54) ((rf_nat (w 7)) % 60) m)) 55 (upd (h 55) ((rf_nat (w 7)) % 60) (am_b good))) 41 2 (nI ((rf_nat (w 7)) + 1)) = am_row (am_row (am_row (am_row (am_row (am_row h 51 (upd (h 51) ((rf_nat (w 7)) % 60) (w 5))) 52 (upd (h 52) ((rf_nat (w 7)) % 60) y)) 53 (upd (h 53) ((rf_nat (w 7)) % 60) x)) 54 (upd (h 54) ((rf_nat (w 7)) % 60) m)) 55 (upd (h 55) ((rf_nat (w 7)) % 60) (am_b good))) 41 (upd (h 41) 2 (nI ((rf_nat (w 7)) + 1))) from am_up_rw _ _ _ _) ?_
    exact am_vretvr T dX5_writeRow_81 rfl (Nat.le_refl _) (Nat.le_refl _) rfl ⟨(cl_Sc_logs (g := good) hV hB hSc rfl (fun i h7 g7 => by rw [am_row_ne _ _ _ (by omega), am_row_ne _ _ _ (by omega), am_row_ne _ _ _ (by omega), am_row_ne _ _ _ (by omega), am_row_ne _ _ _ (by omega), am_row_ne _ _ _ (by omega)]) rfl rfl rfl rfl rfl).1, (fun i9 h9 => by rw [am_row_ne _ _ _ (by omega), am_row_ne _ _ _ (by omega), am_row_ne _ _ _ (by omega), am_row_ne _ _ _ (by omega), am_row_ne _ _ _ (by omega), am_row_ne _ _ _ (by omega)])⟩

set_option maxHeartbeats 400000 in
set_option maxRecDepth 100000 in
theorem c_X10_hit_p {ad : Nat → Nat} {r : am_R} (hR : am_rs r) {h : am_H} (b : Nat) (s : Nat) (good : Bool) (w : rf_W) (hV : rf_I w) (hLo : cl_Lo (h) 4 w) (hSc : cl_Sc (h) 41 w) (hb : b < rf_S w) (hs : s < rf_S w) (hk0 : 0 < rf_kn w s) (hB : rf_n (w 7) 2147483647)  : am_CM mX10_hit 4 0 0 [.ref 40, .int (nI b), .int (nI s), .int (am_b good)] (am_VV ad) r h (am_pr (some (.int (nI (rf_takes w s good - 1)))) r (fun c9 => cl_Sc c9 41 (rf_hit w b s good) ∧ cl_fr (h) c9 41 15)) := by
  refine am_CM.of (by decide +kernel) (Nat.le_of_ble_eq_true rfl) (fun X C T => ?_)
  show am_G X (am_VV ad) (0, 0) 0 [(0, .ref 40), (1, .int (nI b)), (2, .int (nI s)), (3, .int (am_b good))] [] r h
  have hM9 : rf_M w < 17 := hV.1.1.2
  have hS9 : rf_S w < 11 := hV.1.2.1.2
  have hO9 : rf_O w < 11 := hV.1.2.2.2
  have hIs := hV.2.1 s hs
  have hk13 : rf_kn w s < 13 := hIs.2.2.2.2.1.2
  obtain ⟨ht0, htM, htq⟩ := rf_takes_ok (g := good) hV hs hk0
  obtain ⟨hp1, hp2, -⟩ := rf_pos_spec htq
  have hPm : rf_li w s (rf_pos w s (rf_takes w s good - 1)) = rf_takes w s good - 1 := by rw [rf_li, rf_ofn, hp2, rf_nat_nI (by omega)]
  refine am_iload_n (pc := 0) C dX10_hit_0 rfl ?_
  refine am_if_eqB (pc := 1) (tgt := 12) C dX10_hit_1 (by decide) (fun q1 => ?_) (fun q1 => ?_)
  · skip
    refine am_aload_n (pc := 12) C dX10_hit_12 rfl ?_
    refine am_getR (pc := 13) (j := 41) C dX10_hit_13 f10_22 bn_40 sh_40 (rf_40_2 hR) ?_
    refine am_iload_n (pc := 16) C dX10_hit_16 rfl ?_
    refine am_aload_n (pc := 17) C dX10_hit_17 rfl ?_
    refine am_getR (pc := 18) (j := 41) C dX10_hit_18 f10_22 bn_40 sh_40 (rf_40_2 hR) ?_
    refine am_getR (pc := 21) (j := 44) C dX10_hit_21 f10_58 bn_41 sh_41 (rf_41_7 hR) ?_
    refine am_iload_n (pc := 24) C dX10_hit_24 rfl ?_
    refine am_callSNi (Y := mX11_pick) (pc := 25) (st := [.int (nI s), .ref 41]) (As := [.ref 44, .int (nI s)]) (x := ((h 44) s)) (h2 := h) C dX10_hit_25 k10_54 v_X11_pick rfl rfl (by decide) (Nat.zero_le _) (Nat.zero_le _) (Nat.le_of_ble_eq_true rfl) (c_X11_pick 44 s 10 bn_44 sh_44 (show s < 10 from by omega) (by decide)) ?_
    refine am_top (show ((h 44) s) = (nI (rf_kn w s)) from ((hSc.2.1 s (by omega)).2.2.1.trans (hV.2.1 s (by omega)).2.2.2.2.1.1)) ?_
    refine am_iconstN (pc := 28) (k := 1) C dX10_hit_28 ?_
    refine am_isubN (pc := 29) C dX10_hit_29 (by omega) ?_
    refine am_callVi (Y := mX5_knownAt) (pc := 30) (st := []) (As := [.int (nI s), .int (nI ((rf_kn w s) - 1))]) (x := (nI (rf_li w s ((rf_kn w s) - 1)))) (h2 := h) C dX10_hit_30 k10_115 v_X5_knownAt rfl rfl bn_41 sh_41 ⟨by decide, rfl⟩ (by decide) (Nat.zero_le _) (Nat.zero_le _) (Nat.le_of_ble_eq_true rfl) (c_X5_knownAt_p hR s ((rf_kn w s) - 1) w hV hSc hs (show ((rf_kn w s) - 1) < rf_kn w s from (by omega))) ?_
    refine am_top (show (nI (rf_li w s ((rf_kn w s) - 1))) = (am_oi (rf_takes w s good)) from (by rw [rf_takes, q1]; exact (am_oi_s _).symm)) ?_
    refine am_istore (pc := 33) (ls' := [(0, .ref 40), (1, .int (nI b)), (2, .int (nI s)), (3, .int (am_b good)), (4, .int (am_oi (rf_takes w s good)))]) C dX10_hit_33 (by decide) rfl ?_
    refine am_iload (pc := 35) C dX10_hit_35 rfl ?_
    refine am_iconst (pc := 37) (v := -1) C dX10_hit_37 rfl ?_
    refine am_icmp_neO (pc := 38) (tgt := 43) C dX10_hit_38 (by decide) (by omega) (fun q38 => ?_) (fun q38 => ?_)
    · skip
      refine am_lsv (ls' := [(0, .ref 40), (1, .int (nI b)), (2, .int (nI s)), (3, .int (am_b good)), (4, .int (nI (rf_takes w s good - 1)))]) (congrArg (fun z9 : Int32 => ([(0, .ref 40), (1, .int (nI b)), (2, .int (nI s)), (3, .int (am_b good)), (4, Value.int z9)] : List (Nat × Value))) (show (am_oi (rf_takes w s good)) = (nI (rf_takes w s good - 1)) from (am_oi_p ht0))) ?_
      refine am_aload_n (pc := 43) C dX10_hit_43 rfl ?_
      refine am_getR (pc := 44) (j := 41) C dX10_hit_44 f10_22 bn_40 sh_40 (rf_40_2 hR) ?_
      refine am_iload_n (pc := 47) C dX10_hit_47 rfl ?_
      refine am_iload (pc := 48) C dX10_hit_48 rfl ?_
      refine am_callVv (Y := mX5_forget) (pc := 50) (st := []) (As := [.int (nI s), .int (nI (rf_takes w s good - 1))]) (h2 := (am_row (am_row (am_row h 47 ((cl_fg (h 47) w s (rf_takes w s good - 1) (rf_kn w s)).1)) 44 (upd (h 44) s (nI (rf_kn w s - 1)))) 45 (upd (h 45) s (rf_known w s &&& ((nI 1 <<< (nI (rf_takes w s good - 1) &&& 31)) ^^^ (-1)))))) C dX10_hit_50 k10_118 v_X5_forget rfl rfl bn_41 sh_41 ⟨by decide, rfl⟩ (by decide) (Nat.zero_le _) (Nat.zero_le _) (Nat.le_of_ble_eq_true rfl) (c_X5_forget_p hR s (rf_takes w s good - 1) w hV hSc hs (show (rf_takes w s good - 1) < 32 from by omega) (show rf_pos w s (rf_takes w s good - 1) < rf_kn w s from by omega) (show rf_li w s (rf_pos w s (rf_takes w s good - 1)) = (rf_takes w s good - 1) from by omega)) ?_
      refine am_aload_n (pc := 53) C dX10_hit_53 rfl ?_
      refine am_getR (pc := 54) (j := 41) C dX10_hit_54 f10_22 bn_40 sh_40 (rf_40_2 hR) ?_
      refine am_getR (pc := 57) (j := 46) C dX10_hit_57 f10_64 bn_41 sh_41 (rf_41_9 hR) ?_
      refine am_iload_n (pc := 60) C dX10_hit_60 rfl ?_
      refine am_aload_n (pc := 61) C dX10_hit_61 rfl ?_
      refine am_getR (pc := 62) (j := 4) C dX10_hit_62 f10_9 bn_40 sh_40 (rf_40_0 hR) ?_
      refine am_aload_n (pc := 65) C dX10_hit_65 rfl ?_
      refine am_getR (pc := 66) (j := 41) C dX10_hit_66 f10_22 bn_40 sh_40 (rf_40_2 hR) ?_
      refine am_getR (pc := 69) (j := 45) C dX10_hit_69 f10_61 bn_41 sh_41 (rf_41_8 hR) ?_
      refine am_iload_n (pc := 72) C dX10_hit_72 rfl ?_
      refine am_callSNi (Y := mX11_pick) (pc := 73) (st := [.ref 4, .int (nI s), .ref 46]) (As := [.ref 45, .int (nI s)]) (x := ((upd (h 45) s (rf_known w s &&& ((nI 1 <<< (nI (rf_takes w s good - 1) &&& 31)) ^^^ (-1)))) s)) (h2 := (am_row (am_row (am_row h 47 ((cl_fg (h 47) w s (rf_takes w s good - 1) (rf_kn w s)).1)) 44 (upd (h 44) s (nI (rf_kn w s - 1)))) 45 (upd (h 45) s (rf_known w s &&& ((nI 1 <<< (nI (rf_takes w s good - 1) &&& 31)) ^^^ (-1)))))) C dX10_hit_73 k10_54 v_X11_pick rfl rfl (by decide) (Nat.zero_le _) (Nat.zero_le _) (Nat.le_of_ble_eq_true rfl) (c_X11_pick 45 s 10 bn_45 sh_45 (show s < 10 from by omega) (by decide)) ?_
      refine am_top (show ((upd (h 45) s (rf_known w s &&& ((nI 1 <<< (nI (rf_takes w s good - 1) &&& 31)) ^^^ (-1)))) s) = (rf_known w s &&& ((nI 1 <<< (nI (rf_takes w s good - 1) &&& 31)) ^^^ (-1))) from rf_upd_eq) ?_
      refine am_callVi (Y := mX3_usableOf) (pc := 76) (st := [.int (nI s), .ref 46]) (As := [.int (rf_known w s &&& ((nI 1 <<< (nI (rf_takes w s good - 1) &&& 31)) ^^^ (-1)))]) (x := (rf_usable w (rf_known w s &&& ((nI 1 <<< (nI (rf_takes w s good - 1) &&& 31)) ^^^ (-1))))) (h2 := (am_row (am_row (am_row h 47 ((cl_fg (h 47) w s (rf_takes w s good - 1) (rf_kn w s)).1)) 44 (upd (h 44) s (nI (rf_kn w s - 1)))) 45 (upd (h 45) s (rf_known w s &&& ((nI 1 <<< (nI (rf_takes w s good - 1) &&& 31)) ^^^ (-1)))))) C dX10_hit_76 k10_75 v_X3_usableOf rfl rfl bn_4 sh_4 ⟨by decide, rfl⟩ (by decide) (Nat.zero_le _) (Nat.zero_le _) (Nat.le_of_ble_eq_true rfl) (c_X3_usableOf hR (rf_known w s &&& ((nI 1 <<< (nI (rf_takes w s good - 1) &&& 31)) ^^^ (-1))) w hV (cl_Lo_eq (fun i9 h9 g9 => by rw [am_row_ne _ _ _ (by omega), am_row_ne _ _ _ (by omega), am_row_ne _ _ _ (by omega)]) hLo)) ?_
      refine am_callSNv (Y := mX11_put) (pc := 79) (st := []) (As := [.ref 46, .int (nI s), .int (rf_usable w (rf_known w s &&& ((nI 1 <<< (nI (rf_takes w s good - 1) &&& 31)) ^^^ (-1))))]) (h2 := (am_row (am_row (am_row (am_row h 47 ((cl_fg (h 47) w s (rf_takes w s good - 1) (rf_kn w s)).1)) 44 (upd (h 44) s (nI (rf_kn w s - 1)))) 45 (upd (h 45) s (rf_known w s &&& ((nI 1 <<< (nI (rf_takes w s good - 1) &&& 31)) ^^^ (-1))))) 46 (upd (h 46) s (rf_usable w (rf_known w s &&& ((nI 1 <<< (nI (rf_takes w s good - 1) &&& 31)) ^^^ (-1))))))) C dX10_hit_79 k10_44 v_X11_put rfl rfl (by decide) (Nat.zero_le _) (Nat.zero_le _) (Nat.le_of_ble_eq_true rfl) (c_X11_put 46 s (rf_usable w (rf_known w s &&& ((nI 1 <<< (nI (rf_takes w s good - 1) &&& 31)) ^^^ (-1)))) 10 bn_46 sh_46 (show s < 10 from by omega) (by decide)) ?_
      have hS1 := cl_Sc_lose hV hs htM htq hSc (h' := (am_row (am_row (am_row (am_row h 47 ((cl_fg (h 47) w s (rf_takes w s good - 1) (rf_kn w s)).1)) 44 (upd (h 44) s (nI (rf_kn w s - 1)))) 45 (upd (h 45) s (rf_known w s &&& ((nI 1 <<< (nI (rf_takes w s good - 1) &&& 31)) ^^^ (-1))))) 46 (upd (h 46) s (rf_usable w (rf_known w s &&& ((nI 1 <<< (nI (rf_takes w s good - 1) &&& 31)) ^^^ (-1))))))) rfl rfl rfl rfl rfl rfl rfl (fun i h7 g7 => by rw [am_row_ne _ _ _ (by omega), am_row_ne _ _ _ (by omega), am_row_ne _ _ _ (by omega), am_row_ne _ _ _ (by omega)])
      have hFA : cl_fr h ((am_row (am_row (am_row (am_row h 47 ((cl_fg (h 47) w s (rf_takes w s good - 1) (rf_kn w s)).1)) 44 (upd (h 44) s (nI (rf_kn w s - 1)))) 45 (upd (h 45) s (rf_known w s &&& ((nI 1 <<< (nI (rf_takes w s good - 1) &&& 31)) ^^^ (-1))))) 46 (upd (h 46) s (rf_usable w (rf_known w s &&& ((nI 1 <<< (nI (rf_takes w s good - 1) &&& 31)) ^^^ (-1))))))) 41 15 := (fun i9 h9 => by rw [am_row_ne _ _ _ (by omega), am_row_ne _ _ _ (by omega), am_row_ne _ _ _ (by omega), am_row_ne _ _ _ (by omega)])
      obtain ⟨gA, hzgA⟩ : ∃ z : am_H, z = (am_row (am_row (am_row (am_row h 47 ((cl_fg (h 47) w s (rf_takes w s good - 1) (rf_kn w s)).1)) 44 (upd (h 44) s (nI (rf_kn w s - 1)))) 45 (upd (h 45) s (rf_known w s &&& ((nI 1 <<< (nI (rf_takes w s good - 1) &&& 31)) ^^^ (-1))))) 46 (upd (h 46) s (rf_usable w (rf_known w s &&& ((nI 1 <<< (nI (rf_takes w s good - 1) &&& 31)) ^^^ (-1)))))) := ⟨_, rfl⟩
      rw [← hzgA] at hS1 hFA
      have hSA := hS1.1
      have hEA := hS1.2
      have hVA := rf_I_lose hV hs hp1
      have LA := cl_Lo_Es hV hEA (cl_Lo_eq (fun i h1 h2 => hFA i (by omega)) hLo)
      have hSe := hEA.S
      have hMe := hEA.M
      have hplA := hVA.2.1 s (by omega)
      have hB2 : rf_n ((rf_lie (rf_lose w s (rf_takes w s good - 1)) (nI (rf_takes w s good - 1)) (rf_pl (rf_lose w s (rf_takes w s good - 1)) s) (nI s)) 7) 2147483647 := by rw [rf_lie_out (by omega) (by omega) hVA.2.2.2.2.1.2.2.1.2, rf_lose_out hp1 hk13 (by omega)]; exact hB
      refine am_hp (show (am_row (am_row (am_row (am_row h 47 ((cl_fg (h 47) w s (rf_takes w s good - 1) (rf_kn w s)).1)) 44 (upd (h 44) s (nI (rf_kn w s - 1)))) 45 (upd (h 45) s (rf_known w s &&& ((nI 1 <<< (nI (rf_takes w s good - 1) &&& 31)) ^^^ (-1))))) 46 (upd (h 46) s (rf_usable w (rf_known w s &&& ((nI 1 <<< (nI (rf_takes w s good - 1) &&& 31)) ^^^ (-1)))))) = gA from hzgA.symm) ?_
      refine am_aload_n (pc := 82) C dX10_hit_82 rfl ?_
      refine am_getR (pc := 83) (j := 41) C dX10_hit_83 f10_22 bn_40 sh_40 (rf_40_2 hR) ?_
      refine am_iload (pc := 86) C dX10_hit_86 rfl ?_
      refine am_aload_n (pc := 88) C dX10_hit_88 rfl ?_
      refine am_getR (pc := 89) (j := 41) C dX10_hit_89 f10_22 bn_40 sh_40 (rf_40_2 hR) ?_
      refine am_getR (pc := 92) (j := 43) C dX10_hit_92 f10_48 bn_41 sh_41 (rf_41_6 hR) ?_
      refine am_iload_n (pc := 95) C dX10_hit_95 rfl ?_
      refine am_callSNi (Y := mX11_pick) (pc := 96) (st := [.int (nI (rf_takes w s good - 1)), .ref 41]) (As := [.ref 43, .int (nI s)]) (x := ((gA 43) s)) (h2 := gA) C dX10_hit_96 k10_54 v_X11_pick rfl rfl (by decide) (Nat.zero_le _) (Nat.zero_le _) (Nat.le_of_ble_eq_true rfl) (c_X11_pick 43 s 10 bn_43 sh_43 (show s < 10 from by omega) (by decide)) ?_
      refine am_top (show ((gA 43) s) = (rf_pl (rf_lose w s (rf_takes w s good - 1)) s) from (hSA.2.1 s (by omega)).2.1) ?_
      refine am_iload_n (pc := 99) C dX10_hit_99 rfl ?_
      refine am_callVvr (Y := mX5_layDown) (pc := 100) (st := []) (As := [.int (nI (rf_takes w s good - 1)), .int (rf_pl (rf_lose w s (rf_takes w s good - 1)) s), .int (nI s)]) (PP := fun c9 => cl_Sc c9 41 (rf_lie (rf_lose w s (rf_takes w s good - 1)) (nI (rf_takes w s good - 1)) (rf_pl (rf_lose w s (rf_takes w s good - 1)) s) (nI s)) ∧ cl_fr (gA) c9 41 15) C dX10_hit_100 k10_121 v_X5_layDown rfl rfl bn_41 sh_41 ⟨by decide, rfl⟩ (by decide) (Nat.zero_le _) (Nat.zero_le _) (Nat.le_of_ble_eq_true rfl) (c_X5_layDown_p hR (nI (rf_takes w s good - 1)) (rf_pl (rf_lose w s (rf_takes w s good - 1)) s) (nI s) (rf_lose w s (rf_takes w s good - 1)) hVA hSA) (fun g100_1 hg100_1 => ?_)
      obtain ⟨S100, F100⟩ := hg100_1
      have V100 := rf_I_lie (m := nI (rf_takes w s good - 1)) (p := rf_pl (rf_lose w s (rf_takes w s good - 1)) s) (x := nI s) hVA (rf_n_mk (by omega) (by omega)) (hplA.2.2.2.1 _ hplA.2.2.1.2) (rf_n_mk (by omega) (by omega))
      refine am_aload_n (pc := 103) C dX10_hit_103 rfl ?_
      refine am_getR (pc := 104) (j := 41) C dX10_hit_104 f10_22 bn_40 sh_40 (rf_40_2 hR) ?_
      refine am_iload_n (pc := 107) C dX10_hit_107 rfl ?_
      refine am_iload_n (pc := 108) C dX10_hit_108 rfl ?_
      refine am_iload (pc := 109) C dX10_hit_109 rfl ?_
      refine am_iload_n (pc := 111) C dX10_hit_111 rfl ?_
      refine am_callVvr (Y := mX5_writeRow) (pc := 112) (st := []) (As := [.int (nI b), .int (nI s), .int (nI (rf_takes w s good - 1)), .int (am_b good)]) (PP := fun c9 => cl_Sc c9 41 (rf_logs (rf_lie (rf_lose w s (rf_takes w s good - 1)) (nI (rf_takes w s good - 1)) (rf_pl (rf_lose w s (rf_takes w s good - 1)) s) (nI s)) (nI b) (nI s) (nI (rf_takes w s good - 1)) good) ∧ cl_fr (g100_1) c9 41 15) C dX10_hit_112 k10_125 v_X5_writeRow rfl rfl bn_41 sh_41 ⟨by decide, rfl⟩ (by decide) (Nat.zero_le _) (Nat.zero_le _) (Nat.le_of_ble_eq_true rfl) (c_X5_writeRow_p hR (nI b) (nI s) (nI (rf_takes w s good - 1)) good (rf_lie (rf_lose w s (rf_takes w s good - 1)) (nI (rf_takes w s good - 1)) (rf_pl (rf_lose w s (rf_takes w s good - 1)) s) (nI s)) V100 S100 (show rf_n ((rf_lie (rf_lose w s (rf_takes w s good - 1)) (nI (rf_takes w s good - 1)) (rf_pl (rf_lose w s (rf_takes w s good - 1)) s) (nI s)) 7) 2147483647 from hB2)) (fun g112_2 hg112_2 => ?_)
      obtain ⟨S112, F112⟩ := hg112_2
      refine am_iload (pc := 115) C dX10_hit_115 rfl ?_
      exact am_iretir T dX10_hit_117 rfl (Nat.le_refl _) (Nat.le_refl _) rfl rfl ⟨S112, (fun i h9 => (F112 i h9).trans ((F100 i h9).trans (hFA i h9)))⟩
    · skip
      exact absurd q38 (by omega)
  · skip
    refine am_aload_n (pc := 4) C dX10_hit_4 rfl ?_
    refine am_iload_n (pc := 5) C dX10_hit_5 rfl ?_
    refine am_callVi (Y := mX10_dearestOf) (pc := 6) (st := []) (As := [.int (nI s)]) (x := (am_oi (rf_tk w (rf_known w s) (rf_M w)))) (h2 := h) C dX10_hit_6 k10_112 v_X10_dearestOf rfl rfl bn_40 sh_40 ⟨by decide, rfl⟩ (by decide) (Nat.zero_le _) (Nat.zero_le _) (Nat.le_of_ble_eq_true rfl) (c_X10_dearestOf_p hR s w hV hLo hSc hs) ?_
    refine am_goto (pc := 9) (tgt := 33) C dX10_hit_9 (by decide) ?_
    refine am_top (show (am_oi (rf_tk w (rf_known w s) (rf_M w))) = (am_oi (rf_takes w s good)) from (by rw [rf_takes, q1]; rfl)) ?_
    refine am_istore (pc := 33) (ls' := [(0, .ref 40), (1, .int (nI b)), (2, .int (nI s)), (3, .int (am_b good)), (4, .int (am_oi (rf_takes w s good)))]) C dX10_hit_33 (by decide) rfl ?_
    refine am_iload (pc := 35) C dX10_hit_35 rfl ?_
    refine am_iconst (pc := 37) (v := -1) C dX10_hit_37 rfl ?_
    refine am_icmp_neO (pc := 38) (tgt := 43) C dX10_hit_38 (by decide) (by omega) (fun q38 => ?_) (fun q38 => ?_)
    · skip
      refine am_lsv (ls' := [(0, .ref 40), (1, .int (nI b)), (2, .int (nI s)), (3, .int (am_b good)), (4, .int (nI (rf_takes w s good - 1)))]) (congrArg (fun z9 : Int32 => ([(0, .ref 40), (1, .int (nI b)), (2, .int (nI s)), (3, .int (am_b good)), (4, Value.int z9)] : List (Nat × Value))) (show (am_oi (rf_takes w s good)) = (nI (rf_takes w s good - 1)) from (am_oi_p ht0))) ?_
      refine am_aload_n (pc := 43) C dX10_hit_43 rfl ?_
      refine am_getR (pc := 44) (j := 41) C dX10_hit_44 f10_22 bn_40 sh_40 (rf_40_2 hR) ?_
      refine am_iload_n (pc := 47) C dX10_hit_47 rfl ?_
      refine am_iload (pc := 48) C dX10_hit_48 rfl ?_
      refine am_callVv (Y := mX5_forget) (pc := 50) (st := []) (As := [.int (nI s), .int (nI (rf_takes w s good - 1))]) (h2 := (am_row (am_row (am_row h 47 ((cl_fg (h 47) w s (rf_takes w s good - 1) (rf_kn w s)).1)) 44 (upd (h 44) s (nI (rf_kn w s - 1)))) 45 (upd (h 45) s (rf_known w s &&& ((nI 1 <<< (nI (rf_takes w s good - 1) &&& 31)) ^^^ (-1)))))) C dX10_hit_50 k10_118 v_X5_forget rfl rfl bn_41 sh_41 ⟨by decide, rfl⟩ (by decide) (Nat.zero_le _) (Nat.zero_le _) (Nat.le_of_ble_eq_true rfl) (c_X5_forget_p hR s (rf_takes w s good - 1) w hV hSc hs (show (rf_takes w s good - 1) < 32 from by omega) (show rf_pos w s (rf_takes w s good - 1) < rf_kn w s from by omega) (show rf_li w s (rf_pos w s (rf_takes w s good - 1)) = (rf_takes w s good - 1) from by omega)) ?_
      refine am_aload_n (pc := 53) C dX10_hit_53 rfl ?_
      refine am_getR (pc := 54) (j := 41) C dX10_hit_54 f10_22 bn_40 sh_40 (rf_40_2 hR) ?_
      refine am_getR (pc := 57) (j := 46) C dX10_hit_57 f10_64 bn_41 sh_41 (rf_41_9 hR) ?_
      refine am_iload_n (pc := 60) C dX10_hit_60 rfl ?_
      refine am_aload_n (pc := 61) C dX10_hit_61 rfl ?_
      refine am_getR (pc := 62) (j := 4) C dX10_hit_62 f10_9 bn_40 sh_40 (rf_40_0 hR) ?_
      refine am_aload_n (pc := 65) C dX10_hit_65 rfl ?_
      refine am_getR (pc := 66) (j := 41) C dX10_hit_66 f10_22 bn_40 sh_40 (rf_40_2 hR) ?_
      refine am_getR (pc := 69) (j := 45) C dX10_hit_69 f10_61 bn_41 sh_41 (rf_41_8 hR) ?_
      refine am_iload_n (pc := 72) C dX10_hit_72 rfl ?_
      refine am_callSNi (Y := mX11_pick) (pc := 73) (st := [.ref 4, .int (nI s), .ref 46]) (As := [.ref 45, .int (nI s)]) (x := ((upd (h 45) s (rf_known w s &&& ((nI 1 <<< (nI (rf_takes w s good - 1) &&& 31)) ^^^ (-1)))) s)) (h2 := (am_row (am_row (am_row h 47 ((cl_fg (h 47) w s (rf_takes w s good - 1) (rf_kn w s)).1)) 44 (upd (h 44) s (nI (rf_kn w s - 1)))) 45 (upd (h 45) s (rf_known w s &&& ((nI 1 <<< (nI (rf_takes w s good - 1) &&& 31)) ^^^ (-1)))))) C dX10_hit_73 k10_54 v_X11_pick rfl rfl (by decide) (Nat.zero_le _) (Nat.zero_le _) (Nat.le_of_ble_eq_true rfl) (c_X11_pick 45 s 10 bn_45 sh_45 (show s < 10 from by omega) (by decide)) ?_
      refine am_top (show ((upd (h 45) s (rf_known w s &&& ((nI 1 <<< (nI (rf_takes w s good - 1) &&& 31)) ^^^ (-1)))) s) = (rf_known w s &&& ((nI 1 <<< (nI (rf_takes w s good - 1) &&& 31)) ^^^ (-1))) from rf_upd_eq) ?_
      refine am_callVi (Y := mX3_usableOf) (pc := 76) (st := [.int (nI s), .ref 46]) (As := [.int (rf_known w s &&& ((nI 1 <<< (nI (rf_takes w s good - 1) &&& 31)) ^^^ (-1)))]) (x := (rf_usable w (rf_known w s &&& ((nI 1 <<< (nI (rf_takes w s good - 1) &&& 31)) ^^^ (-1))))) (h2 := (am_row (am_row (am_row h 47 ((cl_fg (h 47) w s (rf_takes w s good - 1) (rf_kn w s)).1)) 44 (upd (h 44) s (nI (rf_kn w s - 1)))) 45 (upd (h 45) s (rf_known w s &&& ((nI 1 <<< (nI (rf_takes w s good - 1) &&& 31)) ^^^ (-1)))))) C dX10_hit_76 k10_75 v_X3_usableOf rfl rfl bn_4 sh_4 ⟨by decide, rfl⟩ (by decide) (Nat.zero_le _) (Nat.zero_le _) (Nat.le_of_ble_eq_true rfl) (c_X3_usableOf hR (rf_known w s &&& ((nI 1 <<< (nI (rf_takes w s good - 1) &&& 31)) ^^^ (-1))) w hV (cl_Lo_eq (fun i9 h9 g9 => by rw [am_row_ne _ _ _ (by omega), am_row_ne _ _ _ (by omega), am_row_ne _ _ _ (by omega)]) hLo)) ?_
      refine am_callSNv (Y := mX11_put) (pc := 79) (st := []) (As := [.ref 46, .int (nI s), .int (rf_usable w (rf_known w s &&& ((nI 1 <<< (nI (rf_takes w s good - 1) &&& 31)) ^^^ (-1))))]) (h2 := (am_row (am_row (am_row (am_row h 47 ((cl_fg (h 47) w s (rf_takes w s good - 1) (rf_kn w s)).1)) 44 (upd (h 44) s (nI (rf_kn w s - 1)))) 45 (upd (h 45) s (rf_known w s &&& ((nI 1 <<< (nI (rf_takes w s good - 1) &&& 31)) ^^^ (-1))))) 46 (upd (h 46) s (rf_usable w (rf_known w s &&& ((nI 1 <<< (nI (rf_takes w s good - 1) &&& 31)) ^^^ (-1))))))) C dX10_hit_79 k10_44 v_X11_put rfl rfl (by decide) (Nat.zero_le _) (Nat.zero_le _) (Nat.le_of_ble_eq_true rfl) (c_X11_put 46 s (rf_usable w (rf_known w s &&& ((nI 1 <<< (nI (rf_takes w s good - 1) &&& 31)) ^^^ (-1)))) 10 bn_46 sh_46 (show s < 10 from by omega) (by decide)) ?_
      have hS1 := cl_Sc_lose hV hs htM htq hSc (h' := (am_row (am_row (am_row (am_row h 47 ((cl_fg (h 47) w s (rf_takes w s good - 1) (rf_kn w s)).1)) 44 (upd (h 44) s (nI (rf_kn w s - 1)))) 45 (upd (h 45) s (rf_known w s &&& ((nI 1 <<< (nI (rf_takes w s good - 1) &&& 31)) ^^^ (-1))))) 46 (upd (h 46) s (rf_usable w (rf_known w s &&& ((nI 1 <<< (nI (rf_takes w s good - 1) &&& 31)) ^^^ (-1))))))) rfl rfl rfl rfl rfl rfl rfl (fun i h7 g7 => by rw [am_row_ne _ _ _ (by omega), am_row_ne _ _ _ (by omega), am_row_ne _ _ _ (by omega), am_row_ne _ _ _ (by omega)])
      have hFA : cl_fr h ((am_row (am_row (am_row (am_row h 47 ((cl_fg (h 47) w s (rf_takes w s good - 1) (rf_kn w s)).1)) 44 (upd (h 44) s (nI (rf_kn w s - 1)))) 45 (upd (h 45) s (rf_known w s &&& ((nI 1 <<< (nI (rf_takes w s good - 1) &&& 31)) ^^^ (-1))))) 46 (upd (h 46) s (rf_usable w (rf_known w s &&& ((nI 1 <<< (nI (rf_takes w s good - 1) &&& 31)) ^^^ (-1))))))) 41 15 := (fun i9 h9 => by rw [am_row_ne _ _ _ (by omega), am_row_ne _ _ _ (by omega), am_row_ne _ _ _ (by omega), am_row_ne _ _ _ (by omega)])
      obtain ⟨gA, hzgA⟩ : ∃ z : am_H, z = (am_row (am_row (am_row (am_row h 47 ((cl_fg (h 47) w s (rf_takes w s good - 1) (rf_kn w s)).1)) 44 (upd (h 44) s (nI (rf_kn w s - 1)))) 45 (upd (h 45) s (rf_known w s &&& ((nI 1 <<< (nI (rf_takes w s good - 1) &&& 31)) ^^^ (-1))))) 46 (upd (h 46) s (rf_usable w (rf_known w s &&& ((nI 1 <<< (nI (rf_takes w s good - 1) &&& 31)) ^^^ (-1)))))) := ⟨_, rfl⟩
      rw [← hzgA] at hS1 hFA
      have hSA := hS1.1
      have hEA := hS1.2
      have hVA := rf_I_lose hV hs hp1
      have LA := cl_Lo_Es hV hEA (cl_Lo_eq (fun i h1 h2 => hFA i (by omega)) hLo)
      have hSe := hEA.S
      have hMe := hEA.M
      have hplA := hVA.2.1 s (by omega)
      have hB2 : rf_n ((rf_lie (rf_lose w s (rf_takes w s good - 1)) (nI (rf_takes w s good - 1)) (rf_pl (rf_lose w s (rf_takes w s good - 1)) s) (nI s)) 7) 2147483647 := by rw [rf_lie_out (by omega) (by omega) hVA.2.2.2.2.1.2.2.1.2, rf_lose_out hp1 hk13 (by omega)]; exact hB
      refine am_hp (show (am_row (am_row (am_row (am_row h 47 ((cl_fg (h 47) w s (rf_takes w s good - 1) (rf_kn w s)).1)) 44 (upd (h 44) s (nI (rf_kn w s - 1)))) 45 (upd (h 45) s (rf_known w s &&& ((nI 1 <<< (nI (rf_takes w s good - 1) &&& 31)) ^^^ (-1))))) 46 (upd (h 46) s (rf_usable w (rf_known w s &&& ((nI 1 <<< (nI (rf_takes w s good - 1) &&& 31)) ^^^ (-1)))))) = gA from hzgA.symm) ?_
      refine am_aload_n (pc := 82) C dX10_hit_82 rfl ?_
      refine am_getR (pc := 83) (j := 41) C dX10_hit_83 f10_22 bn_40 sh_40 (rf_40_2 hR) ?_
      refine am_iload (pc := 86) C dX10_hit_86 rfl ?_
      refine am_aload_n (pc := 88) C dX10_hit_88 rfl ?_
      refine am_getR (pc := 89) (j := 41) C dX10_hit_89 f10_22 bn_40 sh_40 (rf_40_2 hR) ?_
      refine am_getR (pc := 92) (j := 43) C dX10_hit_92 f10_48 bn_41 sh_41 (rf_41_6 hR) ?_
      refine am_iload_n (pc := 95) C dX10_hit_95 rfl ?_
      refine am_callSNi (Y := mX11_pick) (pc := 96) (st := [.int (nI (rf_takes w s good - 1)), .ref 41]) (As := [.ref 43, .int (nI s)]) (x := ((gA 43) s)) (h2 := gA) C dX10_hit_96 k10_54 v_X11_pick rfl rfl (by decide) (Nat.zero_le _) (Nat.zero_le _) (Nat.le_of_ble_eq_true rfl) (c_X11_pick 43 s 10 bn_43 sh_43 (show s < 10 from by omega) (by decide)) ?_
      refine am_top (show ((gA 43) s) = (rf_pl (rf_lose w s (rf_takes w s good - 1)) s) from (hSA.2.1 s (by omega)).2.1) ?_
      refine am_iload_n (pc := 99) C dX10_hit_99 rfl ?_
      refine am_callVvr (Y := mX5_layDown) (pc := 100) (st := []) (As := [.int (nI (rf_takes w s good - 1)), .int (rf_pl (rf_lose w s (rf_takes w s good - 1)) s), .int (nI s)]) (PP := fun c9 => cl_Sc c9 41 (rf_lie (rf_lose w s (rf_takes w s good - 1)) (nI (rf_takes w s good - 1)) (rf_pl (rf_lose w s (rf_takes w s good - 1)) s) (nI s)) ∧ cl_fr (gA) c9 41 15) C dX10_hit_100 k10_121 v_X5_layDown rfl rfl bn_41 sh_41 ⟨by decide, rfl⟩ (by decide) (Nat.zero_le _) (Nat.zero_le _) (Nat.le_of_ble_eq_true rfl) (c_X5_layDown_p hR (nI (rf_takes w s good - 1)) (rf_pl (rf_lose w s (rf_takes w s good - 1)) s) (nI s) (rf_lose w s (rf_takes w s good - 1)) hVA hSA) (fun g100_3 hg100_3 => ?_)
      obtain ⟨S100, F100⟩ := hg100_3
      have V100 := rf_I_lie (m := nI (rf_takes w s good - 1)) (p := rf_pl (rf_lose w s (rf_takes w s good - 1)) s) (x := nI s) hVA (rf_n_mk (by omega) (by omega)) (hplA.2.2.2.1 _ hplA.2.2.1.2) (rf_n_mk (by omega) (by omega))
      refine am_aload_n (pc := 103) C dX10_hit_103 rfl ?_
      refine am_getR (pc := 104) (j := 41) C dX10_hit_104 f10_22 bn_40 sh_40 (rf_40_2 hR) ?_
      refine am_iload_n (pc := 107) C dX10_hit_107 rfl ?_
      refine am_iload_n (pc := 108) C dX10_hit_108 rfl ?_
      refine am_iload (pc := 109) C dX10_hit_109 rfl ?_
      refine am_iload_n (pc := 111) C dX10_hit_111 rfl ?_
      refine am_callVvr (Y := mX5_writeRow) (pc := 112) (st := []) (As := [.int (nI b), .int (nI s), .int (nI (rf_takes w s good - 1)), .int (am_b good)]) (PP := fun c9 => cl_Sc c9 41 (rf_logs (rf_lie (rf_lose w s (rf_takes w s good - 1)) (nI (rf_takes w s good - 1)) (rf_pl (rf_lose w s (rf_takes w s good - 1)) s) (nI s)) (nI b) (nI s) (nI (rf_takes w s good - 1)) good) ∧ cl_fr (g100_3) c9 41 15) C dX10_hit_112 k10_125 v_X5_writeRow rfl rfl bn_41 sh_41 ⟨by decide, rfl⟩ (by decide) (Nat.zero_le _) (Nat.zero_le _) (Nat.le_of_ble_eq_true rfl) (c_X5_writeRow_p hR (nI b) (nI s) (nI (rf_takes w s good - 1)) good (rf_lie (rf_lose w s (rf_takes w s good - 1)) (nI (rf_takes w s good - 1)) (rf_pl (rf_lose w s (rf_takes w s good - 1)) s) (nI s)) V100 S100 (show rf_n ((rf_lie (rf_lose w s (rf_takes w s good - 1)) (nI (rf_takes w s good - 1)) (rf_pl (rf_lose w s (rf_takes w s good - 1)) s) (nI s)) 7) 2147483647 from hB2)) (fun g112_4 hg112_4 => ?_)
      obtain ⟨S112, F112⟩ := hg112_4
      refine am_iload (pc := 115) C dX10_hit_115 rfl ?_
      exact am_iretir T dX10_hit_117 rfl (Nat.le_refl _) (Nat.le_refl _) rfl rfl ⟨S112, (fun i h9 => (F112 i h9).trans ((F100 i h9).trans (hFA i h9)))⟩
    · skip
      exact absurd q38 (by omega)

set_option maxHeartbeats 400000 in
set_option maxRecDepth 100000 in
theorem c_X10_goOn_p {ad : Nat → Nat} {r : am_R} (hR : am_rs r) {h : am_H} (s : Nat) (w : rf_W) (hV : rf_I w) (hLo : cl_Lo (h) 4 w) (hSc : cl_Sc (h) 41 w) (hs : s < rf_S w)  : am_CM mX10_goOn 1 0 0 [.ref 40, .int (nI s)] (am_VV ad) r h (am_pr none r (fun c9 => cl_Sc c9 41 (upd w (61 + 23 * s + 1) (nI ((rf_ofn w s 1 + 1) % rf_ofn w s 2))) ∧ cl_fr (h) c9 41 15)) := by
  refine am_CM.of (by decide +kernel) (Nat.le_of_ble_eq_true rfl) (fun X C T => ?_)
  show am_G X (am_VV ad) (0, 0) 0 [(0, .ref 40), (1, .int (nI s))] [] r h
  have hM9 : rf_M w < 17 := hV.1.1.2
  have hS9 : rf_S w < 11 := hV.1.2.1.2
  have hO9 : rf_O w < 11 := hV.1.2.2.2
  have hIs := hV.2.1 s hs
  have hn7 : rf_ofn w s 2 < 7 := hIs.2.1.2
  have h1n : rf_ofn w s 1 < rf_ofn w s 2 := hIs.2.2.1.2
  have hmd : ((rf_ofn w s 1 + 1) % rf_ofn w s 2) < rf_ofn w s 2 := Nat.mod_lt _ (by omega)
  refine am_aload_n (pc := 0) C dX10_goOn_0 rfl ?_
  refine am_getR (pc := 1) (j := 41) C dX10_goOn_1 f10_22 bn_40 sh_40 (rf_40_2 hR) ?_
  refine am_getR (pc := 4) (j := 42) C dX10_goOn_4 f10_40 bn_41 sh_41 (rf_41_5 hR) ?_
  refine am_iload_n (pc := 7) C dX10_goOn_7 rfl ?_
  refine am_callSNi (Y := mX11_pick) (pc := 8) (st := []) (As := [.ref 42, .int (nI s)]) (x := ((h 42) s)) (h2 := h) C dX10_goOn_8 k10_54 v_X11_pick rfl rfl (by decide) (Nat.zero_le _) (Nat.zero_le _) (Nat.le_of_ble_eq_true rfl) (c_X11_pick 42 s 10 bn_42 sh_42 (show s < 10 from by omega) (by decide)) ?_
  refine am_top (show ((h 42) s) = (nI (rf_ofn w s 1)) from ((hSc.2.1 s (by omega)).1.trans (hV.2.1 s (by omega)).2.2.1.1)) ?_
  refine am_iconstN (pc := 11) (k := 1) C dX10_goOn_11 ?_
  refine am_iaddN (pc := 12) C dX10_goOn_12 ?_
  refine am_istore_n (pc := 13) (ls' := [(0, .ref 40), (1, .int (nI s)), (2, .int (nI ((rf_ofn w s 1) + 1)))]) C dX10_goOn_13 (by decide) rfl ?_
  refine am_iload_n (pc := 14) C dX10_goOn_14 rfl ?_
  refine am_aload_n (pc := 15) C dX10_goOn_15 rfl ?_
  refine am_getR (pc := 16) (j := 4) C dX10_goOn_16 f10_9 bn_40 sh_40 (rf_40_0 hR) ?_
  refine am_getR (pc := 19) (j := 12) C dX10_goOn_19 f10_79 bn_4 sh_4 (rf_4_11 hR) ?_
  refine am_iload_n (pc := 22) C dX10_goOn_22 rfl ?_
  refine am_callSNi (Y := mX11_pick) (pc := 23) (st := [.int (nI ((rf_ofn w s 1) + 1))]) (As := [.ref 12, .int (nI s)]) (x := ((h 12) s)) (h2 := h) C dX10_goOn_23 k10_54 v_X11_pick rfl rfl (by decide) (Nat.zero_le _) (Nat.zero_le _) (Nat.le_of_ble_eq_true rfl) (c_X11_pick 12 s 10 bn_12 sh_12 (show s < 10 from by omega) (by decide)) ?_
  refine am_top (show ((h 12) s) = (nI (rf_ofn w s 2)) from ((hLo.2.2.1 s (by omega)).2.2.1.trans (hV.2.1 s (by omega)).2.1.1)) ?_
  refine am_icmp_ltN (pc := 26) (tgt := 31) C dX10_goOn_26 (by decide) (by omega) (by omega) (fun q26 => ?_) (fun q26 => ?_)
  · skip
    refine am_lsv (ls' := [(0, .ref 40), (1, .int (nI s)), (2, .int (nI ((rf_ofn w s 1 + 1) % rf_ofn w s 2)))]) (congrArg (fun z9 : Int32 => ([(0, .ref 40), (1, .int (nI s)), (2, Value.int z9)] : List (Nat × Value))) (show (nI ((rf_ofn w s 1) + 1)) = (nI ((rf_ofn w s 1 + 1) % rf_ofn w s 2)) from (congrArg nI (Nat.mod_eq_of_lt q26).symm))) ?_
    refine am_aload_n (pc := 31) C dX10_goOn_31 rfl ?_
    refine am_getR (pc := 32) (j := 41) C dX10_goOn_32 f10_22 bn_40 sh_40 (rf_40_2 hR) ?_
    refine am_getR (pc := 35) (j := 42) C dX10_goOn_35 f10_40 bn_41 sh_41 (rf_41_5 hR) ?_
    refine am_iload_n (pc := 38) C dX10_goOn_38 rfl ?_
    refine am_iload_n (pc := 39) C dX10_goOn_39 rfl ?_
    refine am_callSNv (Y := mX11_put) (pc := 40) (st := []) (As := [.ref 42, .int (nI s), .int (nI ((rf_ofn w s 1 + 1) % rf_ofn w s 2))]) (h2 := (am_row h 42 (upd (h 42) s (nI ((rf_ofn w s 1 + 1) % rf_ofn w s 2))))) C dX10_goOn_40 k10_44 v_X11_put rfl rfl (by decide) (Nat.zero_le _) (Nat.zero_le _) (Nat.le_of_ble_eq_true rfl) (c_X11_put 42 s (nI ((rf_ofn w s 1 + 1) % rf_ofn w s 2)) 10 bn_42 sh_42 (show s < 10 from by omega) (by decide)) ?_
    refine am_aload_n (pc := 43) C dX10_goOn_43 rfl ?_
    refine am_getR (pc := 44) (j := 41) C dX10_goOn_44 f10_22 bn_40 sh_40 (rf_40_2 hR) ?_
    refine am_getR (pc := 47) (j := 43) C dX10_goOn_47 f10_48 bn_41 sh_41 (rf_41_6 hR) ?_
    refine am_iload_n (pc := 50) C dX10_goOn_50 rfl ?_
    refine am_aload_n (pc := 51) C dX10_goOn_51 rfl ?_
    refine am_getR (pc := 52) (j := 4) C dX10_goOn_52 f10_9 bn_40 sh_40 (rf_40_0 hR) ?_
    refine am_getR (pc := 55) (j := 13) C dX10_goOn_55 f10_51 bn_4 sh_4 (rf_4_12 hR) ?_
    refine am_iload_n (pc := 58) C dX10_goOn_58 rfl ?_
    refine am_bipush (pc := 59) (v := nI 6) C dX10_goOn_59 (by decide) ?_
    refine am_imulN (pc := 61) C dX10_goOn_61 ?_
    refine am_iload_n (pc := 62) C dX10_goOn_62 rfl ?_
    refine am_iaddN (pc := 63) C dX10_goOn_63 ?_
    refine am_callSNi (Y := mX11_pick) (pc := 64) (st := [.int (nI s), .ref 43]) (As := [.ref 13, .int (nI ((s * 6) + ((rf_ofn w s 1 + 1) % rf_ofn w s 2)))]) (x := ((h 13) ((s * 6) + ((rf_ofn w s 1 + 1) % rf_ofn w s 2)))) (h2 := (am_row h 42 (upd (h 42) s (nI ((rf_ofn w s 1 + 1) % rf_ofn w s 2))))) C dX10_goOn_64 k10_54 v_X11_pick rfl rfl (by decide) (Nat.zero_le _) (Nat.zero_le _) (Nat.le_of_ble_eq_true rfl) (c_X11_pick 13 ((s * 6) + ((rf_ofn w s 1 + 1) % rf_ofn w s 2)) 60 bn_13 sh_13 (show (s * 6) + ((rf_ofn w s 1 + 1) % rf_ofn w s 2) < 60 from by omega) (by decide)) ?_
    refine am_top (show ((h 13) ((s * 6) + ((rf_ofn w s 1 + 1) % rf_ofn w s 2))) = (rf_of w s (3 + ((rf_ofn w s 1 + 1) % rf_ofn w s 2))) from ((hLo.2.2.1 s hs).2.2.2 _ hmd)) ?_
    refine am_callSNv (Y := mX11_put) (pc := 67) (st := []) (As := [.ref 43, .int (nI s), .int (rf_of w s (3 + ((rf_ofn w s 1 + 1) % rf_ofn w s 2)))]) (h2 := (am_row (am_row h 42 (upd (h 42) s (nI ((rf_ofn w s 1 + 1) % rf_ofn w s 2)))) 43 (upd (h 43) s (rf_of w s (3 + ((rf_ofn w s 1 + 1) % rf_ofn w s 2)))))) C dX10_goOn_67 k10_44 v_X11_put rfl rfl (by decide) (Nat.zero_le _) (Nat.zero_le _) (Nat.le_of_ble_eq_true rfl) (c_X11_put 43 s (rf_of w s (3 + ((rf_ofn w s 1 + 1) % rf_ofn w s 2))) 10 bn_43 sh_43 (show s < 10 from by omega) (by decide)) ?_
    exact am_vretvr T dX10_goOn_70 rfl (Nat.le_refl _) (Nat.le_refl _) rfl ⟨(cl_Sc_at (h' := (am_row (am_row h 42 (upd (h 42) s (nI ((rf_ofn w s 1 + 1) % rf_ofn w s 2)))) 43 (upd (h 43) s (rf_of w s (3 + ((rf_ofn w s 1 + 1) % rf_ofn w s 2)))))) hV hs hmd hSc rfl rfl rfl (fun i h7 g7 => by rw [am_row_ne _ _ _ (by omega), am_row_ne _ _ _ (by omega)])).1, (fun i9 h9 => by rw [am_row_ne _ _ _ (by omega), am_row_ne _ _ _ (by omega)])⟩
  · skip
    refine am_iconstN (pc := 29) (k := 0) C dX10_goOn_29 ?_
    refine am_istore_n (pc := 30) (ls' := [(0, .ref 40), (1, .int (nI s)), (2, .int (nI 0))]) C dX10_goOn_30 (by decide) rfl ?_
    refine am_lsv (ls' := [(0, .ref 40), (1, .int (nI s)), (2, .int (nI ((rf_ofn w s 1 + 1) % rf_ofn w s 2)))]) (congrArg (fun z9 : Int32 => ([(0, .ref 40), (1, .int (nI s)), (2, Value.int z9)] : List (Nat × Value))) (show (nI 0) = (nI ((rf_ofn w s 1 + 1) % rf_ofn w s 2)) from (congrArg nI (by rw [show rf_ofn w s 1 + 1 = rf_ofn w s 2 by omega, Nat.mod_self])))) ?_
    refine am_aload_n (pc := 31) C dX10_goOn_31 rfl ?_
    refine am_getR (pc := 32) (j := 41) C dX10_goOn_32 f10_22 bn_40 sh_40 (rf_40_2 hR) ?_
    refine am_getR (pc := 35) (j := 42) C dX10_goOn_35 f10_40 bn_41 sh_41 (rf_41_5 hR) ?_
    refine am_iload_n (pc := 38) C dX10_goOn_38 rfl ?_
    refine am_iload_n (pc := 39) C dX10_goOn_39 rfl ?_
    refine am_callSNv (Y := mX11_put) (pc := 40) (st := []) (As := [.ref 42, .int (nI s), .int (nI ((rf_ofn w s 1 + 1) % rf_ofn w s 2))]) (h2 := (am_row h 42 (upd (h 42) s (nI ((rf_ofn w s 1 + 1) % rf_ofn w s 2))))) C dX10_goOn_40 k10_44 v_X11_put rfl rfl (by decide) (Nat.zero_le _) (Nat.zero_le _) (Nat.le_of_ble_eq_true rfl) (c_X11_put 42 s (nI ((rf_ofn w s 1 + 1) % rf_ofn w s 2)) 10 bn_42 sh_42 (show s < 10 from by omega) (by decide)) ?_
    refine am_aload_n (pc := 43) C dX10_goOn_43 rfl ?_
    refine am_getR (pc := 44) (j := 41) C dX10_goOn_44 f10_22 bn_40 sh_40 (rf_40_2 hR) ?_
    refine am_getR (pc := 47) (j := 43) C dX10_goOn_47 f10_48 bn_41 sh_41 (rf_41_6 hR) ?_
    refine am_iload_n (pc := 50) C dX10_goOn_50 rfl ?_
    refine am_aload_n (pc := 51) C dX10_goOn_51 rfl ?_
    refine am_getR (pc := 52) (j := 4) C dX10_goOn_52 f10_9 bn_40 sh_40 (rf_40_0 hR) ?_
    refine am_getR (pc := 55) (j := 13) C dX10_goOn_55 f10_51 bn_4 sh_4 (rf_4_12 hR) ?_
    refine am_iload_n (pc := 58) C dX10_goOn_58 rfl ?_
    refine am_bipush (pc := 59) (v := nI 6) C dX10_goOn_59 (by decide) ?_
    refine am_imulN (pc := 61) C dX10_goOn_61 ?_
    refine am_iload_n (pc := 62) C dX10_goOn_62 rfl ?_
    refine am_iaddN (pc := 63) C dX10_goOn_63 ?_
    refine am_callSNi (Y := mX11_pick) (pc := 64) (st := [.int (nI s), .ref 43]) (As := [.ref 13, .int (nI ((s * 6) + ((rf_ofn w s 1 + 1) % rf_ofn w s 2)))]) (x := ((h 13) ((s * 6) + ((rf_ofn w s 1 + 1) % rf_ofn w s 2)))) (h2 := (am_row h 42 (upd (h 42) s (nI ((rf_ofn w s 1 + 1) % rf_ofn w s 2))))) C dX10_goOn_64 k10_54 v_X11_pick rfl rfl (by decide) (Nat.zero_le _) (Nat.zero_le _) (Nat.le_of_ble_eq_true rfl) (c_X11_pick 13 ((s * 6) + ((rf_ofn w s 1 + 1) % rf_ofn w s 2)) 60 bn_13 sh_13 (show (s * 6) + ((rf_ofn w s 1 + 1) % rf_ofn w s 2) < 60 from by omega) (by decide)) ?_
    refine am_top (show ((h 13) ((s * 6) + ((rf_ofn w s 1 + 1) % rf_ofn w s 2))) = (rf_of w s (3 + ((rf_ofn w s 1 + 1) % rf_ofn w s 2))) from ((hLo.2.2.1 s hs).2.2.2 _ hmd)) ?_
    refine am_callSNv (Y := mX11_put) (pc := 67) (st := []) (As := [.ref 43, .int (nI s), .int (rf_of w s (3 + ((rf_ofn w s 1 + 1) % rf_ofn w s 2)))]) (h2 := (am_row (am_row h 42 (upd (h 42) s (nI ((rf_ofn w s 1 + 1) % rf_ofn w s 2)))) 43 (upd (h 43) s (rf_of w s (3 + ((rf_ofn w s 1 + 1) % rf_ofn w s 2)))))) C dX10_goOn_67 k10_44 v_X11_put rfl rfl (by decide) (Nat.zero_le _) (Nat.zero_le _) (Nat.le_of_ble_eq_true rfl) (c_X11_put 43 s (rf_of w s (3 + ((rf_ofn w s 1 + 1) % rf_ofn w s 2))) 10 bn_43 sh_43 (show s < 10 from by omega) (by decide)) ?_
    exact am_vretvr T dX10_goOn_70 rfl (Nat.le_refl _) (Nat.le_refl _) rfl ⟨(cl_Sc_at (h' := (am_row (am_row h 42 (upd (h 42) s (nI ((rf_ofn w s 1 + 1) % rf_ofn w s 2)))) 43 (upd (h 43) s (rf_of w s (3 + ((rf_ofn w s 1 + 1) % rf_ofn w s 2)))))) hV hs hmd hSc rfl rfl rfl (fun i h7 g7 => by rw [am_row_ne _ _ _ (by omega), am_row_ne _ _ _ (by omega)])).1, (fun i9 h9 => by rw [am_row_ne _ _ _ (by omega), am_row_ne _ _ _ (by omega)])⟩

set_option maxHeartbeats 400000 in
set_option maxRecDepth 100000 in
theorem c_X10_readAloud_p {ad : Nat → Nat} {r : am_R} (hR : am_rs r) {h : am_H} (s : Nat) (w : rf_W) (hV : rf_I w) (hLo : cl_Lo (h) 4 w) (hSc : cl_Sc (h) 41 w) (hs : s < rf_S w)  : am_CM mX10_readAloud 5 0 0 [.ref 40, .int (nI s)] (am_VV ad) r h (am_pr (some (.int (nI ((rf_read w s).2)))) r (fun c9 => cl_Sc c9 41 (rf_read w s).1 ∧ cl_fr (h) c9 41 15)) := by
  refine am_CM.of (by decide +kernel) (Nat.le_of_ble_eq_true rfl) (fun X C T => ?_)
  show am_G X (am_VV ad) (0, 0) 0 [(0, .ref 40), (1, .int (nI s))] [] r h
  have hM9 : rf_M w < 17 := hV.1.1.2
  have hS9 : rf_S w < 11 := hV.1.2.1.2
  have hO9 : rf_O w < 11 := hV.1.2.2.2
  refine am_aload_n (pc := 0) C dX10_readAloud_0 rfl ?_
  refine am_getR (pc := 1) (j := 41) C dX10_readAloud_1 f10_22 bn_40 sh_40 (rf_40_2 hR) ?_
  refine am_getI (pc := 4) C dX10_readAloud_4 f10_100 bn_41 sh_41 ?_
  refine am_top (show ((h 41) 3) = (w 8) from hSc.1.2.2.2.1) ?_
  refine am_istore_n (pc := 7) (ls' := [(0, .ref 40), (1, .int (nI s)), (2, .int (w 8))]) C dX10_readAloud_7 (by decide) rfl ?_
  refine am_aload_n (pc := 8) C dX10_readAloud_8 rfl ?_
  refine am_getR (pc := 9) (j := 4) C dX10_readAloud_9 f10_9 bn_40 sh_40 (rf_40_0 hR) ?_
  refine am_getR (pc := 12) (j := 11) C dX10_readAloud_12 f10_135 bn_4 sh_4 (rf_4_10 hR) ?_
  refine am_iload_n (pc := 15) C dX10_readAloud_15 rfl ?_
  refine am_callSNi (Y := mX11_pick) (pc := 16) (st := []) (As := [.ref 11, .int (nI s)]) (x := ((h 11) s)) (h2 := h) C dX10_readAloud_16 k10_54 v_X11_pick rfl rfl (by decide) (Nat.zero_le _) (Nat.zero_le _) (Nat.le_of_ble_eq_true rfl) (c_X11_pick 11 s 10 bn_11 sh_11 (show s < 10 from by omega) (by decide)) ?_
  refine am_top (show ((h 11) s) = (rf_of w s 22) from (hLo.2.2.1 s (by omega)).2.1) ?_
  refine am_istore_n (pc := 19) (ls' := [(0, .ref 40), (1, .int (nI s)), (2, .int (w 8)), (3, .int (rf_of w s 22))]) C dX10_readAloud_19 (by decide) rfl ?_
  refine am_iconstN (pc := 20) (k := 0) C dX10_readAloud_20 ?_
  refine am_istore (pc := 21) (ls' := [(0, .ref 40), (1, .int (nI s)), (2, .int (w 8)), (3, .int (rf_of w s 22)), (4, .int (nI 0))]) C dX10_readAloud_21 (by decide) rfl ?_
  have L23 : ∀ (j23 : Nat) (g : am_H) (o : Nat), (hoj : o + j23 = rf_S w) → (hS9 : cl_Sc g 41 (rf_rd2 (rf_sideIn w (rf_of w s 0) (rf_pl w s)) s (rf_M w) o (w, 0)).1) → (hF : cl_fr h g 41 15) → am_G X (am_VV ad) (0, 0) 23 [(0, .ref 40), (1, .int (nI s)), (2, .int (w 8)), (3, .int (rf_of w s 22)), (4, .int (nI o))] [] r g := by
    intro j23
    induction j23 with
    | zero =>
      intro g o hoj hS9 hF
      obtain ⟨rdI, rdE, rd8⟩ := rf_rd2_el (s := s) hV o (by omega)
      have L9 := cl_Lo_Es hV rdE.es (cl_Lo_eq (fun i h1 h2 => hF i (by omega)) hLo)
      refine am_iload (pc := 23) C dX10_readAloud_23 rfl ?_
      refine am_aload_n (pc := 25) C dX10_readAloud_25 rfl ?_
      refine am_getR (pc := 26) (j := 4) C dX10_readAloud_26 f10_9 bn_40 sh_40 (rf_40_0 hR) ?_
      refine am_getI (pc := 29) C dX10_readAloud_29 f10_138 bn_4 sh_4 ?_
      refine am_top (show ((g 4) 2) = (nI (rf_S ((rf_rd2 (rf_sideIn w (rf_of w s 0) (rf_pl w s)) s (rf_M w) o (w, 0)).1))) from (L9.1.2.2.1.trans rdI.1.2.1.1)) ?_
      refine am_top (show (nI (rf_S ((rf_rd2 (rf_sideIn w (rf_of w s 0) (rf_pl w s)) s (rf_M w) o (w, 0)).1))) = (nI (rf_S w)) from (congrArg nI rdE.es.S)) ?_
      refine am_icmp_geN (pc := 32) (tgt := 92) C dX10_readAloud_32 (by decide) (by omega) (by omega) (fun q32 => ?_) (fun q32 => ?_)
      · skip
        refine am_aload_n (pc := 92) C dX10_readAloud_92 rfl ?_
        refine am_getR (pc := 93) (j := 41) C dX10_readAloud_93 f10_22 bn_40 sh_40 (rf_40_2 hR) ?_
        refine am_getI (pc := 96) C dX10_readAloud_96 f10_100 bn_41 sh_41 ?_
        refine am_top (show ((g 41) 3) = (((rf_rd2 (rf_sideIn w (rf_of w s 0) (rf_pl w s)) s (rf_M w) o (w, 0)).1) 8) from hS9.1.2.2.2.1) ?_
        refine am_top (show (((rf_rd2 (rf_sideIn w (rf_of w s 0) (rf_pl w s)) s (rf_M w) o (w, 0)).1) 8) = (w 8 + nI (rf_read w s).2) from (rd8.trans (by rw [show o = rf_S w by omega]; rfl))) ?_
        refine am_iload_n (pc := 99) C dX10_readAloud_99 rfl ?_
        refine am_isub (pc := 100) C dX10_readAloud_100 ?_
        refine am_top (show ((w 8 + nI (rf_read w s).2) - (w 8)) = (nI ((rf_read w s).2)) from (rf_add_sub _ _)) ?_
        exact am_iretir T dX10_readAloud_101 rfl (Nat.le_refl _) (Nat.le_refl _) rfl rfl ⟨by rw [show (rf_read w s).1 = (rf_rd2 (rf_sideIn w (rf_of w s 0) (rf_pl w s)) s (rf_M w) o (w, 0)).1 from by rw [show o = rf_S w by omega]; rfl]; exact hS9, hF⟩
      · skip
        exact absurd hoj (by omega)
    | succ j23 ih23 =>
      intro g o hoj hS9 hF
      obtain ⟨rdI, rdE, rd8⟩ := rf_rd2_el (s := s) hV o (by omega)
      have L9 := cl_Lo_Es hV rdE.es (cl_Lo_eq (fun i h1 h2 => hF i (by omega)) hLo)
      have hMe := rdE.es.M
      have hSe := rdE.es.S
      have hst := rf_rd_step (s := s) (o := o) hV hs (by omega)
      refine am_iload (pc := 23) C dX10_readAloud_23 rfl ?_
      refine am_aload_n (pc := 25) C dX10_readAloud_25 rfl ?_
      refine am_getR (pc := 26) (j := 4) C dX10_readAloud_26 f10_9 bn_40 sh_40 (rf_40_0 hR) ?_
      refine am_getI (pc := 29) C dX10_readAloud_29 f10_138 bn_4 sh_4 ?_
      refine am_top (show ((g 4) 2) = (nI (rf_S ((rf_rd2 (rf_sideIn w (rf_of w s 0) (rf_pl w s)) s (rf_M w) o (w, 0)).1))) from (L9.1.2.2.1.trans rdI.1.2.1.1)) ?_
      refine am_top (show (nI (rf_S ((rf_rd2 (rf_sideIn w (rf_of w s 0) (rf_pl w s)) s (rf_M w) o (w, 0)).1))) = (nI (rf_S w)) from (congrArg nI rdE.es.S)) ?_
      refine am_icmp_geN (pc := 32) (tgt := 92) C dX10_readAloud_32 (by decide) (by omega) (by omega) (fun q32 => ?_) (fun q32 => ?_)
      · skip
        exact absurd q32 (by omega)
      · skip
        refine am_iload_n (pc := 35) C dX10_readAloud_35 rfl ?_
        refine am_aload_n (pc := 36) C dX10_readAloud_36 rfl ?_
        refine am_getR (pc := 37) (j := 41) C dX10_readAloud_37 f10_22 bn_40 sh_40 (rf_40_2 hR) ?_
        refine am_getR (pc := 40) (j := 45) C dX10_readAloud_40 f10_61 bn_41 sh_41 (rf_41_8 hR) ?_
        refine am_iload (pc := 43) C dX10_readAloud_43 rfl ?_
        refine am_callSNi (Y := mX11_pick) (pc := 45) (st := [.int (rf_of w s 22)]) (As := [.ref 45, .int (nI o)]) (x := ((g 45) o)) (h2 := g) C dX10_readAloud_45 k10_54 v_X11_pick rfl rfl (by decide) (Nat.zero_le _) (Nat.zero_le _) (Nat.le_of_ble_eq_true rfl) (c_X11_pick 45 o 10 bn_45 sh_45 (show o < 10 from by omega) (by decide)) ?_
        refine am_top (show ((g 45) o) = (rf_known ((rf_rd2 (rf_sideIn w (rf_of w s 0) (rf_pl w s)) s (rf_M w) o (w, 0)).1) o) from (hS9.2.1 o (by omega)).2.2.2.1) ?_
        refine am_iconst (pc := 48) (v := -1) C dX10_readAloud_48 rfl ?_
        refine am_ixor (pc := 49) C dX10_readAloud_49 ?_
        refine am_iand (pc := 50) C dX10_readAloud_50 ?_
        refine am_istore (pc := 51) (ls' := [(0, .ref 40), (1, .int (nI s)), (2, .int (w 8)), (3, .int (rf_of w s 22)), (4, .int (nI o)), (5, .int ((rf_of w s 22) &&& ((rf_known ((rf_rd2 (rf_sideIn w (rf_of w s 0) (rf_pl w s)) s (rf_M w) o (w, 0)).1) o) ^^^ (-1))))]) C dX10_readAloud_51 (by decide) rfl ?_
        refine am_iload (pc := 53) C dX10_readAloud_53 rfl ?_
        refine am_if_eq (pc := 55) (tgt := 86) C dX10_readAloud_55 (by decide) (fun q55 => ?_) (fun q55 => ?_)
        · skip
          refine am_iincN (pc := 86) (ls' := [(0, .ref 40), (1, .int (nI s)), (2, .int (w 8)), (3, .int (rf_of w s 22)), (4, .int (nI (o + 1))), (5, .int ((rf_of w s 22) &&& ((rf_known ((rf_rd2 (rf_sideIn w (rf_of w s 0) (rf_pl w s)) s (rf_M w) o (w, 0)).1) o) ^^^ (-1))))]) C dX10_readAloud_86 rfl (am_up1 _) (by decide) rfl ?_
          refine am_goto (pc := 89) (tgt := 23) C dX10_readAloud_89 (by decide) ?_
          refine am_sub (ls' := [(0, .ref 40), (1, .int (nI s)), (2, .int (w 8)), (3, .int (rf_of w s 22)), (4, .int (nI (o + 1)))]) (by intro q hq; simp only [List.mem_cons, List.not_mem_nil, or_false] at hq ⊢; rcases hq with rfl | rfl | rfl | rfl | rfl <;> simp) ?_
          exact ih23 g (o + 1) (by omega) (by rw [hst, rf_la_0 q55, ite_self]; exact hS9) hF
        · skip
          refine am_aload_n (pc := 58) C dX10_readAloud_58 rfl ?_
          refine am_iload_n (pc := 59) C dX10_readAloud_59 rfl ?_
          refine am_iload (pc := 60) C dX10_readAloud_60 rfl ?_
          refine am_callVi (Y := mX10_ofOneSide) (pc := 62) (st := []) (As := [.int (nI s), .int (nI o)]) (x := (am_b (decide (rf_of ((rf_rd2 (rf_sideIn w (rf_of w s 0) (rf_pl w s)) s (rf_M w) o (w, 0)).1) s 0 = rf_of ((rf_rd2 (rf_sideIn w (rf_of w s 0) (rf_pl w s)) s (rf_M w) o (w, 0)).1) o 0)))) (h2 := g) C dX10_readAloud_62 k10_141 v_X10_ofOneSide rfl rfl bn_40 sh_40 ⟨by decide, rfl⟩ (by decide) (Nat.zero_le _) (Nat.zero_le _) (Nat.le_of_ble_eq_true rfl) (c_X10_ofOneSide_p hR s o ((rf_rd2 (rf_sideIn w (rf_of w s 0) (rf_pl w s)) s (rf_M w) o (w, 0)).1) rdI L9 hS9 (show s < rf_S ((rf_rd2 (rf_sideIn w (rf_of w s 0) (rf_pl w s)) s (rf_M w) o (w, 0)).1) from (by omega)) (show o < rf_S ((rf_rd2 (rf_sideIn w (rf_of w s 0) (rf_pl w s)) s (rf_M w) o (w, 0)).1) from (by omega))) ?_
          refine am_if_eqB (pc := 65) (tgt := 86) C dX10_readAloud_65 (by decide) (fun q65 => ?_) (fun q65 => ?_)
          · skip
            refine am_iincN (pc := 86) (ls' := [(0, .ref 40), (1, .int (nI s)), (2, .int (w 8)), (3, .int (rf_of w s 22)), (4, .int (nI (o + 1))), (5, .int ((rf_of w s 22) &&& ((rf_known ((rf_rd2 (rf_sideIn w (rf_of w s 0) (rf_pl w s)) s (rf_M w) o (w, 0)).1) o) ^^^ (-1))))]) C dX10_readAloud_86 rfl (am_up1 _) (by decide) rfl ?_
            refine am_goto (pc := 89) (tgt := 23) C dX10_readAloud_89 (by decide) ?_
            refine am_sub (ls' := [(0, .ref 40), (1, .int (nI s)), (2, .int (w 8)), (3, .int (rf_of w s 22)), (4, .int (nI (o + 1)))]) (by intro q hq; simp only [List.mem_cons, List.not_mem_nil, or_false] at hq ⊢; rcases hq with rfl | rfl | rfl | rfl | rfl <;> simp) ?_
            exact ih23 g (o + 1) (by omega) (by rw [hst, if_neg (fun z => of_decide_eq_false q65 z.1)]; exact hS9) hF
          · skip
            refine am_aload_n (pc := 68) C dX10_readAloud_68 rfl ?_
            refine am_iload_n (pc := 69) C dX10_readAloud_69 rfl ?_
            refine am_iload (pc := 70) C dX10_readAloud_70 rfl ?_
            refine am_callVi (Y := mX10_together) (pc := 72) (st := []) (As := [.int (nI s), .int (nI o)]) (x := (am_b (decide (rf_pl ((rf_rd2 (rf_sideIn w (rf_of w s 0) (rf_pl w s)) s (rf_M w) o (w, 0)).1) s = rf_pl ((rf_rd2 (rf_sideIn w (rf_of w s 0) (rf_pl w s)) s (rf_M w) o (w, 0)).1) o)))) (h2 := g) C dX10_readAloud_72 k10_144 v_X10_together rfl rfl bn_40 sh_40 ⟨by decide, rfl⟩ (by decide) (Nat.zero_le _) (Nat.zero_le _) (Nat.le_of_ble_eq_true rfl) (c_X10_together_p hR s o ((rf_rd2 (rf_sideIn w (rf_of w s 0) (rf_pl w s)) s (rf_M w) o (w, 0)).1) rdI L9 hS9 (show s < rf_S ((rf_rd2 (rf_sideIn w (rf_of w s 0) (rf_pl w s)) s (rf_M w) o (w, 0)).1) from (by omega)) (show o < rf_S ((rf_rd2 (rf_sideIn w (rf_of w s 0) (rf_pl w s)) s (rf_M w) o (w, 0)).1) from (by omega))) ?_
            refine am_if_eqB (pc := 75) (tgt := 86) C dX10_readAloud_75 (by decide) (fun q75 => ?_) (fun q75 => ?_)
            · skip
              refine am_iincN (pc := 86) (ls' := [(0, .ref 40), (1, .int (nI s)), (2, .int (w 8)), (3, .int (rf_of w s 22)), (4, .int (nI (o + 1))), (5, .int ((rf_of w s 22) &&& ((rf_known ((rf_rd2 (rf_sideIn w (rf_of w s 0) (rf_pl w s)) s (rf_M w) o (w, 0)).1) o) ^^^ (-1))))]) C dX10_readAloud_86 rfl (am_up1 _) (by decide) rfl ?_
              refine am_goto (pc := 89) (tgt := 23) C dX10_readAloud_89 (by decide) ?_
              refine am_sub (ls' := [(0, .ref 40), (1, .int (nI s)), (2, .int (w 8)), (3, .int (rf_of w s 22)), (4, .int (nI (o + 1)))]) (by intro q hq; simp only [List.mem_cons, List.not_mem_nil, or_false] at hq ⊢; rcases hq with rfl | rfl | rfl | rfl | rfl <;> simp) ?_
              exact ih23 g (o + 1) (by omega) (by rw [hst, if_neg (fun z => of_decide_eq_false q75 z.2)]; exact hS9) hF
            · skip
              refine am_aload_n (pc := 78) C dX10_readAloud_78 rfl ?_
              refine am_iload (pc := 79) C dX10_readAloud_79 rfl ?_
              refine am_iload (pc := 81) C dX10_readAloud_81 rfl ?_
              refine am_callVvr (Y := mX10_learnAll) (pc := 83) (st := []) (As := [.int (nI o), .int ((rf_of w s 22) &&& ((rf_known ((rf_rd2 (rf_sideIn w (rf_of w s 0) (rf_pl w s)) s (rf_M w) o (w, 0)).1) o) ^^^ (-1)))]) (PP := fun c9 => cl_Sc c9 41 (rf_la ((rf_rd2 (rf_sideIn w (rf_of w s 0) (rf_pl w s)) s (rf_M w) o (w, 0)).1) o ((rf_of w s 22) &&& ((rf_known ((rf_rd2 (rf_sideIn w (rf_of w s 0) (rf_pl w s)) s (rf_M w) o (w, 0)).1) o) ^^^ (-1))) (rf_M ((rf_rd2 (rf_sideIn w (rf_of w s 0) (rf_pl w s)) s (rf_M w) o (w, 0)).1))) ∧ cl_fr (g) c9 41 15) C dX10_readAloud_83 k10_147 v_X10_learnAll rfl rfl bn_40 sh_40 ⟨by decide, rfl⟩ (by decide) (Nat.zero_le _) (Nat.zero_le _) (Nat.le_of_ble_eq_true rfl) (c_X10_learnAll_p hR o ((rf_of w s 22) &&& ((rf_known ((rf_rd2 (rf_sideIn w (rf_of w s 0) (rf_pl w s)) s (rf_M w) o (w, 0)).1) o) ^^^ (-1))) ((rf_rd2 (rf_sideIn w (rf_of w s 0) (rf_pl w s)) s (rf_M w) o (w, 0)).1) rdI L9 hS9 (show o < rf_S ((rf_rd2 (rf_sideIn w (rf_of w s 0) (rf_pl w s)) s (rf_M w) o (w, 0)).1) from (by omega))) (fun g83_1 hg83_1 => ?_)
              obtain ⟨S83, F83⟩ := hg83_1
              refine am_iincN (pc := 86) (ls' := [(0, .ref 40), (1, .int (nI s)), (2, .int (w 8)), (3, .int (rf_of w s 22)), (4, .int (nI (o + 1))), (5, .int ((rf_of w s 22) &&& ((rf_known ((rf_rd2 (rf_sideIn w (rf_of w s 0) (rf_pl w s)) s (rf_M w) o (w, 0)).1) o) ^^^ (-1))))]) C dX10_readAloud_86 rfl (am_up1 _) (by decide) rfl ?_
              refine am_goto (pc := 89) (tgt := 23) C dX10_readAloud_89 (by decide) ?_
              refine am_sub (ls' := [(0, .ref 40), (1, .int (nI s)), (2, .int (w 8)), (3, .int (rf_of w s 22)), (4, .int (nI (o + 1)))]) (by intro q hq; simp only [List.mem_cons, List.not_mem_nil, or_false] at hq ⊢; rcases hq with rfl | rfl | rfl | rfl | rfl <;> simp) ?_
              exact ih23 g83_1 (o + 1) (by omega) (by rw [hst, if_pos ⟨of_decide_eq_true q65, of_decide_eq_true q75⟩]; exact (by rw [rdE.es.M] at S83; exact S83)) (fun i h9 => (F83 i h9).trans (hF i h9))
  exact L23 (rf_S w) h 0 (by omega) hSc (fun _ _ => rfl)

set_option maxHeartbeats 400000 in
set_option maxRecDepth 100000 in
theorem c_X5_draw_p {ad : Nat → Nat} {r : am_R} (hR : am_rs r) {h : am_H}  (w : rf_W) (hV : rf_I w) (hSc : cl_Sc (h) 41 w)  : am_CM mX5_draw 0 0 0 [.ref 41] (am_VV ad) r h (am_po (some (.int (nI (rf_dr w)))) r (am_row h 41 (upd (h 41) 1 (rf_seed1 w)))) := by
  refine am_CM.of (by decide +kernel) (Nat.le_of_ble_eq_true rfl) (fun X C T => ?_)
  show am_G X (am_VV ad) (0, 0) 0 [(0, .ref 41)] [] r h
  have hM9 : rf_M w < 17 := hV.1.1.2
  have hS9 : rf_S w < 11 := hV.1.2.1.2
  have hO9 : rf_O w < 11 := hV.1.2.2.2
  refine am_aload_n (pc := 0) C dX5_draw_0 rfl ?_
  refine am_ldci (pc := 1) (v := 1103515245) C dX5_draw_1 (am_mem 1333 (by decide +kernel) rfl) ?_
  refine am_aload_n (pc := 3) C dX5_draw_3 rfl ?_
  refine am_getI (pc := 4) C dX5_draw_4 f5_9 bn_41 sh_41 ?_
  refine am_top (show ((h 41) 1) = (w 10) from hSc.1.2.1) ?_
  refine am_imul (pc := 7) C dX5_draw_7 ?_
  refine am_sipush (pc := 8) (v := nI 12345) C dX5_draw_8 (by decide) ?_
  refine am_iadd (pc := 11) C dX5_draw_11 ?_
  refine am_putI (pc := 12) C dX5_draw_12 f5_9 bn_41 sh_41 rfl rfl ?_
  refine am_hp (show am_up h 41 1 ((1103515245 * (w 10)) + (nI 12345)) = am_row h 41 (upd (h 41) 1 ((1103515245 * (w 10)) + (nI 12345))) from am_up_rw _ _ _ _) ?_
  refine am_aload_n (pc := 15) C dX5_draw_15 rfl ?_
  refine am_getI (pc := 16) C dX5_draw_16 f5_9 bn_41 sh_41 ?_
  refine am_top (show ((upd (h 41) 1 ((1103515245 * (w 10)) + (nI 12345))) 1) = (rf_seed1 w) from rf_upd_eq) ?_
  refine am_bipush (pc := 19) (v := nI 16) C dX5_draw_19 (by decide) ?_
  refine am_ishr (pc := 21) C dX5_draw_21 ?_
  refine am_sipush (pc := 22) (v := nI 32767) C dX5_draw_22 (by decide) ?_
  refine am_iand (pc := 25) C dX5_draw_25 ?_
  refine am_top (show (((rf_seed1 w) >>> ((nI 16) &&& 31)) &&& (nI 32767)) = (nI (rf_dr w)) from (rf_dr_n w).1) ?_
  exact am_ireti T dX5_draw_26 rfl (Nat.le_refl _) (Nat.le_refl _) rfl rfl rfl

set_option maxHeartbeats 400000 in
set_option maxRecDepth 100000 in
theorem c_X5_timesInField_p {ad : Nat → Nat} {r : am_R} (hR : am_rs r) {h : am_H} (m : Int32) (w : rf_W) (hV : rf_I w) (hSc : cl_Sc (h) 41 w)  : am_CM mX5_timesInField 1 0 0 [.ref 41, .int m] (am_VV ad) r h (am_po (some (.int (nI (rf_inField w m)))) r h) := by
  refine am_CM.of (by decide +kernel) (Nat.le_of_ble_eq_true rfl) (fun X C T => ?_)
  show am_G X (am_VV ad) (0, 0) 0 [(0, .ref 41), (1, .int m)] [] r h
  have hM9 : rf_M w < 17 := hV.1.1.2
  have hS9 : rf_S w < 11 := hV.1.2.1.2
  have hO9 : rf_O w < 11 := hV.1.2.2.2
  have hF9 : rf_F w < 41 := hV.2.2.2.2.1.2.2.1.2
  refine am_iconstN (pc := 0) (k := 0) C dX5_timesInField_0 ?_
  refine am_istore_n (pc := 1) (ls' := [(0, .ref 41), (1, .int m), (2, .int (nI 0))]) C dX5_timesInField_1 (by decide) rfl ?_
  refine am_iconstN (pc := 2) (k := 0) C dX5_timesInField_2 ?_
  refine am_istore_n (pc := 3) (ls' := [(0, .ref 41), (1, .int m), (2, .int (nI 0)), (3, .int (nI 0))]) C dX5_timesInField_3 (by decide) rfl ?_
  have L4 : ∀ (j4 i4 : Nat), i4 + j4 = rf_F w → am_G X (am_VV ad) (0, 0) 4 [(0, .ref 41), (1, .int m), (2, .int (nI (rf_cnt (fun k => decide (rf_fld w k 0 = m)) i4))), (3, .int (nI i4))] [] r h := by
    intro j4
    induction j4 with
    | zero =>
      intro i4 hi4 
      obtain rfl : i4 = rf_F w := by omega
      refine am_iload_n (pc := 4) C dX5_timesInField_4 rfl ?_
      refine am_aload_n (pc := 5) C dX5_timesInField_5 rfl ?_
      refine am_getI (pc := 6) C dX5_timesInField_6 f5_67 bn_41 sh_41 ?_
      refine am_top (show ((h 41) 4) = (nI (rf_F w)) from (hSc.1.2.2.2.2.trans hV.2.2.2.2.1.2.2.1.1)) ?_
      refine am_icmp_geN (pc := 9) (tgt := 39) C dX5_timesInField_9 (by decide) (by omega) (by omega) (fun q9 => ?_) (fun q9 => ?_)
      · skip
        refine am_iload_n (pc := 39) C dX5_timesInField_39 rfl ?_
        exact am_ireti T dX5_timesInField_40 rfl (Nat.le_refl _) (Nat.le_refl _) rfl rfl rfl
      · skip
        exact absurd q9 (by omega)
    | succ j4 ih4 =>
      intro i4 hi4 
      have hl4 : i4 < rf_F w := by omega
      have hf40 : i4 < 40 := by omega
      refine am_iload_n (pc := 4) C dX5_timesInField_4 rfl ?_
      refine am_aload_n (pc := 5) C dX5_timesInField_5 rfl ?_
      refine am_getI (pc := 6) C dX5_timesInField_6 f5_67 bn_41 sh_41 ?_
      refine am_top (show ((h 41) 4) = (nI (rf_F w)) from (hSc.1.2.2.2.2.trans hV.2.2.2.2.1.2.2.1.1)) ?_
      refine am_icmp_geN (pc := 9) (tgt := 39) C dX5_timesInField_9 (by decide) (by omega) (by omega) (fun q9 => ?_) (fun q9 => ?_)
      · skip
        exact absurd q9 (by omega)
      · skip
        refine am_iload_n (pc := 12) C dX5_timesInField_12 rfl ?_
        refine am_bipush (pc := 13) (v := nI 40) C dX5_timesInField_13 (by decide) ?_
        refine am_icmp_geN (pc := 15) (tgt := 39) C dX5_timesInField_15 (by decide) (by omega) (by omega) (fun q15 => ?_) (fun q15 => ?_)
        · skip
          exact absurd q15 (by omega)
        · skip
          refine am_aload_n (pc := 18) C dX5_timesInField_18 rfl ?_
          refine am_getR (pc := 19) (j := 48) C dX5_timesInField_19 f5_34 bn_41 sh_41 (rf_41_11 hR) ?_
          refine am_iload_n (pc := 22) C dX5_timesInField_22 rfl ?_
          refine am_callSNi (Y := mX11_pick) (pc := 23) (st := []) (As := [.ref 48, .int (nI i4)]) (x := ((h 48) i4)) (h2 := h) C dX5_timesInField_23 k5_75 v_X11_pick rfl rfl (by decide) (Nat.zero_le _) (Nat.zero_le _) (Nat.le_of_ble_eq_true rfl) (c_X11_pick 48 i4 40 bn_48 sh_48 (show i4 < 40 from by omega) (by decide)) ?_
          refine am_top (show ((h 48) i4) = (rf_fld w i4 0) from (hSc.2.2.1 i4 (by omega)).1) ?_
          refine am_iload_n (pc := 26) C dX5_timesInField_26 rfl ?_
          refine am_icmp_ne (pc := 27) (tgt := 33) C dX5_timesInField_27 (by decide) (fun q25 => ?_) (fun q25 => ?_)
          · skip
            refine am_iincN (pc := 33) (ls' := [(0, .ref 41), (1, .int m), (2, .int (nI (rf_cnt (fun k => decide (rf_fld w k 0 = m)) i4))), (3, .int (nI (i4 + 1)))]) C dX5_timesInField_33 rfl (am_up1 _) (by decide) rfl ?_
            refine am_goto (pc := 36) (tgt := 4) C dX5_timesInField_36 (by decide) ?_
            refine am_lsv (ls' := [(0, .ref 41), (1, .int m), (2, .int (nI (rf_cnt (fun k => decide (rf_fld w k 0 = m)) (i4 + 1)))), (3, .int (nI (i4 + 1)))]) (by rw [show (nI (rf_cnt (fun k => decide (rf_fld w k 0 = m)) i4)) = (nI (rf_cnt (fun k => decide (rf_fld w k 0 = m)) (i4 + 1))) from rf_cnt_f (decide_eq_false q25)]) ?_
            exact ih4 (i4 + 1) (by omega) 
          · skip
            refine am_iincN (pc := 30) (ls' := [(0, .ref 41), (1, .int m), (2, .int (nI (rf_cnt (fun k => decide (rf_fld w k 0 = m)) i4 + 1))), (3, .int (nI i4))]) C dX5_timesInField_30 rfl (am_up1 _) (by decide) rfl ?_
            refine am_iincN (pc := 33) (ls' := [(0, .ref 41), (1, .int m), (2, .int (nI (rf_cnt (fun k => decide (rf_fld w k 0 = m)) i4 + 1))), (3, .int (nI (i4 + 1)))]) C dX5_timesInField_33 rfl (am_up1 _) (by decide) rfl ?_
            refine am_goto (pc := 36) (tgt := 4) C dX5_timesInField_36 (by decide) ?_
            refine am_lsv (ls' := [(0, .ref 41), (1, .int m), (2, .int (nI (rf_cnt (fun k => decide (rf_fld w k 0 = m)) (i4 + 1)))), (3, .int (nI (i4 + 1)))]) (by rw [show (nI (rf_cnt (fun k => decide (rf_fld w k 0 = m)) i4 + 1)) = (nI (rf_cnt (fun k => decide (rf_fld w k 0 = m)) (i4 + 1))) from rf_cnt_t (decide_eq_true q25)]) ?_
            exact ih4 (i4 + 1) (by omega) 
  exact L4 (rf_F w) 0 (by omega) 

