/-! THE CLASS: how a word goes round -/

set_option maxHeartbeats 400000 in
set_option maxRecDepth 100000 in
theorem c_X7_fillWay {ad : Nat → Nat} {r : am_R} (hR : am_rs r) {h : am_H} (s : Nat) (H : Nat) (w : rf_W) (hV : rf_I w) (hLo : cl_Lo (h) 4 w) (hSc : cl_Sc (h) 25 w) (hs : s < rf_S w) (hH : H < 61)  : am_CM mX7_fillWay 2 0 0 [.ref 316, .int (nI s), .int (nI H)] (am_VV ad) r h (am_po none r (am_row h 317 (cl_fw w s (h 317) (H + 1)))) := by
  refine am_CM.of (by decide +kernel) (Nat.le_of_ble_eq_true rfl) (fun X C T => ?_)
  show am_G X (am_VV ad) (0, 0) 0 [(0, .ref 316), (1, .int (nI s)), (2, .int (nI H))] [] r h
  have hM9 : rf_M w < 17 := hV.1.1.2
  have hS9 : rf_S w < 11 := hV.1.2.1.2
  have hO9 : rf_O w < 11 := hV.1.2.2.2
  have hp8 := rf_p2n_lt hV hs
  refine am_iconstN (pc := 0) (k := 0) C dX7_fillWay_0 ?_
  refine am_istore_n (pc := 1) (ls' := [(0, .ref 316), (1, .int (nI s)), (2, .int (nI H)), (3, .int (nI 0))]) C dX7_fillWay_1 (by decide) rfl ?_
  have L2 : ∀ (j2 i2 : Nat), i2 + j2 = (H + 1) → am_G X (am_VV ad) (0, 0) 2 [(0, .ref 316), (1, .int (nI s)), (2, .int (nI H)), (3, .int (nI i2))] [] r (am_row h 317 (cl_fw w s (h 317) i2)) := by
    intro j2
    induction j2 with
    | zero =>
      intro i2 hi2 
      obtain rfl : i2 = (H + 1) := by omega
      refine am_iload_n (pc := 2) C dX7_fillWay_2 rfl ?_
      refine am_iload_n (pc := 3) C dX7_fillWay_3 rfl ?_
      refine am_icmp_gtN (pc := 4) (tgt := 51) C dX7_fillWay_4 (by decide) (by omega) (by omega) (fun q4 => ?_) (fun q4 => ?_)
      · skip
        exact am_vretv T dX7_fillWay_51 rfl (Nat.le_refl _) (Nat.le_refl _) rfl rfl
      · skip
        exact absurd q4 (by omega)
    | succ j2 ih2 =>
      intro i2 hi2 
      have hl2 : i2 < (H + 1) := by omega
      have hp9 := hp8 i2
      refine am_iload_n (pc := 2) C dX7_fillWay_2 rfl ?_
      refine am_iload_n (pc := 3) C dX7_fillWay_3 rfl ?_
      refine am_icmp_gtN (pc := 4) (tgt := 51) C dX7_fillWay_4 (by decide) (by omega) (by omega) (fun q4 => ?_) (fun q4 => ?_)
      · skip
        exact absurd q4 (by omega)
      · skip
        refine am_iload_n (pc := 7) C dX7_fillWay_7 rfl ?_
        refine am_bipush (pc := 8) (v := nI 8) C dX7_fillWay_8 (by decide) ?_
        refine am_imulN (pc := 10) C dX7_fillWay_10 ?_
        refine am_aload_n (pc := 11) C dX7_fillWay_11 rfl ?_
        refine am_getR (pc := 12) (j := 3) C dX7_fillWay_12 f7_9 bn_316 sh_316 (rf_316_0 hR) ?_
        refine am_iload_n (pc := 15) C dX7_fillWay_15 rfl ?_
        refine am_iload_n (pc := 16) C dX7_fillWay_16 rfl ?_
        refine am_callVi (Y := mX10_placeIn) (pc := 17) (st := [.int (nI (i2 * 8))]) (As := [.int (nI s), .int (nI i2)]) (x := (rf_pl2 w s (nI i2))) (h2 := (am_row h 317 (cl_fw w s (h 317) i2))) C dX7_fillWay_17 k7_41 v_X10_placeIn rfl rfl bn_3 sh_3 ⟨by decide, rfl⟩ (by decide) (Nat.zero_le _) (Nat.zero_le _) (Nat.le_of_ble_eq_true rfl) (c_X10_placeIn hR s (nI i2) w hV (cl_Lo_eq (fun i9 h9 g9 => by rw [am_row_ne _ _ _ (by omega)]) hLo) (cl_Sc_eq (fun i9 h9 g9 => by rw [am_row_ne _ _ _ (by omega)]) hSc) hs) ?_
        refine am_top (show (rf_pl2 w s (nI i2)) = (nI (rf_p2n w s i2)) from (rf_pl2_n (hV.2.1 s hs)).1) ?_
        refine am_iaddN (pc := 20) C dX7_fillWay_20 ?_
        refine am_istore (pc := 21) (ls' := [(0, .ref 316), (1, .int (nI s)), (2, .int (nI H)), (3, .int (nI i2)), (4, .int (nI ((i2 * 8) + (rf_p2n w s i2))))]) C dX7_fillWay_21 (by decide) rfl ?_
        refine am_aload_n (pc := 23) C dX7_fillWay_23 rfl ?_
        refine am_getR (pc := 24) (j := 317) C dX7_fillWay_24 f7_15 bn_316 sh_316 (rf_316_1 hR) ?_
        refine am_iload (pc := 27) C dX7_fillWay_27 rfl ?_
        refine am_aload_n (pc := 29) C dX7_fillWay_29 rfl ?_
        refine am_getR (pc := 30) (j := 317) C dX7_fillWay_30 f7_15 bn_316 sh_316 (rf_316_1 hR) ?_
        refine am_iload (pc := 33) C dX7_fillWay_33 rfl ?_
        refine am_callSNi (Y := mX11_pick) (pc := 35) (st := [.int (nI ((i2 * 8) + (rf_p2n w s i2))), .ref 317]) (As := [.ref 317, .int (nI ((i2 * 8) + (rf_p2n w s i2)))]) (x := ((cl_fw w s (h 317) i2) ((i2 * 8) + (rf_p2n w s i2)))) (h2 := (am_row h 317 (cl_fw w s (h 317) i2))) C dX7_fillWay_35 k7_45 v_X11_pick rfl rfl (by decide) (Nat.zero_le _) (Nat.zero_le _) (Nat.le_of_ble_eq_true rfl) (c_X11_pick 317 ((i2 * 8) + (rf_p2n w s i2)) 488 bn_317 sh_317 (show (i2 * 8) + (rf_p2n w s i2) < 488 from by omega) (by decide)) ?_
        refine am_iconstN (pc := 38) (k := 1) C dX7_fillWay_38 ?_
        refine am_iload_n (pc := 39) C dX7_fillWay_39 rfl ?_
        refine am_ishl (pc := 40) C dX7_fillWay_40 ?_
        refine am_ior (pc := 41) C dX7_fillWay_41 ?_
        refine am_callSNv (Y := mX11_put) (pc := 42) (st := []) (As := [.ref 317, .int (nI ((i2 * 8) + (rf_p2n w s i2))), .int (((cl_fw w s (h 317) i2) ((i2 * 8) + (rf_p2n w s i2))) ||| ((nI 1) <<< ((nI s) &&& 31)))]) (h2 := (am_row (am_row h 317 (cl_fw w s (h 317) i2)) 317 (upd (cl_fw w s (h 317) i2) ((i2 * 8) + (rf_p2n w s i2)) (((cl_fw w s (h 317) i2) ((i2 * 8) + (rf_p2n w s i2))) ||| ((nI 1) <<< ((nI s) &&& 31)))))) C dX7_fillWay_42 k7_29 v_X11_put rfl rfl (by decide) (Nat.zero_le _) (Nat.zero_le _) (Nat.le_of_ble_eq_true rfl) (c_X11_put 317 ((i2 * 8) + (rf_p2n w s i2)) (((cl_fw w s (h 317) i2) ((i2 * 8) + (rf_p2n w s i2))) ||| ((nI 1) <<< ((nI s) &&& 31))) 488 bn_317 sh_317 (show (i2 * 8) + (rf_p2n w s i2) < 488 from by omega) (by decide)) ?_
        refine am_hp (show (am_row (am_row h 317 (cl_fw w s (h 317) i2)) 317 (upd (cl_fw w s (h 317) i2) ((i2 * 8) + (rf_p2n w s i2)) (((cl_fw w s (h 317) i2) ((i2 * 8) + (rf_p2n w s i2))) ||| ((nI 1) <<< ((nI s) &&& 31))))) = (am_row h 317 (upd (cl_fw w s (h 317) i2) ((i2 * 8) + (rf_p2n w s i2)) (((cl_fw w s (h 317) i2) ((i2 * 8) + (rf_p2n w s i2))) ||| ((nI 1) <<< ((nI s) &&& 31))))) from am_row_s0) ?_
        refine am_iincN (pc := 45) (ls' := [(0, .ref 316), (1, .int (nI s)), (2, .int (nI H)), (3, .int (nI (i2 + 1))), (4, .int (nI ((i2 * 8) + (rf_p2n w s i2))))]) C dX7_fillWay_45 rfl (am_up1 _) (by decide) rfl ?_
        refine am_goto (pc := 48) (tgt := 2) C dX7_fillWay_48 (by decide) ?_
        refine am_sub (ls' := [(0, .ref 316), (1, .int (nI s)), (2, .int (nI H)), (3, .int (nI (i2 + 1)))]) (by intro q hq; simp only [List.mem_cons, List.not_mem_nil, or_false] at hq ⊢; rcases hq with rfl | rfl | rfl | rfl <;> simp) ?_
        refine am_hp (show (am_row h 317 (upd (cl_fw w s (h 317) i2) ((i2 * 8) + (rf_p2n w s i2)) (((cl_fw w s (h 317) i2) ((i2 * 8) + (rf_p2n w s i2))) ||| ((nI 1) <<< ((nI s) &&& 31))))) = (am_row h 317 (cl_fw w s (h 317) (i2 + 1))) from rfl) ?_
        exact ih2 (i2 + 1) (by omega) 
  refine am_sub (ls' := [(0, .ref 316), (1, .int (nI s)), (2, .int (nI H)), (3, .int (nI 0))]) (by intro q hq; simp only [List.mem_cons, List.not_mem_nil, or_false] at hq ⊢; rcases hq with rfl | rfl | rfl | rfl <;> simp) ?_
  refine am_hp (show h = (am_row h 317 (cl_fw w s (h 317) 0)) from (am_row_id _ 317).symm) ?_
  exact L2 (H + 1) 0 (by omega) 

set_option maxHeartbeats 400000 in
set_option maxRecDepth 100000 in
theorem c_X7_fillCrowds {ad : Nat → Nat} {r : am_R} (hR : am_rs r) {h : am_H} (d : Int32) (H : Nat) (w : rf_W) (hV : rf_I w) (hLo : cl_Lo (h) 4 w) (hSc : cl_Sc (h) 25 w) (hH : H < 61)  : am_CM mX7_fillCrowds 3 0 0 [.ref 316, .int d, .int (nI H)] (am_VV ad) r h (am_po none r (am_row (am_row h 316 (upd (h 316) 2 (rf_sideOf w d))) 317 (cl_fc w (rf_sideOf w d) H (cl_z (h 317) ((H + 1) * 8)) 10))) := by
  refine am_CM.of (by decide +kernel) (Nat.le_of_ble_eq_true rfl) (fun X C T => ?_)
  show am_G X (am_VV ad) (0, 0) 0 [(0, .ref 316), (1, .int d), (2, .int (nI H))] [] r h
  have hM9 : rf_M w < 17 := hV.1.1.2
  have hS9 : rf_S w < 11 := hV.1.2.1.2
  have hO9 : rf_O w < 11 := hV.1.2.2.2
  refine am_aload_n (pc := 0) C dX7_fillCrowds_0 rfl ?_
  refine am_aload_n (pc := 1) C dX7_fillCrowds_1 rfl ?_
  refine am_getR (pc := 2) (j := 3) C dX7_fillCrowds_2 f7_9 bn_316 sh_316 (rf_316_0 hR) ?_
  refine am_iload_n (pc := 5) C dX7_fillCrowds_5 rfl ?_
  refine am_callVi (Y := mX10_sideBits) (pc := 6) (st := [.ref 316]) (As := [.int d]) (x := (rf_sideOf w d)) (h2 := h) C dX7_fillCrowds_6 k7_19 v_X10_sideBits rfl rfl bn_3 sh_3 ⟨by decide, rfl⟩ (by decide) (Nat.zero_le _) (Nat.zero_le _) (Nat.le_of_ble_eq_true rfl) (c_X10_sideBits hR d w hV hLo hSc) ?_
  refine am_putI (pc := 9) C dX7_fillCrowds_9 f7_25 bn_316 sh_316 rfl rfl ?_
  refine am_hp (show am_up h 316 2 (rf_sideOf w d) = am_row h 316 (upd (h 316) 2 (rf_sideOf w d)) from am_up_rw _ _ _ _) ?_
  refine am_iconstN (pc := 12) (k := 0) C dX7_fillCrowds_12 ?_
  refine am_istore_n (pc := 13) (ls' := [(0, .ref 316), (1, .int d), (2, .int (nI H)), (3, .int (nI 0))]) C dX7_fillCrowds_13 (by decide) rfl ?_
  have L14 : ∀ (j14 i14 : Nat), i14 + j14 = ((H + 1) * 8) → am_G X (am_VV ad) (0, 0) 14 [(0, .ref 316), (1, .int d), (2, .int (nI H)), (3, .int (nI i14))] [] r (am_row (am_row h 316 (upd (h 316) 2 (rf_sideOf w d))) 317 (cl_z (h 317) i14)) := by
    intro j14
    induction j14 with
    | zero =>
      intro i14 hi14 
      obtain rfl : i14 = ((H + 1) * 8) := by omega
      refine am_iload_n (pc := 14) C dX7_fillCrowds_14 rfl ?_
      refine am_iload_n (pc := 15) C dX7_fillCrowds_15 rfl ?_
      refine am_iconstN (pc := 16) (k := 1) C dX7_fillCrowds_16 ?_
      refine am_iaddN (pc := 17) C dX7_fillCrowds_17 ?_
      refine am_bipush (pc := 18) (v := nI 8) C dX7_fillCrowds_18 (by decide) ?_
      refine am_imulN (pc := 20) C dX7_fillCrowds_20 ?_
      refine am_icmp_geN (pc := 21) (tgt := 39) C dX7_fillCrowds_21 (by decide) (by omega) (by omega) (fun q21 => ?_) (fun q21 => ?_)
      · skip
        refine am_iconstN (pc := 39) (k := 0) C dX7_fillCrowds_39 ?_
        refine am_istore_n (pc := 40) (ls' := [(0, .ref 316), (1, .int d), (2, .int (nI H)), (3, .int (nI 0))]) C dX7_fillCrowds_40 (by decide) rfl ?_
        have L41 : ∀ (j41 i41 : Nat), i41 + j41 = 10 → am_G X (am_VV ad) (0, 0) 41 [(0, .ref 316), (1, .int d), (2, .int (nI H)), (3, .int (nI i41))] [] r (am_row (am_row h 316 (upd (h 316) 2 (rf_sideOf w d))) 317 (cl_fc w (rf_sideOf w d) H (cl_z (h 317) ((H + 1) * 8)) i41)) := by
          intro j41
          induction j41 with
          | zero =>
            intro i41 hi41 
            obtain rfl : i41 = 10 := by omega
            refine am_iload_n (pc := 41) C dX7_fillCrowds_41 rfl ?_
            refine am_bipush (pc := 42) (v := nI 10) C dX7_fillCrowds_42 (by decide) ?_
            refine am_icmp_geN (pc := 44) (tgt := 70) C dX7_fillCrowds_44 (by decide) (by omega) (by omega) (fun q44 => ?_) (fun q44 => ?_)
            · skip
              exact am_vretv T dX7_fillCrowds_70 rfl (Nat.le_refl _) (Nat.le_refl _) rfl rfl
            · skip
              exact absurd q44 (by omega)
          | succ j41 ih41 =>
            intro i41 hi41 
            have hl41 : i41 < 10 := by omega
            refine am_iload_n (pc := 41) C dX7_fillCrowds_41 rfl ?_
            refine am_bipush (pc := 42) (v := nI 10) C dX7_fillCrowds_42 (by decide) ?_
            refine am_icmp_geN (pc := 44) (tgt := 70) C dX7_fillCrowds_44 (by decide) (by omega) (by omega) (fun q44 => ?_) (fun q44 => ?_)
            · skip
              exact absurd q44 (by omega)
            · skip
              refine am_aload_n (pc := 47) C dX7_fillCrowds_47 rfl ?_
              refine am_getI (pc := 48) C dX7_fillCrowds_48 f7_25 bn_316 sh_316 ?_
              refine am_top (show ((upd (h 316) 2 (rf_sideOf w d)) 2) = (rf_sideOf w d) from rf_upd_eq) ?_
              refine am_iload_n (pc := 51) C dX7_fillCrowds_51 rfl ?_
              refine am_callSNi (Y := mX11_has) (pc := 52) (st := []) (As := [.int (rf_sideOf w d), .int (nI i41)]) (x := (am_b (am_bt (rf_sideOf w d) i41))) (h2 := (am_row (am_row h 316 (upd (h 316) 2 (rf_sideOf w d))) 317 (cl_fc w (rf_sideOf w d) H (cl_z (h 317) ((H + 1) * 8)) i41))) C dX7_fillCrowds_52 k7_33 v_X11_has rfl rfl (by decide) (Nat.zero_le _) (Nat.zero_le _) (Nat.le_of_ble_eq_true rfl) (c_X11_has (rf_sideOf w d) i41 (show i41 < 32 from by omega)) ?_
              refine am_if_eqB (pc := 55) (tgt := 64) C dX7_fillCrowds_55 (by decide) (fun q55 => ?_) (fun q55 => ?_)
              · skip
                refine am_iincN (pc := 64) (ls' := [(0, .ref 316), (1, .int d), (2, .int (nI H)), (3, .int (nI (i41 + 1)))]) C dX7_fillCrowds_64 rfl (am_up1 _) (by decide) rfl ?_
                refine am_goto (pc := 67) (tgt := 41) C dX7_fillCrowds_67 (by decide) ?_
                refine am_hp (show (am_row (am_row h 316 (upd (h 316) 2 (rf_sideOf w d))) 317 (cl_fc w (rf_sideOf w d) H (cl_z (h 317) ((H + 1) * 8)) i41)) = (am_row (am_row h 316 (upd (h 316) 2 (rf_sideOf w d))) 317 (cl_fc w (rf_sideOf w d) H (cl_z (h 317) ((H + 1) * 8)) (i41 + 1))) from congrArg (am_row _ 317) (by rw [cl_fc, if_neg (by rw [q55]; exact Bool.false_ne_true)])) ?_
                exact ih41 (i41 + 1) (by omega) 
              · skip
                refine am_aload_n (pc := 58) C dX7_fillCrowds_58 rfl ?_
                refine am_iload_n (pc := 59) C dX7_fillCrowds_59 rfl ?_
                refine am_iload_n (pc := 60) C dX7_fillCrowds_60 rfl ?_
                refine am_callVv (Y := mX7_fillWay) (pc := 61) (st := []) (As := [.int (nI i41), .int (nI H)]) (h2 := (am_row (am_row (am_row h 316 (upd (h 316) 2 (rf_sideOf w d))) 317 (cl_fc w (rf_sideOf w d) H (cl_z (h 317) ((H + 1) * 8)) i41)) 317 (cl_fw w i41 (cl_fc w (rf_sideOf w d) H (cl_z (h 317) ((H + 1) * 8)) i41) (H + 1)))) C dX7_fillCrowds_61 k7_37 v_X7_fillWay rfl rfl bn_316 sh_316 ⟨by decide, rfl⟩ (by decide) (Nat.zero_le _) (Nat.zero_le _) (Nat.le_of_ble_eq_true rfl) (c_X7_fillWay hR i41 H w hV (cl_Lo_eq (fun i9 h9 g9 => by rw [am_row_ne _ _ _ (by omega), am_row_ne _ _ _ (by omega)]) hLo) (cl_Sc_eq (fun i9 h9 g9 => by rw [am_row_ne _ _ _ (by omega), am_row_ne _ _ _ (by omega)]) hSc) (show i41 < rf_S w from ((rf_side_lt hV (by omega) q55).1)) (show H < 61 from hH)) ?_
                refine am_hp (show (am_row (am_row (am_row h 316 (upd (h 316) 2 (rf_sideOf w d))) 317 (cl_fc w (rf_sideOf w d) H (cl_z (h 317) ((H + 1) * 8)) i41)) 317 (cl_fw w i41 (cl_fc w (rf_sideOf w d) H (cl_z (h 317) ((H + 1) * 8)) i41) (H + 1))) = (am_row (am_row h 316 (upd (h 316) 2 (rf_sideOf w d))) 317 (cl_fw w i41 (cl_fc w (rf_sideOf w d) H (cl_z (h 317) ((H + 1) * 8)) i41) (H + 1))) from am_row_s0) ?_
                refine am_iincN (pc := 64) (ls' := [(0, .ref 316), (1, .int d), (2, .int (nI H)), (3, .int (nI (i41 + 1)))]) C dX7_fillCrowds_64 rfl (am_up1 _) (by decide) rfl ?_
                refine am_goto (pc := 67) (tgt := 41) C dX7_fillCrowds_67 (by decide) ?_
                refine am_hp (show (am_row (am_row h 316 (upd (h 316) 2 (rf_sideOf w d))) 317 (cl_fw w i41 (cl_fc w (rf_sideOf w d) H (cl_z (h 317) ((H + 1) * 8)) i41) (H + 1))) = (am_row (am_row h 316 (upd (h 316) 2 (rf_sideOf w d))) 317 (cl_fc w (rf_sideOf w d) H (cl_z (h 317) ((H + 1) * 8)) (i41 + 1))) from congrArg (am_row _ 317) (by rw [cl_fc, if_pos q55])) ?_
                exact ih41 (i41 + 1) (by omega) 
        refine am_hp (show (am_row (am_row h 316 (upd (h 316) 2 (rf_sideOf w d))) 317 (cl_z (h 317) ((H + 1) * 8))) = (am_row (am_row h 316 (upd (h 316) 2 (rf_sideOf w d))) 317 (cl_fc w (rf_sideOf w d) H (cl_z (h 317) ((H + 1) * 8)) 0)) from rfl) ?_
        exact L41 10 0 (by omega) 
      · skip
        exact absurd q21 (by omega)
    | succ j14 ih14 =>
      intro i14 hi14 
      have hl14 : i14 < ((H + 1) * 8) := by omega
      refine am_iload_n (pc := 14) C dX7_fillCrowds_14 rfl ?_
      refine am_iload_n (pc := 15) C dX7_fillCrowds_15 rfl ?_
      refine am_iconstN (pc := 16) (k := 1) C dX7_fillCrowds_16 ?_
      refine am_iaddN (pc := 17) C dX7_fillCrowds_17 ?_
      refine am_bipush (pc := 18) (v := nI 8) C dX7_fillCrowds_18 (by decide) ?_
      refine am_imulN (pc := 20) C dX7_fillCrowds_20 ?_
      refine am_icmp_geN (pc := 21) (tgt := 39) C dX7_fillCrowds_21 (by decide) (by omega) (by omega) (fun q21 => ?_) (fun q21 => ?_)
      · skip
        exact absurd q21 (by omega)
      · skip
        refine am_aload_n (pc := 24) C dX7_fillCrowds_24 rfl ?_
        refine am_getR (pc := 25) (j := 317) C dX7_fillCrowds_25 f7_15 bn_316 sh_316 (rf_316_1 hR) ?_
        refine am_iload_n (pc := 28) C dX7_fillCrowds_28 rfl ?_
        refine am_iconstN (pc := 29) (k := 0) C dX7_fillCrowds_29 ?_
        refine am_callSNv (Y := mX11_put) (pc := 30) (st := []) (As := [.ref 317, .int (nI i14), .int (nI 0)]) (h2 := (am_row (am_row (am_row h 316 (upd (h 316) 2 (rf_sideOf w d))) 317 (cl_z (h 317) i14)) 317 (upd (cl_z (h 317) i14) i14 (nI 0)))) C dX7_fillCrowds_30 k7_29 v_X11_put rfl rfl (by decide) (Nat.zero_le _) (Nat.zero_le _) (Nat.le_of_ble_eq_true rfl) (c_X11_put 317 i14 (nI 0) 488 bn_317 sh_317 (show i14 < 488 from by omega) (by decide)) ?_
        refine am_hp (show (am_row (am_row (am_row h 316 (upd (h 316) 2 (rf_sideOf w d))) 317 (cl_z (h 317) i14)) 317 (upd (cl_z (h 317) i14) i14 (nI 0))) = (am_row (am_row h 316 (upd (h 316) 2 (rf_sideOf w d))) 317 (upd (cl_z (h 317) i14) i14 (nI 0))) from am_row_s0) ?_
        refine am_iincN (pc := 33) (ls' := [(0, .ref 316), (1, .int d), (2, .int (nI H)), (3, .int (nI (i14 + 1)))]) C dX7_fillCrowds_33 rfl (am_up1 _) (by decide) rfl ?_
        refine am_goto (pc := 36) (tgt := 14) C dX7_fillCrowds_36 (by decide) ?_
        refine am_hp (show (am_row (am_row h 316 (upd (h 316) 2 (rf_sideOf w d))) 317 (upd (cl_z (h 317) i14) i14 (nI 0))) = (am_row (am_row h 316 (upd (h 316) 2 (rf_sideOf w d))) 317 (cl_z (h 317) (i14 + 1))) from rfl) ?_
        exact ih14 (i14 + 1) (by omega) 
  refine am_hp (show (am_row h 316 (upd (h 316) 2 (rf_sideOf w d))) = (am_row (am_row h 316 (upd (h 316) 2 (rf_sideOf w d))) 317 (cl_z (h 317) 0)) from (am_row_id _ 317).symm) ?_
  exact L14 ((H + 1) * 8) 0 (by omega) 

set_option maxHeartbeats 400000 in
set_option maxRecDepth 100000 in
theorem c_X7_heardIn {ad : Nat → Nat} {r : am_R} (hR : am_rs r) {h : am_H} (hr : Nat) (heard : Int32) (silent : Int32) (hhr : hr < 61)  : am_CM mX7_heardIn 1 0 0 [.ref 316, .int (nI hr), .int heard, .int silent] (am_VV ad) r h (am_po (some (.int (cl_hi (h 317) hr heard silent 8))) r h) := by
  refine am_CM.of (by decide +kernel) (Nat.le_of_ble_eq_true rfl) (fun X C T => ?_)
  show am_G X (am_VV ad) (0, 0) 0 [(0, .ref 316), (1, .int (nI hr)), (2, .int heard), (3, .int silent)] [] r h
  refine am_iload_n (pc := 0) C dX7_heardIn_0 rfl ?_
  refine am_istore (pc := 1) (ls' := [(0, .ref 316), (1, .int (nI hr)), (2, .int heard), (3, .int silent), (4, .int heard)]) C dX7_heardIn_1 (by decide) rfl ?_
  refine am_iconstN (pc := 3) (k := 0) C dX7_heardIn_3 ?_
  refine am_istore (pc := 4) (ls' := [(0, .ref 316), (1, .int (nI hr)), (2, .int heard), (3, .int silent), (4, .int heard), (5, .int (nI 0))]) C dX7_heardIn_4 (by decide) rfl ?_
  have L6 : ∀ (j6 i6 : Nat), i6 + j6 = 8 → am_G X (am_VV ad) (0, 0) 6 [(0, .ref 316), (1, .int (nI hr)), (2, .int heard), (3, .int silent), (4, .int (cl_hi (h 317) hr heard silent i6)), (5, .int (nI i6))] [] r h := by
    intro j6
    induction j6 with
    | zero =>
      intro i6 hi6 
      obtain rfl : i6 = 8 := by omega
      refine am_iload (pc := 6) C dX7_heardIn_6 rfl ?_
      refine am_bipush (pc := 8) (v := nI 8) C dX7_heardIn_8 (by decide) ?_
      refine am_icmp_geN (pc := 10) (tgt := 53) C dX7_heardIn_10 (by decide) (by omega) (by omega) (fun q10 => ?_) (fun q10 => ?_)
      · skip
        refine am_iload (pc := 53) C dX7_heardIn_53 rfl ?_
        exact am_ireti T dX7_heardIn_55 rfl (Nat.le_refl _) (Nat.le_refl _) rfl rfl rfl
      · skip
        exact absurd q10 (by omega)
    | succ j6 ih6 =>
      intro i6 hi6 
      have hl6 : i6 < 8 := by omega
      refine am_iload (pc := 6) C dX7_heardIn_6 rfl ?_
      refine am_bipush (pc := 8) (v := nI 8) C dX7_heardIn_8 (by decide) ?_
      refine am_icmp_geN (pc := 10) (tgt := 53) C dX7_heardIn_10 (by decide) (by omega) (by omega) (fun q10 => ?_) (fun q10 => ?_)
      · skip
        exact absurd q10 (by omega)
      · skip
        refine am_aload_n (pc := 13) C dX7_heardIn_13 rfl ?_
        refine am_getR (pc := 14) (j := 317) C dX7_heardIn_14 f7_15 bn_316 sh_316 (rf_316_1 hR) ?_
        refine am_iload_n (pc := 17) C dX7_heardIn_17 rfl ?_
        refine am_bipush (pc := 18) (v := nI 8) C dX7_heardIn_18 (by decide) ?_
        refine am_imulN (pc := 20) C dX7_heardIn_20 ?_
        refine am_iload (pc := 21) C dX7_heardIn_21 rfl ?_
        refine am_iaddN (pc := 23) C dX7_heardIn_23 ?_
        refine am_callSNi (Y := mX11_pick) (pc := 24) (st := []) (As := [.ref 317, .int (nI ((hr * 8) + i6))]) (x := ((h 317) ((hr * 8) + i6))) (h2 := h) C dX7_heardIn_24 k7_45 v_X11_pick rfl rfl (by decide) (Nat.zero_le _) (Nat.zero_le _) (Nat.le_of_ble_eq_true rfl) (c_X11_pick 317 ((hr * 8) + i6) 488 bn_317 sh_317 (show (hr * 8) + i6 < 488 from by omega) (by decide)) ?_
        refine am_istore (pc := 27) (ls' := [(0, .ref 316), (1, .int (nI hr)), (2, .int heard), (3, .int silent), (4, .int (cl_hi (h 317) hr heard silent i6)), (5, .int (nI i6)), (6, .int ((h 317) ((hr * 8) + i6)))]) C dX7_heardIn_27 (by decide) rfl ?_
        refine am_iload (pc := 29) C dX7_heardIn_29 rfl ?_
        refine am_iload_n (pc := 31) C dX7_heardIn_31 rfl ?_
        refine am_iand (pc := 32) C dX7_heardIn_32 ?_
        refine am_iload_n (pc := 33) C dX7_heardIn_33 rfl ?_
        refine am_iconst (pc := 34) (v := -1) C dX7_heardIn_34 rfl ?_
        refine am_ixor (pc := 35) C dX7_heardIn_35 ?_
        refine am_iand (pc := 36) C dX7_heardIn_36 ?_
        refine am_if_eq (pc := 37) (tgt := 47) C dX7_heardIn_37 (by decide) (fun q37 => ?_) (fun q37 => ?_)
        · skip
          refine am_iincN (pc := 47) (ls' := [(0, .ref 316), (1, .int (nI hr)), (2, .int heard), (3, .int silent), (4, .int (cl_hi (h 317) hr heard silent i6)), (5, .int (nI (i6 + 1))), (6, .int ((h 317) ((hr * 8) + i6)))]) C dX7_heardIn_47 rfl (am_up1 _) (by decide) rfl ?_
          refine am_goto (pc := 50) (tgt := 6) C dX7_heardIn_50 (by decide) ?_
          refine am_sub (ls' := [(0, .ref 316), (1, .int (nI hr)), (2, .int heard), (3, .int silent), (4, .int (cl_hi (h 317) hr heard silent i6)), (5, .int (nI (i6 + 1)))]) (by intro q hq; simp only [List.mem_cons, List.not_mem_nil, or_false] at hq ⊢; rcases hq with rfl | rfl | rfl | rfl | rfl | rfl <;> simp) ?_
          refine am_lsv (ls' := [(0, .ref 316), (1, .int (nI hr)), (2, .int heard), (3, .int silent), (4, .int (cl_hi (h 317) hr heard silent (i6 + 1))), (5, .int (nI (i6 + 1)))]) (by rw [show (cl_hi (h 317) hr heard silent i6) = (cl_hi (h 317) hr heard silent (i6 + 1)) from (by rw [cl_hi, if_pos q37])]) ?_
          exact ih6 (i6 + 1) (by omega) 
        · skip
          refine am_iload (pc := 40) C dX7_heardIn_40 rfl ?_
          refine am_iload (pc := 42) C dX7_heardIn_42 rfl ?_
          refine am_ior (pc := 44) C dX7_heardIn_44 ?_
          refine am_istore (pc := 45) (ls' := [(0, .ref 316), (1, .int (nI hr)), (2, .int heard), (3, .int silent), (4, .int ((cl_hi (h 317) hr heard silent i6) ||| ((h 317) ((hr * 8) + i6)))), (5, .int (nI i6)), (6, .int ((h 317) ((hr * 8) + i6)))]) C dX7_heardIn_45 (by decide) rfl ?_
          refine am_iincN (pc := 47) (ls' := [(0, .ref 316), (1, .int (nI hr)), (2, .int heard), (3, .int silent), (4, .int ((cl_hi (h 317) hr heard silent i6) ||| ((h 317) ((hr * 8) + i6)))), (5, .int (nI (i6 + 1))), (6, .int ((h 317) ((hr * 8) + i6)))]) C dX7_heardIn_47 rfl (am_up1 _) (by decide) rfl ?_
          refine am_goto (pc := 50) (tgt := 6) C dX7_heardIn_50 (by decide) ?_
          refine am_sub (ls' := [(0, .ref 316), (1, .int (nI hr)), (2, .int heard), (3, .int silent), (4, .int ((cl_hi (h 317) hr heard silent i6) ||| ((h 317) ((hr * 8) + i6)))), (5, .int (nI (i6 + 1)))]) (by intro q hq; simp only [List.mem_cons, List.not_mem_nil, or_false] at hq ⊢; rcases hq with rfl | rfl | rfl | rfl | rfl | rfl <;> simp) ?_
          refine am_lsv (ls' := [(0, .ref 316), (1, .int (nI hr)), (2, .int heard), (3, .int silent), (4, .int (cl_hi (h 317) hr heard silent (i6 + 1))), (5, .int (nI (i6 + 1)))]) (by rw [show ((cl_hi (h 317) hr heard silent i6) ||| ((h 317) ((hr * 8) + i6))) = (cl_hi (h 317) hr heard silent (i6 + 1)) from (by rw [cl_hi, if_neg q37])]) ?_
          exact ih6 (i6 + 1) (by omega) 
  refine am_sub (ls' := [(0, .ref 316), (1, .int (nI hr)), (2, .int heard), (3, .int silent), (4, .int heard), (5, .int (nI 0))]) (by intro q hq; simp only [List.mem_cons, List.not_mem_nil, or_false] at hq ⊢; rcases hq with rfl | rfl | rfl | rfl | rfl | rfl <;> simp) ?_
  refine am_lsv (ls' := [(0, .ref 316), (1, .int (nI hr)), (2, .int heard), (3, .int silent), (4, .int (cl_hi (h 317) hr heard silent 0)), (5, .int (nI 0))]) (congrArg (fun z9 : Int32 => ([(0, .ref 316), (1, .int (nI hr)), (2, .int heard), (3, .int silent), (4, Value.int z9), (5, .int (nI 0))] : List (Nat × Value))) (show heard = (cl_hi (h 317) hr heard silent 0) from rfl)) ?_
  exact L6 8 0 (by omega) 

set_option maxHeartbeats 400000 in
set_option maxRecDepth 100000 in
theorem c_X7_heardBehind {ad : Nat → Nat} {r : am_R} (hR : am_rs r) {h : am_H} (first : Int32) (silent : Int32) (H : Nat) (hH : H < 61) (hst : ∀ n, n ≤ H → cl_hg (h 317) first silent n = (h 316) 2 → cl_hg (h 317) first silent (H + 1) = (h 316) 2)  : am_CM mX7_heardBehind 2 0 0 [.ref 316, .int first, .int silent, .int (nI H)] (am_VV ad) r h (am_po (some (.int (cl_hg (h 317) first silent (H + 1)))) r h) := by
  refine am_CM.of (by decide +kernel) (Nat.le_of_ble_eq_true rfl) (fun X C T => ?_)
  show am_G X (am_VV ad) (0, 0) 0 [(0, .ref 316), (1, .int first), (2, .int silent), (3, .int (nI H))] [] r h
  refine am_iload_n (pc := 0) C dX7_heardBehind_0 rfl ?_
  refine am_istore (pc := 1) (ls' := [(0, .ref 316), (1, .int first), (2, .int silent), (3, .int (nI H)), (4, .int first)]) C dX7_heardBehind_1 (by decide) rfl ?_
  refine am_iconstN (pc := 3) (k := 0) C dX7_heardBehind_3 ?_
  refine am_istore (pc := 4) (ls' := [(0, .ref 316), (1, .int first), (2, .int silent), (3, .int (nI H)), (4, .int first), (5, .int (nI 0))]) C dX7_heardBehind_4 (by decide) rfl ?_
  have L6 : ∀ (j6 i6 : Nat), i6 + j6 = (H + 1) → am_G X (am_VV ad) (0, 0) 6 [(0, .ref 316), (1, .int first), (2, .int silent), (3, .int (nI H)), (4, .int (cl_hg (h 317) first silent i6)), (5, .int (nI i6))] [] r h := by
    intro j6
    induction j6 with
    | zero =>
      intro i6 hi6 
      obtain rfl : i6 = (H + 1) := by omega
      refine am_iload (pc := 6) C dX7_heardBehind_6 rfl ?_
      refine am_iload_n (pc := 8) C dX7_heardBehind_8 rfl ?_
      refine am_icmp_gtN (pc := 9) (tgt := 38) C dX7_heardBehind_9 (by decide) (by omega) (by omega) (fun q9 => ?_) (fun q9 => ?_)
      · skip
        refine am_iload (pc := 38) C dX7_heardBehind_38 rfl ?_
        exact am_ireti T dX7_heardBehind_40 rfl (Nat.le_refl _) (Nat.le_refl _) rfl rfl rfl
      · skip
        exact absurd q9 (by omega)
    | succ j6 ih6 =>
      intro i6 hi6 
      have hl6 : i6 < (H + 1) := by omega
      refine am_iload (pc := 6) C dX7_heardBehind_6 rfl ?_
      refine am_iload_n (pc := 8) C dX7_heardBehind_8 rfl ?_
      refine am_icmp_gtN (pc := 9) (tgt := 38) C dX7_heardBehind_9 (by decide) (by omega) (by omega) (fun q9 => ?_) (fun q9 => ?_)
      · skip
        exact absurd q9 (by omega)
      · skip
        refine am_iload (pc := 12) C dX7_heardBehind_12 rfl ?_
        refine am_aload_n (pc := 14) C dX7_heardBehind_14 rfl ?_
        refine am_getI (pc := 15) C dX7_heardBehind_15 f7_25 bn_316 sh_316 ?_
        refine am_icmp_eq (pc := 18) (tgt := 38) C dX7_heardBehind_18 (by decide) (fun q18 => ?_) (fun q18 => ?_)
        · skip
          refine am_iload (pc := 38) C dX7_heardBehind_38 rfl ?_
          exact am_ireti T dX7_heardBehind_40 rfl (Nat.le_refl _) (Nat.le_refl _) (q18.trans (hst i6 (by omega) q18).symm) rfl rfl
        · skip
          refine am_aload_n (pc := 21) C dX7_heardBehind_21 rfl ?_
          refine am_iload (pc := 22) C dX7_heardBehind_22 rfl ?_
          refine am_iload (pc := 24) C dX7_heardBehind_24 rfl ?_
          refine am_iload_n (pc := 26) C dX7_heardBehind_26 rfl ?_
          refine am_callVi (Y := mX7_heardIn) (pc := 27) (st := []) (As := [.int (nI i6), .int (cl_hg (h 317) first silent i6), .int silent]) (x := (cl_hi (h 317) i6 (cl_hg (h 317) first silent i6) silent 8)) (h2 := h) C dX7_heardBehind_27 k7_49 v_X7_heardIn rfl rfl bn_316 sh_316 ⟨by decide, rfl⟩ (by decide) (Nat.zero_le _) (Nat.zero_le _) (Nat.le_of_ble_eq_true rfl) (c_X7_heardIn hR i6 (cl_hg (h 317) first silent i6) silent (show i6 < 61 from by omega)) ?_
          refine am_istore (pc := 30) (ls' := [(0, .ref 316), (1, .int first), (2, .int silent), (3, .int (nI H)), (4, .int (cl_hi (h 317) i6 (cl_hg (h 317) first silent i6) silent 8)), (5, .int (nI i6))]) C dX7_heardBehind_30 (by decide) rfl ?_
          refine am_iincN (pc := 32) (ls' := [(0, .ref 316), (1, .int first), (2, .int silent), (3, .int (nI H)), (4, .int (cl_hi (h 317) i6 (cl_hg (h 317) first silent i6) silent 8)), (5, .int (nI (i6 + 1)))]) C dX7_heardBehind_32 rfl (am_up1 _) (by decide) rfl ?_
          refine am_goto (pc := 35) (tgt := 6) C dX7_heardBehind_35 (by decide) ?_
          refine am_lsv (ls' := [(0, .ref 316), (1, .int first), (2, .int silent), (3, .int (nI H)), (4, .int (cl_hg (h 317) first silent (i6 + 1))), (5, .int (nI (i6 + 1)))]) (by rw [show (cl_hi (h 317) i6 (cl_hg (h 317) first silent i6) silent 8) = (cl_hg (h 317) first silent (i6 + 1)) from rfl]) ?_
          exact ih6 (i6 + 1) (by omega) 
  refine am_lsv (ls' := [(0, .ref 316), (1, .int first), (2, .int silent), (3, .int (nI H)), (4, .int (cl_hg (h 317) first silent 0)), (5, .int (nI 0))]) (congrArg (fun z9 : Int32 => ([(0, .ref 316), (1, .int first), (2, .int silent), (3, .int (nI H)), (4, Value.int z9), (5, .int (nI 0))] : List (Nat × Value))) (show first = (cl_hg (h 317) first silent 0) from rfl)) ?_
  exact L6 (H + 1) 0 (by omega) 

set_option maxHeartbeats 400000 in
set_option maxRecDepth 100000 in
theorem c_X7_soonestHour {ad : Nat → Nat} {r : am_R} (hR : am_rs r) {h : am_H} (a : Nat) (b : Nat) (w : rf_W) (hV : rf_I w) (hLo : cl_Lo (h) 4 w) (hSc : cl_Sc (h) 25 w) (ha : a < rf_S w) (hb : b < rf_S w)  : am_CM mX7_soonestHour 4 0 0 [.ref 316, .int (nI a), .int (nI b)] (am_VV ad) r h (am_pr (some (.int (rf_sea (fun n => am_bt (rf_hr w (nI 1 <<< (nI a &&& 31)) (rf_of w a 0) (nI 0) (n + 1)) b) (fun n => nI n) 61 0))) r (fun c9 => cl_fr (h) c9 316 2)) := by
  refine am_CM.of (by decide +kernel) (Nat.le_of_ble_eq_true rfl) (fun X C T => ?_)
  show am_G X (am_VV ad) (0, 0) 0 [(0, .ref 316), (1, .int (nI a)), (2, .int (nI b))] [] r h
  have hM9 : rf_M w < 17 := hV.1.1.2
  have hS9 : rf_S w < 11 := hV.1.2.1.2
  have hO9 : rf_O w < 11 := hV.1.2.2.2
  have hfs : rf_sub (nI 1 <<< (nI a &&& 31)) (rf_sideOf w (rf_of w a 0)) := fun j hj hb => by
    rw [am_bt_1 (by omega) hj, decide_eq_true_eq] at hb
    rw [hb]; exact rf_side_bt hV ha rfl
  refine am_aload_n (pc := 0) C dX7_soonestHour_0 rfl ?_
  refine am_aload_n (pc := 1) C dX7_soonestHour_1 rfl ?_
  refine am_getR (pc := 2) (j := 3) C dX7_soonestHour_2 f7_9 bn_316 sh_316 (rf_316_0 hR) ?_
  refine am_getR (pc := 5) (j := 4) C dX7_soonestHour_5 f7_53 bn_3 sh_3 (rf_3_0 hR) ?_
  refine am_getR (pc := 8) (j := 10) C dX7_soonestHour_8 f7_57 bn_4 sh_4 (rf_4_9 hR) ?_
  refine am_iload_n (pc := 11) C dX7_soonestHour_11 rfl ?_
  refine am_callSNi (Y := mX11_pick) (pc := 12) (st := [.ref 316]) (As := [.ref 10, .int (nI a)]) (x := ((h 10) a)) (h2 := h) C dX7_soonestHour_12 k7_45 v_X11_pick rfl rfl (by decide) (Nat.zero_le _) (Nat.zero_le _) (Nat.le_of_ble_eq_true rfl) (c_X11_pick 10 a 10 bn_10 sh_10 (show a < 10 from by omega) (by decide)) ?_
  refine am_top (show ((h 10) a) = (rf_of w a 0) from (hLo.2.2.1 a (by omega)).1) ?_
  refine am_bipush (pc := 15) (v := nI 60) C dX7_soonestHour_15 (by decide) ?_
  refine am_callVv (Y := mX7_fillCrowds) (pc := 17) (st := []) (As := [.int (rf_of w a 0), .int (nI 60)]) (h2 := (am_row (am_row h 316 (upd (h 316) 2 (rf_sideOf w (rf_of w a 0)))) 317 (cl_fc w (rf_sideOf w (rf_of w a 0)) 60 (cl_z (h 317) ((60 + 1) * 8)) 10))) C dX7_soonestHour_17 k7_62 v_X7_fillCrowds rfl rfl bn_316 sh_316 ⟨by decide, rfl⟩ (by decide) (Nat.zero_le _) (Nat.zero_le _) (Nat.le_of_ble_eq_true rfl) (c_X7_fillCrowds hR (rf_of w a 0) 60 w hV hLo hSc (show 60 < 61 from by omega)) ?_
  refine am_iconstN (pc := 20) (k := 1) C dX7_soonestHour_20 ?_
  refine am_iload_n (pc := 21) C dX7_soonestHour_21 rfl ?_
  refine am_ishl (pc := 22) C dX7_soonestHour_22 ?_
  refine am_istore_n (pc := 23) (ls' := [(0, .ref 316), (1, .int (nI a)), (2, .int (nI b)), (3, .int ((nI 1) <<< ((nI a) &&& 31)))]) C dX7_soonestHour_23 (by decide) rfl ?_
  refine am_iconstN (pc := 24) (k := 0) C dX7_soonestHour_24 ?_
  refine am_istore (pc := 25) (ls' := [(0, .ref 316), (1, .int (nI a)), (2, .int (nI b)), (3, .int ((nI 1) <<< ((nI a) &&& 31))), (4, .int (nI 0))]) C dX7_soonestHour_25 (by decide) rfl ?_
  have L27 : ∀ (j27 : Nat) (n : Nat), (hnj : n + j27 = 61) → (hms : rf_sea (fun n => am_bt (rf_hr w (nI 1 <<< (nI a &&& 31)) (rf_of w a 0) (nI 0) (n + 1)) b) (fun n => nI n) j27 n = rf_sea (fun n => am_bt (rf_hr w (nI 1 <<< (nI a &&& 31)) (rf_of w a 0) (nI 0) (n + 1)) b) (fun n => nI n) 61 0) → am_G X (am_VV ad) (0, 0) 27 [(0, .ref 316), (1, .int (nI a)), (2, .int (nI b)), (3, .int (rf_hr w (nI 1 <<< (nI a &&& 31)) (rf_of w a 0) (nI 0) n)), (4, .int (nI n))] [] r (am_row (am_row h 316 (upd (h 316) 2 (rf_sideOf w (rf_of w a 0)))) 317 (cl_fc w (rf_sideOf w (rf_of w a 0)) 60 (cl_z (h 317) ((60 + 1) * 8)) 10)) := by
    intro j27
    induction j27 with
    | zero =>
      intro n hnj hms
      refine am_iload (pc := 27) C dX7_soonestHour_27 rfl ?_
      refine am_bipush (pc := 29) (v := nI 60) C dX7_soonestHour_29 (by decide) ?_
      refine am_icmp_gtN (pc := 31) (tgt := 60) C dX7_soonestHour_31 (by decide) (by omega) (by omega) (fun q31 => ?_) (fun q31 => ?_)
      · skip
        refine am_iconst (pc := 60) (v := -1) C dX7_soonestHour_60 rfl ?_
        exact am_iretir T dX7_soonestHour_61 rfl (Nat.le_refl _) (Nat.le_refl _) (by rw [← hms]; rfl) rfl (fun i9 h9 => by rw [am_row_ne _ _ _ (by omega), am_row_ne _ _ _ (by omega)])
      · skip
        exact absurd q31 (by omega)
    | succ j27 ih27 =>
      intro n hnj hms
      refine am_iload (pc := 27) C dX7_soonestHour_27 rfl ?_
      refine am_bipush (pc := 29) (v := nI 60) C dX7_soonestHour_29 (by decide) ?_
      refine am_icmp_gtN (pc := 31) (tgt := 60) C dX7_soonestHour_31 (by decide) (by omega) (by omega) (fun q31 => ?_) (fun q31 => ?_)
      · skip
        exact absurd q31 (by omega)
      · skip
        refine am_aload_n (pc := 34) C dX7_soonestHour_34 rfl ?_
        refine am_iload (pc := 35) C dX7_soonestHour_35 rfl ?_
        refine am_iload_n (pc := 37) C dX7_soonestHour_37 rfl ?_
        refine am_iconstN (pc := 38) (k := 0) C dX7_soonestHour_38 ?_
        refine am_callVi (Y := mX7_heardIn) (pc := 39) (st := []) (As := [.int (nI n), .int (rf_hr w (nI 1 <<< (nI a &&& 31)) (rf_of w a 0) (nI 0) n), .int (nI 0)]) (x := (cl_hi (cl_fc w (rf_sideOf w (rf_of w a 0)) 60 (cl_z (h 317) ((60 + 1) * 8)) 10) n (rf_hr w (nI 1 <<< (nI a &&& 31)) (rf_of w a 0) (nI 0) n) (nI 0) 8)) (h2 := (am_row (am_row h 316 (upd (h 316) 2 (rf_sideOf w (rf_of w a 0)))) 317 (cl_fc w (rf_sideOf w (rf_of w a 0)) 60 (cl_z (h 317) ((60 + 1) * 8)) 10))) C dX7_soonestHour_39 k7_49 v_X7_heardIn rfl rfl bn_316 sh_316 ⟨by decide, rfl⟩ (by decide) (Nat.zero_le _) (Nat.zero_le _) (Nat.le_of_ble_eq_true rfl) (c_X7_heardIn hR n (rf_hr w (nI 1 <<< (nI a &&& 31)) (rf_of w a 0) (nI 0) n) (nI 0) (show n < 61 from by omega)) ?_
        refine am_top (show (cl_hi (cl_fc w (rf_sideOf w (rf_of w a 0)) 60 (cl_z (h 317) ((60 + 1) * 8)) 10) n (rf_hr w (nI 1 <<< (nI a &&& 31)) (rf_of w a 0) (nI 0) n) (nI 0) 8) = (rf_hr w (nI 1 <<< (nI a &&& 31)) (rf_of w a 0) (nI 0) (n + 1)) from (cl_hi_hd hV (H := 60) cl_z_0 (by omega) (rf_hr_sub hV hfs n))) ?_
        refine am_istore_n (pc := 42) (ls' := [(0, .ref 316), (1, .int (nI a)), (2, .int (nI b)), (3, .int (rf_hr w (nI 1 <<< (nI a &&& 31)) (rf_of w a 0) (nI 0) (n + 1))), (4, .int (nI n))]) C dX7_soonestHour_42 (by decide) rfl ?_
        refine am_iload_n (pc := 43) C dX7_soonestHour_43 rfl ?_
        refine am_iload_n (pc := 44) C dX7_soonestHour_44 rfl ?_
        refine am_callSNi (Y := mX11_has) (pc := 45) (st := []) (As := [.int (rf_hr w (nI 1 <<< (nI a &&& 31)) (rf_of w a 0) (nI 0) (n + 1)), .int (nI b)]) (x := (am_b (am_bt (rf_hr w (nI 1 <<< (nI a &&& 31)) (rf_of w a 0) (nI 0) (n + 1)) b))) (h2 := (am_row (am_row h 316 (upd (h 316) 2 (rf_sideOf w (rf_of w a 0)))) 317 (cl_fc w (rf_sideOf w (rf_of w a 0)) 60 (cl_z (h 317) ((60 + 1) * 8)) 10))) C dX7_soonestHour_45 k7_33 v_X11_has rfl rfl (by decide) (Nat.zero_le _) (Nat.zero_le _) (Nat.le_of_ble_eq_true rfl) (c_X11_has (rf_hr w (nI 1 <<< (nI a &&& 31)) (rf_of w a 0) (nI 0) (n + 1)) b (show b < 32 from by omega)) ?_
        refine am_if_eqB (pc := 48) (tgt := 54) C dX7_soonestHour_48 (by decide) (fun q48 => ?_) (fun q48 => ?_)
        · skip
          refine am_iincN (pc := 54) (ls' := [(0, .ref 316), (1, .int (nI a)), (2, .int (nI b)), (3, .int (rf_hr w (nI 1 <<< (nI a &&& 31)) (rf_of w a 0) (nI 0) (n + 1))), (4, .int (nI (n + 1)))]) C dX7_soonestHour_54 rfl (am_up1 _) (by decide) rfl ?_
          refine am_goto (pc := 57) (tgt := 27) C dX7_soonestHour_57 (by decide) ?_
          exact ih27 (n + 1) (by omega) (Eq.trans (Eq.symm (rf_sea_f (by exact q48))) hms)
        · skip
          refine am_iload (pc := 51) C dX7_soonestHour_51 rfl ?_
          exact am_iretir T dX7_soonestHour_53 rfl (Nat.le_refl _) (Nat.le_refl _) (Eq.trans (Eq.symm hms) (rf_sea_t (by exact q48))).symm rfl (fun i9 h9 => by rw [am_row_ne _ _ _ (by omega), am_row_ne _ _ _ (by omega)])
  refine am_lsv (ls' := [(0, .ref 316), (1, .int (nI a)), (2, .int (nI b)), (3, .int (rf_hr w (nI 1 <<< (nI a &&& 31)) (rf_of w a 0) (nI 0) 0)), (4, .int (nI 0))]) (congrArg (fun z9 : Int32 => ([(0, .ref 316), (1, .int (nI a)), (2, .int (nI b)), (3, Value.int z9), (4, .int (nI 0))] : List (Nat × Value))) (show ((nI 1) <<< ((nI a) &&& 31)) = (rf_hr w (nI 1 <<< (nI a &&& 31)) (rf_of w a 0) (nI 0) 0) from rfl)) ?_
  exact L27 61 0 (by omega) rfl

set_option maxHeartbeats 400000 in
set_option maxRecDepth 100000 in
theorem c_X7_fewestSilent {ad : Nat → Nat} {r : am_R} (hR : am_rs r) {h : am_H} (m : Nat) (d : Int32) (w : rf_W) (hV : rf_I w) (hLo : cl_Lo (h) 4 w) (hSc : cl_Sc (h) 25 w) (hm : m < 32)  : am_CM mX7_fewestSilent 4 0 0 [.ref 316, .int (nI m), .int d] (am_VV ad) r h (am_pr (some (.int (rf_mu w (rf_usersOf w d m) d (rf_sideOf w d) (rf_nat (rf_sideOf w d) + 1)))) r (fun c9 => cl_fr (h) c9 316 2)) := by
  refine am_CM.of (by decide +kernel) (Nat.le_of_ble_eq_true rfl) (fun X C T => ?_)
  show am_G X (am_VV ad) (0, 0) 0 [(0, .ref 316), (1, .int (nI m)), (2, .int d)] [] r h
  have hM9 : rf_M w < 17 := hV.1.1.2
  have hS9 : rf_S w < 11 := hV.1.2.1.2
  have hO9 : rf_O w < 11 := hV.1.2.2.2
  have ha16 : am_lo (rf_sideOf w d) 16 := am_lo_mono (rf_side_lo hV) (by omega)
  have han := am_lo_n (k := 16) (by decide) ha16
  have han2 : rf_nat (rf_sideOf w d) < 65536 := han.2
  have hfs : rf_sub (rf_usersOf w d m) (rf_sideOf w d) := fun j _ hb => by
    rw [rf_usersOf, am_bt_and, Bool.and_eq_true] at hb; exact hb.2
  refine am_aload_n (pc := 0) C dX7_fewestSilent_0 rfl ?_
  refine am_getR (pc := 1) (j := 3) C dX7_fewestSilent_1 f7_9 bn_316 sh_316 (rf_316_0 hR) ?_
  refine am_iload_n (pc := 4) C dX7_fewestSilent_4 rfl ?_
  refine am_callVi (Y := mX10_sideBits) (pc := 5) (st := []) (As := [.int d]) (x := (rf_sideOf w d)) (h2 := h) C dX7_fewestSilent_5 k7_19 v_X10_sideBits rfl rfl bn_3 sh_3 ⟨by decide, rfl⟩ (by decide) (Nat.zero_le _) (Nat.zero_le _) (Nat.le_of_ble_eq_true rfl) (c_X10_sideBits hR d w hV hLo hSc) ?_
  refine am_istore_n (pc := 8) (ls' := [(0, .ref 316), (1, .int (nI m)), (2, .int d), (3, .int (rf_sideOf w d))]) C dX7_fewestSilent_8 (by decide) rfl ?_
  refine am_aload_n (pc := 9) C dX7_fewestSilent_9 rfl ?_
  refine am_getR (pc := 10) (j := 3) C dX7_fewestSilent_10 f7_9 bn_316 sh_316 (rf_316_0 hR) ?_
  refine am_iload_n (pc := 13) C dX7_fewestSilent_13 rfl ?_
  refine am_callVi (Y := mX10_whoUse) (pc := 14) (st := []) (As := [.int (nI m)]) (x := (rf_users w m)) (h2 := h) C dX7_fewestSilent_14 k7_65 v_X10_whoUse rfl rfl bn_3 sh_3 ⟨by decide, rfl⟩ (by decide) (Nat.zero_le _) (Nat.zero_le _) (Nat.le_of_ble_eq_true rfl) (c_X10_whoUse hR m w hV hLo hSc hm) ?_
  refine am_iload_n (pc := 17) C dX7_fewestSilent_17 rfl ?_
  refine am_iand (pc := 18) C dX7_fewestSilent_18 ?_
  refine am_top (show ((rf_users w m) &&& (rf_sideOf w d)) = (rf_usersOf w d m) from rfl) ?_
  refine am_istore (pc := 19) (ls' := [(0, .ref 316), (1, .int (nI m)), (2, .int d), (3, .int (rf_sideOf w d)), (4, .int (rf_usersOf w d m))]) C dX7_fewestSilent_19 (by decide) rfl ?_
  refine am_iload (pc := 21) C dX7_fewestSilent_21 rfl ?_
  refine am_iload_n (pc := 23) C dX7_fewestSilent_23 rfl ?_
  refine am_icmp_ne (pc := 24) (tgt := 30) C dX7_fewestSilent_24 (by decide) (fun q24 => ?_) (fun q24 => ?_)
  · skip
    refine am_aload_n (pc := 30) C dX7_fewestSilent_30 rfl ?_
    refine am_iload_n (pc := 31) C dX7_fewestSilent_31 rfl ?_
    refine am_bipush (pc := 32) (v := nI 12) C dX7_fewestSilent_32 (by decide) ?_
    refine am_callVv (Y := mX7_fillCrowds) (pc := 34) (st := []) (As := [.int d, .int (nI 12)]) (h2 := (am_row (am_row h 316 (upd (h 316) 2 (rf_sideOf w d))) 317 (cl_fc w (rf_sideOf w d) 12 (cl_z (h 317) ((12 + 1) * 8)) 10))) C dX7_fewestSilent_34 k7_62 v_X7_fillCrowds rfl rfl bn_316 sh_316 ⟨by decide, rfl⟩ (by decide) (Nat.zero_le _) (Nat.zero_le _) (Nat.le_of_ble_eq_true rfl) (c_X7_fillCrowds hR d 12 w hV hLo hSc (show 12 < 61 from by omega)) ?_
    refine am_iload_n (pc := 37) C dX7_fewestSilent_37 rfl ?_
    refine am_istore (pc := 38) (ls' := [(0, .ref 316), (1, .int (nI m)), (2, .int d), (3, .int (rf_sideOf w d)), (4, .int (rf_usersOf w d m)), (5, .int (rf_sideOf w d))]) C dX7_fewestSilent_38 (by decide) rfl ?_
    refine am_iconstN (pc := 40) (k := 0) C dX7_fewestSilent_40 ?_
    refine am_istore (pc := 41) (ls' := [(0, .ref 316), (1, .int (nI m)), (2, .int d), (3, .int (rf_sideOf w d)), (4, .int (rf_usersOf w d m)), (5, .int (rf_sideOf w d)), (6, .int (nI 0))]) C dX7_fewestSilent_41 (by decide) rfl ?_
    have L43 : ∀ (j43 i43 : Nat), i43 + j43 = (rf_nat (rf_sideOf w d)) → am_G X (am_VV ad) (0, 0) 43 [(0, .ref 316), (1, .int (nI m)), (2, .int d), (3, .int (rf_sideOf w d)), (4, .int (rf_usersOf w d m)), (5, .int (cl_bm w (rf_usersOf w d m) d (rf_sideOf w d) i43)), (6, .int (nI i43))] [] r (am_row (am_row h 316 (upd (h 316) 2 (rf_sideOf w d))) 317 (cl_fc w (rf_sideOf w d) 12 (cl_z (h 317) ((12 + 1) * 8)) 10)) := by
      intro j43
      induction j43 with
      | zero =>
        intro i43 hi43 
        obtain rfl : i43 = (rf_nat (rf_sideOf w d)) := by omega
        refine am_iload (pc := 43) C dX7_fewestSilent_43 rfl ?_
        refine am_iload_n (pc := 45) C dX7_fewestSilent_45 rfl ?_
        refine am_top (show (rf_sideOf w d) = (nI (rf_nat (rf_sideOf w d))) from han.1) ?_
        refine am_icmp_geN (pc := 46) (tgt := 107) C dX7_fewestSilent_46 (by decide) (by omega) (by omega) (fun q46 => ?_) (fun q46 => ?_)
        · skip
          refine am_iload (pc := 107) C dX7_fewestSilent_107 rfl ?_
          exact am_iretir T dX7_fewestSilent_109 rfl (Nat.le_refl _) (Nat.le_refl _) (cl_bm_mu hV hfs q24).symm rfl (fun i9 h9 => by rw [am_row_ne _ _ _ (by omega), am_row_ne _ _ _ (by omega)])
        · skip
          exact absurd q46 (by omega)
      | succ j43 ih43 =>
        intro i43 hi43 
        have hl43 : i43 < (rf_nat (rf_sideOf w d)) := by omega
        refine am_iload (pc := 43) C dX7_fewestSilent_43 rfl ?_
        refine am_iload_n (pc := 45) C dX7_fewestSilent_45 rfl ?_
        refine am_top (show (rf_sideOf w d) = (nI (rf_nat (rf_sideOf w d))) from han.1) ?_
        refine am_icmp_geN (pc := 46) (tgt := 107) C dX7_fewestSilent_46 (by decide) (by omega) (by omega) (fun q46 => ?_) (fun q46 => ?_)
        · skip
          exact absurd q46 (by omega)
        · skip
          refine am_iload (pc := 49) C dX7_fewestSilent_49 rfl ?_
          refine am_iload_n (pc := 51) C dX7_fewestSilent_51 rfl ?_
          refine am_iconst (pc := 52) (v := -1) C dX7_fewestSilent_52 rfl ?_
          refine am_ixor (pc := 53) C dX7_fewestSilent_53 ?_
          refine am_iand (pc := 54) C dX7_fewestSilent_54 ?_
          refine am_if_ne (pc := 55) (tgt := 75) C dX7_fewestSilent_55 (by decide) (fun q55 => ?_) (fun q55 => ?_)
          · skip
            refine am_iconstN (pc := 75) (k := 0) C dX7_fewestSilent_75 ?_
            refine am_istore (pc := 76) (ls' := [(0, .ref 316), (1, .int (nI m)), (2, .int d), (3, .int (rf_sideOf w d)), (4, .int (rf_usersOf w d m)), (5, .int (cl_bm w (rf_usersOf w d m) d (rf_sideOf w d) i43)), (6, .int (nI i43)), (7, .int (nI 0))]) C dX7_fewestSilent_76 (by decide) rfl ?_
            refine am_iload (pc := 78) C dX7_fewestSilent_78 rfl ?_
            refine am_if_eqN (pc := 80) (tgt := 101) C dX7_fewestSilent_80 (by decide) (by omega) (fun q80 => ?_) (fun q80 => ?_)
            · skip
              refine am_iincN (pc := 101) (ls' := [(0, .ref 316), (1, .int (nI m)), (2, .int d), (3, .int (rf_sideOf w d)), (4, .int (rf_usersOf w d m)), (5, .int (cl_bm w (rf_usersOf w d m) d (rf_sideOf w d) i43)), (6, .int (nI (i43 + 1))), (7, .int (nI 0))]) C dX7_fewestSilent_101 rfl (am_up1 _) (by decide) rfl ?_
              refine am_goto (pc := 104) (tgt := 43) C dX7_fewestSilent_104 (by decide) ?_
              refine am_sub (ls' := [(0, .ref 316), (1, .int (nI m)), (2, .int d), (3, .int (rf_sideOf w d)), (4, .int (rf_usersOf w d m)), (5, .int (cl_bm w (rf_usersOf w d m) d (rf_sideOf w d) i43)), (6, .int (nI (i43 + 1)))]) (by intro q hq; simp only [List.mem_cons, List.not_mem_nil, or_false] at hq ⊢; rcases hq with rfl | rfl | rfl | rfl | rfl | rfl | rfl <;> simp) ?_
              refine am_lsv (ls' := [(0, .ref 316), (1, .int (nI m)), (2, .int d), (3, .int (rf_sideOf w d)), (4, .int (rf_usersOf w d m)), (5, .int (cl_bm w (rf_usersOf w d m) d (rf_sideOf w d) (i43 + 1))), (6, .int (nI (i43 + 1)))]) (by rw [show (cl_bm w (rf_usersOf w d m) d (rf_sideOf w d) i43) = (cl_bm w (rf_usersOf w d m) d (rf_sideOf w d) (i43 + 1)) from (by rw [cl_bm_step hV (by omega), if_neg (fun z => q55 z.1)])]) ?_
              exact ih43 (i43 + 1) (by omega) 
            · skip
              exact absurd q80 (by decide)
          · skip
            refine am_iload (pc := 58) C dX7_fewestSilent_58 rfl ?_
            refine am_callSi (Y := mJ6_bitCount_0f7a4) (pc := 60) (st := []) (As := [.int (nI i43)]) (x := (rf_pc (nI i43))) (h2 := (am_row (am_row h 316 (upd (h 316) 2 (rf_sideOf w d))) 317 (cl_fc w (rf_sideOf w d) 12 (cl_z (h 317) ((12 + 1) * 8)) 10))) C dX7_fewestSilent_60 k7_68 v_J6_bitCount_0f7a4 rfl rfl (by decide) (Nat.zero_le _) (Nat.zero_le _) (Nat.le_of_ble_eq_true rfl) (c_J6_bitCount_0f7a4 hR (nI i43)) ?_
            refine am_iload (pc := 63) C dX7_fewestSilent_63 rfl ?_
            refine am_callSi (Y := mJ6_bitCount_0f7a4) (pc := 65) (st := [.int (rf_pc (nI i43))]) (As := [.int (cl_bm w (rf_usersOf w d m) d (rf_sideOf w d) i43)]) (x := (rf_pc (cl_bm w (rf_usersOf w d m) d (rf_sideOf w d) i43))) (h2 := (am_row (am_row h 316 (upd (h 316) 2 (rf_sideOf w d))) 317 (cl_fc w (rf_sideOf w d) 12 (cl_z (h 317) ((12 + 1) * 8)) 10))) C dX7_fewestSilent_65 k7_68 v_J6_bitCount_0f7a4 rfl rfl (by decide) (Nat.zero_le _) (Nat.zero_le _) (Nat.le_of_ble_eq_true rfl) (c_J6_bitCount_0f7a4 hR (cl_bm w (rf_usersOf w d m) d (rf_sideOf w d) i43)) ?_
            refine am_icmp_ge (pc := 68) (tgt := 75) C dX7_fewestSilent_68 (by decide) (fun q68 => ?_) (fun q68 => ?_)
            · skip
              refine am_iconstN (pc := 75) (k := 0) C dX7_fewestSilent_75 ?_
              refine am_istore (pc := 76) (ls' := [(0, .ref 316), (1, .int (nI m)), (2, .int d), (3, .int (rf_sideOf w d)), (4, .int (rf_usersOf w d m)), (5, .int (cl_bm w (rf_usersOf w d m) d (rf_sideOf w d) i43)), (6, .int (nI i43)), (7, .int (nI 0))]) C dX7_fewestSilent_76 (by decide) rfl ?_
              refine am_iload (pc := 78) C dX7_fewestSilent_78 rfl ?_
              refine am_if_eqN (pc := 80) (tgt := 101) C dX7_fewestSilent_80 (by decide) (by omega) (fun q80 => ?_) (fun q80 => ?_)
              · skip
                refine am_iincN (pc := 101) (ls' := [(0, .ref 316), (1, .int (nI m)), (2, .int d), (3, .int (rf_sideOf w d)), (4, .int (rf_usersOf w d m)), (5, .int (cl_bm w (rf_usersOf w d m) d (rf_sideOf w d) i43)), (6, .int (nI (i43 + 1))), (7, .int (nI 0))]) C dX7_fewestSilent_101 rfl (am_up1 _) (by decide) rfl ?_
                refine am_goto (pc := 104) (tgt := 43) C dX7_fewestSilent_104 (by decide) ?_
                refine am_sub (ls' := [(0, .ref 316), (1, .int (nI m)), (2, .int d), (3, .int (rf_sideOf w d)), (4, .int (rf_usersOf w d m)), (5, .int (cl_bm w (rf_usersOf w d m) d (rf_sideOf w d) i43)), (6, .int (nI (i43 + 1)))]) (by intro q hq; simp only [List.mem_cons, List.not_mem_nil, or_false] at hq ⊢; rcases hq with rfl | rfl | rfl | rfl | rfl | rfl | rfl <;> simp) ?_
                refine am_lsv (ls' := [(0, .ref 316), (1, .int (nI m)), (2, .int d), (3, .int (rf_sideOf w d)), (4, .int (rf_usersOf w d m)), (5, .int (cl_bm w (rf_usersOf w d m) d (rf_sideOf w d) (i43 + 1))), (6, .int (nI (i43 + 1)))]) (by rw [show (cl_bm w (rf_usersOf w d m) d (rf_sideOf w d) i43) = (cl_bm w (rf_usersOf w d m) d (rf_sideOf w d) (i43 + 1)) from (by rw [cl_bm_step hV (by omega), if_neg (fun z => absurd z.2.1 (Int32.not_lt.mpr q68))])]) ?_
                exact ih43 (i43 + 1) (by omega) 
              · skip
                exact absurd q80 (by decide)
            · skip
              refine am_iconstN (pc := 71) (k := 1) C dX7_fewestSilent_71 ?_
              refine am_goto (pc := 72) (tgt := 76) C dX7_fewestSilent_72 (by decide) ?_
              refine am_istore (pc := 76) (ls' := [(0, .ref 316), (1, .int (nI m)), (2, .int d), (3, .int (rf_sideOf w d)), (4, .int (rf_usersOf w d m)), (5, .int (cl_bm w (rf_usersOf w d m) d (rf_sideOf w d) i43)), (6, .int (nI i43)), (7, .int (nI 1))]) C dX7_fewestSilent_76 (by decide) rfl ?_
              refine am_iload (pc := 78) C dX7_fewestSilent_78 rfl ?_
              refine am_if_eqN (pc := 80) (tgt := 101) C dX7_fewestSilent_80 (by decide) (by omega) (fun q80 => ?_) (fun q80 => ?_)
              · skip
                exact absurd q80 (by decide)
              · skip
                refine am_aload_n (pc := 83) C dX7_fewestSilent_83 rfl ?_
                refine am_iload (pc := 84) C dX7_fewestSilent_84 rfl ?_
                refine am_iload (pc := 86) C dX7_fewestSilent_86 rfl ?_
                refine am_bipush (pc := 88) (v := nI 12) C dX7_fewestSilent_88 (by decide) ?_
                refine am_callVi (Y := mX7_heardBehind) (pc := 90) (st := []) (As := [.int (rf_usersOf w d m), .int (nI i43), .int (nI 12)]) (x := (cl_hg (cl_fc w (rf_sideOf w d) 12 (cl_z (h 317) ((12 + 1) * 8)) 10) (rf_usersOf w d m) (nI i43) (12 + 1))) (h2 := (am_row (am_row h 316 (upd (h 316) 2 (rf_sideOf w d))) 317 (cl_fc w (rf_sideOf w d) 12 (cl_z (h 317) ((12 + 1) * 8)) 10))) C dX7_fewestSilent_90 k7_73 v_X7_heardBehind rfl rfl bn_316 sh_316 ⟨by decide, rfl⟩ (by decide) (Nat.zero_le _) (Nat.zero_le _) (Nat.le_of_ble_eq_true rfl) (c_X7_heardBehind hR (rf_usersOf w d m) (nI i43) 12 (show 12 < 61 from (by omega)) (show ∀ n, n ≤ 12 → cl_hg (cl_fc w (rf_sideOf w d) 12 (cl_z (h 317) ((12 + 1) * 8)) 10) (rf_usersOf w d m) (nI i43) n = (upd (h 316) 2 (rf_sideOf w d)) 2 → cl_hg (cl_fc w (rf_sideOf w d) 12 (cl_z (h 317) ((12 + 1) * 8)) 10) (rf_usersOf w d m) (nI i43) (12 + 1) = (upd (h 316) 2 (rf_sideOf w d)) 2 from (fun n hn hq => by rw [rf_upd_eq, cl_hg_hr hV (H := 12) cl_z_0 hfs _ (by omega)] at hq ⊢; exact rf_hr_all hV hfs (by omega) hq))) ?_
                refine am_top (show (cl_hg (cl_fc w (rf_sideOf w d) 12 (cl_z (h 317) ((12 + 1) * 8)) 10) (rf_usersOf w d m) (nI i43) (12 + 1)) = (rf_hr w (rf_usersOf w d m) d (nI i43) 13) from (cl_hg_hr hV (H := 12) cl_z_0 hfs 13 (by omega))) ?_
                refine am_iload_n (pc := 93) C dX7_fewestSilent_93 rfl ?_
                refine am_icmp_eq (pc := 94) (tgt := 101) C dX7_fewestSilent_94 (by decide) (fun q94 => ?_) (fun q94 => ?_)
                · skip
                  refine am_iincN (pc := 101) (ls' := [(0, .ref 316), (1, .int (nI m)), (2, .int d), (3, .int (rf_sideOf w d)), (4, .int (rf_usersOf w d m)), (5, .int (cl_bm w (rf_usersOf w d m) d (rf_sideOf w d) i43)), (6, .int (nI (i43 + 1))), (7, .int (nI 1))]) C dX7_fewestSilent_101 rfl (am_up1 _) (by decide) rfl ?_
                  refine am_goto (pc := 104) (tgt := 43) C dX7_fewestSilent_104 (by decide) ?_
                  refine am_sub (ls' := [(0, .ref 316), (1, .int (nI m)), (2, .int d), (3, .int (rf_sideOf w d)), (4, .int (rf_usersOf w d m)), (5, .int (cl_bm w (rf_usersOf w d m) d (rf_sideOf w d) i43)), (6, .int (nI (i43 + 1)))]) (by intro q hq; simp only [List.mem_cons, List.not_mem_nil, or_false] at hq ⊢; rcases hq with rfl | rfl | rfl | rfl | rfl | rfl | rfl <;> simp) ?_
                  refine am_lsv (ls' := [(0, .ref 316), (1, .int (nI m)), (2, .int d), (3, .int (rf_sideOf w d)), (4, .int (rf_usersOf w d m)), (5, .int (cl_bm w (rf_usersOf w d m) d (rf_sideOf w d) (i43 + 1))), (6, .int (nI (i43 + 1)))]) (by rw [show (cl_bm w (rf_usersOf w d m) d (rf_sideOf w d) i43) = (cl_bm w (rf_usersOf w d m) d (rf_sideOf w d) (i43 + 1)) from (by rw [cl_bm_step hV (by omega), if_neg (fun z => z.2.2 q94)])]) ?_
                  exact ih43 (i43 + 1) (by omega) 
                · skip
                  refine am_iload (pc := 97) C dX7_fewestSilent_97 rfl ?_
                  refine am_istore (pc := 99) (ls' := [(0, .ref 316), (1, .int (nI m)), (2, .int d), (3, .int (rf_sideOf w d)), (4, .int (rf_usersOf w d m)), (5, .int (nI i43)), (6, .int (nI i43)), (7, .int (nI 1))]) C dX7_fewestSilent_99 (by decide) rfl ?_
                  refine am_iincN (pc := 101) (ls' := [(0, .ref 316), (1, .int (nI m)), (2, .int d), (3, .int (rf_sideOf w d)), (4, .int (rf_usersOf w d m)), (5, .int (nI i43)), (6, .int (nI (i43 + 1))), (7, .int (nI 1))]) C dX7_fewestSilent_101 rfl (am_up1 _) (by decide) rfl ?_
                  refine am_goto (pc := 104) (tgt := 43) C dX7_fewestSilent_104 (by decide) ?_
                  refine am_sub (ls' := [(0, .ref 316), (1, .int (nI m)), (2, .int d), (3, .int (rf_sideOf w d)), (4, .int (rf_usersOf w d m)), (5, .int (nI i43)), (6, .int (nI (i43 + 1)))]) (by intro q hq; simp only [List.mem_cons, List.not_mem_nil, or_false] at hq ⊢; rcases hq with rfl | rfl | rfl | rfl | rfl | rfl | rfl <;> simp) ?_
                  refine am_lsv (ls' := [(0, .ref 316), (1, .int (nI m)), (2, .int d), (3, .int (rf_sideOf w d)), (4, .int (rf_usersOf w d m)), (5, .int (cl_bm w (rf_usersOf w d m) d (rf_sideOf w d) (i43 + 1))), (6, .int (nI (i43 + 1)))]) (by rw [show (nI i43) = (cl_bm w (rf_usersOf w d m) d (rf_sideOf w d) (i43 + 1)) from (by rw [cl_bm_step hV (by omega), if_pos ⟨q55, Int32.not_le.mp q68, q94⟩])]) ?_
                  exact ih43 (i43 + 1) (by omega) 
    refine am_sub (ls' := [(0, .ref 316), (1, .int (nI m)), (2, .int d), (3, .int (rf_sideOf w d)), (4, .int (rf_usersOf w d m)), (5, .int (rf_sideOf w d)), (6, .int (nI 0))]) (by intro q hq; simp only [List.mem_cons, List.not_mem_nil, or_false] at hq ⊢; rcases hq with rfl | rfl | rfl | rfl | rfl | rfl | rfl <;> simp) ?_
    refine am_lsv (ls' := [(0, .ref 316), (1, .int (nI m)), (2, .int d), (3, .int (rf_sideOf w d)), (4, .int (rf_usersOf w d m)), (5, .int (cl_bm w (rf_usersOf w d m) d (rf_sideOf w d) 0)), (6, .int (nI 0))]) (congrArg (fun z9 : Int32 => ([(0, .ref 316), (1, .int (nI m)), (2, .int d), (3, .int (rf_sideOf w d)), (4, .int (rf_usersOf w d m)), (5, Value.int z9), (6, .int (nI 0))] : List (Nat × Value))) (show (rf_sideOf w d) = (cl_bm w (rf_usersOf w d m) d (rf_sideOf w d) 0) from rfl)) ?_
    exact L43 (rf_nat (rf_sideOf w d)) 0 (by omega) 
  · skip
    refine am_bipush (pc := 27) (v := -2) C dX7_fewestSilent_27 (by decide) ?_
    exact am_iretir T dX7_fewestSilent_29 rfl (Nat.le_refl _) (Nat.le_refl _) (by rw [show rf_usersOf w d m = rf_sideOf w d from q24]; exact (rf_mu_all hV _).symm) rfl (fun _ _ => rfl)

