/-! THE CLASS: the draft's readers -/

set_option maxHeartbeats 400000 in
set_option maxRecDepth 100000 in
theorem c_X3_usableOf_d {ad : Nat → Nat} {r : am_R} (hR : am_rs r) {h : am_H} (known : Int32) (w : rf_W) (hV : rf_I w) (hLo : cl_Lo (h) 57 w)  : am_CM mX3_usableOf 1 0 0 [.ref 57, .int known] (am_VV ad) r h (am_po (some (.int (rf_usable w known))) r h) := by
  refine am_CM.of (by decide +kernel) (Nat.le_of_ble_eq_true rfl) (fun X C T => ?_)
  show am_G X (am_VV ad) (0, 0) 0 [(0, .ref 57), (1, .int known)] [] r h
  have hM9 : rf_M w < 17 := hV.1.1.2
  have hS9 : rf_S w < 11 := hV.1.2.1.2
  have hO9 : rf_O w < 11 := hV.1.2.2.2
  refine am_iconstN (pc := 0) (k := 0) C dX3_usableOf_0 ?_
  refine am_istore_n (pc := 1) (ls' := [(0, .ref 57), (1, .int known), (2, .int (nI 0))]) C dX3_usableOf_1 (by decide) rfl ?_
  refine am_iconstN (pc := 2) (k := 0) C dX3_usableOf_2 ?_
  refine am_istore_n (pc := 3) (ls' := [(0, .ref 57), (1, .int known), (2, .int (nI 0)), (3, .int (nI 0))]) C dX3_usableOf_3 (by decide) rfl ?_
  have L4 : ∀ (j4 i4 : Nat), i4 + j4 = rf_M w → am_G X (am_VV ad) (0, 0) 4 [(0, .ref 57), (1, .int known), (2, .int (rf_set (fun m => am_bt known m && decide (rf_bears w m &&& (known ^^^ (-1)) = 0)) i4)), (3, .int (nI i4))] [] r h := by
    intro j4
    induction j4 with
    | zero =>
      intro i4 hi4 
      obtain rfl : i4 = rf_M w := by omega
      refine am_iload_n (pc := 4) C dX3_usableOf_4 rfl ?_
      refine am_aload_n (pc := 5) C dX3_usableOf_5 rfl ?_
      refine am_getI (pc := 6) C dX3_usableOf_6 f3_52 bn_57 sh_57 ?_
      refine am_top (show ((h 57) 1) = (nI (rf_M w)) from (hLo.1.2.1.trans hV.1.1.1)) ?_
      refine am_icmp_geN (pc := 9) (tgt := 47) C dX3_usableOf_9 (by decide) (by omega) (by omega) (fun q9 => ?_) (fun q9 => ?_)
      · skip
        refine am_iload_n (pc := 47) C dX3_usableOf_47 rfl ?_
        exact am_ireti T dX3_usableOf_48 rfl (Nat.le_refl _) (Nat.le_refl _) (rf_us2_eq hV) rfl rfl
      · skip
        exact absurd q9 (by omega)
    | succ j4 ih4 =>
      intro i4 hi4 
      have hl4 : i4 < rf_M w := by omega
      refine am_iload_n (pc := 4) C dX3_usableOf_4 rfl ?_
      refine am_aload_n (pc := 5) C dX3_usableOf_5 rfl ?_
      refine am_getI (pc := 6) C dX3_usableOf_6 f3_52 bn_57 sh_57 ?_
      refine am_top (show ((h 57) 1) = (nI (rf_M w)) from (hLo.1.2.1.trans hV.1.1.1)) ?_
      refine am_icmp_geN (pc := 9) (tgt := 47) C dX3_usableOf_9 (by decide) (by omega) (by omega) (fun q9 => ?_) (fun q9 => ?_)
      · skip
        exact absurd q9 (by omega)
      · skip
        refine am_iload_n (pc := 12) C dX3_usableOf_12 rfl ?_
        refine am_iload_n (pc := 13) C dX3_usableOf_13 rfl ?_
        refine am_callSNi (Y := mX11_has) (pc := 14) (st := []) (As := [.int known, .int (nI i4)]) (x := (am_b (am_bt known i4))) (h2 := h) C dX3_usableOf_14 k3_65 v_X11_has rfl rfl (by decide) (Nat.zero_le _) (Nat.zero_le _) (Nat.le_of_ble_eq_true rfl) (c_X11_has known i4 (show i4 < 32 from by omega)) ?_
        refine am_if_eqB (pc := 17) (tgt := 41) C dX3_usableOf_17 (by decide) (fun q17 => ?_) (fun q17 => ?_)
        · skip
          refine am_iincN (pc := 41) (ls' := [(0, .ref 57), (1, .int known), (2, .int (rf_set (fun m => am_bt known m && decide (rf_bears w m &&& (known ^^^ (-1)) = 0)) i4)), (3, .int (nI (i4 + 1)))]) C dX3_usableOf_41 rfl (am_up1 _) (by decide) rfl ?_
          refine am_goto (pc := 44) (tgt := 4) C dX3_usableOf_44 (by decide) ?_
          refine am_lsv (ls' := [(0, .ref 57), (1, .int known), (2, .int (rf_set (fun m => am_bt known m && decide (rf_bears w m &&& (known ^^^ (-1)) = 0)) (i4 + 1))), (3, .int (nI (i4 + 1)))]) (by rw [show (rf_set (fun m => am_bt known m && decide (rf_bears w m &&& (known ^^^ (-1)) = 0)) i4) = (rf_set (fun m => am_bt known m && decide (rf_bears w m &&& (known ^^^ (-1)) = 0)) (i4 + 1)) from rf_set_n (by show (_ && _) = false; rw [q17]; rfl)]) ?_
          exact ih4 (i4 + 1) (by omega) 
        · skip
          refine am_aload_n (pc := 20) C dX3_usableOf_20 rfl ?_
          refine am_getR (pc := 21) (j := 60) C dX3_usableOf_21 f3_18 bn_57 sh_57 (rf_57_6 hR) ?_
          refine am_iload_n (pc := 24) C dX3_usableOf_24 rfl ?_
          refine am_callSNi (Y := mX11_pick) (pc := 25) (st := []) (As := [.ref 60, .int (nI i4)]) (x := ((h 60) i4)) (h2 := h) C dX3_usableOf_25 k3_69 v_X11_pick rfl rfl (by decide) (Nat.zero_le _) (Nat.zero_le _) (Nat.le_of_ble_eq_true rfl) (c_X11_pick 60 i4 16 bn_60 sh_60 (show i4 < 16 from by omega) (by decide)) ?_
          refine am_top (show ((h 60) i4) = (rf_bears w i4) from (hLo.2.1 i4 (by omega)).2.2.1) ?_
          refine am_iload_n (pc := 28) C dX3_usableOf_28 rfl ?_
          refine am_iconst (pc := 29) (v := -1) C dX3_usableOf_29 rfl ?_
          refine am_ixor (pc := 30) C dX3_usableOf_30 ?_
          refine am_iand (pc := 31) C dX3_usableOf_31 ?_
          refine am_if_ne (pc := 32) (tgt := 41) C dX3_usableOf_32 (by decide) (fun q30 => ?_) (fun q30 => ?_)
          · skip
            refine am_iincN (pc := 41) (ls' := [(0, .ref 57), (1, .int known), (2, .int (rf_set (fun m => am_bt known m && decide (rf_bears w m &&& (known ^^^ (-1)) = 0)) i4)), (3, .int (nI (i4 + 1)))]) C dX3_usableOf_41 rfl (am_up1 _) (by decide) rfl ?_
            refine am_goto (pc := 44) (tgt := 4) C dX3_usableOf_44 (by decide) ?_
            refine am_lsv (ls' := [(0, .ref 57), (1, .int known), (2, .int (rf_set (fun m => am_bt known m && decide (rf_bears w m &&& (known ^^^ (-1)) = 0)) (i4 + 1))), (3, .int (nI (i4 + 1)))]) (by rw [show (rf_set (fun m => am_bt known m && decide (rf_bears w m &&& (known ^^^ (-1)) = 0)) i4) = (rf_set (fun m => am_bt known m && decide (rf_bears w m &&& (known ^^^ (-1)) = 0)) (i4 + 1)) from rf_set_n (by show (_ && _) = false; rw [q17, decide_eq_false q30]; rfl)]) ?_
            exact ih4 (i4 + 1) (by omega) 
          · skip
            refine am_iload_n (pc := 35) C dX3_usableOf_35 rfl ?_
            refine am_iconstN (pc := 36) (k := 1) C dX3_usableOf_36 ?_
            refine am_iload_n (pc := 37) C dX3_usableOf_37 rfl ?_
            refine am_ishl (pc := 38) C dX3_usableOf_38 ?_
            refine am_ior (pc := 39) C dX3_usableOf_39 ?_
            refine am_istore_n (pc := 40) (ls' := [(0, .ref 57), (1, .int known), (2, .int ((rf_set (fun m => am_bt known m && decide (rf_bears w m &&& (known ^^^ (-1)) = 0)) i4) ||| ((nI 1) <<< ((nI i4) &&& 31)))), (3, .int (nI i4))]) C dX3_usableOf_40 (by decide) rfl ?_
            refine am_iincN (pc := 41) (ls' := [(0, .ref 57), (1, .int known), (2, .int ((rf_set (fun m => am_bt known m && decide (rf_bears w m &&& (known ^^^ (-1)) = 0)) i4) ||| ((nI 1) <<< ((nI i4) &&& 31)))), (3, .int (nI (i4 + 1)))]) C dX3_usableOf_41 rfl (am_up1 _) (by decide) rfl ?_
            refine am_goto (pc := 44) (tgt := 4) C dX3_usableOf_44 (by decide) ?_
            refine am_lsv (ls' := [(0, .ref 57), (1, .int known), (2, .int (rf_set (fun m => am_bt known m && decide (rf_bears w m &&& (known ^^^ (-1)) = 0)) (i4 + 1))), (3, .int (nI (i4 + 1)))]) (by rw [show ((rf_set (fun m => am_bt known m && decide (rf_bears w m &&& (known ^^^ (-1)) = 0)) i4) ||| ((nI 1) <<< ((nI i4) &&& 31))) = (rf_set (fun m => am_bt known m && decide (rf_bears w m &&& (known ^^^ (-1)) = 0)) (i4 + 1)) from rf_set_t (by show (_ && _) = true; rw [q17, decide_eq_true q30]; rfl)]) ?_
            exact ih4 (i4 + 1) (by omega) 
  exact L4 (rf_M w) 0 (by omega) 

set_option maxHeartbeats 400000 in
set_option maxRecDepth 100000 in
theorem c_X3_worthOf_d {ad : Nat → Nat} {r : am_R} (hR : am_rs r) {h : am_H} (set : Int32) (w : rf_W) (hV : rf_I w) (hLo : cl_Lo (h) 57 w)  : am_CM mX3_worthOf 1 0 0 [.ref 57, .int set] (am_VV ad) r h (am_po (some (.int (rf_worth w set (rf_M w)))) r h) := by
  refine am_CM.of (by decide +kernel) (Nat.le_of_ble_eq_true rfl) (fun X C T => ?_)
  show am_G X (am_VV ad) (0, 0) 0 [(0, .ref 57), (1, .int set)] [] r h
  have hM9 : rf_M w < 17 := hV.1.1.2
  have hS9 : rf_S w < 11 := hV.1.2.1.2
  have hO9 : rf_O w < 11 := hV.1.2.2.2
  refine am_iconstN (pc := 0) (k := 0) C dX3_worthOf_0 ?_
  refine am_istore_n (pc := 1) (ls' := [(0, .ref 57), (1, .int set), (2, .int (nI 0))]) C dX3_worthOf_1 (by decide) rfl ?_
  refine am_iconstN (pc := 2) (k := 0) C dX3_worthOf_2 ?_
  refine am_istore_n (pc := 3) (ls' := [(0, .ref 57), (1, .int set), (2, .int (nI 0)), (3, .int (nI 0))]) C dX3_worthOf_3 (by decide) rfl ?_
  have L4 : ∀ (j4 i4 : Nat), i4 + j4 = rf_M w → am_G X (am_VV ad) (0, 0) 4 [(0, .ref 57), (1, .int set), (2, .int (rf_worth w set i4)), (3, .int (nI i4))] [] r h := by
    intro j4
    induction j4 with
    | zero =>
      intro i4 hi4 
      obtain rfl : i4 = rf_M w := by omega
      refine am_iload_n (pc := 4) C dX3_worthOf_4 rfl ?_
      refine am_aload_n (pc := 5) C dX3_worthOf_5 rfl ?_
      refine am_getI (pc := 6) C dX3_worthOf_6 f3_52 bn_57 sh_57 ?_
      refine am_top (show ((h 57) 1) = (nI (rf_M w)) from (hLo.1.2.1.trans hV.1.1.1)) ?_
      refine am_icmp_geN (pc := 9) (tgt := 37) C dX3_worthOf_9 (by decide) (by omega) (by omega) (fun q9 => ?_) (fun q9 => ?_)
      · skip
        refine am_iload_n (pc := 37) C dX3_worthOf_37 rfl ?_
        exact am_ireti T dX3_worthOf_38 rfl (Nat.le_refl _) (Nat.le_refl _) rfl rfl rfl
      · skip
        exact absurd q9 (by omega)
    | succ j4 ih4 =>
      intro i4 hi4 
      have hl4 : i4 < rf_M w := by omega
      refine am_iload_n (pc := 4) C dX3_worthOf_4 rfl ?_
      refine am_aload_n (pc := 5) C dX3_worthOf_5 rfl ?_
      refine am_getI (pc := 6) C dX3_worthOf_6 f3_52 bn_57 sh_57 ?_
      refine am_top (show ((h 57) 1) = (nI (rf_M w)) from (hLo.1.2.1.trans hV.1.1.1)) ?_
      refine am_icmp_geN (pc := 9) (tgt := 37) C dX3_worthOf_9 (by decide) (by omega) (by omega) (fun q9 => ?_) (fun q9 => ?_)
      · skip
        exact absurd q9 (by omega)
      · skip
        refine am_iload_n (pc := 12) C dX3_worthOf_12 rfl ?_
        refine am_iload_n (pc := 13) C dX3_worthOf_13 rfl ?_
        refine am_callSNi (Y := mX11_has) (pc := 14) (st := []) (As := [.int set, .int (nI i4)]) (x := (am_b (am_bt set i4))) (h2 := h) C dX3_worthOf_14 k3_65 v_X11_has rfl rfl (by decide) (Nat.zero_le _) (Nat.zero_le _) (Nat.le_of_ble_eq_true rfl) (c_X11_has set i4 (show i4 < 32 from by omega)) ?_
        refine am_if_eqB (pc := 17) (tgt := 31) C dX3_worthOf_17 (by decide) (fun q17 => ?_) (fun q17 => ?_)
        · skip
          refine am_iincN (pc := 31) (ls' := [(0, .ref 57), (1, .int set), (2, .int (rf_worth w set i4)), (3, .int (nI (i4 + 1)))]) C dX3_worthOf_31 rfl (am_up1 _) (by decide) rfl ?_
          refine am_goto (pc := 34) (tgt := 4) C dX3_worthOf_34 (by decide) ?_
          refine am_lsv (ls' := [(0, .ref 57), (1, .int set), (2, .int (rf_worth w set (i4 + 1))), (3, .int (nI (i4 + 1)))]) (by rw [show (rf_worth w set i4) = (rf_worth w set (i4 + 1)) from (by rw [rf_worth, if_neg (by rw [q17]; exact Bool.false_ne_true)]; exact (Int32.add_zero _).symm)]) ?_
          exact ih4 (i4 + 1) (by omega) 
        · skip
          refine am_iload_n (pc := 20) C dX3_worthOf_20 rfl ?_
          refine am_aload_n (pc := 21) C dX3_worthOf_21 rfl ?_
          refine am_getR (pc := 22) (j := 58) C dX3_worthOf_22 f3_9 bn_57 sh_57 (rf_57_4 hR) ?_
          refine am_iload_n (pc := 25) C dX3_worthOf_25 rfl ?_
          refine am_callSNi (Y := mX11_pick) (pc := 26) (st := [.int (rf_worth w set i4)]) (As := [.ref 58, .int (nI i4)]) (x := ((h 58) i4)) (h2 := h) C dX3_worthOf_26 k3_69 v_X11_pick rfl rfl (by decide) (Nat.zero_le _) (Nat.zero_le _) (Nat.le_of_ble_eq_true rfl) (c_X11_pick 58 i4 16 bn_58 sh_58 (show i4 < 16 from by omega) (by decide)) ?_
          refine am_top (show ((h 58) i4) = (rf_mem w i4 0) from (hLo.2.1 i4 (by omega)).1) ?_
          refine am_iadd (pc := 29) C dX3_worthOf_29 ?_
          refine am_istore_n (pc := 30) (ls' := [(0, .ref 57), (1, .int set), (2, .int ((rf_worth w set i4) + (rf_mem w i4 0))), (3, .int (nI i4))]) C dX3_worthOf_30 (by decide) rfl ?_
          refine am_iincN (pc := 31) (ls' := [(0, .ref 57), (1, .int set), (2, .int ((rf_worth w set i4) + (rf_mem w i4 0))), (3, .int (nI (i4 + 1)))]) C dX3_worthOf_31 rfl (am_up1 _) (by decide) rfl ?_
          refine am_goto (pc := 34) (tgt := 4) C dX3_worthOf_34 (by decide) ?_
          refine am_lsv (ls' := [(0, .ref 57), (1, .int set), (2, .int (rf_worth w set (i4 + 1))), (3, .int (nI (i4 + 1)))]) (by rw [show ((rf_worth w set i4) + (rf_mem w i4 0)) = (rf_worth w set (i4 + 1)) from (by rw [rf_worth, if_pos q17])]) ?_
          exact ih4 (i4 + 1) (by omega) 
  exact L4 (rf_M w) 0 (by omega) 

set_option maxHeartbeats 400000 in
set_option maxRecDepth 100000 in
theorem c_X5_append_d {ad : Nat → Nat} {r : am_R} (hR : am_rs r) {h : am_H} (s : Nat) (m : Nat) (w : rf_W) (hV : rf_I w) (hSc : cl_Sc (h) 78 w) (hs : s < rf_S w) (hk : rf_kn w s < 12) (hm : m < 32)  : am_CM mX5_append 1 0 0 [.ref 78, .int (nI s), .int (nI m)] (am_VV ad) r h (am_po none r (am_row (am_row (am_row h 84 (upd (h 84) (s * 12 + rf_kn w s) (nI m))) 81 (upd (h 81) s (nI (rf_kn w s + 1)))) 82 (upd (h 82) s (rf_known w s ||| (nI 1 <<< (nI m &&& 31)))))) := by
  refine am_CM.of (by decide +kernel) (Nat.le_of_ble_eq_true rfl) (fun X C T => ?_)
  show am_G X (am_VV ad) (0, 0) 0 [(0, .ref 78), (1, .int (nI s)), (2, .int (nI m))] [] r h
  have hM9 : rf_M w < 17 := hV.1.1.2
  have hS9 : rf_S w < 11 := hV.1.2.1.2
  have hO9 : rf_O w < 11 := hV.1.2.2.2
  refine am_aload_n (pc := 0) C dX5_append_0 rfl ?_
  refine am_getR (pc := 1) (j := 81) C dX5_append_1 f5_22 bn_78 sh_78 (rf_78_7 hR) ?_
  refine am_iload_n (pc := 4) C dX5_append_4 rfl ?_
  refine am_callSNi (Y := mX11_pick) (pc := 5) (st := []) (As := [.ref 81, .int (nI s)]) (x := ((h 81) s)) (h2 := h) C dX5_append_5 k5_75 v_X11_pick rfl rfl (by decide) (Nat.zero_le _) (Nat.zero_le _) (Nat.le_of_ble_eq_true rfl) (c_X11_pick 81 s 10 bn_81 sh_81 (show s < 10 from by omega) (by decide)) ?_
  refine am_top (show ((h 81) s) = (nI (rf_kn w s)) from ((hSc.2.1 s (by omega)).2.2.1.trans (hV.2.1 s (by omega)).2.2.2.2.1.1)) ?_
  refine am_istore_n (pc := 8) (ls' := [(0, .ref 78), (1, .int (nI s)), (2, .int (nI m)), (3, .int (nI (rf_kn w s)))]) C dX5_append_8 (by decide) rfl ?_
  refine am_iload_n (pc := 9) C dX5_append_9 rfl ?_
  refine am_bipush (pc := 10) (v := nI 12) C dX5_append_10 (by decide) ?_
  refine am_icmp_geN (pc := 12) (tgt := 60) C dX5_append_12 (by decide) (by omega) (by omega) (fun q12 => ?_) (fun q12 => ?_)
  · skip
    exact absurd q12 (by omega)
  · skip
    refine am_aload_n (pc := 15) C dX5_append_15 rfl ?_
    refine am_getR (pc := 16) (j := 84) C dX5_append_16 f5_31 bn_78 sh_78 (rf_78_10 hR) ?_
    refine am_iload_n (pc := 19) C dX5_append_19 rfl ?_
    refine am_bipush (pc := 20) (v := nI 12) C dX5_append_20 (by decide) ?_
    refine am_imulN (pc := 22) C dX5_append_22 ?_
    refine am_iload_n (pc := 23) C dX5_append_23 rfl ?_
    refine am_iaddN (pc := 24) C dX5_append_24 ?_
    refine am_iload_n (pc := 25) C dX5_append_25 rfl ?_
    refine am_callSNv (Y := mX11_put) (pc := 26) (st := []) (As := [.ref 84, .int (nI ((s * 12) + (rf_kn w s))), .int (nI m)]) (h2 := (am_row h 84 (upd (h 84) ((s * 12) + (rf_kn w s)) (nI m)))) C dX5_append_26 k5_79 v_X11_put rfl rfl (by decide) (Nat.zero_le _) (Nat.zero_le _) (Nat.le_of_ble_eq_true rfl) (c_X11_put 84 ((s * 12) + (rf_kn w s)) (nI m) 120 bn_84 sh_84 (show (s * 12) + (rf_kn w s) < 120 from by omega) (by decide)) ?_
    refine am_aload_n (pc := 29) C dX5_append_29 rfl ?_
    refine am_getR (pc := 30) (j := 81) C dX5_append_30 f5_22 bn_78 sh_78 (rf_78_7 hR) ?_
    refine am_iload_n (pc := 33) C dX5_append_33 rfl ?_
    refine am_iload_n (pc := 34) C dX5_append_34 rfl ?_
    refine am_iconstN (pc := 35) (k := 1) C dX5_append_35 ?_
    refine am_iaddN (pc := 36) C dX5_append_36 ?_
    refine am_callSNv (Y := mX11_put) (pc := 37) (st := []) (As := [.ref 81, .int (nI s), .int (nI ((rf_kn w s) + 1))]) (h2 := (am_row (am_row h 84 (upd (h 84) ((s * 12) + (rf_kn w s)) (nI m))) 81 (upd (h 81) s (nI ((rf_kn w s) + 1))))) C dX5_append_37 k5_79 v_X11_put rfl rfl (by decide) (Nat.zero_le _) (Nat.zero_le _) (Nat.le_of_ble_eq_true rfl) (c_X11_put 81 s (nI ((rf_kn w s) + 1)) 10 bn_81 sh_81 (show s < 10 from by omega) (by decide)) ?_
    refine am_aload_n (pc := 40) C dX5_append_40 rfl ?_
    refine am_getR (pc := 41) (j := 82) C dX5_append_41 f5_25 bn_78 sh_78 (rf_78_8 hR) ?_
    refine am_iload_n (pc := 44) C dX5_append_44 rfl ?_
    refine am_aload_n (pc := 45) C dX5_append_45 rfl ?_
    refine am_getR (pc := 46) (j := 82) C dX5_append_46 f5_25 bn_78 sh_78 (rf_78_8 hR) ?_
    refine am_iload_n (pc := 49) C dX5_append_49 rfl ?_
    refine am_callSNi (Y := mX11_pick) (pc := 50) (st := [.int (nI s), .ref 82]) (As := [.ref 82, .int (nI s)]) (x := ((h 82) s)) (h2 := (am_row (am_row h 84 (upd (h 84) ((s * 12) + (rf_kn w s)) (nI m))) 81 (upd (h 81) s (nI ((rf_kn w s) + 1))))) C dX5_append_50 k5_75 v_X11_pick rfl rfl (by decide) (Nat.zero_le _) (Nat.zero_le _) (Nat.le_of_ble_eq_true rfl) (c_X11_pick 82 s 10 bn_82 sh_82 (show s < 10 from by omega) (by decide)) ?_
    refine am_top (show ((h 82) s) = (rf_known w s) from (hSc.2.1 s (by omega)).2.2.2.1) ?_
    refine am_iconstN (pc := 53) (k := 1) C dX5_append_53 ?_
    refine am_iload_n (pc := 54) C dX5_append_54 rfl ?_
    refine am_ishl (pc := 55) C dX5_append_55 ?_
    refine am_ior (pc := 56) C dX5_append_56 ?_
    refine am_callSNv (Y := mX11_put) (pc := 57) (st := []) (As := [.ref 82, .int (nI s), .int ((rf_known w s) ||| ((nI 1) <<< ((nI m) &&& 31)))]) (h2 := (am_row (am_row (am_row h 84 (upd (h 84) ((s * 12) + (rf_kn w s)) (nI m))) 81 (upd (h 81) s (nI ((rf_kn w s) + 1)))) 82 (upd (h 82) s ((rf_known w s) ||| ((nI 1) <<< ((nI m) &&& 31)))))) C dX5_append_57 k5_79 v_X11_put rfl rfl (by decide) (Nat.zero_le _) (Nat.zero_le _) (Nat.le_of_ble_eq_true rfl) (c_X11_put 82 s ((rf_known w s) ||| ((nI 1) <<< ((nI m) &&& 31))) 10 bn_82 sh_82 (show s < 10 from by omega) (by decide)) ?_
    exact am_vretv T dX5_append_60 rfl (Nat.le_refl _) (Nat.le_refl _) rfl rfl

set_option maxHeartbeats 400000 in
set_option maxRecDepth 100000 in
theorem c_X10_addKnown_d {ad : Nat → Nat} {r : am_R} (hR : am_rs r) {h : am_H} (s : Nat) (m : Nat) (w : rf_W) (hV : rf_I w) (hLo : cl_Lo (h) 57 w) (hSc : cl_Sc (h) 78 w) (hs : s < rf_S w) (hk : rf_kn w s < 12) (hm : m < 32)  : am_CM mX10_addKnown 2 0 0 [.ref 56, .int (nI s), .int (nI m)] (am_VV ad) r h (am_po none r (am_row (am_row (am_row (am_row h 84 (upd (h 84) (s * 12 + rf_kn w s) (nI m))) 81 (upd (h 81) s (nI (rf_kn w s + 1)))) 82 (upd (h 82) s (rf_known w s ||| (nI 1 <<< (nI m &&& 31))))) 83 (upd (h 83) s (rf_usable w (rf_known w s ||| (nI 1 <<< (nI m &&& 31))))))) := by
  refine am_CM.of (by decide +kernel) (Nat.le_of_ble_eq_true rfl) (fun X C T => ?_)
  show am_G X (am_VV ad) (0, 0) 0 [(0, .ref 56), (1, .int (nI s)), (2, .int (nI m))] [] r h
  have hM9 : rf_M w < 17 := hV.1.1.2
  have hS9 : rf_S w < 11 := hV.1.2.1.2
  have hO9 : rf_O w < 11 := hV.1.2.2.2
  refine am_aload_n (pc := 0) C dX10_addKnown_0 rfl ?_
  refine am_getR (pc := 1) (j := 78) C dX10_addKnown_1 f10_22 bn_56 sh_56 (rf_56_2 hR) ?_
  refine am_iload_n (pc := 4) C dX10_addKnown_4 rfl ?_
  refine am_iload_n (pc := 5) C dX10_addKnown_5 rfl ?_
  refine am_callVv (Y := mX5_append) (pc := 6) (st := []) (As := [.int (nI s), .int (nI m)]) (h2 := (am_row (am_row (am_row h 84 (upd (h 84) (s * 12 + rf_kn w s) (nI m))) 81 (upd (h 81) s (nI (rf_kn w s + 1)))) 82 (upd (h 82) s (rf_known w s ||| (nI 1 <<< (nI m &&& 31)))))) C dX10_addKnown_6 k10_71 v_X5_append rfl rfl bn_78 sh_78 ⟨by decide, rfl⟩ (by decide) (Nat.zero_le _) (Nat.zero_le _) (Nat.le_of_ble_eq_true rfl) (c_X5_append_d hR s m w hV hSc hs hk hm) ?_
  refine am_aload_n (pc := 9) C dX10_addKnown_9 rfl ?_
  refine am_getR (pc := 10) (j := 78) C dX10_addKnown_10 f10_22 bn_56 sh_56 (rf_56_2 hR) ?_
  refine am_getR (pc := 13) (j := 83) C dX10_addKnown_13 f10_64 bn_78 sh_78 (rf_78_9 hR) ?_
  refine am_iload_n (pc := 16) C dX10_addKnown_16 rfl ?_
  refine am_aload_n (pc := 17) C dX10_addKnown_17 rfl ?_
  refine am_getR (pc := 18) (j := 57) C dX10_addKnown_18 f10_9 bn_56 sh_56 (rf_56_0 hR) ?_
  refine am_aload_n (pc := 21) C dX10_addKnown_21 rfl ?_
  refine am_getR (pc := 22) (j := 78) C dX10_addKnown_22 f10_22 bn_56 sh_56 (rf_56_2 hR) ?_
  refine am_getR (pc := 25) (j := 82) C dX10_addKnown_25 f10_61 bn_78 sh_78 (rf_78_8 hR) ?_
  refine am_iload_n (pc := 28) C dX10_addKnown_28 rfl ?_
  refine am_callSNi (Y := mX11_pick) (pc := 29) (st := [.ref 57, .int (nI s), .ref 83]) (As := [.ref 82, .int (nI s)]) (x := ((upd (h 82) s (rf_known w s ||| (nI 1 <<< (nI m &&& 31)))) s)) (h2 := (am_row (am_row (am_row h 84 (upd (h 84) (s * 12 + rf_kn w s) (nI m))) 81 (upd (h 81) s (nI (rf_kn w s + 1)))) 82 (upd (h 82) s (rf_known w s ||| (nI 1 <<< (nI m &&& 31)))))) C dX10_addKnown_29 k10_54 v_X11_pick rfl rfl (by decide) (Nat.zero_le _) (Nat.zero_le _) (Nat.le_of_ble_eq_true rfl) (c_X11_pick 82 s 10 bn_82 sh_82 (show s < 10 from by omega) (by decide)) ?_
  refine am_top (show ((upd (h 82) s (rf_known w s ||| (nI 1 <<< (nI m &&& 31)))) s) = (rf_known w s ||| (nI 1 <<< (nI m &&& 31))) from rf_upd_eq) ?_
  refine am_callVi (Y := mX3_usableOf) (pc := 32) (st := [.int (nI s), .ref 83]) (As := [.int (rf_known w s ||| (nI 1 <<< (nI m &&& 31)))]) (x := (rf_usable w (rf_known w s ||| (nI 1 <<< (nI m &&& 31))))) (h2 := (am_row (am_row (am_row h 84 (upd (h 84) (s * 12 + rf_kn w s) (nI m))) 81 (upd (h 81) s (nI (rf_kn w s + 1)))) 82 (upd (h 82) s (rf_known w s ||| (nI 1 <<< (nI m &&& 31)))))) C dX10_addKnown_32 k10_75 v_X3_usableOf rfl rfl bn_57 sh_57 ⟨by decide, rfl⟩ (by decide) (Nat.zero_le _) (Nat.zero_le _) (Nat.le_of_ble_eq_true rfl) (c_X3_usableOf_d hR (rf_known w s ||| (nI 1 <<< (nI m &&& 31))) w hV (cl_Lo_eq (fun i9 h9 g9 => by rw [am_row_ne _ _ _ (by omega), am_row_ne _ _ _ (by omega), am_row_ne _ _ _ (by omega)]) hLo)) ?_
  refine am_callSNv (Y := mX11_put) (pc := 35) (st := []) (As := [.ref 83, .int (nI s), .int (rf_usable w (rf_known w s ||| (nI 1 <<< (nI m &&& 31))))]) (h2 := (am_row (am_row (am_row (am_row h 84 (upd (h 84) (s * 12 + rf_kn w s) (nI m))) 81 (upd (h 81) s (nI (rf_kn w s + 1)))) 82 (upd (h 82) s (rf_known w s ||| (nI 1 <<< (nI m &&& 31))))) 83 (upd (h 83) s (rf_usable w (rf_known w s ||| (nI 1 <<< (nI m &&& 31))))))) C dX10_addKnown_35 k10_44 v_X11_put rfl rfl (by decide) (Nat.zero_le _) (Nat.zero_le _) (Nat.le_of_ble_eq_true rfl) (c_X11_put 83 s (rf_usable w (rf_known w s ||| (nI 1 <<< (nI m &&& 31)))) 10 bn_83 sh_83 (show s < 10 from by omega) (by decide)) ?_
  exact am_vretv T dX10_addKnown_38 rfl (Nat.le_refl _) (Nat.le_refl _) rfl rfl

set_option maxHeartbeats 400000 in
set_option maxRecDepth 100000 in
theorem c_X10_isNewTo_d {ad : Nat → Nat} {r : am_R} (hR : am_rs r) {h : am_H} (s : Nat) (m : Nat) (w : rf_W) (hV : rf_I w) (hLo : cl_Lo (h) 57 w) (hSc : cl_Sc (h) 78 w) (hs : s < rf_S w) (hm : m < 32)  : am_CM mX10_isNewTo 1 0 0 [.ref 56, .int (nI s), .int (nI m)] (am_VV ad) r h (am_po (some (.int (am_b ((!am_bt (rf_known w s) m) && decide (rf_kn w s < 12))))) r h) := by
  refine am_CM.of (by decide +kernel) (Nat.le_of_ble_eq_true rfl) (fun X C T => ?_)
  show am_G X (am_VV ad) (0, 0) 0 [(0, .ref 56), (1, .int (nI s)), (2, .int (nI m))] [] r h
  have hM9 : rf_M w < 17 := hV.1.1.2
  have hS9 : rf_S w < 11 := hV.1.2.1.2
  have hO9 : rf_O w < 11 := hV.1.2.2.2
  have hk13 : rf_kn w s < 13 := (hV.2.1 s hs).2.2.2.2.1.2
  refine am_aload_n (pc := 0) C dX10_isNewTo_0 rfl ?_
  refine am_getR (pc := 1) (j := 78) C dX10_isNewTo_1 f10_22 bn_56 sh_56 (rf_56_2 hR) ?_
  refine am_getR (pc := 4) (j := 82) C dX10_isNewTo_4 f10_61 bn_78 sh_78 (rf_78_8 hR) ?_
  refine am_iload_n (pc := 7) C dX10_isNewTo_7 rfl ?_
  refine am_callSNi (Y := mX11_pick) (pc := 8) (st := []) (As := [.ref 82, .int (nI s)]) (x := ((h 82) s)) (h2 := h) C dX10_isNewTo_8 k10_54 v_X11_pick rfl rfl (by decide) (Nat.zero_le _) (Nat.zero_le _) (Nat.le_of_ble_eq_true rfl) (c_X11_pick 82 s 10 bn_82 sh_82 (show s < 10 from by omega) (by decide)) ?_
  refine am_top (show ((h 82) s) = (rf_known w s) from (hSc.2.1 s (by omega)).2.2.2.1) ?_
  refine am_iload_n (pc := 11) C dX10_isNewTo_11 rfl ?_
  refine am_callSNi (Y := mX11_has) (pc := 12) (st := []) (As := [.int (rf_known w s), .int (nI m)]) (x := (am_b (am_bt (rf_known w s) m))) (h2 := h) C dX10_isNewTo_12 k10_67 v_X11_has rfl rfl (by decide) (Nat.zero_le _) (Nat.zero_le _) (Nat.le_of_ble_eq_true rfl) (c_X11_has (rf_known w s) m hm) ?_
  refine am_if_neB (pc := 15) (tgt := 38) C dX10_isNewTo_15 (by decide) (fun q15 => ?_) (fun q15 => ?_)
  · skip
    refine am_iconstN (pc := 38) (k := 0) C dX10_isNewTo_38 ?_
    exact am_iretb T dX10_isNewTo_39 rfl (Nat.le_refl _) (Nat.le_refl _) (by rw [q15]; rfl) rfl rfl
  · skip
    refine am_aload_n (pc := 18) C dX10_isNewTo_18 rfl ?_
    refine am_getR (pc := 19) (j := 78) C dX10_isNewTo_19 f10_22 bn_56 sh_56 (rf_56_2 hR) ?_
    refine am_getR (pc := 22) (j := 81) C dX10_isNewTo_22 f10_58 bn_78 sh_78 (rf_78_7 hR) ?_
    refine am_iload_n (pc := 25) C dX10_isNewTo_25 rfl ?_
    refine am_callSNi (Y := mX11_pick) (pc := 26) (st := []) (As := [.ref 81, .int (nI s)]) (x := ((h 81) s)) (h2 := h) C dX10_isNewTo_26 k10_54 v_X11_pick rfl rfl (by decide) (Nat.zero_le _) (Nat.zero_le _) (Nat.le_of_ble_eq_true rfl) (c_X11_pick 81 s 10 bn_81 sh_81 (show s < 10 from by omega) (by decide)) ?_
    refine am_top (show ((h 81) s) = (nI (rf_kn w s)) from ((hSc.2.1 s (by omega)).2.2.1.trans (hV.2.1 s (by omega)).2.2.2.2.1.1)) ?_
    refine am_bipush (pc := 29) (v := nI 12) C dX10_isNewTo_29 (by decide) ?_
    refine am_icmp_geN (pc := 31) (tgt := 38) C dX10_isNewTo_31 (by decide) (by omega) (by omega) (fun q31 => ?_) (fun q31 => ?_)
    · skip
      refine am_iconstN (pc := 38) (k := 0) C dX10_isNewTo_38 ?_
      exact am_iretb T dX10_isNewTo_39 rfl (Nat.le_refl _) (Nat.le_refl _) (by rw [q15, decide_eq_false (by omega)]; rfl) rfl rfl
    · skip
      refine am_iconstN (pc := 34) (k := 1) C dX10_isNewTo_34 ?_
      refine am_goto (pc := 35) (tgt := 39) C dX10_isNewTo_35 (by decide) ?_
      exact am_iretb T dX10_isNewTo_39 rfl (Nat.le_refl _) (Nat.le_refl _) (by rw [q15, decide_eq_true (by omega)]; rfl) rfl rfl

