set_option maxHeartbeats 400000 in
set_option maxRecDepth 100000 in
theorem c_X12_placeIn {ad : Nat → Nat} {r : am_R} (hR : am_rs r) {h : am_H} (s : Nat) (x : Int32) (hs : s < rf_S (h 323)) (hI : rf_Is (h 323) s) (hC : rf_Cn (h 323))  : am_CM mX12_placeIn 1 0 0 [.ref 322, .int (nI s), .int x] (am_VV ad) r h (am_po (some (.int (rf_pl2 (h 323) s x))) r h) := by
  refine am_CM.of (by decide +kernel) (Nat.le_of_ble_eq_true rfl) (fun X C T => ?_)
  show am_G X (am_VV ad) (0, 0) 0 [(0, .ref 322), (1, .int (nI s)), (2, .int x)] [] r h
  have hS9 : rf_S (h 323) < 11 := hC.2.1.2
  have hn7 : rf_ofn (h 323) s 2 < 7 := hI.2.1.2
  have hn0 : 0 < rf_ofn (h 323) s 2 := Nat.lt_of_le_of_lt (Nat.zero_le _) hI.2.2.1.2
  have hmd := rf_md_lt (rf_of (h 323) s 1 + x) hn0
  refine am_aload_n (pc := 0) C dX12_placeIn_0 rfl ?_
  refine am_iload_n (pc := 1) C dX12_placeIn_1 rfl ?_
  refine am_iconstN (pc := 2) (k := 2) C dX12_placeIn_2 ?_
  refine am_callVi (Y := mX12_of) (pc := 3) (st := []) (As := [.int (nI s), .int (nI 2)]) (x := (rf_of (h 323) s 2)) (h2 := h) C dX12_placeIn_3 k12_63 v_X12_of rfl rfl bn_322 sh_322 ⟨by decide, rfl⟩ (by decide) (Nat.zero_le _) (Nat.zero_le _) (Nat.le_of_ble_eq_true rfl) (c_X12_of hR s 2 (show s < 11 from by omega) (show 2 < 23 from by omega)) ?_
  refine am_top (show (rf_of (h 323) s 2) = (nI (rf_ofn (h 323) s 2)) from hI.2.1.1) ?_
  refine am_istore_n (pc := 6) (ls' := [(0, .ref 322), (1, .int (nI s)), (2, .int x), (3, .int (nI (rf_ofn (h 323) s 2)))]) C dX12_placeIn_6 (by decide) rfl ?_
  refine am_aload_n (pc := 7) C dX12_placeIn_7 rfl ?_
  refine am_iload_n (pc := 8) C dX12_placeIn_8 rfl ?_
  refine am_iconstN (pc := 9) (k := 3) C dX12_placeIn_9 ?_
  refine am_aload_n (pc := 10) C dX12_placeIn_10 rfl ?_
  refine am_iload_n (pc := 11) C dX12_placeIn_11 rfl ?_
  refine am_iconstN (pc := 12) (k := 1) C dX12_placeIn_12 ?_
  refine am_callVi (Y := mX12_of) (pc := 13) (st := [.int (nI 3), .int (nI s), .ref 322]) (As := [.int (nI s), .int (nI 1)]) (x := (rf_of (h 323) s 1)) (h2 := h) C dX12_placeIn_13 k12_63 v_X12_of rfl rfl bn_322 sh_322 ⟨by decide, rfl⟩ (by decide) (Nat.zero_le _) (Nat.zero_le _) (Nat.le_of_ble_eq_true rfl) (c_X12_of hR s 1 (show s < 11 from by omega) (show 1 < 23 from by omega)) ?_
  refine am_iload_n (pc := 16) C dX12_placeIn_16 rfl ?_
  refine am_iadd (pc := 17) C dX12_placeIn_17 ?_
  refine am_iload_n (pc := 18) C dX12_placeIn_18 rfl ?_
  refine am_irem (pc := 19) C dX12_placeIn_19 (nI_ne0 hn0 (by omega)) ?_
  refine am_iload_n (pc := 20) C dX12_placeIn_20 rfl ?_
  refine am_iadd (pc := 21) C dX12_placeIn_21 ?_
  refine am_iload_n (pc := 22) C dX12_placeIn_22 rfl ?_
  refine am_irem (pc := 23) C dX12_placeIn_23 (nI_ne0 hn0 (by omega)) ?_
  refine am_iadd (pc := 24) C dX12_placeIn_24 ?_
  refine am_top (show ((nI 3) + (((((rf_of (h 323) s 1) + x) - ((rf_of (h 323) s 1) + x) / (nI (rf_ofn (h 323) s 2)) * (nI (rf_ofn (h 323) s 2))) + (nI (rf_ofn (h 323) s 2))) - ((((rf_of (h 323) s 1) + x) - ((rf_of (h 323) s 1) + x) / (nI (rf_ofn (h 323) s 2)) * (nI (rf_ofn (h 323) s 2))) + (nI (rf_ofn (h 323) s 2))) / (nI (rf_ofn (h 323) s 2)) * (nI (rf_ofn (h 323) s 2)))) = (nI (3 + rf_md (rf_of (h 323) s 1 + x) (rf_ofn (h 323) s 2))) from by rw [← nI_add]; exact congrArg (fun z => nI 3 + z) (rf_md_eq _ hn0 (by omega))) ?_
  refine am_callVi (Y := mX12_of) (pc := 25) (st := []) (As := [.int (nI s), .int (nI (3 + rf_md (rf_of (h 323) s 1 + x) (rf_ofn (h 323) s 2)))]) (x := (rf_of (h 323) s (3 + rf_md (rf_of (h 323) s 1 + x) (rf_ofn (h 323) s 2)))) (h2 := h) C dX12_placeIn_25 k12_63 v_X12_of rfl rfl bn_322 sh_322 ⟨by decide, rfl⟩ (by decide) (Nat.zero_le _) (Nat.zero_le _) (Nat.le_of_ble_eq_true rfl) (c_X12_of hR s (3 + rf_md (rf_of (h 323) s 1 + x) (rf_ofn (h 323) s 2)) (show s < 11 from by omega) (show (3 + rf_md (rf_of (h 323) s 1 + x) (rf_ofn (h 323) s 2)) < 23 from by omega)) ?_
  exact am_ireti T dX12_placeIn_28 rfl (Nat.le_refl _) (Nat.le_refl _) rfl rfl rfl

set_option maxHeartbeats 400000 in
set_option maxRecDepth 100000 in
theorem c_X12_fallsOf {ad : Nat → Nat} {r : am_R} (hR : am_rs r) {h : am_H} (known : Int32) (m : Nat) (hC : rf_Cn (h 323)) (hm : m < 32)  : am_CM mX12_fallsOf 2 0 0 [.ref 322, .int known, .int (nI m)] (am_VV ad) r h (am_po (some (.int (rf_falls (h 323) known m))) r h) := by
  refine am_CM.of (by decide +kernel) (Nat.le_of_ble_eq_true rfl) (fun X C T => ?_)
  show am_G X (am_VV ad) (0, 0) 0 [(0, .ref 322), (1, .int known), (2, .int (nI m))] [] r h
  refine am_aload_n (pc := 0) C dX12_fallsOf_0 rfl ?_
  refine am_iload_n (pc := 1) C dX12_fallsOf_1 rfl ?_
  refine am_callVi (Y := mX12_usable) (pc := 2) (st := []) (As := [.int known]) (x := (rf_usable (h 323) known)) (h2 := h) C dX12_fallsOf_2 k12_92 v_X12_usable rfl rfl bn_322 sh_322 ⟨by decide, rfl⟩ (by decide) (Nat.zero_le _) (Nat.zero_le _) (Nat.le_of_ble_eq_true rfl) (c_X12_usable hR known hC) ?_
  refine am_callSi (Y := mJ6_bitCount_0f7a4) (pc := 5) (st := []) (As := [.int (rf_usable (h 323) known)]) (x := (rf_pc (rf_usable (h 323) known))) (h2 := h) C dX12_fallsOf_5 k12_278 v_J6_bitCount_0f7a4 rfl rfl (by decide) (Nat.zero_le _) (Nat.zero_le _) (Nat.le_of_ble_eq_true rfl) (c_J6_bitCount_0f7a4 hR (rf_usable (h 323) known)) ?_
  refine am_aload_n (pc := 8) C dX12_fallsOf_8 rfl ?_
  refine am_iload_n (pc := 9) C dX12_fallsOf_9 rfl ?_
  refine am_iconstN (pc := 10) (k := 1) C dX12_fallsOf_10 ?_
  refine am_iload_n (pc := 11) C dX12_fallsOf_11 rfl ?_
  refine am_ishl (pc := 12) C dX12_fallsOf_12 ?_
  refine am_iconst (pc := 13) (v := -1) C dX12_fallsOf_13 rfl ?_
  refine am_ixor (pc := 14) C dX12_fallsOf_14 ?_
  refine am_iand (pc := 15) C dX12_fallsOf_15 ?_
  refine am_callVi (Y := mX12_usable) (pc := 16) (st := [.int (rf_pc (rf_usable (h 323) known))]) (As := [.int (known &&& (((nI 1) <<< ((nI m) &&& 31)) ^^^ (-1)))]) (x := (rf_usable (h 323) (known &&& (((nI 1) <<< ((nI m) &&& 31)) ^^^ (-1))))) (h2 := h) C dX12_fallsOf_16 k12_92 v_X12_usable rfl rfl bn_322 sh_322 ⟨by decide, rfl⟩ (by decide) (Nat.zero_le _) (Nat.zero_le _) (Nat.le_of_ble_eq_true rfl) (c_X12_usable hR (known &&& (((nI 1) <<< ((nI m) &&& 31)) ^^^ (-1))) hC) ?_
  refine am_callSi (Y := mJ6_bitCount_0f7a4) (pc := 19) (st := [.int (rf_pc (rf_usable (h 323) known))]) (As := [.int (rf_usable (h 323) (known &&& (((nI 1) <<< ((nI m) &&& 31)) ^^^ (-1))))]) (x := (rf_pc (rf_usable (h 323) (known &&& (((nI 1) <<< ((nI m) &&& 31)) ^^^ (-1)))))) (h2 := h) C dX12_fallsOf_19 k12_278 v_J6_bitCount_0f7a4 rfl rfl (by decide) (Nat.zero_le _) (Nat.zero_le _) (Nat.le_of_ble_eq_true rfl) (c_J6_bitCount_0f7a4 hR (rf_usable (h 323) (known &&& (((nI 1) <<< ((nI m) &&& 31)) ^^^ (-1))))) ?_
  refine am_isub (pc := 22) C dX12_fallsOf_22 ?_
  exact am_ireti T dX12_fallsOf_23 rfl (Nat.le_refl _) (Nat.le_refl _) rfl rfl rfl

set_option maxHeartbeats 400000 in
set_option maxRecDepth 100000 in
theorem c_X12_target {ad : Nat → Nat} {r : am_R} (hR : am_rs r) {h : am_H} (s : Nat) (hV : rf_I (h 323)) (hs : s < rf_S (h 323))  : am_CM mX12_target 4 0 0 [.ref 322, .int (nI s)] (am_VV ad) r h (am_po (some (.int (am_oi (rf_target (h 323) s)))) r h) := by
  refine am_CM.of (by decide +kernel) (Nat.le_of_ble_eq_true rfl) (fun X C T => ?_)
  show am_G X (am_VV ad) (0, 0) 0 [(0, .ref 322), (1, .int (nI s))] [] r h
  have hM9 : rf_M (h 323) < 17 := hV.1.1.2
  have hS9 : rf_S (h 323) < 11 := hV.1.2.1.2
  have hO9 : rf_O (h 323) < 11 := hV.1.2.2.2
  have hk9 := fun o (ho : o < rf_S (h 323)) => (hV.2.1 o ho).2.2.2.2.1.2
  refine am_iconst (pc := 0) (v := -1) C dX12_target_0 rfl ?_
  refine am_istore_n (pc := 1) (ls' := [(0, .ref 322), (1, .int (nI s)), (2, .int (-1))]) C dX12_target_1 (by decide) rfl ?_
  refine am_aload_n (pc := 2) C dX12_target_2 rfl ?_
  refine am_iload_n (pc := 3) C dX12_target_3 rfl ?_
  refine am_callVi (Y := mX12_usableOf) (pc := 4) (st := []) (As := [.int (nI s)]) (x := (rf_use (h 323) s)) (h2 := h) C dX12_target_4 k12_275 v_X12_usableOf rfl rfl bn_322 sh_322 ⟨by decide, rfl⟩ (by decide) (Nat.zero_le _) (Nat.zero_le _) (Nat.le_of_ble_eq_true rfl) (c_X12_usableOf hR s hs (show rf_Is (h 323) s from (hV.2.1 s (by omega))) (show rf_Cn (h 323) from hV.1)) ?_
  refine am_if_ne (pc := 7) (tgt := 12) C dX12_target_7 (by decide) (fun q7 => ?_) (fun q7 => ?_)
  · skip
    refine am_aload_n (pc := 12) C dX12_target_12 rfl ?_
    refine am_iconstN (pc := 13) (k := 1) C dX12_target_13 ?_
    refine am_aload_n (pc := 14) C dX12_target_14 rfl ?_
    refine am_iload_n (pc := 15) C dX12_target_15 rfl ?_
    refine am_iconstN (pc := 16) (k := 0) C dX12_target_16 ?_
    refine am_callVi (Y := mX12_of) (pc := 17) (st := [.int (nI 1), .ref 322]) (As := [.int (nI s), .int (nI 0)]) (x := (rf_of (h 323) s 0)) (h2 := h) C dX12_target_17 k12_63 v_X12_of rfl rfl bn_322 sh_322 ⟨by decide, rfl⟩ (by decide) (Nat.zero_le _) (Nat.zero_le _) (Nat.le_of_ble_eq_true rfl) (c_X12_of hR s 0 (show s < 11 from by omega) (show 0 < 23 from by omega)) ?_
    refine am_isub (pc := 20) C dX12_target_20 ?_
    refine am_aload_n (pc := 21) C dX12_target_21 rfl ?_
    refine am_iload_n (pc := 22) C dX12_target_22 rfl ?_
    refine am_callVi (Y := mX12_placeOf) (pc := 23) (st := [.int ((nI 1) - (rf_of (h 323) s 0)), .ref 322]) (As := [.int (nI s)]) (x := (rf_pl (h 323) s)) (h2 := h) C dX12_target_23 k12_272 v_X12_placeOf rfl rfl bn_322 sh_322 ⟨by decide, rfl⟩ (by decide) (Nat.zero_le _) (Nat.zero_le _) (Nat.le_of_ble_eq_true rfl) (c_X12_placeOf hR s (show s < 11 from by omega) (show rf_Is (h 323) s from (hV.2.1 s (by omega)))) ?_
    refine am_callVi (Y := mX12_sideIn) (pc := 26) (st := []) (As := [.int ((nI 1) - (rf_of (h 323) s 0)), .int (rf_pl (h 323) s)]) (x := (rf_sideIn (h 323) ((nI 1) - (rf_of (h 323) s 0)) (rf_pl (h 323) s))) (h2 := h) C dX12_target_26 k12_283 v_X12_sideIn rfl rfl bn_322 sh_322 ⟨by decide, rfl⟩ (by decide) (Nat.zero_le _) (Nat.zero_le _) (Nat.le_of_ble_eq_true rfl) (c_X12_sideIn hR ((nI 1) - (rf_of (h 323) s 0)) (rf_pl (h 323) s) hV) ?_
    refine am_istore_n (pc := 29) (ls' := [(0, .ref 322), (1, .int (nI s)), (2, .int (-1)), (3, .int (rf_sideIn (h 323) ((nI 1) - (rf_of (h 323) s 0)) (rf_pl (h 323) s)))]) C dX12_target_29 (by decide) rfl ?_
    refine am_iconstN (pc := 30) (k := 0) C dX12_target_30 ?_
    refine am_istore (pc := 31) (ls' := [(0, .ref 322), (1, .int (nI s)), (2, .int (-1)), (3, .int (rf_sideIn (h 323) ((nI 1) - (rf_of (h 323) s 0)) (rf_pl (h 323) s))), (4, .int (nI 0))]) C dX12_target_31 (by decide) rfl ?_
    have L33 : ∀ (j33 i33 : Nat), i33 + j33 = rf_S (h 323) → am_G X (am_VV ad) (0, 0) 33 [(0, .ref 322), (1, .int (nI s)), (2, .int (am_oi (rf_tgt (h 323) (rf_sideIn (h 323) (nI 1 - rf_of (h 323) s 0) (rf_pl (h 323) s)) i33))), (3, .int (rf_sideIn (h 323) ((nI 1) - (rf_of (h 323) s 0)) (rf_pl (h 323) s))), (4, .int (nI i33))] [] r h := by
      intro j33
      induction j33 with
      | zero =>
        intro i33 hi33 
        obtain rfl : i33 = rf_S (h 323) := by omega
        refine am_iload (pc := 33) C dX12_target_33 rfl ?_
        refine am_aload_n (pc := 35) C dX12_target_35 rfl ?_
        refine am_callVi (Y := mX12_soldiers) (pc := 36) (st := [.int (nI (rf_S (h 323)))]) (As := []) (x := (nI (rf_S (h 323)))) (h2 := h) C dX12_target_36 k12_75 v_X12_soldiers rfl rfl bn_322 sh_322 ⟨by decide, rfl⟩ (by decide) (Nat.zero_le _) (Nat.zero_le _) (Nat.le_of_ble_eq_true rfl) (c_X12_soldiers hR (show rf_Cn (h 323) from hV.1)) ?_
        refine am_icmp_geN (pc := 39) (tgt := 93) C dX12_target_39 (by decide) (by omega) (by omega) (fun q39 => ?_) (fun q39 => ?_)
        · skip
          refine am_iload_n (pc := 93) C dX12_target_93 rfl ?_
          exact am_ireti T dX12_target_94 rfl (Nat.le_refl _) (Nat.le_refl _) (by rw [rf_target, if_neg q7]) rfl rfl
        · skip
          exact absurd q39 (by omega)
      | succ j33 ih33 =>
        intro i33 hi33 
        have hl33 : i33 < rf_S (h 323) := by omega
        have ht9 := rf_tgt_le (h 323) (rf_sideIn (h 323) (nI 1 - rf_of (h 323) s 0) (rf_pl (h 323) s)) i33
        have hkk : rf_kn (h 323) i33 < 13 := hk9 i33 hl33
        have hkb : rf_kn (h 323) (rf_tgt (h 323) (rf_sideIn (h 323) (nI 1 - rf_of (h 323) s 0) (rf_pl (h 323) s)) i33 - 1) < 13 := hk9 _ (by omega)
        refine am_iload (pc := 33) C dX12_target_33 rfl ?_
        refine am_aload_n (pc := 35) C dX12_target_35 rfl ?_
        refine am_callVi (Y := mX12_soldiers) (pc := 36) (st := [.int (nI i33)]) (As := []) (x := (nI (rf_S (h 323)))) (h2 := h) C dX12_target_36 k12_75 v_X12_soldiers rfl rfl bn_322 sh_322 ⟨by decide, rfl⟩ (by decide) (Nat.zero_le _) (Nat.zero_le _) (Nat.le_of_ble_eq_true rfl) (c_X12_soldiers hR (show rf_Cn (h 323) from hV.1)) ?_
        refine am_icmp_geN (pc := 39) (tgt := 93) C dX12_target_39 (by decide) (by omega) (by omega) (fun q39 => ?_) (fun q39 => ?_)
        · skip
          exact absurd q39 (by omega)
        · skip
          refine am_iload_n (pc := 42) C dX12_target_42 rfl ?_
          refine am_iload (pc := 43) C dX12_target_43 rfl ?_
          refine am_callSi (Y := mX12_has) (pc := 45) (st := []) (As := [.int (rf_sideIn (h 323) ((nI 1) - (rf_of (h 323) s 0)) (rf_pl (h 323) s)), .int (nI i33)]) (x := (am_b (am_bt (rf_sideIn (h 323) ((nI 1) - (rf_of (h 323) s 0)) (rf_pl (h 323) s)) i33))) (h2 := h) C dX12_target_45 k12_81 v_X12_has rfl rfl (by decide) (Nat.zero_le _) (Nat.zero_le _) (Nat.le_of_ble_eq_true rfl) (c_X12_has hR (rf_sideIn (h 323) ((nI 1) - (rf_of (h 323) s 0)) (rf_pl (h 323) s)) i33 (show i33 < 32 from by omega)) ?_
          refine am_if_eqB (pc := 48) (tgt := 87) C dX12_target_48 (by decide) (fun q48 => ?_) (fun q48 => ?_)
          · skip
            refine am_iincN (pc := 87) (ls' := [(0, .ref 322), (1, .int (nI s)), (2, .int (am_oi (rf_tgt (h 323) (rf_sideIn (h 323) (nI 1 - rf_of (h 323) s 0) (rf_pl (h 323) s)) i33))), (3, .int (rf_sideIn (h 323) ((nI 1) - (rf_of (h 323) s 0)) (rf_pl (h 323) s))), (4, .int (nI (i33 + 1)))]) C dX12_target_87 rfl (am_up1 _) (by decide) rfl ?_
            refine am_goto (pc := 90) (tgt := 33) C dX12_target_90 (by decide) ?_
            refine am_lsv (ls' := [(0, .ref 322), (1, .int (nI s)), (2, .int (am_oi (rf_tgt (h 323) (rf_sideIn (h 323) (nI 1 - rf_of (h 323) s 0) (rf_pl (h 323) s)) (i33 + 1)))), (3, .int (rf_sideIn (h 323) ((nI 1) - (rf_of (h 323) s 0)) (rf_pl (h 323) s))), (4, .int (nI (i33 + 1)))]) (by rw [show (am_oi (rf_tgt (h 323) (rf_sideIn (h 323) (nI 1 - rf_of (h 323) s 0) (rf_pl (h 323) s)) i33)) = (am_oi (rf_tgt (h 323) (rf_sideIn (h 323) (nI 1 - rf_of (h 323) s 0) (rf_pl (h 323) s)) (i33 + 1))) from rf_tgt_no (fun z => Bool.false_ne_true (q48.symm.trans z.1))]) ?_
            exact ih33 (i33 + 1) (by omega) 
          · skip
            refine am_aload_n (pc := 51) C dX12_target_51 rfl ?_
            refine am_iload (pc := 52) C dX12_target_52 rfl ?_
            refine am_bipush (pc := 54) (v := nI 9) C dX12_target_54 (by decide) ?_
            refine am_callVi (Y := mX12_of) (pc := 56) (st := []) (As := [.int (nI i33), .int (nI 9)]) (x := (rf_of (h 323) i33 9)) (h2 := h) C dX12_target_56 k12_63 v_X12_of rfl rfl bn_322 sh_322 ⟨by decide, rfl⟩ (by decide) (Nat.zero_le _) (Nat.zero_le _) (Nat.le_of_ble_eq_true rfl) (c_X12_of hR i33 9 (show i33 < 11 from by omega) (show 9 < 23 from by omega)) ?_
            refine am_top (show (rf_of (h 323) i33 9) = (nI (rf_kn (h 323) i33)) from (hV.2.1 _ (by omega)).2.2.2.2.1.1) ?_
            refine am_if_leN (pc := 59) (tgt := 87) C dX12_target_59 (by decide) (by omega) (fun q59 => ?_) (fun q59 => ?_)
            · skip
              refine am_iincN (pc := 87) (ls' := [(0, .ref 322), (1, .int (nI s)), (2, .int (am_oi (rf_tgt (h 323) (rf_sideIn (h 323) (nI 1 - rf_of (h 323) s 0) (rf_pl (h 323) s)) i33))), (3, .int (rf_sideIn (h 323) ((nI 1) - (rf_of (h 323) s 0)) (rf_pl (h 323) s))), (4, .int (nI (i33 + 1)))]) C dX12_target_87 rfl (am_up1 _) (by decide) rfl ?_
              refine am_goto (pc := 90) (tgt := 33) C dX12_target_90 (by decide) ?_
              refine am_lsv (ls' := [(0, .ref 322), (1, .int (nI s)), (2, .int (am_oi (rf_tgt (h 323) (rf_sideIn (h 323) (nI 1 - rf_of (h 323) s 0) (rf_pl (h 323) s)) (i33 + 1)))), (3, .int (rf_sideIn (h 323) ((nI 1) - (rf_of (h 323) s 0)) (rf_pl (h 323) s))), (4, .int (nI (i33 + 1)))]) (by rw [show (am_oi (rf_tgt (h 323) (rf_sideIn (h 323) (nI 1 - rf_of (h 323) s 0) (rf_pl (h 323) s)) i33)) = (am_oi (rf_tgt (h 323) (rf_sideIn (h 323) (nI 1 - rf_of (h 323) s 0) (rf_pl (h 323) s)) (i33 + 1))) from rf_tgt_no (fun z => absurd z.2.1 (by omega))]) ?_
              exact ih33 (i33 + 1) (by omega) 
            · skip
              refine am_iload_n (pc := 62) C dX12_target_62 rfl ?_
              refine am_if_ltO (pc := 63) (tgt := 84) C dX12_target_63 (by decide) (by omega) (fun q63 => ?_) (fun q63 => ?_)
              · skip
                refine am_iload (pc := 84) C dX12_target_84 rfl ?_
                refine am_istore_n (pc := 86) (ls' := [(0, .ref 322), (1, .int (nI s)), (2, .int (nI i33)), (3, .int (rf_sideIn (h 323) ((nI 1) - (rf_of (h 323) s 0)) (rf_pl (h 323) s))), (4, .int (nI i33))]) C dX12_target_86 (by decide) rfl ?_
                refine am_iincN (pc := 87) (ls' := [(0, .ref 322), (1, .int (nI s)), (2, .int (nI i33)), (3, .int (rf_sideIn (h 323) ((nI 1) - (rf_of (h 323) s 0)) (rf_pl (h 323) s))), (4, .int (nI (i33 + 1)))]) C dX12_target_87 rfl (am_up1 _) (by decide) rfl ?_
                refine am_goto (pc := 90) (tgt := 33) C dX12_target_90 (by decide) ?_
                refine am_lsv (ls' := [(0, .ref 322), (1, .int (nI s)), (2, .int (am_oi (rf_tgt (h 323) (rf_sideIn (h 323) (nI 1 - rf_of (h 323) s 0) (rf_pl (h 323) s)) (i33 + 1)))), (3, .int (rf_sideIn (h 323) ((nI 1) - (rf_of (h 323) s 0)) (rf_pl (h 323) s))), (4, .int (nI (i33 + 1)))]) (by rw [show (nI i33) = (am_oi (rf_tgt (h 323) (rf_sideIn (h 323) (nI 1 - rf_of (h 323) s 0) (rf_pl (h 323) s)) (i33 + 1))) from rf_tgt_yes ⟨q48, q59, Or.inl q63⟩]) ?_
                exact ih33 (i33 + 1) (by omega) 
              · skip
                refine am_lsv (ls' := [(0, .ref 322), (1, .int (nI s)), (2, .int (nI (rf_tgt (h 323) (rf_sideIn (h 323) (nI 1 - rf_of (h 323) s 0) (rf_pl (h 323) s)) i33 - 1))), (3, .int (rf_sideIn (h 323) ((nI 1) - (rf_of (h 323) s 0)) (rf_pl (h 323) s))), (4, .int (nI i33))]) (by rw [show (am_oi (rf_tgt (h 323) (rf_sideIn (h 323) (nI 1 - rf_of (h 323) s 0) (rf_pl (h 323) s)) i33)) = (nI (rf_tgt (h 323) (rf_sideIn (h 323) (nI 1 - rf_of (h 323) s 0) (rf_pl (h 323) s)) i33 - 1)) from am_oi_p q63]) ?_
                refine am_aload_n (pc := 66) C dX12_target_66 rfl ?_
                refine am_iload (pc := 67) C dX12_target_67 rfl ?_
                refine am_bipush (pc := 69) (v := nI 9) C dX12_target_69 (by decide) ?_
                refine am_callVi (Y := mX12_of) (pc := 71) (st := []) (As := [.int (nI i33), .int (nI 9)]) (x := (rf_of (h 323) i33 9)) (h2 := h) C dX12_target_71 k12_63 v_X12_of rfl rfl bn_322 sh_322 ⟨by decide, rfl⟩ (by decide) (Nat.zero_le _) (Nat.zero_le _) (Nat.le_of_ble_eq_true rfl) (c_X12_of hR i33 9 (show i33 < 11 from by omega) (show 9 < 23 from by omega)) ?_
                refine am_top (show (rf_of (h 323) i33 9) = (nI (rf_kn (h 323) i33)) from (hV.2.1 _ (by omega)).2.2.2.2.1.1) ?_
                refine am_aload_n (pc := 74) C dX12_target_74 rfl ?_
                refine am_iload_n (pc := 75) C dX12_target_75 rfl ?_
                refine am_bipush (pc := 76) (v := nI 9) C dX12_target_76 (by decide) ?_
                refine am_callVi (Y := mX12_of) (pc := 78) (st := [.int (nI (rf_kn (h 323) i33))]) (As := [.int (nI (rf_tgt (h 323) (rf_sideIn (h 323) (nI 1 - rf_of (h 323) s 0) (rf_pl (h 323) s)) i33 - 1)), .int (nI 9)]) (x := (rf_of (h 323) (rf_tgt (h 323) (rf_sideIn (h 323) (nI 1 - rf_of (h 323) s 0) (rf_pl (h 323) s)) i33 - 1) 9)) (h2 := h) C dX12_target_78 k12_63 v_X12_of rfl rfl bn_322 sh_322 ⟨by decide, rfl⟩ (by decide) (Nat.zero_le _) (Nat.zero_le _) (Nat.le_of_ble_eq_true rfl) (c_X12_of hR (rf_tgt (h 323) (rf_sideIn (h 323) (nI 1 - rf_of (h 323) s 0) (rf_pl (h 323) s)) i33 - 1) 9 (show (rf_tgt (h 323) (rf_sideIn (h 323) (nI 1 - rf_of (h 323) s 0) (rf_pl (h 323) s)) i33 - 1) < 11 from by omega) (show 9 < 23 from by omega)) ?_
                refine am_top (show (rf_of (h 323) (rf_tgt (h 323) (rf_sideIn (h 323) (nI 1 - rf_of (h 323) s 0) (rf_pl (h 323) s)) i33 - 1) 9) = (nI (rf_kn (h 323) (rf_tgt (h 323) (rf_sideIn (h 323) (nI 1 - rf_of (h 323) s 0) (rf_pl (h 323) s)) i33 - 1))) from (hV.2.1 _ (by omega)).2.2.2.2.1.1) ?_
                refine am_icmp_leN (pc := 81) (tgt := 87) C dX12_target_81 (by decide) (by omega) (by omega) (fun q81 => ?_) (fun q81 => ?_)
                · skip
                  refine am_iincN (pc := 87) (ls' := [(0, .ref 322), (1, .int (nI s)), (2, .int (nI (rf_tgt (h 323) (rf_sideIn (h 323) (nI 1 - rf_of (h 323) s 0) (rf_pl (h 323) s)) i33 - 1))), (3, .int (rf_sideIn (h 323) ((nI 1) - (rf_of (h 323) s 0)) (rf_pl (h 323) s))), (4, .int (nI (i33 + 1)))]) C dX12_target_87 rfl (am_up1 _) (by decide) rfl ?_
                  refine am_goto (pc := 90) (tgt := 33) C dX12_target_90 (by decide) ?_
                  refine am_lsv (ls' := [(0, .ref 322), (1, .int (nI s)), (2, .int (am_oi (rf_tgt (h 323) (rf_sideIn (h 323) (nI 1 - rf_of (h 323) s 0) (rf_pl (h 323) s)) (i33 + 1)))), (3, .int (rf_sideIn (h 323) ((nI 1) - (rf_of (h 323) s 0)) (rf_pl (h 323) s))), (4, .int (nI (i33 + 1)))]) (by rw [show (nI (rf_tgt (h 323) (rf_sideIn (h 323) (nI 1 - rf_of (h 323) s 0) (rf_pl (h 323) s)) i33 - 1)) = (am_oi (rf_tgt (h 323) (rf_sideIn (h 323) (nI 1 - rf_of (h 323) s 0) (rf_pl (h 323) s)) (i33 + 1))) from (am_oi_p q63).symm.trans (rf_tgt_no (fun z => by rcases z.2.2 with e | e <;> omega))]) ?_
                  exact ih33 (i33 + 1) (by omega) 
                · skip
                  refine am_iload (pc := 84) C dX12_target_84 rfl ?_
                  refine am_istore_n (pc := 86) (ls' := [(0, .ref 322), (1, .int (nI s)), (2, .int (nI i33)), (3, .int (rf_sideIn (h 323) ((nI 1) - (rf_of (h 323) s 0)) (rf_pl (h 323) s))), (4, .int (nI i33))]) C dX12_target_86 (by decide) rfl ?_
                  refine am_iincN (pc := 87) (ls' := [(0, .ref 322), (1, .int (nI s)), (2, .int (nI i33)), (3, .int (rf_sideIn (h 323) ((nI 1) - (rf_of (h 323) s 0)) (rf_pl (h 323) s))), (4, .int (nI (i33 + 1)))]) C dX12_target_87 rfl (am_up1 _) (by decide) rfl ?_
                  refine am_goto (pc := 90) (tgt := 33) C dX12_target_90 (by decide) ?_
                  refine am_lsv (ls' := [(0, .ref 322), (1, .int (nI s)), (2, .int (am_oi (rf_tgt (h 323) (rf_sideIn (h 323) (nI 1 - rf_of (h 323) s 0) (rf_pl (h 323) s)) (i33 + 1)))), (3, .int (rf_sideIn (h 323) ((nI 1) - (rf_of (h 323) s 0)) (rf_pl (h 323) s))), (4, .int (nI (i33 + 1)))]) (by rw [show (nI i33) = (am_oi (rf_tgt (h 323) (rf_sideIn (h 323) (nI 1 - rf_of (h 323) s 0) (rf_pl (h 323) s)) (i33 + 1))) from rf_tgt_yes ⟨q48, q59, Or.inr q81⟩]) ?_
                  exact ih33 (i33 + 1) (by omega) 
    exact L33 (rf_S (h 323)) 0 (by omega) 
  · skip
    refine am_iconst (pc := 10) (v := -1) C dX12_target_10 rfl ?_
    exact am_ireti T dX12_target_11 rfl (Nat.le_refl _) (Nat.le_refl _) (by rw [rf_target, if_pos q7]; rfl) rfl rfl

set_option maxHeartbeats 400000 in
set_option maxRecDepth 100000 in
theorem c_X12_takes {ad : Nat → Nat} {r : am_R} (hR : am_rs r) {h : am_H} (s : Nat) (good : Bool) (hV : rf_I (h 323)) (hs : s < rf_S (h 323)) (hk0 : 0 < rf_kn (h 323) s)  : am_CM mX12_takes 3 0 0 [.ref 322, .int (nI s), .int (am_b good)] (am_VV ad) r h (am_po (some (.int (am_oi (rf_takes (h 323) s good)))) r h) := by
  refine am_CM.of (by decide +kernel) (Nat.le_of_ble_eq_true rfl) (fun X C T => ?_)
  show am_G X (am_VV ad) (0, 0) 0 [(0, .ref 322), (1, .int (nI s)), (2, .int (am_b good))] [] r h
  have hM9 : rf_M (h 323) < 17 := hV.1.1.2
  have hS9 : rf_S (h 323) < 11 := hV.1.2.1.2
  have hO9 : rf_O (h 323) < 11 := hV.1.2.2.2
  have hI := hV.2.1 s hs
  have hk9 : rf_kn (h 323) s < 13 := hI.2.2.2.2.1.2
  refine am_iload_n (pc := 0) C dX12_takes_0 rfl ?_
  refine am_if_neB (pc := 1) (tgt := 22) C dX12_takes_1 (by decide) (fun q1 => ?_) (fun q1 => ?_)
  · skip
    refine am_aload_n (pc := 22) C dX12_takes_22 rfl ?_
    refine am_iload_n (pc := 23) C dX12_takes_23 rfl ?_
    refine am_callVi (Y := mX12_knownOf) (pc := 24) (st := []) (As := [.int (nI s)]) (x := (rf_known (h 323) s)) (h2 := h) C dX12_takes_24 k12_88 v_X12_knownOf rfl rfl bn_322 sh_322 ⟨by decide, rfl⟩ (by decide) (Nat.zero_le _) (Nat.zero_le _) (Nat.le_of_ble_eq_true rfl) (c_X12_knownOf hR s hs (show rf_Is (h 323) s from (hV.2.1 s (by omega))) (show rf_Cn (h 323) from hV.1)) ?_
    refine am_istore_n (pc := 27) (ls' := [(0, .ref 322), (1, .int (nI s)), (2, .int (am_b good)), (3, .int (rf_known (h 323) s))]) C dX12_takes_27 (by decide) rfl ?_
    refine am_iconst (pc := 28) (v := -1) C dX12_takes_28 rfl ?_
    refine am_istore (pc := 29) (ls' := [(0, .ref 322), (1, .int (nI s)), (2, .int (am_b good)), (3, .int (rf_known (h 323) s)), (4, .int (-1))]) C dX12_takes_29 (by decide) rfl ?_
    refine am_iconstN (pc := 31) (k := 0) C dX12_takes_31 ?_
    refine am_istore (pc := 32) (ls' := [(0, .ref 322), (1, .int (nI s)), (2, .int (am_b good)), (3, .int (rf_known (h 323) s)), (4, .int (-1)), (5, .int (nI 0))]) C dX12_takes_32 (by decide) rfl ?_
    have L34 : ∀ (j34 i34 : Nat), i34 + j34 = rf_M (h 323) → am_G X (am_VV ad) (0, 0) 34 [(0, .ref 322), (1, .int (nI s)), (2, .int (am_b good)), (3, .int (rf_known (h 323) s)), (4, .int (am_oi (rf_tk (h 323) (rf_known (h 323) s) i34))), (5, .int (nI i34))] [] r h := by
      intro j34
      induction j34 with
      | zero =>
        intro i34 hi34 
        obtain rfl : i34 = rf_M (h 323) := by omega
        refine am_iload (pc := 34) C dX12_takes_34 rfl ?_
        refine am_aload_n (pc := 36) C dX12_takes_36 rfl ?_
        refine am_callVi (Y := mX12_memories) (pc := 37) (st := [.int (nI (rf_M (h 323)))]) (As := []) (x := (nI (rf_M (h 323)))) (h2 := h) C dX12_takes_37 k12_67 v_X12_memories rfl rfl bn_322 sh_322 ⟨by decide, rfl⟩ (by decide) (Nat.zero_le _) (Nat.zero_le _) (Nat.le_of_ble_eq_true rfl) (c_X12_memories hR (show rf_Cn (h 323) from hV.1)) ?_
        refine am_icmp_geN (pc := 40) (tgt := 84) C dX12_takes_40 (by decide) (by omega) (by omega) (fun q40 => ?_) (fun q40 => ?_)
        · skip
          refine am_iload (pc := 84) C dX12_takes_84 rfl ?_
          exact am_ireti T dX12_takes_86 rfl (Nat.le_refl _) (Nat.le_refl _) (by rw [rf_takes, q1]; rfl) rfl rfl
        · skip
          exact absurd q40 (by omega)
      | succ j34 ih34 =>
        intro i34 hi34 
        have hl34 : i34 < rf_M (h 323) := by omega
        have ht9 := rf_tk_le (h 323) (rf_known (h 323) s) i34
        refine am_iload (pc := 34) C dX12_takes_34 rfl ?_
        refine am_aload_n (pc := 36) C dX12_takes_36 rfl ?_
        refine am_callVi (Y := mX12_memories) (pc := 37) (st := [.int (nI i34)]) (As := []) (x := (nI (rf_M (h 323)))) (h2 := h) C dX12_takes_37 k12_67 v_X12_memories rfl rfl bn_322 sh_322 ⟨by decide, rfl⟩ (by decide) (Nat.zero_le _) (Nat.zero_le _) (Nat.le_of_ble_eq_true rfl) (c_X12_memories hR (show rf_Cn (h 323) from hV.1)) ?_
        refine am_icmp_geN (pc := 40) (tgt := 84) C dX12_takes_40 (by decide) (by omega) (by omega) (fun q40 => ?_) (fun q40 => ?_)
        · skip
          exact absurd q40 (by omega)
        · skip
          refine am_iload_n (pc := 43) C dX12_takes_43 rfl ?_
          refine am_iload (pc := 44) C dX12_takes_44 rfl ?_
          refine am_callSi (Y := mX12_has) (pc := 46) (st := []) (As := [.int (rf_known (h 323) s), .int (nI i34)]) (x := (am_b (am_bt (rf_known (h 323) s) i34))) (h2 := h) C dX12_takes_46 k12_81 v_X12_has rfl rfl (by decide) (Nat.zero_le _) (Nat.zero_le _) (Nat.le_of_ble_eq_true rfl) (c_X12_has hR (rf_known (h 323) s) i34 (show i34 < 32 from by omega)) ?_
          refine am_if_eqB (pc := 49) (tgt := 78) C dX12_takes_49 (by decide) (fun q49 => ?_) (fun q49 => ?_)
          · skip
            refine am_iincN (pc := 78) (ls' := [(0, .ref 322), (1, .int (nI s)), (2, .int (am_b good)), (3, .int (rf_known (h 323) s)), (4, .int (am_oi (rf_tk (h 323) (rf_known (h 323) s) i34))), (5, .int (nI (i34 + 1)))]) C dX12_takes_78 rfl (am_up1 _) (by decide) rfl ?_
            refine am_goto (pc := 81) (tgt := 34) C dX12_takes_81 (by decide) ?_
            refine am_lsv (ls' := [(0, .ref 322), (1, .int (nI s)), (2, .int (am_b good)), (3, .int (rf_known (h 323) s)), (4, .int (am_oi (rf_tk (h 323) (rf_known (h 323) s) (i34 + 1)))), (5, .int (nI (i34 + 1)))]) (by rw [show (am_oi (rf_tk (h 323) (rf_known (h 323) s) i34)) = (am_oi (rf_tk (h 323) (rf_known (h 323) s) (i34 + 1))) from rf_tk_no (fun z => Bool.false_ne_true (q49.symm.trans z.1))]) ?_
            exact ih34 (i34 + 1) (by omega) 
          · skip
            refine am_iload (pc := 52) C dX12_takes_52 rfl ?_
            refine am_if_ltO (pc := 54) (tgt := 74) C dX12_takes_54 (by decide) (by omega) (fun q54 => ?_) (fun q54 => ?_)
            · skip
              refine am_iload (pc := 74) C dX12_takes_74 rfl ?_
              refine am_istore (pc := 76) (ls' := [(0, .ref 322), (1, .int (nI s)), (2, .int (am_b good)), (3, .int (rf_known (h 323) s)), (4, .int (nI i34)), (5, .int (nI i34))]) C dX12_takes_76 (by decide) rfl ?_
              refine am_iincN (pc := 78) (ls' := [(0, .ref 322), (1, .int (nI s)), (2, .int (am_b good)), (3, .int (rf_known (h 323) s)), (4, .int (nI i34)), (5, .int (nI (i34 + 1)))]) C dX12_takes_78 rfl (am_up1 _) (by decide) rfl ?_
              refine am_goto (pc := 81) (tgt := 34) C dX12_takes_81 (by decide) ?_
              refine am_lsv (ls' := [(0, .ref 322), (1, .int (nI s)), (2, .int (am_b good)), (3, .int (rf_known (h 323) s)), (4, .int (am_oi (rf_tk (h 323) (rf_known (h 323) s) (i34 + 1)))), (5, .int (nI (i34 + 1)))]) (by rw [show (nI i34) = (am_oi (rf_tk (h 323) (rf_known (h 323) s) (i34 + 1))) from rf_tk_yes ⟨q49, Or.inl q54⟩]) ?_
              exact ih34 (i34 + 1) (by omega) 
            · skip
              refine am_aload_n (pc := 57) C dX12_takes_57 rfl ?_
              refine am_iload_n (pc := 58) C dX12_takes_58 rfl ?_
              refine am_iload (pc := 59) C dX12_takes_59 rfl ?_
              refine am_callVi (Y := mX12_fallsOf) (pc := 61) (st := []) (As := [.int (rf_known (h 323) s), .int (nI i34)]) (x := (rf_falls (h 323) (rf_known (h 323) s) i34)) (h2 := h) C dX12_takes_61 k12_337 v_X12_fallsOf rfl rfl bn_322 sh_322 ⟨by decide, rfl⟩ (by decide) (Nat.zero_le _) (Nat.zero_le _) (Nat.le_of_ble_eq_true rfl) (c_X12_fallsOf hR (rf_known (h 323) s) i34 (show rf_Cn (h 323) from hV.1) (show i34 < 32 from by omega)) ?_
              refine am_aload_n (pc := 64) C dX12_takes_64 rfl ?_
              refine am_iload_n (pc := 65) C dX12_takes_65 rfl ?_
              refine am_lsv (ls' := [(0, .ref 322), (1, .int (nI s)), (2, .int (am_b good)), (3, .int (rf_known (h 323) s)), (4, .int (nI (rf_tk (h 323) (rf_known (h 323) s) i34 - 1))), (5, .int (nI i34))]) (by rw [show (am_oi (rf_tk (h 323) (rf_known (h 323) s) i34)) = (nI (rf_tk (h 323) (rf_known (h 323) s) i34 - 1)) from am_oi_p q54]) ?_
              refine am_iload (pc := 66) C dX12_takes_66 rfl ?_
              refine am_callVi (Y := mX12_fallsOf) (pc := 68) (st := [.int (rf_falls (h 323) (rf_known (h 323) s) i34)]) (As := [.int (rf_known (h 323) s), .int (nI (rf_tk (h 323) (rf_known (h 323) s) i34 - 1))]) (x := (rf_falls (h 323) (rf_known (h 323) s) (rf_tk (h 323) (rf_known (h 323) s) i34 - 1))) (h2 := h) C dX12_takes_68 k12_337 v_X12_fallsOf rfl rfl bn_322 sh_322 ⟨by decide, rfl⟩ (by decide) (Nat.zero_le _) (Nat.zero_le _) (Nat.le_of_ble_eq_true rfl) (c_X12_fallsOf hR (rf_known (h 323) s) (rf_tk (h 323) (rf_known (h 323) s) i34 - 1) (show rf_Cn (h 323) from hV.1) (show (rf_tk (h 323) (rf_known (h 323) s) i34 - 1) < 32 from by omega)) ?_
              refine am_icmp_le (pc := 71) (tgt := 78) C dX12_takes_71 (by decide) (fun q71 => ?_) (fun q71 => ?_)
              · skip
                refine am_iincN (pc := 78) (ls' := [(0, .ref 322), (1, .int (nI s)), (2, .int (am_b good)), (3, .int (rf_known (h 323) s)), (4, .int (nI (rf_tk (h 323) (rf_known (h 323) s) i34 - 1))), (5, .int (nI (i34 + 1)))]) C dX12_takes_78 rfl (am_up1 _) (by decide) rfl ?_
                refine am_goto (pc := 81) (tgt := 34) C dX12_takes_81 (by decide) ?_
                refine am_lsv (ls' := [(0, .ref 322), (1, .int (nI s)), (2, .int (am_b good)), (3, .int (rf_known (h 323) s)), (4, .int (am_oi (rf_tk (h 323) (rf_known (h 323) s) (i34 + 1)))), (5, .int (nI (i34 + 1)))]) (by rw [show (nI (rf_tk (h 323) (rf_known (h 323) s) i34 - 1)) = (am_oi (rf_tk (h 323) (rf_known (h 323) s) (i34 + 1))) from (am_oi_p q54).symm.trans (rf_tk_no (fun z => by rcases z.2 with e | e <;> first | omega | exact absurd q71 (Int32.not_le.mpr e)))]) ?_
                exact ih34 (i34 + 1) (by omega) 
              · skip
                refine am_iload (pc := 74) C dX12_takes_74 rfl ?_
                refine am_istore (pc := 76) (ls' := [(0, .ref 322), (1, .int (nI s)), (2, .int (am_b good)), (3, .int (rf_known (h 323) s)), (4, .int (nI i34)), (5, .int (nI i34))]) C dX12_takes_76 (by decide) rfl ?_
                refine am_iincN (pc := 78) (ls' := [(0, .ref 322), (1, .int (nI s)), (2, .int (am_b good)), (3, .int (rf_known (h 323) s)), (4, .int (nI i34)), (5, .int (nI (i34 + 1)))]) C dX12_takes_78 rfl (am_up1 _) (by decide) rfl ?_
                refine am_goto (pc := 81) (tgt := 34) C dX12_takes_81 (by decide) ?_
                refine am_lsv (ls' := [(0, .ref 322), (1, .int (nI s)), (2, .int (am_b good)), (3, .int (rf_known (h 323) s)), (4, .int (am_oi (rf_tk (h 323) (rf_known (h 323) s) (i34 + 1)))), (5, .int (nI (i34 + 1)))]) (by rw [show (nI i34) = (am_oi (rf_tk (h 323) (rf_known (h 323) s) (i34 + 1))) from rf_tk_yes ⟨q49, Or.inr (Int32.not_le.mp q71)⟩]) ?_
                exact ih34 (i34 + 1) (by omega) 
    exact L34 (rf_M (h 323)) 0 (by omega) 
  · skip
    refine am_aload_n (pc := 4) C dX12_takes_4 rfl ?_
    refine am_iload_n (pc := 5) C dX12_takes_5 rfl ?_
    refine am_bipush (pc := 6) (v := nI 10) C dX12_takes_6 (by decide) ?_
    refine am_aload_n (pc := 8) C dX12_takes_8 rfl ?_
    refine am_iload_n (pc := 9) C dX12_takes_9 rfl ?_
    refine am_bipush (pc := 10) (v := nI 9) C dX12_takes_10 (by decide) ?_
    refine am_callVi (Y := mX12_of) (pc := 12) (st := [.int (nI 10), .int (nI s), .ref 322]) (As := [.int (nI s), .int (nI 9)]) (x := (rf_of (h 323) s 9)) (h2 := h) C dX12_takes_12 k12_63 v_X12_of rfl rfl bn_322 sh_322 ⟨by decide, rfl⟩ (by decide) (Nat.zero_le _) (Nat.zero_le _) (Nat.le_of_ble_eq_true rfl) (c_X12_of hR s 9 (show s < 11 from by omega) (show 9 < 23 from by omega)) ?_
    refine am_top (show (rf_of (h 323) s 9) = (nI (rf_kn (h 323) s)) from hI.2.2.2.2.1.1) ?_
    refine am_iaddN (pc := 15) C dX12_takes_15 ?_
    refine am_iconstN (pc := 16) (k := 1) C dX12_takes_16 ?_
    refine am_isubN (pc := 17) C dX12_takes_17 (by omega) ?_
    refine am_top (show (nI ((10 + (rf_kn (h 323) s)) - 1)) = (nI (10 + (rf_kn (h 323) s - 1))) from congrArg nI (by omega)) ?_
    refine am_callVi (Y := mX12_of) (pc := 18) (st := []) (As := [.int (nI s), .int (nI (10 + (rf_kn (h 323) s - 1)))]) (x := (rf_of (h 323) s (10 + (rf_kn (h 323) s - 1)))) (h2 := h) C dX12_takes_18 k12_63 v_X12_of rfl rfl bn_322 sh_322 ⟨by decide, rfl⟩ (by decide) (Nat.zero_le _) (Nat.zero_le _) (Nat.le_of_ble_eq_true rfl) (c_X12_of hR s (10 + (rf_kn (h 323) s - 1)) (show s < 11 from by omega) (show (10 + (rf_kn (h 323) s - 1)) < 23 from by omega)) ?_
    refine am_top (show (rf_of (h 323) s (10 + (rf_kn (h 323) s - 1))) = (nI (rf_li (h 323) s (rf_kn (h 323) s - 1))) from (hI.2.2.2.2.2.1 _ (by omega)).1) ?_
    exact am_ireti T dX12_takes_21 rfl (Nat.le_refl _) (Nat.le_refl _) (by rw [rf_takes, q1]; exact (am_oi_s _).symm) rfl rfl

set_option maxHeartbeats 400000 in
set_option maxRecDepth 100000 in
theorem c_X12_canLearn {ad : Nat → Nat} {r : am_R} (hR : am_rs r) {h : am_H} (s : Nat) (m : Nat) (hV : rf_I (h 323)) (hs : s < rf_S (h 323)) (hm : m < 16)  : am_CM mX12_canLearn 4 0 0 [.ref 322, .int (nI s), .int (nI m)] (am_VV ad) r h (am_po (some (.int (am_b (rf_can (h 323) s m)))) r h) := by
  refine am_CM.of (by decide +kernel) (Nat.le_of_ble_eq_true rfl) (fun X C T => ?_)
  show am_G X (am_VV ad) (0, 0) 0 [(0, .ref 322), (1, .int (nI s)), (2, .int (nI m))] [] r h
  have hM9 : rf_M (h 323) < 17 := hV.1.1.2
  have hS9 : rf_S (h 323) < 11 := hV.1.2.1.2
  have hO9 : rf_O (h 323) < 11 := hV.1.2.2.2
  have hI := hV.2.1 s hs
  have hk9 : rf_kn (h 323) s < 13 := hI.2.2.2.2.1.2
  refine am_aload_n (pc := 0) C dX12_canLearn_0 rfl ?_
  refine am_iload_n (pc := 1) C dX12_canLearn_1 rfl ?_
  refine am_callVi (Y := mX12_knownOf) (pc := 2) (st := []) (As := [.int (nI s)]) (x := (rf_known (h 323) s)) (h2 := h) C dX12_canLearn_2 k12_88 v_X12_knownOf rfl rfl bn_322 sh_322 ⟨by decide, rfl⟩ (by decide) (Nat.zero_le _) (Nat.zero_le _) (Nat.le_of_ble_eq_true rfl) (c_X12_knownOf hR s hs (show rf_Is (h 323) s from (hV.2.1 s (by omega))) (show rf_Cn (h 323) from hV.1)) ?_
  refine am_iload_n (pc := 5) C dX12_canLearn_5 rfl ?_
  refine am_callSi (Y := mX12_has) (pc := 6) (st := []) (As := [.int (rf_known (h 323) s), .int (nI m)]) (x := (am_b (am_bt (rf_known (h 323) s) m))) (h2 := h) C dX12_canLearn_6 k12_81 v_X12_has rfl rfl (by decide) (Nat.zero_le _) (Nat.zero_le _) (Nat.le_of_ble_eq_true rfl) (c_X12_has hR (rf_known (h 323) s) m (show m < 32 from by omega)) ?_
  refine am_if_neB (pc := 9) (tgt := 45) C dX12_canLearn_9 (by decide) (fun q9 => ?_) (fun q9 => ?_)
  · skip
    refine am_iconstN (pc := 45) (k := 0) C dX12_canLearn_45 ?_
    exact am_iretb T dX12_canLearn_46 rfl (Nat.le_refl _) (Nat.le_refl _) (by first | (rw [rf_can_f1 q9]; rfl) | (rw [rf_can_f2 q21]; rfl) | (rw [rf_can_f3 q38]; rfl) | (rw [rf_can_t q9 q21 q38]; rfl)) rfl rfl
  · skip
    refine am_aload_n (pc := 12) C dX12_canLearn_12 rfl ?_
    refine am_iload_n (pc := 13) C dX12_canLearn_13 rfl ?_
    refine am_bipush (pc := 14) (v := nI 9) C dX12_canLearn_14 (by decide) ?_
    refine am_callVi (Y := mX12_of) (pc := 16) (st := []) (As := [.int (nI s), .int (nI 9)]) (x := (rf_of (h 323) s 9)) (h2 := h) C dX12_canLearn_16 k12_63 v_X12_of rfl rfl bn_322 sh_322 ⟨by decide, rfl⟩ (by decide) (Nat.zero_le _) (Nat.zero_le _) (Nat.le_of_ble_eq_true rfl) (c_X12_of hR s 9 (show s < 11 from by omega) (show 9 < 23 from by omega)) ?_
    refine am_top (show (rf_of (h 323) s 9) = (nI (rf_kn (h 323) s)) from hI.2.2.2.2.1.1) ?_
    refine am_bipush (pc := 19) (v := nI 12) C dX12_canLearn_19 (by decide) ?_
    refine am_icmp_geN (pc := 21) (tgt := 45) C dX12_canLearn_21 (by decide) (by omega) (by omega) (fun q21 => ?_) (fun q21 => ?_)
    · skip
      refine am_iconstN (pc := 45) (k := 0) C dX12_canLearn_45 ?_
      exact am_iretb T dX12_canLearn_46 rfl (Nat.le_refl _) (Nat.le_refl _) (by first | (rw [rf_can_f1 q9]; rfl) | (rw [rf_can_f2 q21]; rfl) | (rw [rf_can_f3 q38]; rfl) | (rw [rf_can_t q9 q21 q38]; rfl)) rfl rfl
    · skip
      refine am_aload_n (pc := 24) C dX12_canLearn_24 rfl ?_
      refine am_iload_n (pc := 25) C dX12_canLearn_25 rfl ?_
      refine am_iconstN (pc := 26) (k := 1) C dX12_canLearn_26 ?_
      refine am_callVi (Y := mX12_ofMemory) (pc := 27) (st := []) (As := [.int (nI m), .int (nI 1)]) (x := (rf_mem (h 323) m 1)) (h2 := h) C dX12_canLearn_27 k12_85 v_X12_ofMemory rfl rfl bn_322 sh_322 ⟨by decide, rfl⟩ (by decide) (Nat.zero_le _) (Nat.zero_le _) (Nat.le_of_ble_eq_true rfl) (c_X12_ofMemory hR m 1 hm (show 1 < 3 from by omega)) ?_
      refine am_aload_n (pc := 30) C dX12_canLearn_30 rfl ?_
      refine am_iload_n (pc := 31) C dX12_canLearn_31 rfl ?_
      refine am_callVi (Y := mX12_usableOf) (pc := 32) (st := [.int (rf_mem (h 323) m 1)]) (As := [.int (nI s)]) (x := (rf_use (h 323) s)) (h2 := h) C dX12_canLearn_32 k12_275 v_X12_usableOf rfl rfl bn_322 sh_322 ⟨by decide, rfl⟩ (by decide) (Nat.zero_le _) (Nat.zero_le _) (Nat.le_of_ble_eq_true rfl) (c_X12_usableOf hR s hs (show rf_Is (h 323) s from (hV.2.1 s (by omega))) (show rf_Cn (h 323) from hV.1)) ?_
      refine am_iconst (pc := 35) (v := -1) C dX12_canLearn_35 rfl ?_
      refine am_ixor (pc := 36) C dX12_canLearn_36 ?_
      refine am_iand (pc := 37) C dX12_canLearn_37 ?_
      refine am_if_ne (pc := 38) (tgt := 45) C dX12_canLearn_38 (by decide) (fun q38 => ?_) (fun q38 => ?_)
      · skip
        refine am_iconstN (pc := 45) (k := 0) C dX12_canLearn_45 ?_
        exact am_iretb T dX12_canLearn_46 rfl (Nat.le_refl _) (Nat.le_refl _) (by first | (rw [rf_can_f1 q9]; rfl) | (rw [rf_can_f2 q21]; rfl) | (rw [rf_can_f3 q38]; rfl) | (rw [rf_can_t q9 q21 q38]; rfl)) rfl rfl
      · skip
        refine am_iconstN (pc := 41) (k := 1) C dX12_canLearn_41 ?_
        refine am_goto (pc := 42) (tgt := 46) C dX12_canLearn_42 (by decide) ?_
        exact am_iretb T dX12_canLearn_46 rfl (Nat.le_refl _) (Nat.le_refl _) (by first | (rw [rf_can_f1 q9]; rfl) | (rw [rf_can_f2 q21]; rfl) | (rw [rf_can_f3 q38]; rfl) | (rw [rf_can_t q9 q21 q38]; rfl)) rfl rfl

set_option maxHeartbeats 400000 in
set_option maxRecDepth 100000 in
theorem c_X12_usersOf {ad : Nat → Nat} {r : am_R} (hR : am_rs r) {h : am_H} (side : Int32) (m : Nat) (hV : rf_I (h 323)) (hm : m < 32)  : am_CM mX12_usersOf 5 0 0 [.ref 322, .int side, .int (nI m)] (am_VV ad) r h (am_po (some (.int (rf_usersOf (h 323) side m))) r h) := by
  refine am_CM.of (by decide +kernel) (Nat.le_of_ble_eq_true rfl) (fun X C T => ?_)
  show am_G X (am_VV ad) (0, 0) 0 [(0, .ref 322), (1, .int side), (2, .int (nI m))] [] r h
  refine am_aload_n (pc := 0) C dX12_usersOf_0 rfl ?_
  refine am_iload_n (pc := 1) C dX12_usersOf_1 rfl ?_
  refine am_callVi (Y := mX12_users) (pc := 2) (st := []) (As := [.int (nI m)]) (x := (rf_users (h 323) m)) (h2 := h) C dX12_usersOf_2 k12_313 v_X12_users rfl rfl bn_322 sh_322 ⟨by decide, rfl⟩ (by decide) (Nat.zero_le _) (Nat.zero_le _) (Nat.le_of_ble_eq_true rfl) (c_X12_users hR m hm hV) ?_
  refine am_aload_n (pc := 5) C dX12_usersOf_5 rfl ?_
  refine am_iload_n (pc := 6) C dX12_usersOf_6 rfl ?_
  refine am_callVi (Y := mX12_sideOf) (pc := 7) (st := [.int (rf_users (h 323) m)]) (As := [.int side]) (x := (rf_sideOf (h 323) side)) (h2 := h) C dX12_usersOf_7 k12_387 v_X12_sideOf rfl rfl bn_322 sh_322 ⟨by decide, rfl⟩ (by decide) (Nat.zero_le _) (Nat.zero_le _) (Nat.le_of_ble_eq_true rfl) (c_X12_sideOf hR side (show rf_Cn (h 323) from hV.1)) ?_
  refine am_iand (pc := 10) C dX12_usersOf_10 ?_
  exact am_ireti T dX12_usersOf_11 rfl (Nat.le_refl _) (Nat.le_refl _) rfl rfl rfl

set_option maxHeartbeats 400000 in
set_option maxRecDepth 100000 in
theorem c_X12_lostOf {ad : Nat → Nat} {r : am_R} (hR : am_rs r) {h : am_H} (side : Nat) (hV : rf_I (h 323)) (hs2 : side < 2)  : am_CM mX12_lostOf 6 0 0 [.ref 322, .int (nI side)] (am_VV ad) r h (am_po (some (.int (rf_lostOf (h 323) side))) r h) := by
  refine am_CM.of (by decide +kernel) (Nat.le_of_ble_eq_true rfl) (fun X C T => ?_)
  show am_G X (am_VV ad) (0, 0) 0 [(0, .ref 322), (1, .int (nI side))] [] r h
  have hM9 : rf_M (h 323) < 17 := hV.1.1.2
  have hS9 : rf_S (h 323) < 11 := hV.1.2.1.2
  have hO9 : rf_O (h 323) < 11 := hV.1.2.2.2
  refine am_iconstN (pc := 0) (k := 0) C dX12_lostOf_0 ?_
  refine am_istore_n (pc := 1) (ls' := [(0, .ref 322), (1, .int (nI side)), (2, .int (nI 0))]) C dX12_lostOf_1 (by decide) rfl ?_
  refine am_iconstN (pc := 2) (k := 0) C dX12_lostOf_2 ?_
  refine am_istore_n (pc := 3) (ls' := [(0, .ref 322), (1, .int (nI side)), (2, .int (nI 0)), (3, .int (nI 0))]) C dX12_lostOf_3 (by decide) rfl ?_
  have L4 : ∀ (j4 i4 : Nat), i4 + j4 = rf_M (h 323) → am_G X (am_VV ad) (0, 0) 4 [(0, .ref 322), (1, .int (nI side)), (2, .int (rf_set (fun m => am_bt ((h 323) (11 + side)) m && decide (rf_usersOf (h 323) (nI side) m = 0)) i4)), (3, .int (nI i4))] [] r h := by
    intro j4
    induction j4 with
    | zero =>
      intro i4 hi4 
      obtain rfl : i4 = rf_M (h 323) := by omega
      refine am_iload_n (pc := 4) C dX12_lostOf_4 rfl ?_
      refine am_aload_n (pc := 5) C dX12_lostOf_5 rfl ?_
      refine am_callVi (Y := mX12_memories) (pc := 6) (st := [.int (nI (rf_M (h 323)))]) (As := []) (x := (nI (rf_M (h 323)))) (h2 := h) C dX12_lostOf_6 k12_67 v_X12_memories rfl rfl bn_322 sh_322 ⟨by decide, rfl⟩ (by decide) (Nat.zero_le _) (Nat.zero_le _) (Nat.le_of_ble_eq_true rfl) (c_X12_memories hR (show rf_Cn (h 323) from hV.1)) ?_
      refine am_icmp_geN (pc := 9) (tgt := 53) C dX12_lostOf_9 (by decide) (by omega) (by omega) (fun q9 => ?_) (fun q9 => ?_)
      · skip
        refine am_iload_n (pc := 53) C dX12_lostOf_53 rfl ?_
        exact am_ireti T dX12_lostOf_54 rfl (Nat.le_refl _) (Nat.le_refl _) rfl rfl rfl
      · skip
        exact absurd q9 (by omega)
    | succ j4 ih4 =>
      intro i4 hi4 
      have hl4 : i4 < rf_M (h 323) := by omega
      refine am_iload_n (pc := 4) C dX12_lostOf_4 rfl ?_
      refine am_aload_n (pc := 5) C dX12_lostOf_5 rfl ?_
      refine am_callVi (Y := mX12_memories) (pc := 6) (st := [.int (nI i4)]) (As := []) (x := (nI (rf_M (h 323)))) (h2 := h) C dX12_lostOf_6 k12_67 v_X12_memories rfl rfl bn_322 sh_322 ⟨by decide, rfl⟩ (by decide) (Nat.zero_le _) (Nat.zero_le _) (Nat.le_of_ble_eq_true rfl) (c_X12_memories hR (show rf_Cn (h 323) from hV.1)) ?_
      refine am_icmp_geN (pc := 9) (tgt := 53) C dX12_lostOf_9 (by decide) (by omega) (by omega) (fun q9 => ?_) (fun q9 => ?_)
      · skip
        exact absurd q9 (by omega)
      · skip
        refine am_iload_n (pc := 12) C dX12_lostOf_12 rfl ?_
        refine am_aload_n (pc := 13) C dX12_lostOf_13 rfl ?_
        refine am_getR (pc := 14) (j := 323) C dX12_lostOf_14 f12_13 bn_322 sh_322 (rf_322_1 hR) ?_
        refine am_bipush (pc := 17) (v := nI 11) C dX12_lostOf_17 (by decide) ?_
        refine am_iload_n (pc := 19) C dX12_lostOf_19 rfl ?_
        refine am_iaddN (pc := 20) C dX12_lostOf_20 ?_
        refine am_iaload (pc := 21) C dX12_lostOf_21 bn_323 sh_323 (vp_in_nI (by omega) (by decide)) ?_
        refine am_top (show (h 323) (nI (11 + side)).toNatClampNeg = (h 323) (11 + side) from by rw [nI_clamp (by omega)]) ?_
        refine am_iload_n (pc := 22) C dX12_lostOf_22 rfl ?_
        refine am_callSi (Y := mX12_has) (pc := 23) (st := [.int (rf_set (fun m => am_bt ((h 323) (11 + side)) m && decide (rf_usersOf (h 323) (nI side) m = 0)) i4)]) (As := [.int ((h 323) (11 + side)), .int (nI i4)]) (x := (am_b (am_bt ((h 323) (11 + side)) i4))) (h2 := h) C dX12_lostOf_23 k12_81 v_X12_has rfl rfl (by decide) (Nat.zero_le _) (Nat.zero_le _) (Nat.le_of_ble_eq_true rfl) (c_X12_has hR ((h 323) (11 + side)) i4 (show i4 < 32 from by omega)) ?_
        refine am_if_eqB (pc := 26) (tgt := 44) C dX12_lostOf_26 (by decide) (fun q26 => ?_) (fun q26 => ?_)
        · skip
          refine am_iconstN (pc := 44) (k := 0) C dX12_lostOf_44 ?_
          refine am_ior (pc := 45) C dX12_lostOf_45 ?_
          refine am_istore_n (pc := 46) (ls' := [(0, .ref 322), (1, .int (nI side)), (2, .int ((rf_set (fun m => am_bt ((h 323) (11 + side)) m && decide (rf_usersOf (h 323) (nI side) m = 0)) i4) ||| (nI 0))), (3, .int (nI i4))]) C dX12_lostOf_46 (by decide) rfl ?_
          refine am_iincN (pc := 47) (ls' := [(0, .ref 322), (1, .int (nI side)), (2, .int ((rf_set (fun m => am_bt ((h 323) (11 + side)) m && decide (rf_usersOf (h 323) (nI side) m = 0)) i4) ||| (nI 0))), (3, .int (nI (i4 + 1)))]) C dX12_lostOf_47 rfl (am_up1 _) (by decide) rfl ?_
          refine am_goto (pc := 50) (tgt := 4) C dX12_lostOf_50 (by decide) ?_
          refine am_lsv (ls' := [(0, .ref 322), (1, .int (nI side)), (2, .int (rf_set (fun m => am_bt ((h 323) (11 + side)) m && decide (rf_usersOf (h 323) (nI side) m = 0)) (i4 + 1))), (3, .int (nI (i4 + 1)))]) (by rw [show ((rf_set (fun m => am_bt ((h 323) (11 + side)) m && decide (rf_usersOf (h 323) (nI side) m = 0)) i4) ||| (nI 0)) = (rf_set (fun m => am_bt ((h 323) (11 + side)) m && decide (rf_usersOf (h 323) (nI side) m = 0)) (i4 + 1)) from (by first | exact rf_set_t (by simp [q9, q26]) | exact rf_set_f (by simp [q9, q26]))]) ?_
          exact ih4 (i4 + 1) (by omega) 
        · skip
          refine am_aload_n (pc := 29) C dX12_lostOf_29 rfl ?_
          refine am_iload_n (pc := 30) C dX12_lostOf_30 rfl ?_
          refine am_iload_n (pc := 31) C dX12_lostOf_31 rfl ?_
          refine am_callVi (Y := mX12_usersOf) (pc := 32) (st := [.int (rf_set (fun m => am_bt ((h 323) (11 + side)) m && decide (rf_usersOf (h 323) (nI side) m = 0)) i4)]) (As := [.int (nI side), .int (nI i4)]) (x := (rf_usersOf (h 323) (nI side) i4)) (h2 := h) C dX12_lostOf_32 k12_390 v_X12_usersOf rfl rfl bn_322 sh_322 ⟨by decide, rfl⟩ (by decide) (Nat.zero_le _) (Nat.zero_le _) (Nat.le_of_ble_eq_true rfl) (c_X12_usersOf hR (nI side) i4 hV (show i4 < 32 from by omega)) ?_
          refine am_if_ne (pc := 35) (tgt := 44) C dX12_lostOf_35 (by decide) (fun q35 => ?_) (fun q35 => ?_)
          · skip
            refine am_iconstN (pc := 44) (k := 0) C dX12_lostOf_44 ?_
            refine am_ior (pc := 45) C dX12_lostOf_45 ?_
            refine am_istore_n (pc := 46) (ls' := [(0, .ref 322), (1, .int (nI side)), (2, .int ((rf_set (fun m => am_bt ((h 323) (11 + side)) m && decide (rf_usersOf (h 323) (nI side) m = 0)) i4) ||| (nI 0))), (3, .int (nI i4))]) C dX12_lostOf_46 (by decide) rfl ?_
            refine am_iincN (pc := 47) (ls' := [(0, .ref 322), (1, .int (nI side)), (2, .int ((rf_set (fun m => am_bt ((h 323) (11 + side)) m && decide (rf_usersOf (h 323) (nI side) m = 0)) i4) ||| (nI 0))), (3, .int (nI (i4 + 1)))]) C dX12_lostOf_47 rfl (am_up1 _) (by decide) rfl ?_
            refine am_goto (pc := 50) (tgt := 4) C dX12_lostOf_50 (by decide) ?_
            refine am_lsv (ls' := [(0, .ref 322), (1, .int (nI side)), (2, .int (rf_set (fun m => am_bt ((h 323) (11 + side)) m && decide (rf_usersOf (h 323) (nI side) m = 0)) (i4 + 1))), (3, .int (nI (i4 + 1)))]) (by rw [show ((rf_set (fun m => am_bt ((h 323) (11 + side)) m && decide (rf_usersOf (h 323) (nI side) m = 0)) i4) ||| (nI 0)) = (rf_set (fun m => am_bt ((h 323) (11 + side)) m && decide (rf_usersOf (h 323) (nI side) m = 0)) (i4 + 1)) from (by first | exact rf_set_t (by simp [q9, q26, q35]) | exact rf_set_f (by simp [q9, q26, q35]))]) ?_
            exact ih4 (i4 + 1) (by omega) 
          · skip
            refine am_iconstN (pc := 38) (k := 1) C dX12_lostOf_38 ?_
            refine am_iload_n (pc := 39) C dX12_lostOf_39 rfl ?_
            refine am_ishl (pc := 40) C dX12_lostOf_40 ?_
            refine am_goto (pc := 41) (tgt := 45) C dX12_lostOf_41 (by decide) ?_
            refine am_ior (pc := 45) C dX12_lostOf_45 ?_
            refine am_istore_n (pc := 46) (ls' := [(0, .ref 322), (1, .int (nI side)), (2, .int ((rf_set (fun m => am_bt ((h 323) (11 + side)) m && decide (rf_usersOf (h 323) (nI side) m = 0)) i4) ||| ((nI 1) <<< ((nI i4) &&& 31)))), (3, .int (nI i4))]) C dX12_lostOf_46 (by decide) rfl ?_
            refine am_iincN (pc := 47) (ls' := [(0, .ref 322), (1, .int (nI side)), (2, .int ((rf_set (fun m => am_bt ((h 323) (11 + side)) m && decide (rf_usersOf (h 323) (nI side) m = 0)) i4) ||| ((nI 1) <<< ((nI i4) &&& 31)))), (3, .int (nI (i4 + 1)))]) C dX12_lostOf_47 rfl (am_up1 _) (by decide) rfl ?_
            refine am_goto (pc := 50) (tgt := 4) C dX12_lostOf_50 (by decide) ?_
            refine am_lsv (ls' := [(0, .ref 322), (1, .int (nI side)), (2, .int (rf_set (fun m => am_bt ((h 323) (11 + side)) m && decide (rf_usersOf (h 323) (nI side) m = 0)) (i4 + 1))), (3, .int (nI (i4 + 1)))]) (by rw [show ((rf_set (fun m => am_bt ((h 323) (11 + side)) m && decide (rf_usersOf (h 323) (nI side) m = 0)) i4) ||| ((nI 1) <<< ((nI i4) &&& 31))) = (rf_set (fun m => am_bt ((h 323) (11 + side)) m && decide (rf_usersOf (h 323) (nI side) m = 0)) (i4 + 1)) from (by first | exact rf_set_t (by simp [q9, q26, q35]) | exact rf_set_f (by simp [q9, q26, q35]))]) ?_
            exact ih4 (i4 + 1) (by omega) 
  exact L4 (rf_M (h 323)) 0 (by omega) 

set_option maxHeartbeats 400000 in
set_option maxRecDepth 100000 in
theorem c_X12_shotsAt {ad : Nat → Nat} {r : am_R} (hR : am_rs r) {h : am_H} (s : Nat) (m : Nat) (good : Bool) (hV : rf_I (h 323)) (hs : s < rf_S (h 323)) (hm : m < 32)  : am_CM mX12_shotsAt 4 0 0 [.ref 322, .int (nI s), .int (nI m), .int (am_b good)] (am_VV ad) r h (am_po (some (.int (nI (rf_shots (h 323) s m good)))) r h) := by
  refine am_CM.of (by decide +kernel) (Nat.le_of_ble_eq_true rfl) (fun X C T => ?_)
  show am_G X (am_VV ad) (0, 0) 0 [(0, .ref 322), (1, .int (nI s)), (2, .int (nI m)), (3, .int (am_b good))] [] r h
  have hM9 : rf_M (h 323) < 17 := hV.1.1.2
  have hS9 : rf_S (h 323) < 11 := hV.1.2.1.2
  have hO9 : rf_O (h 323) < 11 := hV.1.2.2.2
  have hI := hV.2.1 s hs
  have hk9 : rf_kn (h 323) s < 13 := hI.2.2.2.2.1.2
  refine am_aload_n (pc := 0) C dX12_shotsAt_0 rfl ?_
  refine am_iload_n (pc := 1) C dX12_shotsAt_1 rfl ?_
  refine am_callVi (Y := mX12_usableOf) (pc := 2) (st := []) (As := [.int (nI s)]) (x := (rf_use (h 323) s)) (h2 := h) C dX12_shotsAt_2 k12_275 v_X12_usableOf rfl rfl bn_322 sh_322 ⟨by decide, rfl⟩ (by decide) (Nat.zero_le _) (Nat.zero_le _) (Nat.le_of_ble_eq_true rfl) (c_X12_usableOf hR s hs (show rf_Is (h 323) s from (hV.2.1 s (by omega))) (show rf_Cn (h 323) from hV.1)) ?_
  refine am_iload_n (pc := 5) C dX12_shotsAt_5 rfl ?_
  refine am_callSi (Y := mX12_has) (pc := 6) (st := []) (As := [.int (rf_use (h 323) s), .int (nI m)]) (x := (am_b (am_bt (rf_use (h 323) s) m))) (h2 := h) C dX12_shotsAt_6 k12_81 v_X12_has rfl rfl (by decide) (Nat.zero_le _) (Nat.zero_le _) (Nat.le_of_ble_eq_true rfl) (c_X12_has hR (rf_use (h 323) s) m hm) ?_
  refine am_if_neB (pc := 9) (tgt := 14) C dX12_shotsAt_9 (by decide) (fun q9 => ?_) (fun q9 => ?_)
  · skip
    have hk1 : 0 < rf_kn (h 323) s := by
        rcases Nat.eq_zero_or_pos (rf_kn (h 323) s) with e | e
        · have h0 : rf_use (h 323) s = 0 := by rw [rf_use, rf_known, rf_first, e, Nat.zero_min]; exact rf_usable_0 _
          rw [h0, am_bt_0] at q9
          exact absurd q9 Bool.false_ne_true
        · exact e
    refine am_iconstN (pc := 14) (k := 1) C dX12_shotsAt_14 ?_
    refine am_istore (pc := 15) (ls' := [(0, .ref 322), (1, .int (nI s)), (2, .int (nI m)), (3, .int (am_b good)), (4, .int (nI 1))]) C dX12_shotsAt_15 (by decide) rfl ?_
    have L17 : ∀ (j17 : Nat) (n : Nat), (hn1 : 1 ≤ n) → (hnf : n + j17 = rf_kn (h 323) s) → (hr17 : good = false → rf_shn (h 323) s m j17 n = rf_shn (h 323) s m (rf_kn (h 323) s - 1) 1) → (hg17 : good = true → n = 1) → am_G X (am_VV ad) (0, 0) 17 [(0, .ref 322), (1, .int (nI s)), (2, .int (nI m)), (3, .int (am_b good)), (4, .int (nI n))] [] r h := by
      intro j17
      induction j17 with
      | zero =>
        intro n hn1 hnf hr17 hg17
        refine am_iload_n (pc := 17) C dX12_shotsAt_17 rfl ?_
        refine am_if_neB (pc := 18) (tgt := 53) C dX12_shotsAt_18 (by decide) (fun q18 => ?_) (fun q18 => ?_)
        · skip
          refine am_iload (pc := 53) C dX12_shotsAt_53 rfl ?_
          exact am_ireti T dX12_shotsAt_55 rfl (Nat.le_refl _) (Nat.le_refl _) (by rw [rf_shots, if_pos q9]; first | (rw [q18, hg17 q18]; rfl) | (rw [q18, ← hr17 q18]; first | rfl | (rw [rf_shn, if_neg (by rw [q44]; exact Bool.false_ne_true)]; rfl))) rfl rfl
        · skip
          refine am_aload_n (pc := 21) C dX12_shotsAt_21 rfl ?_
          refine am_aload_n (pc := 22) C dX12_shotsAt_22 rfl ?_
          refine am_iload_n (pc := 23) C dX12_shotsAt_23 rfl ?_
          refine am_aload_n (pc := 24) C dX12_shotsAt_24 rfl ?_
          refine am_iload_n (pc := 25) C dX12_shotsAt_25 rfl ?_
          refine am_bipush (pc := 26) (v := nI 9) C dX12_shotsAt_26 (by decide) ?_
          refine am_callVi (Y := mX12_of) (pc := 28) (st := [.int (nI s), .ref 322, .ref 322]) (As := [.int (nI s), .int (nI 9)]) (x := (rf_of (h 323) s 9)) (h2 := h) C dX12_shotsAt_28 k12_63 v_X12_of rfl rfl bn_322 sh_322 ⟨by decide, rfl⟩ (by decide) (Nat.zero_le _) (Nat.zero_le _) (Nat.le_of_ble_eq_true rfl) (c_X12_of hR s 9 (show s < 11 from by omega) (show 9 < 23 from by omega)) ?_
          refine am_top (show (rf_of (h 323) s 9) = (nI (rf_kn (h 323) s)) from hI.2.2.2.2.1.1) ?_
          refine am_iload (pc := 31) C dX12_shotsAt_31 rfl ?_
          refine am_isubN (pc := 33) C dX12_shotsAt_33 (by omega) ?_
          refine am_callVi (Y := mX12_firstOf) (pc := 34) (st := [.ref 322]) (As := [.int (nI s), .int (nI ((rf_kn (h 323) s) - n))]) (x := (rf_first (h 323) s ((rf_kn (h 323) s) - n))) (h2 := h) C dX12_shotsAt_34 k12_78 v_X12_firstOf rfl rfl bn_322 sh_322 ⟨by decide, rfl⟩ (by decide) (Nat.zero_le _) (Nat.zero_le _) (Nat.le_of_ble_eq_true rfl) (c_X12_firstOf hR s ((rf_kn (h 323) s) - n) hs (show rf_Is (h 323) s from (hV.2.1 s (by omega))) (show rf_Cn (h 323) from hV.1) (show ((rf_kn (h 323) s) - n) < 1000 from by omega)) ?_
          refine am_callVi (Y := mX12_usable) (pc := 37) (st := []) (As := [.int (rf_first (h 323) s ((rf_kn (h 323) s) - n))]) (x := (rf_usable (h 323) (rf_first (h 323) s ((rf_kn (h 323) s) - n)))) (h2 := h) C dX12_shotsAt_37 k12_92 v_X12_usable rfl rfl bn_322 sh_322 ⟨by decide, rfl⟩ (by decide) (Nat.zero_le _) (Nat.zero_le _) (Nat.le_of_ble_eq_true rfl) (c_X12_usable hR (rf_first (h 323) s ((rf_kn (h 323) s) - n)) (show rf_Cn (h 323) from hV.1)) ?_
          refine am_iload_n (pc := 40) C dX12_shotsAt_40 rfl ?_
          refine am_callSi (Y := mX12_has) (pc := 41) (st := []) (As := [.int (rf_usable (h 323) (rf_first (h 323) s ((rf_kn (h 323) s) - n))), .int (nI m)]) (x := (am_b (am_bt (rf_usable (h 323) (rf_first (h 323) s ((rf_kn (h 323) s) - n))) m))) (h2 := h) C dX12_shotsAt_41 k12_81 v_X12_has rfl rfl (by decide) (Nat.zero_le _) (Nat.zero_le _) (Nat.le_of_ble_eq_true rfl) (c_X12_has hR (rf_usable (h 323) (rf_first (h 323) s ((rf_kn (h 323) s) - n))) m hm) ?_
          refine am_if_eqB (pc := 44) (tgt := 53) C dX12_shotsAt_44 (by decide) (fun q44 => ?_) (fun q44 => ?_)
          · skip
            refine am_iload (pc := 53) C dX12_shotsAt_53 rfl ?_
            exact am_ireti T dX12_shotsAt_55 rfl (Nat.le_refl _) (Nat.le_refl _) (by rw [rf_shots, if_pos q9]; first | (rw [q18, hg17 q18]; rfl) | (rw [q18, ← hr17 q18]; first | rfl | (rw [rf_shn, if_neg (by rw [q44]; exact Bool.false_ne_true)]; rfl))) rfl rfl
          · skip
            exact absurd q44 (by rw [show rf_kn (h 323) s - n = 0 by omega, rf_first_0, rf_usable_0, am_bt_0]; exact Bool.false_ne_true)
      | succ j17 ih17 =>
        intro n hn1 hnf hr17 hg17
        refine am_iload_n (pc := 17) C dX12_shotsAt_17 rfl ?_
        refine am_if_neB (pc := 18) (tgt := 53) C dX12_shotsAt_18 (by decide) (fun q18 => ?_) (fun q18 => ?_)
        · skip
          refine am_iload (pc := 53) C dX12_shotsAt_53 rfl ?_
          exact am_ireti T dX12_shotsAt_55 rfl (Nat.le_refl _) (Nat.le_refl _) (by rw [rf_shots, if_pos q9]; first | (rw [q18, hg17 q18]; rfl) | (rw [q18, ← hr17 q18]; first | rfl | (rw [rf_shn, if_neg (by rw [q44]; exact Bool.false_ne_true)]; rfl))) rfl rfl
        · skip
          refine am_aload_n (pc := 21) C dX12_shotsAt_21 rfl ?_
          refine am_aload_n (pc := 22) C dX12_shotsAt_22 rfl ?_
          refine am_iload_n (pc := 23) C dX12_shotsAt_23 rfl ?_
          refine am_aload_n (pc := 24) C dX12_shotsAt_24 rfl ?_
          refine am_iload_n (pc := 25) C dX12_shotsAt_25 rfl ?_
          refine am_bipush (pc := 26) (v := nI 9) C dX12_shotsAt_26 (by decide) ?_
          refine am_callVi (Y := mX12_of) (pc := 28) (st := [.int (nI s), .ref 322, .ref 322]) (As := [.int (nI s), .int (nI 9)]) (x := (rf_of (h 323) s 9)) (h2 := h) C dX12_shotsAt_28 k12_63 v_X12_of rfl rfl bn_322 sh_322 ⟨by decide, rfl⟩ (by decide) (Nat.zero_le _) (Nat.zero_le _) (Nat.le_of_ble_eq_true rfl) (c_X12_of hR s 9 (show s < 11 from by omega) (show 9 < 23 from by omega)) ?_
          refine am_top (show (rf_of (h 323) s 9) = (nI (rf_kn (h 323) s)) from hI.2.2.2.2.1.1) ?_
          refine am_iload (pc := 31) C dX12_shotsAt_31 rfl ?_
          refine am_isubN (pc := 33) C dX12_shotsAt_33 (by omega) ?_
          refine am_callVi (Y := mX12_firstOf) (pc := 34) (st := [.ref 322]) (As := [.int (nI s), .int (nI ((rf_kn (h 323) s) - n))]) (x := (rf_first (h 323) s ((rf_kn (h 323) s) - n))) (h2 := h) C dX12_shotsAt_34 k12_78 v_X12_firstOf rfl rfl bn_322 sh_322 ⟨by decide, rfl⟩ (by decide) (Nat.zero_le _) (Nat.zero_le _) (Nat.le_of_ble_eq_true rfl) (c_X12_firstOf hR s ((rf_kn (h 323) s) - n) hs (show rf_Is (h 323) s from (hV.2.1 s (by omega))) (show rf_Cn (h 323) from hV.1) (show ((rf_kn (h 323) s) - n) < 1000 from by omega)) ?_
          refine am_callVi (Y := mX12_usable) (pc := 37) (st := []) (As := [.int (rf_first (h 323) s ((rf_kn (h 323) s) - n))]) (x := (rf_usable (h 323) (rf_first (h 323) s ((rf_kn (h 323) s) - n)))) (h2 := h) C dX12_shotsAt_37 k12_92 v_X12_usable rfl rfl bn_322 sh_322 ⟨by decide, rfl⟩ (by decide) (Nat.zero_le _) (Nat.zero_le _) (Nat.le_of_ble_eq_true rfl) (c_X12_usable hR (rf_first (h 323) s ((rf_kn (h 323) s) - n)) (show rf_Cn (h 323) from hV.1)) ?_
          refine am_iload_n (pc := 40) C dX12_shotsAt_40 rfl ?_
          refine am_callSi (Y := mX12_has) (pc := 41) (st := []) (As := [.int (rf_usable (h 323) (rf_first (h 323) s ((rf_kn (h 323) s) - n))), .int (nI m)]) (x := (am_b (am_bt (rf_usable (h 323) (rf_first (h 323) s ((rf_kn (h 323) s) - n))) m))) (h2 := h) C dX12_shotsAt_41 k12_81 v_X12_has rfl rfl (by decide) (Nat.zero_le _) (Nat.zero_le _) (Nat.le_of_ble_eq_true rfl) (c_X12_has hR (rf_usable (h 323) (rf_first (h 323) s ((rf_kn (h 323) s) - n))) m hm) ?_
          refine am_if_eqB (pc := 44) (tgt := 53) C dX12_shotsAt_44 (by decide) (fun q44 => ?_) (fun q44 => ?_)
          · skip
            refine am_iload (pc := 53) C dX12_shotsAt_53 rfl ?_
            exact am_ireti T dX12_shotsAt_55 rfl (Nat.le_refl _) (Nat.le_refl _) (by rw [rf_shots, if_pos q9]; first | (rw [q18, hg17 q18]; rfl) | (rw [q18, ← hr17 q18]; first | rfl | (rw [rf_shn, if_neg (by rw [q44]; exact Bool.false_ne_true)]; rfl))) rfl rfl
          · skip
            refine am_iincN (pc := 47) (ls' := [(0, .ref 322), (1, .int (nI s)), (2, .int (nI m)), (3, .int (am_b good)), (4, .int (nI (n + 1)))]) C dX12_shotsAt_47 rfl (am_up1 _) (by decide) rfl ?_
            refine am_goto (pc := 50) (tgt := 17) C dX12_shotsAt_50 (by decide) ?_
            exact ih17 (n + 1) (by omega) (by omega) (fun z => by rw [← hr17 z, rf_shn, if_pos q44]) (fun z => absurd (z.symm.trans q18) (by decide))
    exact L17 (rf_kn (h 323) s - 1) 1 (by omega) (by omega) (fun _ => rfl) (fun _ => rfl)
  · skip
    refine am_iconstN (pc := 12) (k := 0) C dX12_shotsAt_12 ?_
    exact am_ireti T dX12_shotsAt_13 rfl (Nat.le_refl _) (Nat.le_refl _) (by rw [rf_shots, if_neg (by rw [q9]; exact Bool.false_ne_true)]) rfl rfl

set_option maxHeartbeats 400000 in
set_option maxRecDepth 100000 in
theorem c_X12_setOf {ad : Nat → Nat} {r : am_R} (hR : am_rs r) {h : am_H} (s : Nat) (cards : Int32) (hV : rf_I (h 323)) (hs : s < rf_S (h 323))  : am_CM mX12_setOf 1 0 0 [.ref 322, .int (nI s), .int cards] (am_VV ad) r h (am_po (some (.int (rf_setOf (h 323) s cards))) r h) := by
  refine am_CM.of (by decide +kernel) (Nat.le_of_ble_eq_true rfl) (fun X C T => ?_)
  show am_G X (am_VV ad) (0, 0) 0 [(0, .ref 322), (1, .int (nI s)), (2, .int cards)] [] r h
  have hM9 : rf_M (h 323) < 17 := hV.1.1.2
  have hS9 : rf_S (h 323) < 11 := hV.1.2.1.2
  have hO9 : rf_O (h 323) < 11 := hV.1.2.2.2
  have hI := hV.2.1 s hs
  have hk9 : rf_kn (h 323) s < 13 := hI.2.2.2.2.1.2
  refine am_iconstN (pc := 0) (k := 0) C dX12_setOf_0 ?_
  refine am_istore_n (pc := 1) (ls' := [(0, .ref 322), (1, .int (nI s)), (2, .int cards), (3, .int (nI 0))]) C dX12_setOf_1 (by decide) rfl ?_
  refine am_iconstN (pc := 2) (k := 0) C dX12_setOf_2 ?_
  refine am_istore (pc := 3) (ls' := [(0, .ref 322), (1, .int (nI s)), (2, .int cards), (3, .int (nI 0)), (4, .int (nI 0))]) C dX12_setOf_3 (by decide) rfl ?_
  have L5 : ∀ (j5 i5 : Nat), i5 + j5 = rf_kn (h 323) s → am_G X (am_VV ad) (0, 0) 5 [(0, .ref 322), (1, .int (nI s)), (2, .int cards), (3, .int (rf_sof (h 323) s cards i5)), (4, .int (nI i5))] [] r h := by
    intro j5
    induction j5 with
    | zero =>
      intro i5 hi5 
      obtain rfl : i5 = rf_kn (h 323) s := by omega
      refine am_iload (pc := 5) C dX12_setOf_5 rfl ?_
      refine am_aload_n (pc := 7) C dX12_setOf_7 rfl ?_
      refine am_iload_n (pc := 8) C dX12_setOf_8 rfl ?_
      refine am_bipush (pc := 9) (v := nI 9) C dX12_setOf_9 (by decide) ?_
      refine am_callVi (Y := mX12_of) (pc := 11) (st := [.int (nI (rf_kn (h 323) s))]) (As := [.int (nI s), .int (nI 9)]) (x := (rf_of (h 323) s 9)) (h2 := h) C dX12_setOf_11 k12_63 v_X12_of rfl rfl bn_322 sh_322 ⟨by decide, rfl⟩ (by decide) (Nat.zero_le _) (Nat.zero_le _) (Nat.le_of_ble_eq_true rfl) (c_X12_of hR s 9 (show s < 11 from by omega) (show 9 < 23 from by omega)) ?_
      refine am_top (show (rf_of (h 323) s 9) = (nI (rf_kn (h 323) s)) from hI.2.2.2.2.1.1) ?_
      refine am_icmp_geN (pc := 14) (tgt := 51) C dX12_setOf_14 (by decide) (by omega) (by omega) (fun q14 => ?_) (fun q14 => ?_)
      · skip
        refine am_iload_n (pc := 51) C dX12_setOf_51 rfl ?_
        exact am_ireti T dX12_setOf_52 rfl (Nat.le_refl _) (Nat.le_refl _) rfl rfl rfl
      · skip
        exact absurd q14 (by omega)
    | succ j5 ih5 =>
      intro i5 hi5 
      have hl5 : i5 < rf_kn (h 323) s := by omega
      refine am_iload (pc := 5) C dX12_setOf_5 rfl ?_
      refine am_aload_n (pc := 7) C dX12_setOf_7 rfl ?_
      refine am_iload_n (pc := 8) C dX12_setOf_8 rfl ?_
      refine am_bipush (pc := 9) (v := nI 9) C dX12_setOf_9 (by decide) ?_
      refine am_callVi (Y := mX12_of) (pc := 11) (st := [.int (nI i5)]) (As := [.int (nI s), .int (nI 9)]) (x := (rf_of (h 323) s 9)) (h2 := h) C dX12_setOf_11 k12_63 v_X12_of rfl rfl bn_322 sh_322 ⟨by decide, rfl⟩ (by decide) (Nat.zero_le _) (Nat.zero_le _) (Nat.le_of_ble_eq_true rfl) (c_X12_of hR s 9 (show s < 11 from by omega) (show 9 < 23 from by omega)) ?_
      refine am_top (show (rf_of (h 323) s 9) = (nI (rf_kn (h 323) s)) from hI.2.2.2.2.1.1) ?_
      refine am_icmp_geN (pc := 14) (tgt := 51) C dX12_setOf_14 (by decide) (by omega) (by omega) (fun q14 => ?_) (fun q14 => ?_)
      · skip
        exact absurd q14 (by omega)
      · skip
        refine am_iload_n (pc := 17) C dX12_setOf_17 rfl ?_
        refine am_iload_n (pc := 18) C dX12_setOf_18 rfl ?_
        refine am_iload (pc := 19) C dX12_setOf_19 rfl ?_
        refine am_callSi (Y := mX12_has) (pc := 21) (st := [.int (rf_sof (h 323) s cards i5)]) (As := [.int cards, .int (nI i5)]) (x := (am_b (am_bt cards i5))) (h2 := h) C dX12_setOf_21 k12_81 v_X12_has rfl rfl (by decide) (Nat.zero_le _) (Nat.zero_le _) (Nat.le_of_ble_eq_true rfl) (c_X12_has hR cards i5 (show i5 < 32 from by omega)) ?_
        refine am_if_eqB (pc := 24) (tgt := 42) C dX12_setOf_24 (by decide) (fun q24 => ?_) (fun q24 => ?_)
        · skip
          refine am_iconstN (pc := 42) (k := 0) C dX12_setOf_42 ?_
          refine am_ior (pc := 43) C dX12_setOf_43 ?_
          refine am_istore_n (pc := 44) (ls' := [(0, .ref 322), (1, .int (nI s)), (2, .int cards), (3, .int ((rf_sof (h 323) s cards i5) ||| (nI 0))), (4, .int (nI i5))]) C dX12_setOf_44 (by decide) rfl ?_
          refine am_iincN (pc := 45) (ls' := [(0, .ref 322), (1, .int (nI s)), (2, .int cards), (3, .int ((rf_sof (h 323) s cards i5) ||| (nI 0))), (4, .int (nI (i5 + 1)))]) C dX12_setOf_45 rfl (am_up1 _) (by decide) rfl ?_
          refine am_goto (pc := 48) (tgt := 5) C dX12_setOf_48 (by decide) ?_
          refine am_lsv (ls' := [(0, .ref 322), (1, .int (nI s)), (2, .int cards), (3, .int (rf_sof (h 323) s cards (i5 + 1))), (4, .int (nI (i5 + 1)))]) (by rw [show ((rf_sof (h 323) s cards i5) ||| (nI 0)) = (rf_sof (h 323) s cards (i5 + 1)) from (by rw [rf_sof]; simp [q14, q24])]) ?_
          exact ih5 (i5 + 1) (by omega) 
        · skip
          refine am_iconstN (pc := 27) (k := 1) C dX12_setOf_27 ?_
          refine am_aload_n (pc := 28) C dX12_setOf_28 rfl ?_
          refine am_iload_n (pc := 29) C dX12_setOf_29 rfl ?_
          refine am_bipush (pc := 30) (v := nI 10) C dX12_setOf_30 (by decide) ?_
          refine am_iload (pc := 32) C dX12_setOf_32 rfl ?_
          refine am_iaddN (pc := 34) C dX12_setOf_34 ?_
          refine am_callVi (Y := mX12_of) (pc := 35) (st := [.int (nI 1), .int (rf_sof (h 323) s cards i5)]) (As := [.int (nI s), .int (nI (10 + i5))]) (x := (rf_of (h 323) s (10 + i5))) (h2 := h) C dX12_setOf_35 k12_63 v_X12_of rfl rfl bn_322 sh_322 ⟨by decide, rfl⟩ (by decide) (Nat.zero_le _) (Nat.zero_le _) (Nat.le_of_ble_eq_true rfl) (c_X12_of hR s (10 + i5) (show s < 11 from by omega) (show (10 + i5) < 23 from by omega)) ?_
          refine am_top (show (rf_of (h 323) s (10 + i5)) = (nI (rf_li (h 323) s i5)) from (hI.2.2.2.2.2.1 i5 (by omega)).1) ?_
          refine am_ishl (pc := 38) C dX12_setOf_38 ?_
          refine am_goto (pc := 39) (tgt := 43) C dX12_setOf_39 (by decide) ?_
          refine am_ior (pc := 43) C dX12_setOf_43 ?_
          refine am_istore_n (pc := 44) (ls' := [(0, .ref 322), (1, .int (nI s)), (2, .int cards), (3, .int ((rf_sof (h 323) s cards i5) ||| ((nI 1) <<< ((nI (rf_li (h 323) s i5)) &&& 31)))), (4, .int (nI i5))]) C dX12_setOf_44 (by decide) rfl ?_
          refine am_iincN (pc := 45) (ls' := [(0, .ref 322), (1, .int (nI s)), (2, .int cards), (3, .int ((rf_sof (h 323) s cards i5) ||| ((nI 1) <<< ((nI (rf_li (h 323) s i5)) &&& 31)))), (4, .int (nI (i5 + 1)))]) C dX12_setOf_45 rfl (am_up1 _) (by decide) rfl ?_
          refine am_goto (pc := 48) (tgt := 5) C dX12_setOf_48 (by decide) ?_
          refine am_lsv (ls' := [(0, .ref 322), (1, .int (nI s)), (2, .int cards), (3, .int (rf_sof (h 323) s cards (i5 + 1))), (4, .int (nI (i5 + 1)))]) (by rw [show ((rf_sof (h 323) s cards i5) ||| ((nI 1) <<< ((nI (rf_li (h 323) s i5)) &&& 31))) = (rf_sof (h 323) s cards (i5 + 1)) from (by rw [rf_sof]; simp [q14, q24])]) ?_
          exact ih5 (i5 + 1) (by omega) 
  exact L5 (rf_kn (h 323) s) 0 (by omega) 

set_option maxHeartbeats 400000 in
set_option maxRecDepth 100000 in
theorem c_X12_duelAt {ad : Nat → Nat} {r : am_R} (hR : am_rs r) {h : am_H} (turn : Nat) (mine : Nat) (other : Nat)   : am_CM mX12_duelAt 0 0 0 [.int (nI turn), .int (nI mine), .int (nI other)] (am_VV ad) r h (am_po (some (.int (nI ((turn * 128 + mine) * 128 + other)))) r h) := by
  refine am_CM.of (by decide +kernel) (Nat.le_of_ble_eq_true rfl) (fun X C T => ?_)
  show am_G X (am_VV ad) (0, 0) 0 [(0, .int (nI turn)), (1, .int (nI mine)), (2, .int (nI other))] [] r h
  refine am_iload_n (pc := 0) C dX12_duelAt_0 rfl ?_
  refine am_sipush (pc := 1) (v := nI 128) C dX12_duelAt_1 (by decide) ?_
  refine am_imulN (pc := 4) C dX12_duelAt_4 ?_
  refine am_iload_n (pc := 5) C dX12_duelAt_5 rfl ?_
  refine am_iaddN (pc := 6) C dX12_duelAt_6 ?_
  refine am_sipush (pc := 7) (v := nI 128) C dX12_duelAt_7 (by decide) ?_
  refine am_imulN (pc := 10) C dX12_duelAt_10 ?_
  refine am_iload_n (pc := 11) C dX12_duelAt_11 rfl ?_
  refine am_iaddN (pc := 12) C dX12_duelAt_12 ?_
  exact am_ireti T dX12_duelAt_13 rfl (Nat.le_refl _) (Nat.le_refl _) rfl rfl rfl

set_option maxHeartbeats 400000 in
set_option maxRecDepth 100000 in
theorem c_X12_tooMany {ad : Nat → Nat} {r : am_R} (hR : am_rs r) {h : am_H} (a : Nat) (b : Nat) (hV : rf_I (h 323)) (ha : a < rf_S (h 323)) (hb : b < rf_S (h 323))  : am_CM mX12_tooMany 1 0 0 [.ref 322, .int (nI a), .int (nI b)] (am_VV ad) r h (am_po (some (.int (am_b (rf_many (h 323) a b)))) r h) := by
  refine am_CM.of (by decide +kernel) (Nat.le_of_ble_eq_true rfl) (fun X C T => ?_)
  show am_G X (am_VV ad) (0, 0) 0 [(0, .ref 322), (1, .int (nI a)), (2, .int (nI b))] [] r h
  have hM9 : rf_M (h 323) < 17 := hV.1.1.2
  have hS9 : rf_S (h 323) < 11 := hV.1.2.1.2
  have hO9 : rf_O (h 323) < 11 := hV.1.2.2.2
  have hka : rf_kn (h 323) a < 13 := (hV.2.1 a ha).2.2.2.2.1.2
  have hkb : rf_kn (h 323) b < 13 := (hV.2.1 b hb).2.2.2.2.1.2
  refine am_aload_n (pc := 0) C dX12_tooMany_0 rfl ?_
  refine am_iload_n (pc := 1) C dX12_tooMany_1 rfl ?_
  refine am_bipush (pc := 2) (v := nI 9) C dX12_tooMany_2 (by decide) ?_
  refine am_callVi (Y := mX12_of) (pc := 4) (st := []) (As := [.int (nI a), .int (nI 9)]) (x := (rf_of (h 323) a 9)) (h2 := h) C dX12_tooMany_4 k12_63 v_X12_of rfl rfl bn_322 sh_322 ⟨by decide, rfl⟩ (by decide) (Nat.zero_le _) (Nat.zero_le _) (Nat.le_of_ble_eq_true rfl) (c_X12_of hR a 9 (show a < 11 from by omega) (show 9 < 23 from by omega)) ?_
  refine am_top (show (rf_of (h 323) a 9) = (nI (rf_kn (h 323) a)) from (hV.2.1 a (by omega)).2.2.2.2.1.1) ?_
  refine am_bipush (pc := 7) (v := nI 7) C dX12_tooMany_7 (by decide) ?_
  refine am_icmp_gtN (pc := 9) (tgt := 24) C dX12_tooMany_9 (by decide) (by omega) (by omega) (fun q9 => ?_) (fun q9 => ?_)
  · skip
    refine am_iconstN (pc := 24) (k := 1) C dX12_tooMany_24 ?_
    refine am_goto (pc := 25) (tgt := 29) C dX12_tooMany_25 (by decide) ?_
    exact am_iretb T dX12_tooMany_29 rfl (Nat.le_refl _) (Nat.le_refl _) (by rw [rf_many]; first | (rw [decide_eq_true q9]; rfl) | (rw [decide_eq_false (Nat.not_lt.mpr q9), decide_eq_true q21]; rfl) | (rw [decide_eq_false (Nat.not_lt.mpr q9), decide_eq_false (Nat.not_lt.mpr q21)]; rfl)) rfl rfl
  · skip
    refine am_aload_n (pc := 12) C dX12_tooMany_12 rfl ?_
    refine am_iload_n (pc := 13) C dX12_tooMany_13 rfl ?_
    refine am_bipush (pc := 14) (v := nI 9) C dX12_tooMany_14 (by decide) ?_
    refine am_callVi (Y := mX12_of) (pc := 16) (st := []) (As := [.int (nI b), .int (nI 9)]) (x := (rf_of (h 323) b 9)) (h2 := h) C dX12_tooMany_16 k12_63 v_X12_of rfl rfl bn_322 sh_322 ⟨by decide, rfl⟩ (by decide) (Nat.zero_le _) (Nat.zero_le _) (Nat.le_of_ble_eq_true rfl) (c_X12_of hR b 9 (show b < 11 from by omega) (show 9 < 23 from by omega)) ?_
    refine am_top (show (rf_of (h 323) b 9) = (nI (rf_kn (h 323) b)) from (hV.2.1 b (by omega)).2.2.2.2.1.1) ?_
    refine am_bipush (pc := 19) (v := nI 7) C dX12_tooMany_19 (by decide) ?_
    refine am_icmp_leN (pc := 21) (tgt := 28) C dX12_tooMany_21 (by decide) (by omega) (by omega) (fun q21 => ?_) (fun q21 => ?_)
    · skip
      refine am_iconstN (pc := 28) (k := 0) C dX12_tooMany_28 ?_
      exact am_iretb T dX12_tooMany_29 rfl (Nat.le_refl _) (Nat.le_refl _) (by rw [rf_many]; first | (rw [decide_eq_true q9]; rfl) | (rw [decide_eq_false (Nat.not_lt.mpr q9), decide_eq_true q21]; rfl) | (rw [decide_eq_false (Nat.not_lt.mpr q9), decide_eq_false (Nat.not_lt.mpr q21)]; rfl)) rfl rfl
    · skip
      refine am_iconstN (pc := 24) (k := 1) C dX12_tooMany_24 ?_
      refine am_goto (pc := 25) (tgt := 29) C dX12_tooMany_25 (by decide) ?_
      exact am_iretb T dX12_tooMany_29 rfl (Nat.le_refl _) (Nat.le_refl _) (by rw [rf_many]; first | (rw [decide_eq_true q9]; rfl) | (rw [decide_eq_false (Nat.not_lt.mpr q9), decide_eq_true q21]; rfl) | (rw [decide_eq_false (Nat.not_lt.mpr q9), decide_eq_false (Nat.not_lt.mpr q21)]; rfl)) rfl rfl

set_option maxHeartbeats 400000 in
set_option maxRecDepth 100000 in
theorem c_X12_isAtPeace {ad : Nat → Nat} {r : am_R} (hR : am_rs r) {h : am_H} (set : Int32) (hC : rf_Cn (h 323))  : am_CM mX12_isAtPeace 1 0 0 [.ref 322, .int set] (am_VV ad) r h (am_po (some (.int (am_b (rf_peace (h 323) set)))) r h) := by
  refine am_CM.of (by decide +kernel) (Nat.le_of_ble_eq_true rfl) (fun X C T => ?_)
  show am_G X (am_VV ad) (0, 0) 0 [(0, .ref 322), (1, .int set)] [] r h
  have hM9 : rf_M (h 323) < 17 := hC.1.2
  refine am_iconstN (pc := 0) (k := 1) C dX12_isAtPeace_0 ?_
  refine am_istore_n (pc := 1) (ls' := [(0, .ref 322), (1, .int set), (2, .int (nI 1))]) C dX12_isAtPeace_1 (by decide) rfl ?_
  refine am_iconstN (pc := 2) (k := 0) C dX12_isAtPeace_2 ?_
  refine am_istore_n (pc := 3) (ls' := [(0, .ref 322), (1, .int set), (2, .int (nI 1)), (3, .int (nI 0))]) C dX12_isAtPeace_3 (by decide) rfl ?_
  have L4 : ∀ (j4 i4 : Nat), i4 + j4 = rf_M (h 323) → am_G X (am_VV ad) (0, 0) 4 [(0, .ref 322), (1, .int set), (2, .int (am_b (rf_pe (h 323) set i4))), (3, .int (nI i4))] [] r h := by
    intro j4
    induction j4 with
    | zero =>
      intro i4 hi4 
      obtain rfl : i4 = rf_M (h 323) := by omega
      refine am_iload_n (pc := 4) C dX12_isAtPeace_4 rfl ?_
      refine am_aload_n (pc := 5) C dX12_isAtPeace_5 rfl ?_
      refine am_callVi (Y := mX12_memories) (pc := 6) (st := [.int (nI (rf_M (h 323)))]) (As := []) (x := (nI (rf_M (h 323)))) (h2 := h) C dX12_isAtPeace_6 k12_67 v_X12_memories rfl rfl bn_322 sh_322 ⟨by decide, rfl⟩ (by decide) (Nat.zero_le _) (Nat.zero_le _) (Nat.le_of_ble_eq_true rfl) (c_X12_memories hR hC) ?_
      refine am_icmp_geN (pc := 9) (tgt := 47) C dX12_isAtPeace_9 (by decide) (by omega) (by omega) (fun q9 => ?_) (fun q9 => ?_)
      · skip
        refine am_iload_n (pc := 47) C dX12_isAtPeace_47 rfl ?_
        exact am_iretb T dX12_isAtPeace_48 rfl (Nat.le_refl _) (Nat.le_refl _) rfl rfl rfl
      · skip
        exact absurd q9 (by omega)
    | succ j4 ih4 =>
      intro i4 hi4 
      have hl4 : i4 < rf_M (h 323) := by omega
      refine am_iload_n (pc := 4) C dX12_isAtPeace_4 rfl ?_
      refine am_aload_n (pc := 5) C dX12_isAtPeace_5 rfl ?_
      refine am_callVi (Y := mX12_memories) (pc := 6) (st := [.int (nI i4)]) (As := []) (x := (nI (rf_M (h 323)))) (h2 := h) C dX12_isAtPeace_6 k12_67 v_X12_memories rfl rfl bn_322 sh_322 ⟨by decide, rfl⟩ (by decide) (Nat.zero_le _) (Nat.zero_le _) (Nat.le_of_ble_eq_true rfl) (c_X12_memories hR hC) ?_
      refine am_icmp_geN (pc := 9) (tgt := 47) C dX12_isAtPeace_9 (by decide) (by omega) (by omega) (fun q9 => ?_) (fun q9 => ?_)
      · skip
        exact absurd q9 (by omega)
      · skip
        refine am_iload_n (pc := 12) C dX12_isAtPeace_12 rfl ?_
        refine am_if_eqB (pc := 13) (tgt := 39) C dX12_isAtPeace_13 (by decide) (fun q13 => ?_) (fun q13 => ?_)
        · skip
          refine am_iconstN (pc := 39) (k := 0) C dX12_isAtPeace_39 ?_
          refine am_istore_n (pc := 40) (ls' := [(0, .ref 322), (1, .int set), (2, .int (nI 0)), (3, .int (nI i4))]) C dX12_isAtPeace_40 (by decide) rfl ?_
          refine am_iincN (pc := 41) (ls' := [(0, .ref 322), (1, .int set), (2, .int (nI 0)), (3, .int (nI (i4 + 1)))]) C dX12_isAtPeace_41 rfl (am_up1 _) (by decide) rfl ?_
          refine am_goto (pc := 44) (tgt := 4) C dX12_isAtPeace_44 (by decide) ?_
          refine am_lsv (ls' := [(0, .ref 322), (1, .int set), (2, .int (am_b (rf_pe (h 323) set (i4 + 1)))), (3, .int (nI (i4 + 1)))]) (by rw [show (nI 0) = (am_b (rf_pe (h 323) set (i4 + 1))) from (by rw [rf_pe]; simp [q9, q13]; rfl)]) ?_
          exact ih4 (i4 + 1) (by omega) 
        · skip
          refine am_iload_n (pc := 16) C dX12_isAtPeace_16 rfl ?_
          refine am_iload_n (pc := 17) C dX12_isAtPeace_17 rfl ?_
          refine am_callSi (Y := mX12_has) (pc := 18) (st := []) (As := [.int set, .int (nI i4)]) (x := (am_b (am_bt set i4))) (h2 := h) C dX12_isAtPeace_18 k12_81 v_X12_has rfl rfl (by decide) (Nat.zero_le _) (Nat.zero_le _) (Nat.le_of_ble_eq_true rfl) (c_X12_has hR set i4 (show i4 < 32 from by omega)) ?_
          refine am_if_eqB (pc := 21) (tgt := 35) C dX12_isAtPeace_21 (by decide) (fun q21 => ?_) (fun q21 => ?_)
          · skip
            refine am_iconstN (pc := 35) (k := 1) C dX12_isAtPeace_35 ?_
            refine am_goto (pc := 36) (tgt := 40) C dX12_isAtPeace_36 (by decide) ?_
            refine am_istore_n (pc := 40) (ls' := [(0, .ref 322), (1, .int set), (2, .int (nI 1)), (3, .int (nI i4))]) C dX12_isAtPeace_40 (by decide) rfl ?_
            refine am_iincN (pc := 41) (ls' := [(0, .ref 322), (1, .int set), (2, .int (nI 1)), (3, .int (nI (i4 + 1)))]) C dX12_isAtPeace_41 rfl (am_up1 _) (by decide) rfl ?_
            refine am_goto (pc := 44) (tgt := 4) C dX12_isAtPeace_44 (by decide) ?_
            refine am_lsv (ls' := [(0, .ref 322), (1, .int set), (2, .int (am_b (rf_pe (h 323) set (i4 + 1)))), (3, .int (nI (i4 + 1)))]) (by rw [show (nI 1) = (am_b (rf_pe (h 323) set (i4 + 1))) from (by rw [rf_pe]; simp [q9, q13, q21]; rfl)]) ?_
            exact ih4 (i4 + 1) (by omega) 
          · skip
            refine am_aload_n (pc := 24) C dX12_isAtPeace_24 rfl ?_
            refine am_iload_n (pc := 25) C dX12_isAtPeace_25 rfl ?_
            refine am_iconstN (pc := 26) (k := 2) C dX12_isAtPeace_26 ?_
            refine am_callVi (Y := mX12_ofMemory) (pc := 27) (st := []) (As := [.int (nI i4), .int (nI 2)]) (x := (rf_mem (h 323) i4 2)) (h2 := h) C dX12_isAtPeace_27 k12_85 v_X12_ofMemory rfl rfl bn_322 sh_322 ⟨by decide, rfl⟩ (by decide) (Nat.zero_le _) (Nat.zero_le _) (Nat.le_of_ble_eq_true rfl) (c_X12_ofMemory hR i4 2 (show i4 < 16 from by omega) (show 2 < 3 from by omega)) ?_
            refine am_iload_n (pc := 30) C dX12_isAtPeace_30 rfl ?_
            refine am_iand (pc := 31) C dX12_isAtPeace_31 ?_
            refine am_if_ne (pc := 32) (tgt := 39) C dX12_isAtPeace_32 (by decide) (fun q32 => ?_) (fun q32 => ?_)
            · skip
              refine am_iconstN (pc := 39) (k := 0) C dX12_isAtPeace_39 ?_
              refine am_istore_n (pc := 40) (ls' := [(0, .ref 322), (1, .int set), (2, .int (nI 0)), (3, .int (nI i4))]) C dX12_isAtPeace_40 (by decide) rfl ?_
              refine am_iincN (pc := 41) (ls' := [(0, .ref 322), (1, .int set), (2, .int (nI 0)), (3, .int (nI (i4 + 1)))]) C dX12_isAtPeace_41 rfl (am_up1 _) (by decide) rfl ?_
              refine am_goto (pc := 44) (tgt := 4) C dX12_isAtPeace_44 (by decide) ?_
              refine am_lsv (ls' := [(0, .ref 322), (1, .int set), (2, .int (am_b (rf_pe (h 323) set (i4 + 1)))), (3, .int (nI (i4 + 1)))]) (by rw [show (nI 0) = (am_b (rf_pe (h 323) set (i4 + 1))) from (by rw [rf_pe]; simp [q9, q13, q21, q32]; rfl)]) ?_
              exact ih4 (i4 + 1) (by omega) 
            · skip
              refine am_iconstN (pc := 35) (k := 1) C dX12_isAtPeace_35 ?_
              refine am_goto (pc := 36) (tgt := 40) C dX12_isAtPeace_36 (by decide) ?_
              refine am_istore_n (pc := 40) (ls' := [(0, .ref 322), (1, .int set), (2, .int (nI 1)), (3, .int (nI i4))]) C dX12_isAtPeace_40 (by decide) rfl ?_
              refine am_iincN (pc := 41) (ls' := [(0, .ref 322), (1, .int set), (2, .int (nI 1)), (3, .int (nI (i4 + 1)))]) C dX12_isAtPeace_41 rfl (am_up1 _) (by decide) rfl ?_
              refine am_goto (pc := 44) (tgt := 4) C dX12_isAtPeace_44 (by decide) ?_
              refine am_lsv (ls' := [(0, .ref 322), (1, .int set), (2, .int (am_b (rf_pe (h 323) set (i4 + 1)))), (3, .int (nI (i4 + 1)))]) (by rw [show (nI 1) = (am_b (rf_pe (h 323) set (i4 + 1))) from (by rw [rf_pe]; simp [q9, q13, q21, q32]; rfl)]) ?_
              exact ih4 (i4 + 1) (by omega) 
  exact L4 (rf_M (h 323)) 0 (by omega) 

set_option maxHeartbeats 400000 in
set_option maxRecDepth 100000 in
theorem c_X12_usableBy {ad : Nat → Nat} {r : am_R} (hR : am_rs r) {h : am_H} (side : Int32) (hV : rf_I (h 323))  : am_CM mX12_usableBy 4 0 0 [.ref 322, .int side] (am_VV ad) r h (am_po (some (.int (rf_usableBy (h 323) side))) r h) := by
  refine am_CM.of (by decide +kernel) (Nat.le_of_ble_eq_true rfl) (fun X C T => ?_)
  show am_G X (am_VV ad) (0, 0) 0 [(0, .ref 322), (1, .int side)] [] r h
  have hM9 : rf_M (h 323) < 17 := hV.1.1.2
  have hS9 : rf_S (h 323) < 11 := hV.1.2.1.2
  have hO9 : rf_O (h 323) < 11 := hV.1.2.2.2
  refine am_iconstN (pc := 0) (k := 0) C dX12_usableBy_0 ?_
  refine am_istore_n (pc := 1) (ls' := [(0, .ref 322), (1, .int side), (2, .int (nI 0))]) C dX12_usableBy_1 (by decide) rfl ?_
  refine am_iconstN (pc := 2) (k := 0) C dX12_usableBy_2 ?_
  refine am_istore_n (pc := 3) (ls' := [(0, .ref 322), (1, .int side), (2, .int (nI 0)), (3, .int (nI 0))]) C dX12_usableBy_3 (by decide) rfl ?_
  have L4 : ∀ (j4 i4 : Nat), i4 + j4 = rf_S (h 323) → am_G X (am_VV ad) (0, 0) 4 [(0, .ref 322), (1, .int side), (2, .int (rf_ub (h 323) side i4)), (3, .int (nI i4))] [] r h := by
    intro j4
    induction j4 with
    | zero =>
      intro i4 hi4 
      obtain rfl : i4 = rf_S (h 323) := by omega
      refine am_iload_n (pc := 4) C dX12_usableBy_4 rfl ?_
      refine am_aload_n (pc := 5) C dX12_usableBy_5 rfl ?_
      refine am_callVi (Y := mX12_soldiers) (pc := 6) (st := [.int (nI (rf_S (h 323)))]) (As := []) (x := (nI (rf_S (h 323)))) (h2 := h) C dX12_usableBy_6 k12_75 v_X12_soldiers rfl rfl bn_322 sh_322 ⟨by decide, rfl⟩ (by decide) (Nat.zero_le _) (Nat.zero_le _) (Nat.le_of_ble_eq_true rfl) (c_X12_soldiers hR (show rf_Cn (h 323) from hV.1)) ?_
      refine am_icmp_geN (pc := 9) (tgt := 40) C dX12_usableBy_9 (by decide) (by omega) (by omega) (fun q9 => ?_) (fun q9 => ?_)
      · skip
        refine am_iload_n (pc := 40) C dX12_usableBy_40 rfl ?_
        exact am_ireti T dX12_usableBy_41 rfl (Nat.le_refl _) (Nat.le_refl _) rfl rfl rfl
      · skip
        exact absurd q9 (by omega)
    | succ j4 ih4 =>
      intro i4 hi4 
      have hl4 : i4 < rf_S (h 323) := by omega
      refine am_iload_n (pc := 4) C dX12_usableBy_4 rfl ?_
      refine am_aload_n (pc := 5) C dX12_usableBy_5 rfl ?_
      refine am_callVi (Y := mX12_soldiers) (pc := 6) (st := [.int (nI i4)]) (As := []) (x := (nI (rf_S (h 323)))) (h2 := h) C dX12_usableBy_6 k12_75 v_X12_soldiers rfl rfl bn_322 sh_322 ⟨by decide, rfl⟩ (by decide) (Nat.zero_le _) (Nat.zero_le _) (Nat.le_of_ble_eq_true rfl) (c_X12_soldiers hR (show rf_Cn (h 323) from hV.1)) ?_
      refine am_icmp_geN (pc := 9) (tgt := 40) C dX12_usableBy_9 (by decide) (by omega) (by omega) (fun q9 => ?_) (fun q9 => ?_)
      · skip
        exact absurd q9 (by omega)
      · skip
        refine am_iload_n (pc := 12) C dX12_usableBy_12 rfl ?_
        refine am_aload_n (pc := 13) C dX12_usableBy_13 rfl ?_
        refine am_iload_n (pc := 14) C dX12_usableBy_14 rfl ?_
        refine am_iconstN (pc := 15) (k := 0) C dX12_usableBy_15 ?_
        refine am_callVi (Y := mX12_of) (pc := 16) (st := [.int (rf_ub (h 323) side i4)]) (As := [.int (nI i4), .int (nI 0)]) (x := (rf_of (h 323) i4 0)) (h2 := h) C dX12_usableBy_16 k12_63 v_X12_of rfl rfl bn_322 sh_322 ⟨by decide, rfl⟩ (by decide) (Nat.zero_le _) (Nat.zero_le _) (Nat.le_of_ble_eq_true rfl) (c_X12_of hR i4 0 (show i4 < 11 from by omega) (show 0 < 23 from by omega)) ?_
        refine am_iload_n (pc := 19) C dX12_usableBy_19 rfl ?_
        refine am_icmp_ne (pc := 20) (tgt := 31) C dX12_usableBy_20 (by decide) (fun q20 => ?_) (fun q20 => ?_)
        · skip
          refine am_iconstN (pc := 31) (k := 0) C dX12_usableBy_31 ?_
          refine am_ior (pc := 32) C dX12_usableBy_32 ?_
          refine am_istore_n (pc := 33) (ls' := [(0, .ref 322), (1, .int side), (2, .int ((rf_ub (h 323) side i4) ||| (nI 0))), (3, .int (nI i4))]) C dX12_usableBy_33 (by decide) rfl ?_
          refine am_iincN (pc := 34) (ls' := [(0, .ref 322), (1, .int side), (2, .int ((rf_ub (h 323) side i4) ||| (nI 0))), (3, .int (nI (i4 + 1)))]) C dX12_usableBy_34 rfl (am_up1 _) (by decide) rfl ?_
          refine am_goto (pc := 37) (tgt := 4) C dX12_usableBy_37 (by decide) ?_
          refine am_lsv (ls' := [(0, .ref 322), (1, .int side), (2, .int (rf_ub (h 323) side (i4 + 1))), (3, .int (nI (i4 + 1)))]) (by rw [show ((rf_ub (h 323) side i4) ||| (nI 0)) = (rf_ub (h 323) side (i4 + 1)) from (by rw [rf_ub]; simp [q9, q20])]) ?_
          exact ih4 (i4 + 1) (by omega) 
        · skip
          refine am_aload_n (pc := 23) C dX12_usableBy_23 rfl ?_
          refine am_iload_n (pc := 24) C dX12_usableBy_24 rfl ?_
          refine am_callVi (Y := mX12_usableOf) (pc := 25) (st := [.int (rf_ub (h 323) side i4)]) (As := [.int (nI i4)]) (x := (rf_use (h 323) i4)) (h2 := h) C dX12_usableBy_25 k12_275 v_X12_usableOf rfl rfl bn_322 sh_322 ⟨by decide, rfl⟩ (by decide) (Nat.zero_le _) (Nat.zero_le _) (Nat.le_of_ble_eq_true rfl) (c_X12_usableOf hR i4 (show i4 < rf_S (h 323) from by omega) (show rf_Is (h 323) i4 from (hV.2.1 i4 (by omega))) (show rf_Cn (h 323) from hV.1)) ?_
          refine am_goto (pc := 28) (tgt := 32) C dX12_usableBy_28 (by decide) ?_
          refine am_ior (pc := 32) C dX12_usableBy_32 ?_
          refine am_istore_n (pc := 33) (ls' := [(0, .ref 322), (1, .int side), (2, .int ((rf_ub (h 323) side i4) ||| (rf_use (h 323) i4))), (3, .int (nI i4))]) C dX12_usableBy_33 (by decide) rfl ?_
          refine am_iincN (pc := 34) (ls' := [(0, .ref 322), (1, .int side), (2, .int ((rf_ub (h 323) side i4) ||| (rf_use (h 323) i4))), (3, .int (nI (i4 + 1)))]) C dX12_usableBy_34 rfl (am_up1 _) (by decide) rfl ?_
          refine am_goto (pc := 37) (tgt := 4) C dX12_usableBy_37 (by decide) ?_
          refine am_lsv (ls' := [(0, .ref 322), (1, .int side), (2, .int (rf_ub (h 323) side (i4 + 1))), (3, .int (nI (i4 + 1)))]) (by rw [show ((rf_ub (h 323) side i4) ||| (rf_use (h 323) i4)) = (rf_ub (h 323) side (i4 + 1)) from (by rw [rf_ub]; simp [q9, q20])]) ?_
          exact ih4 (i4 + 1) (by omega) 
  exact L4 (rf_S (h 323)) 0 (by omega) 

set_option maxHeartbeats 400000 in
set_option maxRecDepth 100000 in
theorem c_X12_agrees {ad : Nat → Nat} {r : am_R} (hR : am_rs r) {h : am_H}  (hV : rf_I (h 323))  : am_CM mX12_agrees 5 0 0 [.ref 322] (am_VV ad) r h (am_po (some (.int (rf_agrees (h 323)))) r h) := by
  refine am_CM.of (by decide +kernel) (Nat.le_of_ble_eq_true rfl) (fun X C T => ?_)
  show am_G X (am_VV ad) (0, 0) 0 [(0, .ref 322)] [] r h
  refine am_aload_n (pc := 0) C dX12_agrees_0 rfl ?_
  refine am_iconstN (pc := 1) (k := 0) C dX12_agrees_1 ?_
  refine am_callVi (Y := mX12_usableBy) (pc := 2) (st := []) (As := [.int (nI 0)]) (x := (rf_usableBy (h 323) (nI 0))) (h2 := h) C dX12_agrees_2 k12_427 v_X12_usableBy rfl rfl bn_322 sh_322 ⟨by decide, rfl⟩ (by decide) (Nat.zero_le _) (Nat.zero_le _) (Nat.le_of_ble_eq_true rfl) (c_X12_usableBy hR (nI 0) hV) ?_
  refine am_aload_n (pc := 5) C dX12_agrees_5 rfl ?_
  refine am_iconstN (pc := 6) (k := 1) C dX12_agrees_6 ?_
  refine am_callVi (Y := mX12_usableBy) (pc := 7) (st := [.int (rf_usableBy (h 323) (nI 0))]) (As := [.int (nI 1)]) (x := (rf_usableBy (h 323) (nI 1))) (h2 := h) C dX12_agrees_7 k12_427 v_X12_usableBy rfl rfl bn_322 sh_322 ⟨by decide, rfl⟩ (by decide) (Nat.zero_le _) (Nat.zero_le _) (Nat.le_of_ble_eq_true rfl) (c_X12_usableBy hR (nI 1) hV) ?_
  refine am_iand (pc := 10) C dX12_agrees_10 ?_
  exact am_ireti T dX12_agrees_11 rfl (Nat.le_refl _) (Nat.le_refl _) rfl rfl rfl

set_option maxHeartbeats 400000 in
set_option maxRecDepth 100000 in
theorem c_X12_wasAt {ad : Nat → Nat} {r : am_R} (hR : am_rs r) {h : am_H} (s : Nat) (place : Int32) (hV : rf_I (h 323)) (hs : s < rf_S (h 323)) (hh : rf_n ((h 323) 5) 1073741824)  : am_CM mX12_wasAt 2 0 0 [.ref 322, .int (nI s), .int place] (am_VV ad) r h (am_po (some (.int (am_b (rf_was (h 323) s place)))) r h) := by
  refine am_CM.of (by decide +kernel) (Nat.le_of_ble_eq_true rfl) (fun X C T => ?_)
  show am_G X (am_VV ad) (0, 0) 0 [(0, .ref 322), (1, .int (nI s)), (2, .int place)] [] r h
  have hM9 : rf_M (h 323) < 17 := hV.1.1.2
  have hS9 : rf_S (h 323) < 11 := hV.1.2.1.2
  have hO9 : rf_O (h 323) < 11 := hV.1.2.2.2
  have hh2 := hh.2
  refine am_iconstN (pc := 0) (k := 0) C dX12_wasAt_0 ?_
  refine am_istore_n (pc := 1) (ls' := [(0, .ref 322), (1, .int (nI s)), (2, .int place), (3, .int (nI 0))]) C dX12_wasAt_1 (by decide) rfl ?_
  refine am_iconstN (pc := 2) (k := 0) C dX12_wasAt_2 ?_
  refine am_istore (pc := 3) (ls' := [(0, .ref 322), (1, .int (nI s)), (2, .int place), (3, .int (nI 0)), (4, .int (nI 0))]) C dX12_wasAt_3 (by decide) rfl ?_
  have L5 : ∀ (j5 i5 : Nat), i5 + j5 = min (rf_nat ((h 323) 5) + 1) 6 → am_G X (am_VV ad) (0, 0) 5 [(0, .ref 322), (1, .int (nI s)), (2, .int place), (3, .int (am_b (rf_wa (h 323) s place i5))), (4, .int (nI i5))] [] r h := by
    intro j5
    induction j5 with
    | zero =>
      intro i5 hi5 
      obtain rfl : i5 = min (rf_nat ((h 323) 5) + 1) 6 := by omega
      refine am_iload (pc := 5) C dX12_wasAt_5 rfl ?_
      refine am_aload_n (pc := 7) C dX12_wasAt_7 rfl ?_
      refine am_getR (pc := 8) (j := 323) C dX12_wasAt_8 f12_13 bn_322 sh_322 (rf_322_1 hR) ?_
      refine am_iconstN (pc := 11) (k := 5) C dX12_wasAt_11 ?_
      refine am_iaload (pc := 12) C dX12_wasAt_12 bn_323 sh_323 (vp_in_nI (by omega) (by decide)) ?_
      refine am_top (show (h 323) (nI 5).toNatClampNeg = (h 323) 5 from by rw [nI_clamp (by omega)]) ?_
      refine am_top (show ((h 323) 5) = (nI (rf_nat ((h 323) 5))) from hh.1) ?_
      refine am_icmp_gtN (pc := 13) (tgt := 51) C dX12_wasAt_13 (by decide) (by omega) (by omega) (fun q13 => ?_) (fun q13 => ?_)
      · skip
        refine am_iload_n (pc := 51) C dX12_wasAt_51 rfl ?_
        exact am_iretb T dX12_wasAt_52 rfl (Nat.le_refl _) (Nat.le_refl _) rfl rfl rfl
      · skip
        refine am_iload (pc := 16) C dX12_wasAt_16 rfl ?_
        refine am_bipush (pc := 18) (v := nI 6) C dX12_wasAt_18 (by decide) ?_
        refine am_icmp_geN (pc := 20) (tgt := 51) C dX12_wasAt_20 (by decide) (by omega) (by omega) (fun q20 => ?_) (fun q20 => ?_)
        · skip
          refine am_iload_n (pc := 51) C dX12_wasAt_51 rfl ?_
          exact am_iretb T dX12_wasAt_52 rfl (Nat.le_refl _) (Nat.le_refl _) rfl rfl rfl
        · skip
          exact absurd q20 (by omega)
    | succ j5 ih5 =>
      intro i5 hi5 
      have hl5 : i5 < min (rf_nat ((h 323) 5) + 1) 6 := by omega
      refine am_iload (pc := 5) C dX12_wasAt_5 rfl ?_
      refine am_aload_n (pc := 7) C dX12_wasAt_7 rfl ?_
      refine am_getR (pc := 8) (j := 323) C dX12_wasAt_8 f12_13 bn_322 sh_322 (rf_322_1 hR) ?_
      refine am_iconstN (pc := 11) (k := 5) C dX12_wasAt_11 ?_
      refine am_iaload (pc := 12) C dX12_wasAt_12 bn_323 sh_323 (vp_in_nI (by omega) (by decide)) ?_
      refine am_top (show (h 323) (nI 5).toNatClampNeg = (h 323) 5 from by rw [nI_clamp (by omega)]) ?_
      refine am_top (show ((h 323) 5) = (nI (rf_nat ((h 323) 5))) from hh.1) ?_
      refine am_icmp_gtN (pc := 13) (tgt := 51) C dX12_wasAt_13 (by decide) (by omega) (by omega) (fun q13 => ?_) (fun q13 => ?_)
      · skip
        exact absurd q13 (by omega)
      · skip
        refine am_iload (pc := 16) C dX12_wasAt_16 rfl ?_
        refine am_bipush (pc := 18) (v := nI 6) C dX12_wasAt_18 (by decide) ?_
        refine am_icmp_geN (pc := 20) (tgt := 51) C dX12_wasAt_20 (by decide) (by omega) (by omega) (fun q20 => ?_) (fun q20 => ?_)
        · skip
          exact absurd q20 (by omega)
        · skip
          refine am_iload_n (pc := 23) C dX12_wasAt_23 rfl ?_
          refine am_if_neB (pc := 24) (tgt := 39) C dX12_wasAt_24 (by decide) (fun q24 => ?_) (fun q24 => ?_)
          · skip
            refine am_iconstN (pc := 39) (k := 1) C dX12_wasAt_39 ?_
            refine am_goto (pc := 40) (tgt := 44) C dX12_wasAt_40 (by decide) ?_
            refine am_istore_n (pc := 44) (ls' := [(0, .ref 322), (1, .int (nI s)), (2, .int place), (3, .int (nI 1)), (4, .int (nI i5))]) C dX12_wasAt_44 (by decide) rfl ?_
            refine am_iincN (pc := 45) (ls' := [(0, .ref 322), (1, .int (nI s)), (2, .int place), (3, .int (nI 1)), (4, .int (nI (i5 + 1)))]) C dX12_wasAt_45 rfl (am_up1 _) (by decide) rfl ?_
            refine am_goto (pc := 48) (tgt := 5) C dX12_wasAt_48 (by decide) ?_
            refine am_lsv (ls' := [(0, .ref 322), (1, .int (nI s)), (2, .int place), (3, .int (am_b (rf_wa (h 323) s place (i5 + 1)))), (4, .int (nI (i5 + 1)))]) (by rw [show (nI 1) = (am_b (rf_wa (h 323) s place (i5 + 1))) from (by rw [rf_wa]; simp [q13, q20, q24]; rfl)]) ?_
            exact ih5 (i5 + 1) (by omega) 
          · skip
            refine am_aload_n (pc := 27) C dX12_wasAt_27 rfl ?_
            refine am_iload_n (pc := 28) C dX12_wasAt_28 rfl ?_
            refine am_iload (pc := 29) C dX12_wasAt_29 rfl ?_
            refine am_ineg (pc := 31) C dX12_wasAt_31 ?_
            refine am_callVi (Y := mX12_placeIn) (pc := 32) (st := []) (As := [.int (nI s), .int (-(nI i5))]) (x := (rf_pl2 (h 323) s (-(nI i5)))) (h2 := h) C dX12_wasAt_32 k12_334 v_X12_placeIn rfl rfl bn_322 sh_322 ⟨by decide, rfl⟩ (by decide) (Nat.zero_le _) (Nat.zero_le _) (Nat.le_of_ble_eq_true rfl) (c_X12_placeIn hR s (-(nI i5)) hs (show rf_Is (h 323) s from (hV.2.1 s (by omega))) (show rf_Cn (h 323) from hV.1)) ?_
            refine am_iload_n (pc := 35) C dX12_wasAt_35 rfl ?_
            refine am_icmp_ne (pc := 36) (tgt := 43) C dX12_wasAt_36 (by decide) (fun q36 => ?_) (fun q36 => ?_)
            · skip
              refine am_iconstN (pc := 43) (k := 0) C dX12_wasAt_43 ?_
              refine am_istore_n (pc := 44) (ls' := [(0, .ref 322), (1, .int (nI s)), (2, .int place), (3, .int (nI 0)), (4, .int (nI i5))]) C dX12_wasAt_44 (by decide) rfl ?_
              refine am_iincN (pc := 45) (ls' := [(0, .ref 322), (1, .int (nI s)), (2, .int place), (3, .int (nI 0)), (4, .int (nI (i5 + 1)))]) C dX12_wasAt_45 rfl (am_up1 _) (by decide) rfl ?_
              refine am_goto (pc := 48) (tgt := 5) C dX12_wasAt_48 (by decide) ?_
              refine am_lsv (ls' := [(0, .ref 322), (1, .int (nI s)), (2, .int place), (3, .int (am_b (rf_wa (h 323) s place (i5 + 1)))), (4, .int (nI (i5 + 1)))]) (by rw [show (nI 0) = (am_b (rf_wa (h 323) s place (i5 + 1))) from (by rw [rf_wa]; simp [q13, q20, q24, q36]; rfl)]) ?_
              exact ih5 (i5 + 1) (by omega) 
            · skip
              refine am_iconstN (pc := 39) (k := 1) C dX12_wasAt_39 ?_
              refine am_goto (pc := 40) (tgt := 44) C dX12_wasAt_40 (by decide) ?_
              refine am_istore_n (pc := 44) (ls' := [(0, .ref 322), (1, .int (nI s)), (2, .int place), (3, .int (nI 1)), (4, .int (nI i5))]) C dX12_wasAt_44 (by decide) rfl ?_
              refine am_iincN (pc := 45) (ls' := [(0, .ref 322), (1, .int (nI s)), (2, .int place), (3, .int (nI 1)), (4, .int (nI (i5 + 1)))]) C dX12_wasAt_45 rfl (am_up1 _) (by decide) rfl ?_
              refine am_goto (pc := 48) (tgt := 5) C dX12_wasAt_48 (by decide) ?_
              refine am_lsv (ls' := [(0, .ref 322), (1, .int (nI s)), (2, .int place), (3, .int (am_b (rf_wa (h 323) s place (i5 + 1)))), (4, .int (nI (i5 + 1)))]) (by rw [show (nI 1) = (am_b (rf_wa (h 323) s place (i5 + 1))) from (by rw [rf_wa]; simp [q13, q20, q24, q36]; rfl)]) ?_
              exact ih5 (i5 + 1) (by omega) 
  exact L5 (min (rf_nat ((h 323) 5) + 1) 6) 0 (by omega) 

set_option maxHeartbeats 400000 in
set_option maxRecDepth 100000 in
theorem c_X12_allKnown {ad : Nat → Nat} {r : am_R} (hR : am_rs r) {h : am_H}  (hV : rf_I (h 323))  : am_CM mX12_allKnown 1 0 0 [.ref 322] (am_VV ad) r h (am_po (some (.int (nI (rf_ak (h 323) (rf_S (h 323)))))) r h) := by
  refine am_CM.of (by decide +kernel) (Nat.le_of_ble_eq_true rfl) (fun X C T => ?_)
  show am_G X (am_VV ad) (0, 0) 0 [(0, .ref 322)] [] r h
  have hM9 : rf_M (h 323) < 17 := hV.1.1.2
  have hS9 : rf_S (h 323) < 11 := hV.1.2.1.2
  have hO9 : rf_O (h 323) < 11 := hV.1.2.2.2
  refine am_iconstN (pc := 0) (k := 0) C dX12_allKnown_0 ?_
  refine am_istore_n (pc := 1) (ls' := [(0, .ref 322), (1, .int (nI 0))]) C dX12_allKnown_1 (by decide) rfl ?_
  refine am_iconstN (pc := 2) (k := 0) C dX12_allKnown_2 ?_
  refine am_istore_n (pc := 3) (ls' := [(0, .ref 322), (1, .int (nI 0)), (2, .int (nI 0))]) C dX12_allKnown_3 (by decide) rfl ?_
  have L4 : ∀ (j4 i4 : Nat), i4 + j4 = rf_S (h 323) → am_G X (am_VV ad) (0, 0) 4 [(0, .ref 322), (1, .int (nI (rf_ak (h 323) i4))), (2, .int (nI i4))] [] r h := by
    intro j4
    induction j4 with
    | zero =>
      intro i4 hi4 
      obtain rfl : i4 = rf_S (h 323) := by omega
      refine am_iload_n (pc := 4) C dX12_allKnown_4 rfl ?_
      refine am_aload_n (pc := 5) C dX12_allKnown_5 rfl ?_
      refine am_callVi (Y := mX12_soldiers) (pc := 6) (st := [.int (nI (rf_S (h 323)))]) (As := []) (x := (nI (rf_S (h 323)))) (h2 := h) C dX12_allKnown_6 k12_75 v_X12_soldiers rfl rfl bn_322 sh_322 ⟨by decide, rfl⟩ (by decide) (Nat.zero_le _) (Nat.zero_le _) (Nat.le_of_ble_eq_true rfl) (c_X12_soldiers hR (show rf_Cn (h 323) from hV.1)) ?_
      refine am_icmp_geN (pc := 9) (tgt := 28) C dX12_allKnown_9 (by decide) (by omega) (by omega) (fun q9 => ?_) (fun q9 => ?_)
      · skip
        refine am_iload_n (pc := 28) C dX12_allKnown_28 rfl ?_
        exact am_ireti T dX12_allKnown_29 rfl (Nat.le_refl _) (Nat.le_refl _) rfl rfl rfl
      · skip
        exact absurd q9 (by omega)
    | succ j4 ih4 =>
      intro i4 hi4 
      have hl4 : i4 < rf_S (h 323) := by omega
      refine am_iload_n (pc := 4) C dX12_allKnown_4 rfl ?_
      refine am_aload_n (pc := 5) C dX12_allKnown_5 rfl ?_
      refine am_callVi (Y := mX12_soldiers) (pc := 6) (st := [.int (nI i4)]) (As := []) (x := (nI (rf_S (h 323)))) (h2 := h) C dX12_allKnown_6 k12_75 v_X12_soldiers rfl rfl bn_322 sh_322 ⟨by decide, rfl⟩ (by decide) (Nat.zero_le _) (Nat.zero_le _) (Nat.le_of_ble_eq_true rfl) (c_X12_soldiers hR (show rf_Cn (h 323) from hV.1)) ?_
      refine am_icmp_geN (pc := 9) (tgt := 28) C dX12_allKnown_9 (by decide) (by omega) (by omega) (fun q9 => ?_) (fun q9 => ?_)
      · skip
        exact absurd q9 (by omega)
      · skip
        refine am_iload_n (pc := 12) C dX12_allKnown_12 rfl ?_
        refine am_aload_n (pc := 13) C dX12_allKnown_13 rfl ?_
        refine am_iload_n (pc := 14) C dX12_allKnown_14 rfl ?_
        refine am_bipush (pc := 15) (v := nI 9) C dX12_allKnown_15 (by decide) ?_
        refine am_callVi (Y := mX12_of) (pc := 17) (st := [.int (nI (rf_ak (h 323) i4))]) (As := [.int (nI i4), .int (nI 9)]) (x := (rf_of (h 323) i4 9)) (h2 := h) C dX12_allKnown_17 k12_63 v_X12_of rfl rfl bn_322 sh_322 ⟨by decide, rfl⟩ (by decide) (Nat.zero_le _) (Nat.zero_le _) (Nat.le_of_ble_eq_true rfl) (c_X12_of hR i4 9 (show i4 < 11 from by omega) (show 9 < 23 from by omega)) ?_
        refine am_top (show (rf_of (h 323) i4 9) = (nI (rf_kn (h 323) i4)) from (hV.2.1 i4 (by omega)).2.2.2.2.1.1) ?_
        refine am_iaddN (pc := 20) C dX12_allKnown_20 ?_
        refine am_istore_n (pc := 21) (ls' := [(0, .ref 322), (1, .int (nI ((rf_ak (h 323) i4) + (rf_kn (h 323) i4)))), (2, .int (nI i4))]) C dX12_allKnown_21 (by decide) rfl ?_
        refine am_iincN (pc := 22) (ls' := [(0, .ref 322), (1, .int (nI ((rf_ak (h 323) i4) + (rf_kn (h 323) i4)))), (2, .int (nI (i4 + 1)))]) C dX12_allKnown_22 rfl (am_up1 _) (by decide) rfl ?_
        refine am_goto (pc := 25) (tgt := 4) C dX12_allKnown_25 (by decide) ?_
        refine am_lsv (ls' := [(0, .ref 322), (1, .int (nI (rf_ak (h 323) (i4 + 1)))), (2, .int (nI (i4 + 1)))]) (by rw [show (nI ((rf_ak (h 323) i4) + (rf_kn (h 323) i4))) = (nI (rf_ak (h 323) (i4 + 1))) from rfl]) ?_
        exact ih4 (i4 + 1) (by omega) 
  exact L4 (rf_S (h 323)) 0 (by omega) 

set_option maxHeartbeats 400000 in
set_option maxRecDepth 100000 in
theorem c_X12_allUsable {ad : Nat → Nat} {r : am_R} (hR : am_rs r) {h : am_H} (sides : Int32) (hV : rf_I (h 323))  : am_CM mX12_allUsable 4 0 0 [.ref 322, .int sides] (am_VV ad) r h (am_po (some (.int (rf_au (h 323) sides (rf_S (h 323))))) r h) := by
  refine am_CM.of (by decide +kernel) (Nat.le_of_ble_eq_true rfl) (fun X C T => ?_)
  show am_G X (am_VV ad) (0, 0) 0 [(0, .ref 322), (1, .int sides)] [] r h
  have hM9 : rf_M (h 323) < 17 := hV.1.1.2
  have hS9 : rf_S (h 323) < 11 := hV.1.2.1.2
  have hO9 : rf_O (h 323) < 11 := hV.1.2.2.2
  refine am_iconstN (pc := 0) (k := 0) C dX12_allUsable_0 ?_
  refine am_istore_n (pc := 1) (ls' := [(0, .ref 322), (1, .int sides), (2, .int (nI 0))]) C dX12_allUsable_1 (by decide) rfl ?_
  refine am_iconstN (pc := 2) (k := 0) C dX12_allUsable_2 ?_
  refine am_istore_n (pc := 3) (ls' := [(0, .ref 322), (1, .int sides), (2, .int (nI 0)), (3, .int (nI 0))]) C dX12_allUsable_3 (by decide) rfl ?_
  have L4 : ∀ (j4 i4 : Nat), i4 + j4 = rf_S (h 323) → am_G X (am_VV ad) (0, 0) 4 [(0, .ref 322), (1, .int sides), (2, .int (rf_au (h 323) sides i4)), (3, .int (nI i4))] [] r h := by
    intro j4
    induction j4 with
    | zero =>
      intro i4 hi4 
      obtain rfl : i4 = rf_S (h 323) := by omega
      refine am_iload_n (pc := 4) C dX12_allUsable_4 rfl ?_
      refine am_aload_n (pc := 5) C dX12_allUsable_5 rfl ?_
      refine am_callVi (Y := mX12_soldiers) (pc := 6) (st := [.int (nI (rf_S (h 323)))]) (As := []) (x := (nI (rf_S (h 323)))) (h2 := h) C dX12_allUsable_6 k12_75 v_X12_soldiers rfl rfl bn_322 sh_322 ⟨by decide, rfl⟩ (by decide) (Nat.zero_le _) (Nat.zero_le _) (Nat.le_of_ble_eq_true rfl) (c_X12_soldiers hR (show rf_Cn (h 323) from hV.1)) ?_
      refine am_icmp_geN (pc := 9) (tgt := 46) C dX12_allUsable_9 (by decide) (by omega) (by omega) (fun q9 => ?_) (fun q9 => ?_)
      · skip
        refine am_iload_n (pc := 46) C dX12_allUsable_46 rfl ?_
        exact am_ireti T dX12_allUsable_47 rfl (Nat.le_refl _) (Nat.le_refl _) rfl rfl rfl
      · skip
        exact absurd q9 (by omega)
    | succ j4 ih4 =>
      intro i4 hi4 
      have hl4 : i4 < rf_S (h 323) := by omega
      have h02 : rf_ofn (h 323) i4 0 < 2 := (hV.2.1 i4 hl4).1.2
      refine am_iload_n (pc := 4) C dX12_allUsable_4 rfl ?_
      refine am_aload_n (pc := 5) C dX12_allUsable_5 rfl ?_
      refine am_callVi (Y := mX12_soldiers) (pc := 6) (st := [.int (nI i4)]) (As := []) (x := (nI (rf_S (h 323)))) (h2 := h) C dX12_allUsable_6 k12_75 v_X12_soldiers rfl rfl bn_322 sh_322 ⟨by decide, rfl⟩ (by decide) (Nat.zero_le _) (Nat.zero_le _) (Nat.le_of_ble_eq_true rfl) (c_X12_soldiers hR (show rf_Cn (h 323) from hV.1)) ?_
      refine am_icmp_geN (pc := 9) (tgt := 46) C dX12_allUsable_9 (by decide) (by omega) (by omega) (fun q9 => ?_) (fun q9 => ?_)
      · skip
        exact absurd q9 (by omega)
      · skip
        refine am_iload_n (pc := 12) C dX12_allUsable_12 rfl ?_
        refine am_iload_n (pc := 13) C dX12_allUsable_13 rfl ?_
        refine am_aload_n (pc := 14) C dX12_allUsable_14 rfl ?_
        refine am_iload_n (pc := 15) C dX12_allUsable_15 rfl ?_
        refine am_iconstN (pc := 16) (k := 0) C dX12_allUsable_16 ?_
        refine am_callVi (Y := mX12_of) (pc := 17) (st := [.int sides, .int (rf_au (h 323) sides i4)]) (As := [.int (nI i4), .int (nI 0)]) (x := (rf_of (h 323) i4 0)) (h2 := h) C dX12_allUsable_17 k12_63 v_X12_of rfl rfl bn_322 sh_322 ⟨by decide, rfl⟩ (by decide) (Nat.zero_le _) (Nat.zero_le _) (Nat.le_of_ble_eq_true rfl) (c_X12_of hR i4 0 (show i4 < 11 from by omega) (show 0 < 23 from by omega)) ?_
        refine am_top (show (rf_of (h 323) i4 0) = (nI (rf_ofn (h 323) i4 0)) from (hV.2.1 i4 (by omega)).1.1) ?_
        refine am_callSi (Y := mX12_has) (pc := 20) (st := [.int (rf_au (h 323) sides i4)]) (As := [.int sides, .int (nI (rf_ofn (h 323) i4 0))]) (x := (am_b (am_bt sides (rf_ofn (h 323) i4 0)))) (h2 := h) C dX12_allUsable_20 k12_81 v_X12_has rfl rfl (by decide) (Nat.zero_le _) (Nat.zero_le _) (Nat.le_of_ble_eq_true rfl) (c_X12_has hR sides (rf_ofn (h 323) i4 0) (show (rf_ofn (h 323) i4 0) < 32 from by omega)) ?_
        refine am_if_eqB (pc := 23) (tgt := 37) C dX12_allUsable_23 (by decide) (fun q23 => ?_) (fun q23 => ?_)
        · skip
          refine am_iconstN (pc := 37) (k := 0) C dX12_allUsable_37 ?_
          refine am_iadd (pc := 38) C dX12_allUsable_38 ?_
          refine am_istore_n (pc := 39) (ls' := [(0, .ref 322), (1, .int sides), (2, .int ((rf_au (h 323) sides i4) + (nI 0))), (3, .int (nI i4))]) C dX12_allUsable_39 (by decide) rfl ?_
          refine am_iincN (pc := 40) (ls' := [(0, .ref 322), (1, .int sides), (2, .int ((rf_au (h 323) sides i4) + (nI 0))), (3, .int (nI (i4 + 1)))]) C dX12_allUsable_40 rfl (am_up1 _) (by decide) rfl ?_
          refine am_goto (pc := 43) (tgt := 4) C dX12_allUsable_43 (by decide) ?_
          refine am_lsv (ls' := [(0, .ref 322), (1, .int sides), (2, .int (rf_au (h 323) sides (i4 + 1))), (3, .int (nI (i4 + 1)))]) (by rw [show ((rf_au (h 323) sides i4) + (nI 0)) = (rf_au (h 323) sides (i4 + 1)) from (by rw [rf_au]; simp [q9, q23])]) ?_
          exact ih4 (i4 + 1) (by omega) 
        · skip
          refine am_aload_n (pc := 26) C dX12_allUsable_26 rfl ?_
          refine am_iload_n (pc := 27) C dX12_allUsable_27 rfl ?_
          refine am_callVi (Y := mX12_usableOf) (pc := 28) (st := [.int (rf_au (h 323) sides i4)]) (As := [.int (nI i4)]) (x := (rf_use (h 323) i4)) (h2 := h) C dX12_allUsable_28 k12_275 v_X12_usableOf rfl rfl bn_322 sh_322 ⟨by decide, rfl⟩ (by decide) (Nat.zero_le _) (Nat.zero_le _) (Nat.le_of_ble_eq_true rfl) (c_X12_usableOf hR i4 (show i4 < rf_S (h 323) from by omega) (show rf_Is (h 323) i4 from (hV.2.1 i4 (by omega))) (show rf_Cn (h 323) from hV.1)) ?_
          refine am_callSi (Y := mJ6_bitCount_0f7a4) (pc := 31) (st := [.int (rf_au (h 323) sides i4)]) (As := [.int (rf_use (h 323) i4)]) (x := (rf_pc (rf_use (h 323) i4))) (h2 := h) C dX12_allUsable_31 k12_278 v_J6_bitCount_0f7a4 rfl rfl (by decide) (Nat.zero_le _) (Nat.zero_le _) (Nat.le_of_ble_eq_true rfl) (c_J6_bitCount_0f7a4 hR (rf_use (h 323) i4)) ?_
          refine am_goto (pc := 34) (tgt := 38) C dX12_allUsable_34 (by decide) ?_
          refine am_iadd (pc := 38) C dX12_allUsable_38 ?_
          refine am_istore_n (pc := 39) (ls' := [(0, .ref 322), (1, .int sides), (2, .int ((rf_au (h 323) sides i4) + (rf_pc (rf_use (h 323) i4)))), (3, .int (nI i4))]) C dX12_allUsable_39 (by decide) rfl ?_
          refine am_iincN (pc := 40) (ls' := [(0, .ref 322), (1, .int sides), (2, .int ((rf_au (h 323) sides i4) + (rf_pc (rf_use (h 323) i4)))), (3, .int (nI (i4 + 1)))]) C dX12_allUsable_40 rfl (am_up1 _) (by decide) rfl ?_
          refine am_goto (pc := 43) (tgt := 4) C dX12_allUsable_43 (by decide) ?_
          refine am_lsv (ls' := [(0, .ref 322), (1, .int sides), (2, .int (rf_au (h 323) sides (i4 + 1))), (3, .int (nI (i4 + 1)))]) (by rw [show ((rf_au (h 323) sides i4) + (rf_pc (rf_use (h 323) i4))) = (rf_au (h 323) sides (i4 + 1)) from (by rw [rf_au]; simp [q9, q23])]) ?_
          exact ih4 (i4 + 1) (by omega) 
  exact L4 (rf_S (h 323)) 0 (by omega) 

set_option maxHeartbeats 400000 in
set_option maxRecDepth 100000 in
theorem c_X12_ofLog {ad : Nat → Nat} {r : am_R} (hR : am_rs r) {h : am_H} (a : Nat) (k : Nat) (ha : a < 60) (hk : k < 5)  : am_CM mX12_ofLog 0 0 0 [.ref 322, .int (nI a), .int (nI k)] (am_VV ad) r h (am_po (some (.int (rf_log (h 323) a k))) r h) := by
  refine am_CM.of (by decide +kernel) (Nat.le_of_ble_eq_true rfl) (fun X C T => ?_)
  show am_G X (am_VV ad) (0, 0) 0 [(0, .ref 322), (1, .int (nI a)), (2, .int (nI k))] [] r h
  refine am_aload_n (pc := 0) C dX12_ofLog_0 rfl ?_
  refine am_getR (pc := 1) (j := 323) C dX12_ofLog_1 f12_13 bn_322 sh_322 (rf_322_1 hR) ?_
  refine am_sipush (pc := 4) (v := nI 431) C dX12_ofLog_4 (by decide) ?_
  refine am_iconstN (pc := 7) (k := 5) C dX12_ofLog_7 ?_
  refine am_iload_n (pc := 8) C dX12_ofLog_8 rfl ?_
  refine am_imulN (pc := 9) C dX12_ofLog_9 ?_
  refine am_iaddN (pc := 10) C dX12_ofLog_10 ?_
  refine am_iload_n (pc := 11) C dX12_ofLog_11 rfl ?_
  refine am_iaddN (pc := 12) C dX12_ofLog_12 ?_
  refine am_iaload (pc := 13) C dX12_ofLog_13 bn_323 sh_323 (vp_in_nI (by omega) (by decide)) ?_
  refine am_top (show (h 323) (nI ((431 + (5 * a)) + k)).toNatClampNeg = (h 323) ((431 + (5 * a)) + k) from by rw [nI_clamp (by omega)]) ?_
  exact am_ireti T dX12_ofLog_14 rfl (Nat.le_refl _) (Nat.le_refl _) rfl rfl rfl

