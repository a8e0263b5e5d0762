set_option maxHeartbeats 400000 in
set_option maxRecDepth 100000 in
theorem c_X12_end {ad : Nat → Nat} {r : am_R} (hR : am_rs r) {h : am_H} (n : Int32)   : am_CM mX12_end 0 0 0 [.ref 322, .int n] (am_VV ad) r h (am_po (some (.int (am_b ((rf_end (h 322) n).1)))) r (am_row h 322 ((rf_end (h 322) n).2))) := by
  refine am_CM.of (by decide +kernel) (Nat.le_of_ble_eq_true rfl) (fun X C T => ?_)
  show am_G X (am_VV ad) (0, 0) 0 [(0, .ref 322), (1, .int n)] [] r h
  refine am_aload_n (pc := 0) C dX12_end_0 rfl ?_
  refine am_iconstN (pc := 1) (k := 0) C dX12_end_1 ?_
  refine am_putI (pc := 2) C dX12_end_2 f12_3 bn_322 sh_322 rfl rfl ?_
  refine am_hp (show am_up h 322 0 (nI 0) = am_row h 322 (upd (h 322) 0 (nI 0)) from am_up_rw _ _ _ _) ?_
  refine am_iload_n (pc := 5) C dX12_end_5 rfl ?_
  refine am_if_lt (pc := 6) (tgt := 17) C dX12_end_6 (by decide) (fun q6 => ?_) (fun q6 => ?_)
  · skip
    refine am_iconstN (pc := 17) (k := 0) C dX12_end_17 ?_
    have E9 : rf_end (h 322) n = (false, upd (h 322) 0 (nI 0)) := (by rw [rf_end, if_pos q6])
    exact am_iretb T dX12_end_18 rfl (Nat.le_refl _) (Nat.le_refl _) (by rw [E9] <;> rfl) rfl (by rw [E9] <;> exact rfl)
  · skip
    refine am_iload_n (pc := 9) C dX12_end_9 rfl ?_
    refine am_aload_n (pc := 10) C dX12_end_10 rfl ?_
    refine am_getI (pc := 11) C dX12_end_11 f12_96 bn_322 sh_322 ?_
    refine am_top (show ((upd (h 322) 0 (nI 0)) 9) = ((h 322) 9) from (rf_upd_ne (by decide))) ?_
    refine am_icmp_le (pc := 14) (tgt := 19) C dX12_end_14 (by decide) (fun q14 => ?_) (fun q14 => ?_)
    · skip
      refine am_aload_n (pc := 19) C dX12_end_19 rfl ?_
      refine am_iload_n (pc := 20) C dX12_end_20 rfl ?_
      refine am_putI (pc := 21) C dX12_end_21 f12_96 bn_322 sh_322 rfl rfl ?_
      refine am_hp (show am_up (am_row h 322 (upd (h 322) 0 (nI 0))) 322 9 n = am_row (am_row h 322 (upd (h 322) 0 (nI 0))) 322 (upd (upd (h 322) 0 (nI 0)) 9 n) from am_up_rw _ _ _ _) ?_
      refine am_hp (show am_row (am_row h 322 (upd (h 322) 0 (nI 0))) 322 (upd (upd (h 322) 0 (nI 0)) 9 n) = (am_row h 322 (upd (upd (h 322) 0 (nI 0)) 9 n)) from am_row_s0) ?_
      refine am_iconstN (pc := 24) (k := 1) C dX12_end_24 ?_
      have E9 : rf_end (h 322) n = (true, upd (upd (h 322) 0 (nI 0)) 9 n) := (by rw [rf_end, if_neg q6, if_pos q14])
      exact am_iretb T dX12_end_25 rfl (Nat.le_refl _) (Nat.le_refl _) (by rw [E9] <;> rfl) rfl (by rw [E9] <;> exact rfl)
    · skip
      refine am_iconstN (pc := 17) (k := 0) C dX12_end_17 ?_
      have E9 : rf_end (h 322) n = (false, upd (h 322) 0 (nI 0)) := (by rw [rf_end, if_neg q6, if_neg q14])
      exact am_iretb T dX12_end_18 rfl (Nat.le_refl _) (Nat.le_refl _) (by rw [E9] <;> rfl) rfl (by rw [E9] <;> exact rfl)

set_option maxHeartbeats 400000 in
set_option maxRecDepth 100000 in
theorem c_X12_fault {ad : Nat → Nat} {r : am_R} (hR : am_rs r) {h : am_H}    : am_CM mX12_fault 0 0 0 [.ref 322] (am_VV ad) r h (am_po (some (.int ((h 322) 14))) r (am_row h 322 (upd (h 322) 0 (nI 0)))) := by
  refine am_CM.of (by decide +kernel) (Nat.le_of_ble_eq_true rfl) (fun X C T => ?_)
  show am_G X (am_VV ad) (0, 0) 0 [(0, .ref 322)] [] r h
  refine am_aload_n (pc := 0) C dX12_fault_0 rfl ?_
  refine am_iconstN (pc := 1) (k := 0) C dX12_fault_1 ?_
  refine am_putI (pc := 2) C dX12_fault_2 f12_3 bn_322 sh_322 rfl rfl ?_
  refine am_hp (show am_up h 322 0 (nI 0) = am_row h 322 (upd (h 322) 0 (nI 0)) from am_up_rw _ _ _ _) ?_
  refine am_aload_n (pc := 5) C dX12_fault_5 rfl ?_
  refine am_getI (pc := 6) C dX12_fault_6 f12_33 bn_322 sh_322 ?_
  refine am_top (show ((upd (h 322) 0 (nI 0)) 14) = ((h 322) 14) from (rf_upd_ne (by decide))) ?_
  exact am_ireti T dX12_fault_9 rfl (Nat.le_refl _) (Nat.le_refl _) rfl rfl rfl

set_option maxHeartbeats 400000 in
set_option maxRecDepth 100000 in
theorem c_X12_image {ad : Nat → Nat} {r : am_R} (hR : am_rs r) {h : am_H}    : am_CM mX12_image 0 0 0 [.ref 322] (am_VV ad) r h (am_po none r (am_row (am_row h 322 (upd (upd (h 322) 0 (nI 0)) 6 (nI 1))) 324 (rf_cp (h 324) (h 323) 0 0 1580))) := by
  refine am_CM.of (by decide +kernel) (Nat.le_of_ble_eq_true rfl) (fun X C T => ?_)
  show am_G X (am_VV ad) (0, 0) 0 [(0, .ref 322)] [] r h
  refine am_aload_n (pc := 0) C dX12_image_0 rfl ?_
  refine am_iconstN (pc := 1) (k := 0) C dX12_image_1 ?_
  refine am_putI (pc := 2) C dX12_image_2 f12_3 bn_322 sh_322 rfl rfl ?_
  refine am_hp (show am_up h 322 0 (nI 0) = am_row h 322 (upd (h 322) 0 (nI 0)) from am_up_rw _ _ _ _) ?_
  refine am_iconstN (pc := 5) (k := 0) C dX12_image_5 ?_
  refine am_istore_n (pc := 6) (ls' := [(0, .ref 322), (1, .int (nI 0))]) C dX12_image_6 (by decide) rfl ?_
  have L7 : ∀ (j7 i7 : Nat), i7 + j7 = 1580 → am_G X (am_VV ad) (0, 0) 7 [(0, .ref 322), (1, .int (nI i7))] [] r (am_row (am_row h 322 (upd (h 322) 0 (nI 0))) 324 (rf_cp (h 324) (h 323) 0 0 i7)) := by
    intro j7
    induction j7 with
    | zero =>
      intro i7 hi7 
      obtain rfl : i7 = 1580 := by omega
      refine am_iload_n (pc := 7) C dX12_image_7 rfl ?_
      refine am_sipush (pc := 8) (v := nI 1580) C dX12_image_8 (by decide) ?_
      refine am_icmp_geN (pc := 11) (tgt := 32) C dX12_image_11 (by decide) (by omega) (by omega) (fun q11 => ?_) (fun q11 => ?_)
      · skip
        refine am_aload_n (pc := 32) C dX12_image_32 rfl ?_
        refine am_iconstN (pc := 33) (k := 1) C dX12_image_33 ?_
        refine am_putZ (pc := 34) C dX12_image_34 f12_56 bn_322 sh_322 rfl rfl (by decide) ?_
        refine am_hp (show am_up (am_row (am_row h 322 (upd (h 322) 0 (nI 0))) 324 (rf_cp (h 324) (h 323) 0 0 1580)) 322 6 (nI 1) = am_row (am_row (am_row h 322 (upd (h 322) 0 (nI 0))) 324 (rf_cp (h 324) (h 323) 0 0 1580)) 322 (upd (upd (h 322) 0 (nI 0)) 6 (nI 1)) from am_up_rw _ _ _ _) ?_
        refine am_hp (show am_row (am_row (am_row h 322 (upd (h 322) 0 (nI 0))) 324 (rf_cp (h 324) (h 323) 0 0 1580)) 322 (upd (upd (h 322) 0 (nI 0)) 6 (nI 1)) = (am_row (am_row h 322 (upd (upd (h 322) 0 (nI 0)) 6 (nI 1))) 324 (rf_cp (h 324) (h 323) 0 0 1580)) from am_row_s1 (by decide)) ?_
        exact am_vretv T dX12_image_37 rfl (Nat.le_refl _) (Nat.le_refl _) rfl rfl
      · skip
        exact absurd q11 (by omega)
    | succ j7 ih7 =>
      intro i7 hi7 
      have hl7 : i7 < 1580 := by omega
      refine am_iload_n (pc := 7) C dX12_image_7 rfl ?_
      refine am_sipush (pc := 8) (v := nI 1580) C dX12_image_8 (by decide) ?_
      refine am_icmp_geN (pc := 11) (tgt := 32) C dX12_image_11 (by decide) (by omega) (by omega) (fun q11 => ?_) (fun q11 => ?_)
      · skip
        exact absurd q11 (by omega)
      · skip
        refine am_aload_n (pc := 14) C dX12_image_14 rfl ?_
        refine am_getR (pc := 15) (j := 324) C dX12_image_15 f12_17 bn_322 sh_322 (rf_322_2 hR) ?_
        refine am_iload_n (pc := 18) C dX12_image_18 rfl ?_
        refine am_aload_n (pc := 19) C dX12_image_19 rfl ?_
        refine am_getR (pc := 20) (j := 323) C dX12_image_20 f12_13 bn_322 sh_322 (rf_322_1 hR) ?_
        refine am_iload_n (pc := 23) C dX12_image_23 rfl ?_
        refine am_iaload (pc := 24) C dX12_image_24 bn_323 sh_323 (vp_in_nI (by omega) (by decide)) ?_
        refine am_top (show (h 323) (nI i7).toNatClampNeg = (h 323) i7 from by rw [nI_clamp (by omega)]) ?_
        refine am_iastore (pc := 25) C dX12_image_25 bn_324 sh_324 (vp_in_nI (by omega) (by decide)) ?_
        refine am_hp (show am_up (am_row (am_row h 322 (upd (h 322) 0 (nI 0))) 324 (rf_cp (h 324) (h 323) 0 0 i7)) 324 (nI i7).toNatClampNeg ((h 323) i7) = am_row (am_row (am_row h 322 (upd (h 322) 0 (nI 0))) 324 (rf_cp (h 324) (h 323) 0 0 i7)) 324 (upd (rf_cp (h 324) (h 323) 0 0 i7) i7 ((h 323) i7)) from by rw [nI_clamp (by omega)]; exact am_up_rw _ _ _ _) ?_
        refine am_hp (show am_row (am_row (am_row h 322 (upd (h 322) 0 (nI 0))) 324 (rf_cp (h 324) (h 323) 0 0 i7)) 324 (upd (rf_cp (h 324) (h 323) 0 0 i7) i7 ((h 323) i7)) = (am_row (am_row h 322 (upd (h 322) 0 (nI 0))) 324 (upd (rf_cp (h 324) (h 323) 0 0 i7) i7 ((h 323) i7))) from am_row_s0) ?_
        refine am_iincN (pc := 26) (ls' := [(0, .ref 322), (1, .int (nI (i7 + 1)))]) C dX12_image_26 rfl (am_up1 _) (by decide) rfl ?_
        refine am_goto (pc := 29) (tgt := 7) C dX12_image_29 (by decide) ?_
        refine am_hp (show (am_row (am_row h 322 (upd (h 322) 0 (nI 0))) 324 (upd (rf_cp (h 324) (h 323) 0 0 i7) i7 ((h 323) i7))) = (am_row (am_row h 322 (upd (h 322) 0 (nI 0))) 324 (rf_cp (h 324) (h 323) 0 0 (i7 + 1))) from congrArg (am_row _ 324) (rf_cp_s (by omega) (by first | rfl | rw [Nat.zero_add]) rfl)) ?_
        exact ih7 (i7 + 1) (by omega) 
  refine am_hp (show (am_row h 322 (upd (h 322) 0 (nI 0))) = (am_row (am_row h 322 (upd (h 322) 0 (nI 0))) 324 (rf_cp (h 324) (h 323) 0 0 0)) from (by rw [rf_cp_0]; exact (am_hA (by decide)).symm)) ?_
  exact L7 1580 0 (by omega) 

set_option maxHeartbeats 400000 in
set_option maxRecDepth 100000 in
theorem c_X12_back {ad : Nat → Nat} {r : am_R} (hR : am_rs r) {h : am_H}    : am_CM mX12_back 0 0 0 [.ref 322] (am_VV ad) r h (am_po (some (.int (am_b ((rf_back (h 322) (h 323) (h 324)).1)))) r (am_row (am_row h 322 ((rf_back (h 322) (h 323) (h 324)).2.1)) 323 ((rf_back (h 322) (h 323) (h 324)).2.2))) := by
  refine am_CM.of (by decide +kernel) (Nat.le_of_ble_eq_true rfl) (fun X C T => ?_)
  show am_G X (am_VV ad) (0, 0) 0 [(0, .ref 322)] [] r h
  refine am_aload_n (pc := 0) C dX12_back_0 rfl ?_
  refine am_iconstN (pc := 1) (k := 0) C dX12_back_1 ?_
  refine am_putI (pc := 2) C dX12_back_2 f12_3 bn_322 sh_322 rfl rfl ?_
  refine am_hp (show am_up h 322 0 (nI 0) = am_row h 322 (upd (h 322) 0 (nI 0)) from am_up_rw _ _ _ _) ?_
  refine am_aload_n (pc := 5) C dX12_back_5 rfl ?_
  refine am_getI (pc := 6) C dX12_back_6 f12_56 bn_322 sh_322 ?_
  refine am_top (show ((upd (h 322) 0 (nI 0)) 6) = ((h 322) 6) from (rf_upd_ne (by decide))) ?_
  refine am_if_ne (pc := 9) (tgt := 14) C dX12_back_9 (by decide) (fun q9 => ?_) (fun q9 => ?_)
  · skip
    refine am_iconstN (pc := 14) (k := 0) C dX12_back_14 ?_
    refine am_istore_n (pc := 15) (ls' := [(0, .ref 322), (1, .int (nI 0))]) C dX12_back_15 (by decide) rfl ?_
    have L16 : ∀ (j16 i16 : Nat), i16 + j16 = 1580 → am_G X (am_VV ad) (0, 0) 16 [(0, .ref 322), (1, .int (nI i16))] [] r (am_row (am_row h 322 (upd (h 322) 0 (nI 0))) 323 (rf_cp (h 323) (h 324) 0 0 i16)) := by
      intro j16
      induction j16 with
      | zero =>
        intro i16 hi16 
        obtain rfl : i16 = 1580 := by omega
        refine am_iload_n (pc := 16) C dX12_back_16 rfl ?_
        refine am_sipush (pc := 17) (v := nI 1580) C dX12_back_17 (by decide) ?_
        refine am_icmp_geN (pc := 20) (tgt := 41) C dX12_back_20 (by decide) (by omega) (by omega) (fun q20 => ?_) (fun q20 => ?_)
        · skip
          refine am_aload_n (pc := 41) C dX12_back_41 rfl ?_
          refine am_iconstN (pc := 42) (k := 0) C dX12_back_42 ?_
          refine am_putI (pc := 43) C dX12_back_43 f12_60 bn_322 sh_322 rfl rfl ?_
          refine am_hp (show am_up (am_row (am_row h 322 (upd (h 322) 0 (nI 0))) 323 (rf_cp (h 323) (h 324) 0 0 1580)) 322 7 (nI 0) = am_row (am_row (am_row h 322 (upd (h 322) 0 (nI 0))) 323 (rf_cp (h 323) (h 324) 0 0 1580)) 322 (upd (upd (h 322) 0 (nI 0)) 7 (nI 0)) from am_up_rw _ _ _ _) ?_
          refine am_hp (show am_row (am_row (am_row h 322 (upd (h 322) 0 (nI 0))) 323 (rf_cp (h 323) (h 324) 0 0 1580)) 322 (upd (upd (h 322) 0 (nI 0)) 7 (nI 0)) = (am_row (am_row h 322 (upd (upd (h 322) 0 (nI 0)) 7 (nI 0))) 323 (rf_cp (h 323) (h 324) 0 0 1580)) from am_row_s1 (by decide)) ?_
          refine am_iconstN (pc := 46) (k := 1) C dX12_back_46 ?_
          have E9 : rf_back (h 322) (h 323) (h 324) = (true, upd (upd (h 322) 0 (nI 0)) 7 (nI 0), rf_cp (h 323) (h 324) 0 0 1580) := (by rw [rf_back, if_neg q9])
          exact am_iretb T dX12_back_47 rfl (Nat.le_refl _) (Nat.le_refl _) (by rw [E9] <;> rfl) rfl (by rw [E9] <;> exact rfl)
        · skip
          exact absurd q20 (by omega)
      | succ j16 ih16 =>
        intro i16 hi16 
        have hl16 : i16 < 1580 := by omega
        refine am_iload_n (pc := 16) C dX12_back_16 rfl ?_
        refine am_sipush (pc := 17) (v := nI 1580) C dX12_back_17 (by decide) ?_
        refine am_icmp_geN (pc := 20) (tgt := 41) C dX12_back_20 (by decide) (by omega) (by omega) (fun q20 => ?_) (fun q20 => ?_)
        · skip
          exact absurd q20 (by omega)
        · skip
          refine am_aload_n (pc := 23) C dX12_back_23 rfl ?_
          refine am_getR (pc := 24) (j := 323) C dX12_back_24 f12_13 bn_322 sh_322 (rf_322_1 hR) ?_
          refine am_iload_n (pc := 27) C dX12_back_27 rfl ?_
          refine am_aload_n (pc := 28) C dX12_back_28 rfl ?_
          refine am_getR (pc := 29) (j := 324) C dX12_back_29 f12_17 bn_322 sh_322 (rf_322_2 hR) ?_
          refine am_iload_n (pc := 32) C dX12_back_32 rfl ?_
          refine am_iaload (pc := 33) C dX12_back_33 bn_324 sh_324 (vp_in_nI (by omega) (by decide)) ?_
          refine am_top (show (h 324) (nI i16).toNatClampNeg = (h 324) i16 from by rw [nI_clamp (by omega)]) ?_
          refine am_iastore (pc := 34) C dX12_back_34 bn_323 sh_323 (vp_in_nI (by omega) (by decide)) ?_
          refine am_hp (show am_up (am_row (am_row h 322 (upd (h 322) 0 (nI 0))) 323 (rf_cp (h 323) (h 324) 0 0 i16)) 323 (nI i16).toNatClampNeg ((h 324) i16) = am_row (am_row (am_row h 322 (upd (h 322) 0 (nI 0))) 323 (rf_cp (h 323) (h 324) 0 0 i16)) 323 (upd (rf_cp (h 323) (h 324) 0 0 i16) i16 ((h 324) i16)) from by rw [nI_clamp (by omega)]; exact am_up_rw _ _ _ _) ?_
          refine am_hp (show am_row (am_row (am_row h 322 (upd (h 322) 0 (nI 0))) 323 (rf_cp (h 323) (h 324) 0 0 i16)) 323 (upd (rf_cp (h 323) (h 324) 0 0 i16) i16 ((h 324) i16)) = (am_row (am_row h 322 (upd (h 322) 0 (nI 0))) 323 (upd (rf_cp (h 323) (h 324) 0 0 i16) i16 ((h 324) i16))) from am_row_s0) ?_
          refine am_iincN (pc := 35) (ls' := [(0, .ref 322), (1, .int (nI (i16 + 1)))]) C dX12_back_35 rfl (am_up1 _) (by decide) rfl ?_
          refine am_goto (pc := 38) (tgt := 16) C dX12_back_38 (by decide) ?_
          refine am_hp (show (am_row (am_row h 322 (upd (h 322) 0 (nI 0))) 323 (upd (rf_cp (h 323) (h 324) 0 0 i16) i16 ((h 324) i16))) = (am_row (am_row h 322 (upd (h 322) 0 (nI 0))) 323 (rf_cp (h 323) (h 324) 0 0 (i16 + 1))) from congrArg (am_row _ 323) (rf_cp_s (by omega) (by first | rfl | rw [Nat.zero_add]) rfl)) ?_
          exact ih16 (i16 + 1) (by omega) 
    refine am_hp (show (am_row h 322 (upd (h 322) 0 (nI 0))) = (am_row (am_row h 322 (upd (h 322) 0 (nI 0))) 323 (rf_cp (h 323) (h 324) 0 0 0)) from (by rw [rf_cp_0]; exact (am_hA (by decide)).symm)) ?_
    exact L16 1580 0 (by omega) 
  · skip
    refine am_iconstN (pc := 12) (k := 0) C dX12_back_12 ?_
    have E9 : rf_back (h 322) (h 323) (h 324) = (false, upd (h 322) 0 (nI 0), h 323) := (by rw [rf_back, if_pos q9])
    exact am_iretb T dX12_back_13 rfl (Nat.le_refl _) (Nat.le_refl _) (by rw [E9] <;> rfl) rfl (by rw [E9] <;> exact (show (am_row h 322 (upd (h 322) 0 (nI 0))) = (am_row (am_row h 322 (upd (h 322) 0 (nI 0))) 323 (h 323)) from (am_hA (f := h) (i := 322) (j := 323) (by decide)).symm))

set_option maxHeartbeats 400000 in
set_option maxRecDepth 100000 in
theorem c_X12_undo {ad : Nat → Nat} {r : am_R} (hR : am_rs r) {h : am_H}  (hR7 : rf_n ((h 322) 7) 13)  : am_CM mX12_undo 0 0 0 [.ref 322] (am_VV ad) r h (am_po (some (.int (am_b ((rf_undo (h 322) (h 323) (h 327)).1)))) r (am_row (am_row h 322 ((rf_undo (h 322) (h 323) (h 327)).2.1)) 323 ((rf_undo (h 322) (h 323) (h 327)).2.2))) := by
  refine am_CM.of (by decide +kernel) (Nat.le_of_ble_eq_true rfl) (fun X C T => ?_)
  show am_G X (am_VV ad) (0, 0) 0 [(0, .ref 322)] [] r h
  have hr13 : rf_rmd (h 322) < 13 := hR7.2
  refine am_aload_n (pc := 0) C dX12_undo_0 rfl ?_
  refine am_iconstN (pc := 1) (k := 0) C dX12_undo_1 ?_
  refine am_putI (pc := 2) C dX12_undo_2 f12_3 bn_322 sh_322 rfl rfl ?_
  refine am_hp (show am_up h 322 0 (nI 0) = am_row h 322 (upd (h 322) 0 (nI 0)) from am_up_rw _ _ _ _) ?_
  refine am_aload_n (pc := 5) C dX12_undo_5 rfl ?_
  refine am_getI (pc := 6) C dX12_undo_6 f12_60 bn_322 sh_322 ?_
  refine am_top (show ((upd (h 322) 0 (nI 0)) 7) = (nI (rf_rmd (h 322))) from ((rf_upd_ne (by decide)).trans hR7.1)) ?_
  refine am_if_neN (pc := 9) (tgt := 14) C dX12_undo_9 (by decide) (by omega) (fun q9 => ?_) (fun q9 => ?_)
  · skip
    refine am_aload_n (pc := 14) C dX12_undo_14 rfl ?_
    refine am_dup (pc := 15) C dX12_undo_15 rfl ?_
    refine am_getI (pc := 16) C dX12_undo_16 f12_60 bn_322 sh_322 ?_
    refine am_top (show ((upd (h 322) 0 (nI 0)) 7) = (nI (rf_rmd (h 322))) from ((rf_upd_ne (by decide)).trans hR7.1)) ?_
    refine am_iconstN (pc := 19) (k := 1) C dX12_undo_19 ?_
    refine am_isubN (pc := 20) C dX12_undo_20 (by omega) ?_
    refine am_putI (pc := 21) C dX12_undo_21 f12_60 bn_322 sh_322 rfl rfl ?_
    refine am_hp (show am_up (am_row h 322 (upd (h 322) 0 (nI 0))) 322 7 (nI ((rf_rmd (h 322)) - 1)) = am_row (am_row h 322 (upd (h 322) 0 (nI 0))) 322 (upd (upd (h 322) 0 (nI 0)) 7 (nI ((rf_rmd (h 322)) - 1))) from am_up_rw _ _ _ _) ?_
    refine am_hp (show am_row (am_row h 322 (upd (h 322) 0 (nI 0))) 322 (upd (upd (h 322) 0 (nI 0)) 7 (nI ((rf_rmd (h 322)) - 1))) = (am_row h 322 (upd (upd (h 322) 0 (nI 0)) 7 (nI ((rf_rmd (h 322)) - 1)))) from am_row_s0) ?_
    refine am_iconstN (pc := 24) (k := 0) C dX12_undo_24 ?_
    refine am_istore_n (pc := 25) (ls' := [(0, .ref 322), (1, .int (nI 0))]) C dX12_undo_25 (by decide) rfl ?_
    have L26 : ∀ (j26 i26 : Nat), i26 + j26 = 731 → am_G X (am_VV ad) (0, 0) 26 [(0, .ref 322), (1, .int (nI i26))] [] r (am_row (am_row h 322 (upd (upd (h 322) 0 (nI 0)) 7 (nI ((rf_rmd (h 322)) - 1)))) 323 (rf_cp (h 323) (h 327) 0 (731 * ((rf_rmd (h 322)) - 1)) i26)) := by
      intro j26
      induction j26 with
      | zero =>
        intro i26 hi26 
        obtain rfl : i26 = 731 := by omega
        refine am_iload_n (pc := 26) C dX12_undo_26 rfl ?_
        refine am_sipush (pc := 27) (v := nI 731) C dX12_undo_27 (by decide) ?_
        refine am_icmp_geN (pc := 30) (tgt := 60) C dX12_undo_30 (by decide) (by omega) (by omega) (fun q30 => ?_) (fun q30 => ?_)
        · skip
          refine am_iconstN (pc := 60) (k := 1) C dX12_undo_60 ?_
          have E9 : rf_undo (h 322) (h 323) (h 327) = (true, upd (upd (h 322) 0 (nI 0)) 7 (nI ((rf_rmd (h 322)) - 1)), rf_cp (h 323) (h 327) 0 (731 * ((rf_rmd (h 322)) - 1)) 731) := (by rw [rf_undo, if_neg (by omega)])
          exact am_iretb T dX12_undo_61 rfl (Nat.le_refl _) (Nat.le_refl _) (by rw [E9] <;> rfl) rfl (by rw [E9] <;> exact rfl)
        · skip
          exact absurd q30 (by omega)
      | succ j26 ih26 =>
        intro i26 hi26 
        have hl26 : i26 < 731 := by omega
        refine am_iload_n (pc := 26) C dX12_undo_26 rfl ?_
        refine am_sipush (pc := 27) (v := nI 731) C dX12_undo_27 (by decide) ?_
        refine am_icmp_geN (pc := 30) (tgt := 60) C dX12_undo_30 (by decide) (by omega) (by omega) (fun q30 => ?_) (fun q30 => ?_)
        · skip
          exact absurd q30 (by omega)
        · skip
          refine am_aload_n (pc := 33) C dX12_undo_33 rfl ?_
          refine am_getR (pc := 34) (j := 323) C dX12_undo_34 f12_13 bn_322 sh_322 (rf_322_1 hR) ?_
          refine am_iload_n (pc := 37) C dX12_undo_37 rfl ?_
          refine am_aload_n (pc := 38) C dX12_undo_38 rfl ?_
          refine am_getR (pc := 39) (j := 327) C dX12_undo_39 f12_26 bn_322 sh_322 (rf_322_5 hR) ?_
          refine am_sipush (pc := 42) (v := nI 731) C dX12_undo_42 (by decide) ?_
          refine am_aload_n (pc := 45) C dX12_undo_45 rfl ?_
          refine am_getI (pc := 46) C dX12_undo_46 f12_60 bn_322 sh_322 ?_
          refine am_top (show ((upd (upd (h 322) 0 (nI 0)) 7 (nI ((rf_rmd (h 322)) - 1))) 7) = (nI (rf_rmd (h 322) - 1)) from rf_upd_eq) ?_
          refine am_imulN (pc := 49) C dX12_undo_49 ?_
          refine am_iload_n (pc := 50) C dX12_undo_50 rfl ?_
          refine am_iaddN (pc := 51) C dX12_undo_51 ?_
          refine am_iaload (pc := 52) C dX12_undo_52 bn_327 sh_327 (vp_in_nI (by omega) (by decide)) ?_
          refine am_top (show (h 327) (nI ((731 * (rf_rmd (h 322) - 1)) + i26)).toNatClampNeg = (h 327) ((731 * (rf_rmd (h 322) - 1)) + i26) from by rw [nI_clamp (by omega)]) ?_
          refine am_iastore (pc := 53) C dX12_undo_53 bn_323 sh_323 (vp_in_nI (by omega) (by decide)) ?_
          refine am_hp (show am_up (am_row (am_row h 322 (upd (upd (h 322) 0 (nI 0)) 7 (nI ((rf_rmd (h 322)) - 1)))) 323 (rf_cp (h 323) (h 327) 0 (731 * ((rf_rmd (h 322)) - 1)) i26)) 323 (nI i26).toNatClampNeg ((h 327) ((731 * (rf_rmd (h 322) - 1)) + i26)) = am_row (am_row (am_row h 322 (upd (upd (h 322) 0 (nI 0)) 7 (nI ((rf_rmd (h 322)) - 1)))) 323 (rf_cp (h 323) (h 327) 0 (731 * ((rf_rmd (h 322)) - 1)) i26)) 323 (upd (rf_cp (h 323) (h 327) 0 (731 * ((rf_rmd (h 322)) - 1)) i26) i26 ((h 327) ((731 * (rf_rmd (h 322) - 1)) + i26))) from by rw [nI_clamp (by omega)]; exact am_up_rw _ _ _ _) ?_
          refine am_hp (show am_row (am_row (am_row h 322 (upd (upd (h 322) 0 (nI 0)) 7 (nI ((rf_rmd (h 322)) - 1)))) 323 (rf_cp (h 323) (h 327) 0 (731 * ((rf_rmd (h 322)) - 1)) i26)) 323 (upd (rf_cp (h 323) (h 327) 0 (731 * ((rf_rmd (h 322)) - 1)) i26) i26 ((h 327) ((731 * (rf_rmd (h 322) - 1)) + i26))) = (am_row (am_row h 322 (upd (upd (h 322) 0 (nI 0)) 7 (nI ((rf_rmd (h 322)) - 1)))) 323 (upd (rf_cp (h 323) (h 327) 0 (731 * ((rf_rmd (h 322)) - 1)) i26) i26 ((h 327) ((731 * (rf_rmd (h 322) - 1)) + i26)))) from am_row_s0) ?_
          refine am_iincN (pc := 54) (ls' := [(0, .ref 322), (1, .int (nI (i26 + 1)))]) C dX12_undo_54 rfl (am_up1 _) (by decide) rfl ?_
          refine am_goto (pc := 57) (tgt := 26) C dX12_undo_57 (by decide) ?_
          refine am_hp (show (am_row (am_row h 322 (upd (upd (h 322) 0 (nI 0)) 7 (nI ((rf_rmd (h 322)) - 1)))) 323 (upd (rf_cp (h 323) (h 327) 0 (731 * ((rf_rmd (h 322)) - 1)) i26) i26 ((h 327) ((731 * (rf_rmd (h 322) - 1)) + i26)))) = (am_row (am_row h 322 (upd (upd (h 322) 0 (nI 0)) 7 (nI ((rf_rmd (h 322)) - 1)))) 323 (rf_cp (h 323) (h 327) 0 (731 * ((rf_rmd (h 322)) - 1)) (i26 + 1))) from congrArg (am_row _ 323) (rf_cp_s (by omega) (by first | rfl | rw [Nat.zero_add]) rfl)) ?_
          exact ih26 (i26 + 1) (by omega) 
    refine am_hp (show (am_row h 322 (upd (upd (h 322) 0 (nI 0)) 7 (nI ((rf_rmd (h 322)) - 1)))) = (am_row (am_row h 322 (upd (upd (h 322) 0 (nI 0)) 7 (nI ((rf_rmd (h 322)) - 1)))) 323 (rf_cp (h 323) (h 327) 0 (731 * ((rf_rmd (h 322)) - 1)) 0)) from (by rw [rf_cp_0]; exact (am_hA (by decide)).symm)) ?_
    exact L26 731 0 (by omega) 
  · skip
    refine am_iconstN (pc := 12) (k := 0) C dX12_undo_12 ?_
    have E9 : rf_undo (h 322) (h 323) (h 327) = (false, upd (h 322) 0 (nI 0), h 323) := (by rw [rf_undo, if_pos q9])
    exact am_iretb T dX12_undo_13 rfl (Nat.le_refl _) (Nat.le_refl _) (by rw [E9] <;> rfl) rfl (by rw [E9] <;> exact (show (am_row h 322 (upd (h 322) 0 (nI 0))) = (am_row (am_row h 322 (upd (h 322) 0 (nI 0))) 323 (h 323)) from (am_hA (f := h) (i := 322) (j := 323) (by decide)).symm))

set_option maxHeartbeats 400000 in
set_option maxRecDepth 100000 in
theorem c_X12_remembers {ad : Nat → Nat} {r : am_R} (hR : am_rs r) {h : am_H}  (hR7 : rf_n ((h 322) 7) 13)  : am_CM mX12_remembers 0 0 0 [.ref 322] (am_VV ad) r h (am_po none r (am_row (am_row h 322 (rf_remO (h 322))) 327 (rf_remA (h 322) (h 323) (h 327)))) := by
  refine am_CM.of (by decide +kernel) (Nat.le_of_ble_eq_true rfl) (fun X C T => ?_)
  show am_G X (am_VV ad) (0, 0) 0 [(0, .ref 322)] [] r h
  have hr13 : rf_rmd (h 322) < 13 := hR7.2
  refine am_aload_n (pc := 0) C dX12_remembers_0 rfl ?_
  refine am_getI (pc := 1) C dX12_remembers_1 f12_60 bn_322 sh_322 ?_
  refine am_top (show ((h 322) 7) = (nI (rf_rmd (h 322))) from hR7.1) ?_
  refine am_bipush (pc := 4) (v := nI 12) C dX12_remembers_4 (by decide) ?_
  refine am_icmp_neN (pc := 6) (tgt := 43) C dX12_remembers_6 (by decide) (by omega) (by omega) (fun q6 => ?_) (fun q6 => ?_)
  · skip
    refine am_aload_n (pc := 43) C dX12_remembers_43 rfl ?_
    refine am_dup (pc := 44) C dX12_remembers_44 rfl ?_
    refine am_getI (pc := 45) C dX12_remembers_45 f12_60 bn_322 sh_322 ?_
    refine am_top (show ((h 322) 7) = (nI (rf_rmd (h 322))) from hR7.1) ?_
    refine am_iconstN (pc := 48) (k := 1) C dX12_remembers_48 ?_
    refine am_iaddN (pc := 49) C dX12_remembers_49 ?_
    refine am_putI (pc := 50) C dX12_remembers_50 f12_60 bn_322 sh_322 rfl rfl ?_
    refine am_hp (show am_up h 322 7 (nI ((rf_rmd (h 322)) + 1)) = am_row h 322 (upd (h 322) 7 (nI ((rf_rmd (h 322)) + 1))) from am_up_rw _ _ _ _) ?_
    refine am_iconstN (pc := 53) (k := 0) C dX12_remembers_53 ?_
    refine am_istore_n (pc := 54) (ls' := [(0, .ref 322), (1, .int (nI 0))]) C dX12_remembers_54 (by decide) rfl ?_
    have L55 : ∀ (j55 i55 : Nat), i55 + j55 = 731 → am_G X (am_VV ad) (0, 0) 55 [(0, .ref 322), (1, .int (nI i55))] [] r (am_row (am_row h 322 (upd (h 322) 7 (nI ((rf_rmd (h 322)) + 1)))) 327 (rf_cp (h 327) (h 323) (731 * (rf_rmd (h 322))) 0 i55)) := by
      intro j55
      induction j55 with
      | zero =>
        intro i55 hi55 
        obtain rfl : i55 = 731 := by omega
        refine am_iload_n (pc := 55) C dX12_remembers_55 rfl ?_
        refine am_sipush (pc := 56) (v := nI 731) C dX12_remembers_56 (by decide) ?_
        refine am_icmp_geN (pc := 59) (tgt := 91) C dX12_remembers_59 (by decide) (by omega) (by omega) (fun q59 => ?_) (fun q59 => ?_)
        · skip
          exact am_vretv T dX12_remembers_91 rfl (Nat.le_refl _) (Nat.le_refl _) rfl (by rw [rf_remO, rf_remA, if_neg q6, if_neg q6])
        · skip
          exact absurd q59 (by omega)
      | succ j55 ih55 =>
        intro i55 hi55 
        have hl55 : i55 < 731 := by omega
        refine am_iload_n (pc := 55) C dX12_remembers_55 rfl ?_
        refine am_sipush (pc := 56) (v := nI 731) C dX12_remembers_56 (by decide) ?_
        refine am_icmp_geN (pc := 59) (tgt := 91) C dX12_remembers_59 (by decide) (by omega) (by omega) (fun q59 => ?_) (fun q59 => ?_)
        · skip
          exact absurd q59 (by omega)
        · skip
          refine am_aload_n (pc := 62) C dX12_remembers_62 rfl ?_
          refine am_getR (pc := 63) (j := 327) C dX12_remembers_63 f12_26 bn_322 sh_322 (rf_322_5 hR) ?_
          refine am_sipush (pc := 66) (v := nI 731) C dX12_remembers_66 (by decide) ?_
          refine am_aload_n (pc := 69) C dX12_remembers_69 rfl ?_
          refine am_getI (pc := 70) C dX12_remembers_70 f12_60 bn_322 sh_322 ?_
          refine am_top (show ((upd (h 322) 7 (nI ((rf_rmd (h 322)) + 1))) 7) = (nI (rf_rmd (h 322) + 1)) from rf_upd_eq) ?_
          refine am_iconstN (pc := 73) (k := 1) C dX12_remembers_73 ?_
          refine am_isubN (pc := 74) C dX12_remembers_74 (by omega) ?_
          refine am_imulN (pc := 75) C dX12_remembers_75 ?_
          refine am_iload_n (pc := 76) C dX12_remembers_76 rfl ?_
          refine am_iaddN (pc := 77) C dX12_remembers_77 ?_
          refine am_aload_n (pc := 78) C dX12_remembers_78 rfl ?_
          refine am_getR (pc := 79) (j := 323) C dX12_remembers_79 f12_13 bn_322 sh_322 (rf_322_1 hR) ?_
          refine am_iload_n (pc := 82) C dX12_remembers_82 rfl ?_
          refine am_iaload (pc := 83) C dX12_remembers_83 bn_323 sh_323 (vp_in_nI (by omega) (by decide)) ?_
          refine am_top (show (h 323) (nI i55).toNatClampNeg = (h 323) i55 from by rw [nI_clamp (by omega)]) ?_
          refine am_iastore (pc := 84) C dX12_remembers_84 bn_327 sh_327 (vp_in_nI (by omega) (by decide)) ?_
          refine am_hp (show am_up (am_row (am_row h 322 (upd (h 322) 7 (nI ((rf_rmd (h 322)) + 1)))) 327 (rf_cp (h 327) (h 323) (731 * (rf_rmd (h 322))) 0 i55)) 327 (nI ((731 * ((rf_rmd (h 322) + 1) - 1)) + i55)).toNatClampNeg ((h 323) i55) = am_row (am_row (am_row h 322 (upd (h 322) 7 (nI ((rf_rmd (h 322)) + 1)))) 327 (rf_cp (h 327) (h 323) (731 * (rf_rmd (h 322))) 0 i55)) 327 (upd (rf_cp (h 327) (h 323) (731 * (rf_rmd (h 322))) 0 i55) ((731 * ((rf_rmd (h 322) + 1) - 1)) + i55) ((h 323) i55)) from by rw [nI_clamp (by omega)]; exact am_up_rw _ _ _ _) ?_
          refine am_hp (show am_row (am_row (am_row h 322 (upd (h 322) 7 (nI ((rf_rmd (h 322)) + 1)))) 327 (rf_cp (h 327) (h 323) (731 * (rf_rmd (h 322))) 0 i55)) 327 (upd (rf_cp (h 327) (h 323) (731 * (rf_rmd (h 322))) 0 i55) ((731 * ((rf_rmd (h 322) + 1) - 1)) + i55) ((h 323) i55)) = (am_row (am_row h 322 (upd (h 322) 7 (nI ((rf_rmd (h 322)) + 1)))) 327 (upd (rf_cp (h 327) (h 323) (731 * (rf_rmd (h 322))) 0 i55) ((731 * ((rf_rmd (h 322) + 1) - 1)) + i55) ((h 323) i55))) from am_row_s0) ?_
          refine am_iincN (pc := 85) (ls' := [(0, .ref 322), (1, .int (nI (i55 + 1)))]) C dX12_remembers_85 rfl (am_up1 _) (by decide) rfl ?_
          refine am_goto (pc := 88) (tgt := 55) C dX12_remembers_88 (by decide) ?_
          refine am_hp (show (am_row (am_row h 322 (upd (h 322) 7 (nI ((rf_rmd (h 322)) + 1)))) 327 (upd (rf_cp (h 327) (h 323) (731 * (rf_rmd (h 322))) 0 i55) ((731 * ((rf_rmd (h 322) + 1) - 1)) + i55) ((h 323) i55))) = (am_row (am_row h 322 (upd (h 322) 7 (nI ((rf_rmd (h 322)) + 1)))) 327 (rf_cp (h 327) (h 323) (731 * (rf_rmd (h 322))) 0 (i55 + 1))) from congrArg (am_row _ 327) (rf_cp_s (by omega) (by rw [Nat.zero_add]) rfl)) ?_
          exact ih55 (i55 + 1) (by omega) 
    refine am_hp (show (am_row h 322 (upd (h 322) 7 (nI ((rf_rmd (h 322)) + 1)))) = (am_row (am_row h 322 (upd (h 322) 7 (nI ((rf_rmd (h 322)) + 1)))) 327 (rf_cp (h 327) (h 323) (731 * (rf_rmd (h 322))) 0 0)) from (by rw [rf_cp_0]; exact (am_hA (by decide)).symm)) ?_
    exact L55 731 0 (by omega) 
  · skip
    refine am_iconstN (pc := 9) (k := 0) C dX12_remembers_9 ?_
    refine am_istore_n (pc := 10) (ls' := [(0, .ref 322), (1, .int (nI 0))]) C dX12_remembers_10 (by decide) rfl ?_
    have L11 : ∀ (j11 i11 : Nat), i11 + j11 = 8041 → am_G X (am_VV ad) (0, 0) 11 [(0, .ref 322), (1, .int (nI i11))] [] r (am_row h 327 (rf_cp (h 327) (h 327) 0 731 i11)) := by
      intro j11
      induction j11 with
      | zero =>
        intro i11 hi11 
        obtain rfl : i11 = 8041 := by omega
        refine am_iload_n (pc := 11) C dX12_remembers_11 rfl ?_
        refine am_sipush (pc := 12) (v := nI 8041) C dX12_remembers_12 (by decide) ?_
        refine am_icmp_geN (pc := 15) (tgt := 40) C dX12_remembers_15 (by decide) (by omega) (by omega) (fun q15 => ?_) (fun q15 => ?_)
        · skip
          refine am_goto (pc := 40) (tgt := 53) C dX12_remembers_40 (by decide) ?_
          refine am_iconstN (pc := 53) (k := 0) C dX12_remembers_53 ?_
          refine am_istore_n (pc := 54) (ls' := [(0, .ref 322), (1, .int (nI 0))]) C dX12_remembers_54 (by decide) rfl ?_
          have L55 : ∀ (j55 i55 : Nat), i55 + j55 = 731 → am_G X (am_VV ad) (0, 0) 55 [(0, .ref 322), (1, .int (nI i55))] [] r (am_row h 327 (rf_cp (rf_cp (h 327) (h 327) 0 731 8041) (h 323) 8041 0 i55)) := by
            intro j55
            induction j55 with
            | zero =>
              intro i55 hi55 
              obtain rfl : i55 = 731 := by omega
              refine am_iload_n (pc := 55) C dX12_remembers_55 rfl ?_
              refine am_sipush (pc := 56) (v := nI 731) C dX12_remembers_56 (by decide) ?_
              refine am_icmp_geN (pc := 59) (tgt := 91) C dX12_remembers_59 (by decide) (by omega) (by omega) (fun q59 => ?_) (fun q59 => ?_)
              · skip
                exact am_vretv T dX12_remembers_91 rfl (Nat.le_refl _) (Nat.le_refl _) rfl (by rw [rf_remO, rf_remA, if_pos q6, if_pos q6, am_row_id])
              · skip
                exact absurd q59 (by omega)
            | succ j55 ih55 =>
              intro i55 hi55 
              have hl55 : i55 < 731 := by omega
              refine am_iload_n (pc := 55) C dX12_remembers_55 rfl ?_
              refine am_sipush (pc := 56) (v := nI 731) C dX12_remembers_56 (by decide) ?_
              refine am_icmp_geN (pc := 59) (tgt := 91) C dX12_remembers_59 (by decide) (by omega) (by omega) (fun q59 => ?_) (fun q59 => ?_)
              · skip
                exact absurd q59 (by omega)
              · skip
                refine am_aload_n (pc := 62) C dX12_remembers_62 rfl ?_
                refine am_getR (pc := 63) (j := 327) C dX12_remembers_63 f12_26 bn_322 sh_322 (rf_322_5 hR) ?_
                refine am_sipush (pc := 66) (v := nI 731) C dX12_remembers_66 (by decide) ?_
                refine am_aload_n (pc := 69) C dX12_remembers_69 rfl ?_
                refine am_getI (pc := 70) C dX12_remembers_70 f12_60 bn_322 sh_322 ?_
                refine am_top (show ((h 322) 7) = (nI 12) from (hR7.1.trans (congrArg nI q6))) ?_
                refine am_iconstN (pc := 73) (k := 1) C dX12_remembers_73 ?_
                refine am_isubN (pc := 74) C dX12_remembers_74 (by omega) ?_
                refine am_imulN (pc := 75) C dX12_remembers_75 ?_
                refine am_iload_n (pc := 76) C dX12_remembers_76 rfl ?_
                refine am_iaddN (pc := 77) C dX12_remembers_77 ?_
                refine am_aload_n (pc := 78) C dX12_remembers_78 rfl ?_
                refine am_getR (pc := 79) (j := 323) C dX12_remembers_79 f12_13 bn_322 sh_322 (rf_322_1 hR) ?_
                refine am_iload_n (pc := 82) C dX12_remembers_82 rfl ?_
                refine am_iaload (pc := 83) C dX12_remembers_83 bn_323 sh_323 (vp_in_nI (by omega) (by decide)) ?_
                refine am_top (show (h 323) (nI i55).toNatClampNeg = (h 323) i55 from by rw [nI_clamp (by omega)]) ?_
                refine am_iastore (pc := 84) C dX12_remembers_84 bn_327 sh_327 (vp_in_nI (by omega) (by decide)) ?_
                refine am_hp (show am_up (am_row h 327 (rf_cp (rf_cp (h 327) (h 327) 0 731 8041) (h 323) 8041 0 i55)) 327 (nI ((731 * (12 - 1)) + i55)).toNatClampNeg ((h 323) i55) = am_row (am_row h 327 (rf_cp (rf_cp (h 327) (h 327) 0 731 8041) (h 323) 8041 0 i55)) 327 (upd (rf_cp (rf_cp (h 327) (h 327) 0 731 8041) (h 323) 8041 0 i55) ((731 * (12 - 1)) + i55) ((h 323) i55)) from by rw [nI_clamp (by omega)]; exact am_up_rw _ _ _ _) ?_
                refine am_hp (show am_row (am_row h 327 (rf_cp (rf_cp (h 327) (h 327) 0 731 8041) (h 323) 8041 0 i55)) 327 (upd (rf_cp (rf_cp (h 327) (h 327) 0 731 8041) (h 323) 8041 0 i55) ((731 * (12 - 1)) + i55) ((h 323) i55)) = (am_row h 327 (upd (rf_cp (rf_cp (h 327) (h 327) 0 731 8041) (h 323) 8041 0 i55) ((731 * (12 - 1)) + i55) ((h 323) i55))) from am_row_s0) ?_
                refine am_iincN (pc := 85) (ls' := [(0, .ref 322), (1, .int (nI (i55 + 1)))]) C dX12_remembers_85 rfl (am_up1 _) (by decide) rfl ?_
                refine am_goto (pc := 88) (tgt := 55) C dX12_remembers_88 (by decide) ?_
                refine am_hp (show (am_row h 327 (upd (rf_cp (rf_cp (h 327) (h 327) 0 731 8041) (h 323) 8041 0 i55) ((731 * (12 - 1)) + i55) ((h 323) i55))) = (am_row h 327 (rf_cp (rf_cp (h 327) (h 327) 0 731 8041) (h 323) 8041 0 (i55 + 1))) from congrArg (am_row _ 327) (rf_cp_s (by omega) (by rw [Nat.zero_add]) rfl)) ?_
                exact ih55 (i55 + 1) (by omega) 
          refine am_hp (show (am_row h 327 (rf_cp (h 327) (h 327) 0 731 8041)) = (am_row h 327 (rf_cp (rf_cp (h 327) (h 327) 0 731 8041) (h 323) 8041 0 0)) from (by rw [rf_cp_0])) ?_
          exact L55 731 0 (by omega) 
        · skip
          exact absurd q15 (by omega)
      | succ j11 ih11 =>
        intro i11 hi11 
        have hl11 : i11 < 8041 := by omega
        refine am_iload_n (pc := 11) C dX12_remembers_11 rfl ?_
        refine am_sipush (pc := 12) (v := nI 8041) C dX12_remembers_12 (by decide) ?_
        refine am_icmp_geN (pc := 15) (tgt := 40) C dX12_remembers_15 (by decide) (by omega) (by omega) (fun q15 => ?_) (fun q15 => ?_)
        · skip
          exact absurd q15 (by omega)
        · skip
          refine am_aload_n (pc := 18) C dX12_remembers_18 rfl ?_
          refine am_getR (pc := 19) (j := 327) C dX12_remembers_19 f12_26 bn_322 sh_322 (rf_322_5 hR) ?_
          refine am_iload_n (pc := 22) C dX12_remembers_22 rfl ?_
          refine am_aload_n (pc := 23) C dX12_remembers_23 rfl ?_
          refine am_getR (pc := 24) (j := 327) C dX12_remembers_24 f12_26 bn_322 sh_322 (rf_322_5 hR) ?_
          refine am_iload_n (pc := 27) C dX12_remembers_27 rfl ?_
          refine am_sipush (pc := 28) (v := nI 731) C dX12_remembers_28 (by decide) ?_
          refine am_iaddN (pc := 31) C dX12_remembers_31 ?_
          refine am_iaload (pc := 32) C dX12_remembers_32 bn_327 sh_327 (vp_in_nI (by omega) (by decide)) ?_
          refine am_top (show (rf_cp (h 327) (h 327) 0 731 i11) (nI (i11 + 731)).toNatClampNeg = (rf_cp (h 327) (h 327) 0 731 i11) (i11 + 731) from by rw [nI_clamp (by omega)]) ?_
          refine am_iastore (pc := 33) C dX12_remembers_33 bn_327 sh_327 (vp_in_nI (by omega) (by decide)) ?_
          refine am_hp (show am_up (am_row h 327 (rf_cp (h 327) (h 327) 0 731 i11)) 327 (nI i11).toNatClampNeg ((rf_cp (h 327) (h 327) 0 731 i11) (i11 + 731)) = am_row (am_row h 327 (rf_cp (h 327) (h 327) 0 731 i11)) 327 (upd (rf_cp (h 327) (h 327) 0 731 i11) i11 ((rf_cp (h 327) (h 327) 0 731 i11) (i11 + 731))) from by rw [nI_clamp (by omega)]; exact am_up_rw _ _ _ _) ?_
          refine am_hp (show am_row (am_row h 327 (rf_cp (h 327) (h 327) 0 731 i11)) 327 (upd (rf_cp (h 327) (h 327) 0 731 i11) i11 ((rf_cp (h 327) (h 327) 0 731 i11) (i11 + 731))) = (am_row h 327 (upd (rf_cp (h 327) (h 327) 0 731 i11) i11 ((rf_cp (h 327) (h 327) 0 731 i11) (i11 + 731)))) from am_row_s0) ?_
          refine am_iincN (pc := 34) (ls' := [(0, .ref 322), (1, .int (nI (i11 + 1)))]) C dX12_remembers_34 rfl (am_up1 _) (by decide) rfl ?_
          refine am_goto (pc := 37) (tgt := 11) C dX12_remembers_37 (by decide) ?_
          refine am_hp (show (am_row h 327 (upd (rf_cp (h 327) (h 327) 0 731 i11) i11 ((rf_cp (h 327) (h 327) 0 731 i11) (i11 + 731)))) = (am_row h 327 (rf_cp (h 327) (h 327) 0 731 (i11 + 1))) from congrArg (am_row _ 327) (rf_cp_s (by omega) (by rw [rf_cp_out (by omega)]; congr 1; omega) rfl)) ?_
          exact ih11 (i11 + 1) (by omega) 
    refine am_hp (show h = (am_row h 327 (rf_cp (h 327) (h 327) 0 731 0)) from (by rw [rf_cp_0]; exact (am_row_id _ _).symm)) ?_
    exact L11 8041 0 (by omega) 

set_option maxHeartbeats 400000 in
set_option maxRecDepth 100000 in
theorem c_X12_keepsAll {ad : Nat → Nat} {r : am_R} (hR : am_rs r) {h : am_H}    : am_CM mX12_keepsAll 0 0 0 [.ref 322] (am_VV ad) r h (am_po none r (am_row h 326 (rf_cp (h 326) (h 323) 0 0 731))) := by
  refine am_CM.of (by decide +kernel) (Nat.le_of_ble_eq_true rfl) (fun X C T => ?_)
  show am_G X (am_VV ad) (0, 0) 0 [(0, .ref 322)] [] r h
  refine am_iconstN (pc := 0) (k := 0) C dX12_keepsAll_0 ?_
  refine am_istore_n (pc := 1) (ls' := [(0, .ref 322), (1, .int (nI 0))]) C dX12_keepsAll_1 (by decide) rfl ?_
  have L2 : ∀ (j2 i2 : Nat), i2 + j2 = 731 → am_G X (am_VV ad) (0, 0) 2 [(0, .ref 322), (1, .int (nI i2))] [] r (am_row h 326 (rf_cp (h 326) (h 323) 0 0 i2)) := by
    intro j2
    induction j2 with
    | zero =>
      intro i2 hi2 
      obtain rfl : i2 = 731 := by omega
      refine am_iload_n (pc := 2) C dX12_keepsAll_2 rfl ?_
      refine am_sipush (pc := 3) (v := nI 731) C dX12_keepsAll_3 (by decide) ?_
      refine am_icmp_geN (pc := 6) (tgt := 27) C dX12_keepsAll_6 (by decide) (by omega) (by omega) (fun q6 => ?_) (fun q6 => ?_)
      · skip
        exact am_vretv T dX12_keepsAll_27 rfl (Nat.le_refl _) (Nat.le_refl _) rfl rfl
      · skip
        exact absurd q6 (by omega)
    | succ j2 ih2 =>
      intro i2 hi2 
      have hl2 : i2 < 731 := by omega
      refine am_iload_n (pc := 2) C dX12_keepsAll_2 rfl ?_
      refine am_sipush (pc := 3) (v := nI 731) C dX12_keepsAll_3 (by decide) ?_
      refine am_icmp_geN (pc := 6) (tgt := 27) C dX12_keepsAll_6 (by decide) (by omega) (by omega) (fun q6 => ?_) (fun q6 => ?_)
      · skip
        exact absurd q6 (by omega)
      · skip
        refine am_aload_n (pc := 9) C dX12_keepsAll_9 rfl ?_
        refine am_getR (pc := 10) (j := 326) C dX12_keepsAll_10 f12_23 bn_322 sh_322 (rf_322_4 hR) ?_
        refine am_iload_n (pc := 13) C dX12_keepsAll_13 rfl ?_
        refine am_aload_n (pc := 14) C dX12_keepsAll_14 rfl ?_
        refine am_getR (pc := 15) (j := 323) C dX12_keepsAll_15 f12_13 bn_322 sh_322 (rf_322_1 hR) ?_
        refine am_iload_n (pc := 18) C dX12_keepsAll_18 rfl ?_
        refine am_iaload (pc := 19) C dX12_keepsAll_19 bn_323 sh_323 (vp_in_nI (by omega) (by decide)) ?_
        refine am_top (show (h 323) (nI i2).toNatClampNeg = (h 323) i2 from by rw [nI_clamp (by omega)]) ?_
        refine am_iastore (pc := 20) C dX12_keepsAll_20 bn_326 sh_326 (vp_in_nI (by omega) (by decide)) ?_
        refine am_hp (show am_up (am_row h 326 (rf_cp (h 326) (h 323) 0 0 i2)) 326 (nI i2).toNatClampNeg ((h 323) i2) = am_row (am_row h 326 (rf_cp (h 326) (h 323) 0 0 i2)) 326 (upd (rf_cp (h 326) (h 323) 0 0 i2) i2 ((h 323) i2)) from by rw [nI_clamp (by omega)]; exact am_up_rw _ _ _ _) ?_
        refine am_hp (show am_row (am_row h 326 (rf_cp (h 326) (h 323) 0 0 i2)) 326 (upd (rf_cp (h 326) (h 323) 0 0 i2) i2 ((h 323) i2)) = (am_row h 326 (upd (rf_cp (h 326) (h 323) 0 0 i2) i2 ((h 323) i2))) from am_row_s0) ?_
        refine am_iincN (pc := 21) (ls' := [(0, .ref 322), (1, .int (nI (i2 + 1)))]) C dX12_keepsAll_21 rfl (am_up1 _) (by decide) rfl ?_
        refine am_goto (pc := 24) (tgt := 2) C dX12_keepsAll_24 (by decide) ?_
        refine am_hp (show (am_row h 326 (upd (rf_cp (h 326) (h 323) 0 0 i2) i2 ((h 323) i2))) = (am_row h 326 (rf_cp (h 326) (h 323) 0 0 (i2 + 1))) from congrArg (am_row _ 326) (rf_cp_s (by omega) (by first | rfl | rw [Nat.zero_add]) rfl)) ?_
        exact ih2 (i2 + 1) (by omega) 
  refine am_hp (show h = (am_row h 326 (rf_cp (h 326) (h 323) 0 0 0)) from (by rw [rf_cp_0]; exact (am_row_id _ _).symm)) ?_
  exact L2 731 0 (by omega) 

set_option maxHeartbeats 400000 in
set_option maxRecDepth 100000 in
theorem c_X12_bringsBack {ad : Nat → Nat} {r : am_R} (hR : am_rs r) {h : am_H}    : am_CM mX12_bringsBack 0 0 0 [.ref 322] (am_VV ad) r h (am_po none r (am_row h 323 (rf_cp (h 323) (h 326) 0 0 731))) := by
  refine am_CM.of (by decide +kernel) (Nat.le_of_ble_eq_true rfl) (fun X C T => ?_)
  show am_G X (am_VV ad) (0, 0) 0 [(0, .ref 322)] [] r h
  refine am_iconstN (pc := 0) (k := 0) C dX12_bringsBack_0 ?_
  refine am_istore_n (pc := 1) (ls' := [(0, .ref 322), (1, .int (nI 0))]) C dX12_bringsBack_1 (by decide) rfl ?_
  have L2 : ∀ (j2 i2 : Nat), i2 + j2 = 731 → am_G X (am_VV ad) (0, 0) 2 [(0, .ref 322), (1, .int (nI i2))] [] r (am_row h 323 (rf_cp (h 323) (h 326) 0 0 i2)) := by
    intro j2
    induction j2 with
    | zero =>
      intro i2 hi2 
      obtain rfl : i2 = 731 := by omega
      refine am_iload_n (pc := 2) C dX12_bringsBack_2 rfl ?_
      refine am_sipush (pc := 3) (v := nI 731) C dX12_bringsBack_3 (by decide) ?_
      refine am_icmp_geN (pc := 6) (tgt := 27) C dX12_bringsBack_6 (by decide) (by omega) (by omega) (fun q6 => ?_) (fun q6 => ?_)
      · skip
        exact am_vretv T dX12_bringsBack_27 rfl (Nat.le_refl _) (Nat.le_refl _) rfl rfl
      · skip
        exact absurd q6 (by omega)
    | succ j2 ih2 =>
      intro i2 hi2 
      have hl2 : i2 < 731 := by omega
      refine am_iload_n (pc := 2) C dX12_bringsBack_2 rfl ?_
      refine am_sipush (pc := 3) (v := nI 731) C dX12_bringsBack_3 (by decide) ?_
      refine am_icmp_geN (pc := 6) (tgt := 27) C dX12_bringsBack_6 (by decide) (by omega) (by omega) (fun q6 => ?_) (fun q6 => ?_)
      · skip
        exact absurd q6 (by omega)
      · skip
        refine am_aload_n (pc := 9) C dX12_bringsBack_9 rfl ?_
        refine am_getR (pc := 10) (j := 323) C dX12_bringsBack_10 f12_13 bn_322 sh_322 (rf_322_1 hR) ?_
        refine am_iload_n (pc := 13) C dX12_bringsBack_13 rfl ?_
        refine am_aload_n (pc := 14) C dX12_bringsBack_14 rfl ?_
        refine am_getR (pc := 15) (j := 326) C dX12_bringsBack_15 f12_23 bn_322 sh_322 (rf_322_4 hR) ?_
        refine am_iload_n (pc := 18) C dX12_bringsBack_18 rfl ?_
        refine am_iaload (pc := 19) C dX12_bringsBack_19 bn_326 sh_326 (vp_in_nI (by omega) (by decide)) ?_
        refine am_top (show (h 326) (nI i2).toNatClampNeg = (h 326) i2 from by rw [nI_clamp (by omega)]) ?_
        refine am_iastore (pc := 20) C dX12_bringsBack_20 bn_323 sh_323 (vp_in_nI (by omega) (by decide)) ?_
        refine am_hp (show am_up (am_row h 323 (rf_cp (h 323) (h 326) 0 0 i2)) 323 (nI i2).toNatClampNeg ((h 326) i2) = am_row (am_row h 323 (rf_cp (h 323) (h 326) 0 0 i2)) 323 (upd (rf_cp (h 323) (h 326) 0 0 i2) i2 ((h 326) i2)) from by rw [nI_clamp (by omega)]; exact am_up_rw _ _ _ _) ?_
        refine am_hp (show am_row (am_row h 323 (rf_cp (h 323) (h 326) 0 0 i2)) 323 (upd (rf_cp (h 323) (h 326) 0 0 i2) i2 ((h 326) i2)) = (am_row h 323 (upd (rf_cp (h 323) (h 326) 0 0 i2) i2 ((h 326) i2))) from am_row_s0) ?_
        refine am_iincN (pc := 21) (ls' := [(0, .ref 322), (1, .int (nI (i2 + 1)))]) C dX12_bringsBack_21 rfl (am_up1 _) (by decide) rfl ?_
        refine am_goto (pc := 24) (tgt := 2) C dX12_bringsBack_24 (by decide) ?_
        refine am_hp (show (am_row h 323 (upd (rf_cp (h 323) (h 326) 0 0 i2) i2 ((h 326) i2))) = (am_row h 323 (rf_cp (h 323) (h 326) 0 0 (i2 + 1))) from congrArg (am_row _ 323) (rf_cp_s (by omega) (by first | rfl | rw [Nat.zero_add]) rfl)) ?_
        exact ih2 (i2 + 1) (by omega) 
  refine am_hp (show h = (am_row h 323 (rf_cp (h 323) (h 326) 0 0 0)) from (by rw [rf_cp_0]; exact (am_row_id _ _).symm)) ?_
  exact L2 731 0 (by omega) 

set_option maxHeartbeats 400000 in
set_option maxRecDepth 100000 in
theorem c_X12_feed {ad : Nat → Nat} {r : am_R} (hR : am_rs r) {h : am_H} (a : Int32) (b : Int32) (c : Int32) (d : Int32) (e : Int32) (hOb : rf_Ob (h 322))  : am_CM mX12_feed 0 0 0 [.ref 322, .int a, .int b, .int c, .int d, .int e] (am_VV ad) r h (am_po (some (.int ((rf_feed (h 322) (h 328) (h 329) a b c d e).1))) r (am_row (am_row (am_row h 322 ((rf_feed (h 322) (h 328) (h 329) a b c d e).2.1)) 329 ((rf_feed (h 322) (h 328) (h 329) a b c d e).2.2.1)) 328 ((rf_feed (h 322) (h 328) (h 329) a b c d e).2.2.2))) := by
  refine am_CM.of (by decide +kernel) (Nat.le_of_ble_eq_true rfl) (fun X C T => ?_)
  show am_G X (am_VV ad) (0, 0) 0 [(0, .ref 322), (1, .int a), (2, .int b), (3, .int c), (4, .int d), (5, .int e)] [] r h
  have h9n : rf_nat ((h 322) 9) < 401 := hOb.1.2
  refine am_aload_n (pc := 0) C dX12_feed_0 rfl ?_
  refine am_iconstN (pc := 1) (k := 0) C dX12_feed_1 ?_
  refine am_putI (pc := 2) C dX12_feed_2 f12_3 bn_322 sh_322 rfl rfl ?_
  refine am_hp (show am_up h 322 0 (nI 0) = am_row h 322 (upd (h 322) 0 (nI 0)) from am_up_rw _ _ _ _) ?_
  refine am_aload_n (pc := 5) C dX12_feed_5 rfl ?_
  refine am_getI (pc := 6) C dX12_feed_6 f12_96 bn_322 sh_322 ?_
  refine am_top (show ((upd (h 322) 0 (nI 0)) 9) = (nI (rf_nat ((h 322) 9))) from ((rf_upd_ne (by decide)).trans hOb.1.1)) ?_
  refine am_bipush (pc := 9) (v := nI 20) C dX12_feed_9 (by decide) ?_
  refine am_iaddN (pc := 11) C dX12_feed_11 ?_
  refine am_sipush (pc := 12) (v := nI 400) C dX12_feed_12 (by decide) ?_
  refine am_icmp_leN (pc := 15) (tgt := 20) C dX12_feed_15 (by decide) (by omega) (by omega) (fun q15 => ?_) (fun q15 => ?_)
  · skip
    refine am_aload_n (pc := 20) C dX12_feed_20 rfl ?_
    refine am_getR (pc := 21) (j := 329) C dX12_feed_21 f12_36 bn_322 sh_322 (rf_322_15 hR) ?_
    refine am_iconstN (pc := 24) (k := 0) C dX12_feed_24 ?_
    refine am_iload_n (pc := 25) C dX12_feed_25 rfl ?_
    refine am_iastore (pc := 26) C dX12_feed_26 bn_329 sh_329 (vp_in_nI (by omega) (by decide)) ?_
    refine am_hp (show am_up (am_row h 322 (upd (h 322) 0 (nI 0))) 329 (nI 0).toNatClampNeg a = am_row (am_row h 322 (upd (h 322) 0 (nI 0))) 329 (upd (h 329) 0 a) from by rw [nI_clamp (by omega)]; exact am_up_rw _ _ _ _) ?_
    refine am_aload_n (pc := 27) C dX12_feed_27 rfl ?_
    refine am_getR (pc := 28) (j := 329) C dX12_feed_28 f12_36 bn_322 sh_322 (rf_322_15 hR) ?_
    refine am_iconstN (pc := 31) (k := 1) C dX12_feed_31 ?_
    refine am_iload_n (pc := 32) C dX12_feed_32 rfl ?_
    refine am_iastore (pc := 33) C dX12_feed_33 bn_329 sh_329 (vp_in_nI (by omega) (by decide)) ?_
    refine am_hp (show am_up (am_row (am_row h 322 (upd (h 322) 0 (nI 0))) 329 (upd (h 329) 0 a)) 329 (nI 1).toNatClampNeg b = am_row (am_row (am_row h 322 (upd (h 322) 0 (nI 0))) 329 (upd (h 329) 0 a)) 329 (upd (upd (h 329) 0 a) 1 b) from by rw [nI_clamp (by omega)]; exact am_up_rw _ _ _ _) ?_
    refine am_hp (show am_row (am_row (am_row h 322 (upd (h 322) 0 (nI 0))) 329 (upd (h 329) 0 a)) 329 (upd (upd (h 329) 0 a) 1 b) = (am_row (am_row h 322 (upd (h 322) 0 (nI 0))) 329 (upd (upd (h 329) 0 a) 1 b)) from am_row_s0) ?_
    refine am_aload_n (pc := 34) C dX12_feed_34 rfl ?_
    refine am_getR (pc := 35) (j := 329) C dX12_feed_35 f12_36 bn_322 sh_322 (rf_322_15 hR) ?_
    refine am_iconstN (pc := 38) (k := 2) C dX12_feed_38 ?_
    refine am_iload_n (pc := 39) C dX12_feed_39 rfl ?_
    refine am_iastore (pc := 40) C dX12_feed_40 bn_329 sh_329 (vp_in_nI (by omega) (by decide)) ?_
    refine am_hp (show am_up (am_row (am_row h 322 (upd (h 322) 0 (nI 0))) 329 (upd (upd (h 329) 0 a) 1 b)) 329 (nI 2).toNatClampNeg c = am_row (am_row (am_row h 322 (upd (h 322) 0 (nI 0))) 329 (upd (upd (h 329) 0 a) 1 b)) 329 (upd (upd (upd (h 329) 0 a) 1 b) 2 c) from by rw [nI_clamp (by omega)]; exact am_up_rw _ _ _ _) ?_
    refine am_hp (show am_row (am_row (am_row h 322 (upd (h 322) 0 (nI 0))) 329 (upd (upd (h 329) 0 a) 1 b)) 329 (upd (upd (upd (h 329) 0 a) 1 b) 2 c) = (am_row (am_row h 322 (upd (h 322) 0 (nI 0))) 329 (upd (upd (upd (h 329) 0 a) 1 b) 2 c)) from am_row_s0) ?_
    refine am_aload_n (pc := 41) C dX12_feed_41 rfl ?_
    refine am_getR (pc := 42) (j := 329) C dX12_feed_42 f12_36 bn_322 sh_322 (rf_322_15 hR) ?_
    refine am_iconstN (pc := 45) (k := 3) C dX12_feed_45 ?_
    refine am_iload (pc := 46) C dX12_feed_46 rfl ?_
    refine am_iastore (pc := 48) C dX12_feed_48 bn_329 sh_329 (vp_in_nI (by omega) (by decide)) ?_
    refine am_hp (show am_up (am_row (am_row h 322 (upd (h 322) 0 (nI 0))) 329 (upd (upd (upd (h 329) 0 a) 1 b) 2 c)) 329 (nI 3).toNatClampNeg d = am_row (am_row (am_row h 322 (upd (h 322) 0 (nI 0))) 329 (upd (upd (upd (h 329) 0 a) 1 b) 2 c)) 329 (upd (upd (upd (upd (h 329) 0 a) 1 b) 2 c) 3 d) from by rw [nI_clamp (by omega)]; exact am_up_rw _ _ _ _) ?_
    refine am_hp (show am_row (am_row (am_row h 322 (upd (h 322) 0 (nI 0))) 329 (upd (upd (upd (h 329) 0 a) 1 b) 2 c)) 329 (upd (upd (upd (upd (h 329) 0 a) 1 b) 2 c) 3 d) = (am_row (am_row h 322 (upd (h 322) 0 (nI 0))) 329 (upd (upd (upd (upd (h 329) 0 a) 1 b) 2 c) 3 d)) from am_row_s0) ?_
    refine am_aload_n (pc := 49) C dX12_feed_49 rfl ?_
    refine am_getR (pc := 50) (j := 329) C dX12_feed_50 f12_36 bn_322 sh_322 (rf_322_15 hR) ?_
    refine am_iconstN (pc := 53) (k := 4) C dX12_feed_53 ?_
    refine am_iload (pc := 54) C dX12_feed_54 rfl ?_
    refine am_iastore (pc := 56) C dX12_feed_56 bn_329 sh_329 (vp_in_nI (by omega) (by decide)) ?_
    refine am_hp (show am_up (am_row (am_row h 322 (upd (h 322) 0 (nI 0))) 329 (upd (upd (upd (upd (h 329) 0 a) 1 b) 2 c) 3 d)) 329 (nI 4).toNatClampNeg e = am_row (am_row (am_row h 322 (upd (h 322) 0 (nI 0))) 329 (upd (upd (upd (upd (h 329) 0 a) 1 b) 2 c) 3 d)) 329 (upd (upd (upd (upd (upd (h 329) 0 a) 1 b) 2 c) 3 d) 4 e) from by rw [nI_clamp (by omega)]; exact am_up_rw _ _ _ _) ?_
    refine am_hp (show am_row (am_row (am_row h 322 (upd (h 322) 0 (nI 0))) 329 (upd (upd (upd (upd (h 329) 0 a) 1 b) 2 c) 3 d)) 329 (upd (upd (upd (upd (upd (h 329) 0 a) 1 b) 2 c) 3 d) 4 e) = (am_row (am_row h 322 (upd (h 322) 0 (nI 0))) 329 (upd (upd (upd (upd (upd (h 329) 0 a) 1 b) 2 c) 3 d) 4 e)) from am_row_s0) ?_
    refine am_hp (show (am_row (am_row h 322 (upd (h 322) 0 (nI 0))) 329 (upd (upd (upd (upd (upd (h 329) 0 a) 1 b) 2 c) 3 d) 4 e)) = (am_row (am_row h 322 (upd (h 322) 0 (nI 0))) 329 (rf_fv (h 329) a b c d e)) from rfl) ?_
    refine am_iconstN (pc := 57) (k := 0) C dX12_feed_57 ?_
    refine am_istore (pc := 58) (ls' := [(0, .ref 322), (1, .int a), (2, .int b), (3, .int c), (4, .int d), (5, .int e), (6, .int (nI 0))]) C dX12_feed_58 (by decide) rfl ?_
    have L60 : ∀ (j60 i60 : Nat), i60 + j60 = 20 → am_G X (am_VV ad) (0, 0) 60 [(0, .ref 322), (1, .int a), (2, .int b), (3, .int c), (4, .int d), (5, .int e), (6, .int (nI i60))] [] r (am_row (am_row (am_row h 322 (upd (h 322) 0 (nI 0))) 329 (rf_fv (h 329) a b c d e)) 328 (rf_fd (h 328) (rf_nat ((h 322) 9)) (rf_fv (h 329) a b c d e) i60)) := by
      intro j60
      induction j60 with
      | zero =>
        intro i60 hi60 
        obtain rfl : i60 = 20 := by omega
        refine am_iload (pc := 60) C dX12_feed_60 rfl ?_
        refine am_bipush (pc := 62) (v := nI 20) C dX12_feed_62 (by decide) ?_
        refine am_icmp_geN (pc := 64) (tgt := 106) C dX12_feed_64 (by decide) (by omega) (by omega) (fun q64 => ?_) (fun q64 => ?_)
        · skip
          refine am_aload_n (pc := 106) C dX12_feed_106 rfl ?_
          refine am_dup (pc := 107) C dX12_feed_107 rfl ?_
          refine am_getI (pc := 108) C dX12_feed_108 f12_96 bn_322 sh_322 ?_
          refine am_top (show ((upd (h 322) 0 (nI 0)) 9) = (nI (rf_nat ((h 322) 9))) from ((rf_upd_ne (by decide)).trans hOb.1.1)) ?_
          refine am_bipush (pc := 111) (v := nI 20) C dX12_feed_111 (by decide) ?_
          refine am_iaddN (pc := 113) C dX12_feed_113 ?_
          refine am_putI (pc := 114) C dX12_feed_114 f12_96 bn_322 sh_322 rfl rfl ?_
          refine am_hp (show am_up (am_row (am_row (am_row h 322 (upd (h 322) 0 (nI 0))) 329 (rf_fv (h 329) a b c d e)) 328 (rf_fd (h 328) (rf_nat ((h 322) 9)) (rf_fv (h 329) a b c d e) 20)) 322 9 (nI ((rf_nat ((h 322) 9)) + 20)) = am_row (am_row (am_row (am_row h 322 (upd (h 322) 0 (nI 0))) 329 (rf_fv (h 329) a b c d e)) 328 (rf_fd (h 328) (rf_nat ((h 322) 9)) (rf_fv (h 329) a b c d e) 20)) 322 (upd (upd (h 322) 0 (nI 0)) 9 (nI ((rf_nat ((h 322) 9)) + 20))) from am_up_rw _ _ _ _) ?_
          refine am_hp (show am_row (am_row (am_row (am_row h 322 (upd (h 322) 0 (nI 0))) 329 (rf_fv (h 329) a b c d e)) 328 (rf_fd (h 328) (rf_nat ((h 322) 9)) (rf_fv (h 329) a b c d e) 20)) 322 (upd (upd (h 322) 0 (nI 0)) 9 (nI ((rf_nat ((h 322) 9)) + 20))) = (am_row (am_row (am_row h 322 (upd (upd (h 322) 0 (nI 0)) 9 (nI ((rf_nat ((h 322) 9)) + 20)))) 329 (rf_fv (h 329) a b c d e)) 328 (rf_fd (h 328) (rf_nat ((h 322) 9)) (rf_fv (h 329) a b c d e) 20)) from am_row_s2 (by decide) (by decide)) ?_
          refine am_aload_n (pc := 117) C dX12_feed_117 rfl ?_
          refine am_getI (pc := 118) C dX12_feed_118 f12_96 bn_322 sh_322 ?_
          refine am_top (show ((upd (upd (h 322) 0 (nI 0)) 9 (nI ((rf_nat ((h 322) 9)) + 20))) 9) = (nI (rf_nat ((h 322) 9) + 20)) from rf_upd_eq) ?_
          have E9 : rf_feed (h 322) (h 328) (h 329) a b c d e = ((nI (rf_nat ((h 322) 9) + 20)), upd (upd (h 322) 0 (nI 0)) 9 (nI ((rf_nat ((h 322) 9)) + 20)), rf_fv (h 329) a b c d e, rf_fd (h 328) (rf_nat ((h 322) 9)) (rf_fv (h 329) a b c d e) 20) := (by rw [rf_feed, if_pos (by omega)])
          exact am_ireti T dX12_feed_121 rfl (Nat.le_refl _) (Nat.le_refl _) (by rw [E9] <;> rfl) rfl (by rw [E9] <;> exact rfl)
        · skip
          exact absurd q64 (by omega)
      | succ j60 ih60 =>
        intro i60 hi60 
        have hl60 : i60 < 20 := by omega
        refine am_iload (pc := 60) C dX12_feed_60 rfl ?_
        refine am_bipush (pc := 62) (v := nI 20) C dX12_feed_62 (by decide) ?_
        refine am_icmp_geN (pc := 64) (tgt := 106) C dX12_feed_64 (by decide) (by omega) (by omega) (fun q64 => ?_) (fun q64 => ?_)
        · skip
          exact absurd q64 (by omega)
        · skip
          refine am_aload_n (pc := 67) C dX12_feed_67 rfl ?_
          refine am_getR (pc := 68) (j := 328) C dX12_feed_68 f12_29 bn_322 sh_322 (rf_322_8 hR) ?_
          refine am_aload_n (pc := 71) C dX12_feed_71 rfl ?_
          refine am_getI (pc := 72) C dX12_feed_72 f12_96 bn_322 sh_322 ?_
          refine am_top (show ((upd (h 322) 0 (nI 0)) 9) = (nI (rf_nat ((h 322) 9))) from ((rf_upd_ne (by decide)).trans hOb.1.1)) ?_
          refine am_iload (pc := 75) C dX12_feed_75 rfl ?_
          refine am_iaddN (pc := 77) C dX12_feed_77 ?_
          refine am_aload_n (pc := 78) C dX12_feed_78 rfl ?_
          refine am_getR (pc := 79) (j := 329) C dX12_feed_79 f12_36 bn_322 sh_322 (rf_322_15 hR) ?_
          refine am_iload (pc := 82) C dX12_feed_82 rfl ?_
          refine am_iconstN (pc := 84) (k := 4) C dX12_feed_84 ?_
          refine am_idivN (pc := 85) C dX12_feed_85 (by omega) (by omega) (by omega) ?_
          refine am_iaload (pc := 86) C dX12_feed_86 bn_329 sh_329 (vp_in_nI (by omega) (by decide)) ?_
          refine am_top (show (rf_fv (h 329) a b c d e) (nI (i60 / 4)).toNatClampNeg = (rf_fv (h 329) a b c d e) (i60 / 4) from by rw [nI_clamp (by omega)]) ?_
          refine am_bipush (pc := 87) (v := nI 24) C dX12_feed_87 (by decide) ?_
          refine am_bipush (pc := 89) (v := nI 8) C dX12_feed_89 (by decide) ?_
          refine am_iload (pc := 91) C dX12_feed_91 rfl ?_
          refine am_iconstN (pc := 93) (k := 4) C dX12_feed_93 ?_
          refine am_iremN (pc := 94) C dX12_feed_94 (by omega) (by omega) (by omega) ?_
          refine am_imulN (pc := 95) C dX12_feed_95 ?_
          refine am_isubN (pc := 96) C dX12_feed_96 (by omega) ?_
          refine am_ishr (pc := 97) C dX12_feed_97 ?_
          refine am_i2b (pc := 98) C dX12_feed_98 ?_
          refine am_bastore (pc := 99) C dX12_feed_99 bn_328 sh_328 (vp_in_nI (by omega) (by decide)) ?_
          refine am_hp (show am_up (am_row (am_row (am_row h 322 (upd (h 322) 0 (nI 0))) 329 (rf_fv (h 329) a b c d e)) 328 (rf_fd (h 328) (rf_nat ((h 322) 9)) (rf_fv (h 329) a b c d e) i60)) 328 (nI ((rf_nat ((h 322) 9)) + i60)).toNatClampNeg (vp_nar .byte ((((rf_fv (h 329) a b c d e) (i60 / 4)) >>> ((nI (24 - (8 * (i60 % 4)))) &&& 31)).toInt8.toInt32)) = am_row (am_row (am_row (am_row h 322 (upd (h 322) 0 (nI 0))) 329 (rf_fv (h 329) a b c d e)) 328 (rf_fd (h 328) (rf_nat ((h 322) 9)) (rf_fv (h 329) a b c d e) i60)) 328 (upd (rf_fd (h 328) (rf_nat ((h 322) 9)) (rf_fv (h 329) a b c d e) i60) ((rf_nat ((h 322) 9)) + i60) (vp_nar .byte ((((rf_fv (h 329) a b c d e) (i60 / 4)) >>> ((nI (24 - (8 * (i60 % 4)))) &&& 31)).toInt8.toInt32))) from by rw [nI_clamp (by omega)]; exact am_up_rw _ _ _ _) ?_
          refine am_hp (show am_row (am_row (am_row (am_row h 322 (upd (h 322) 0 (nI 0))) 329 (rf_fv (h 329) a b c d e)) 328 (rf_fd (h 328) (rf_nat ((h 322) 9)) (rf_fv (h 329) a b c d e) i60)) 328 (upd (rf_fd (h 328) (rf_nat ((h 322) 9)) (rf_fv (h 329) a b c d e) i60) ((rf_nat ((h 322) 9)) + i60) (vp_nar .byte ((((rf_fv (h 329) a b c d e) (i60 / 4)) >>> ((nI (24 - (8 * (i60 % 4)))) &&& 31)).toInt8.toInt32))) = (am_row (am_row (am_row h 322 (upd (h 322) 0 (nI 0))) 329 (rf_fv (h 329) a b c d e)) 328 (upd (rf_fd (h 328) (rf_nat ((h 322) 9)) (rf_fv (h 329) a b c d e) i60) ((rf_nat ((h 322) 9)) + i60) (vp_nar .byte ((((rf_fv (h 329) a b c d e) (i60 / 4)) >>> ((nI (24 - (8 * (i60 % 4)))) &&& 31)).toInt8.toInt32)))) from am_row_s0) ?_
          refine am_iincN (pc := 100) (ls' := [(0, .ref 322), (1, .int a), (2, .int b), (3, .int c), (4, .int d), (5, .int e), (6, .int (nI (i60 + 1)))]) C dX12_feed_100 rfl (am_up1 _) (by decide) rfl ?_
          refine am_goto (pc := 103) (tgt := 60) C dX12_feed_103 (by decide) ?_
          refine am_hp (show (am_row (am_row (am_row h 322 (upd (h 322) 0 (nI 0))) 329 (rf_fv (h 329) a b c d e)) 328 (upd (rf_fd (h 328) (rf_nat ((h 322) 9)) (rf_fv (h 329) a b c d e) i60) ((rf_nat ((h 322) 9)) + i60) (vp_nar .byte ((((rf_fv (h 329) a b c d e) (i60 / 4)) >>> ((nI (24 - (8 * (i60 % 4)))) &&& 31)).toInt8.toInt32)))) = (am_row (am_row (am_row h 322 (upd (h 322) 0 (nI 0))) 329 (rf_fv (h 329) a b c d e)) 328 (rf_fd (h 328) (rf_nat ((h 322) 9)) (rf_fv (h 329) a b c d e) (i60 + 1))) from rfl) ?_
          exact ih60 (i60 + 1) (by omega) 
    refine am_hp (show (am_row (am_row h 322 (upd (h 322) 0 (nI 0))) 329 (rf_fv (h 329) a b c d e)) = (am_row (am_row (am_row h 322 (upd (h 322) 0 (nI 0))) 329 (rf_fv (h 329) a b c d e)) 328 (rf_fd (h 328) (rf_nat ((h 322) 9)) (rf_fv (h 329) a b c d e) 0)) from (by rw [show h 328 = (am_row (am_row h 322 (upd (h 322) 0 (nI 0))) 329 (rf_fv (h 329) a b c d e)) 328 from rfl]; exact (am_row_id _ _).symm)) ?_
    exact L60 20 0 (by omega) 
  · skip
    refine am_iconst (pc := 18) (v := -1) C dX12_feed_18 rfl ?_
    have E9 : rf_feed (h 322) (h 328) (h 329) a b c d e = ((-1), upd (h 322) 0 (nI 0), h 329, h 328) := (by rw [rf_feed, if_neg (by omega)])
    exact am_ireti T dX12_feed_19 rfl (Nat.le_refl _) (Nat.le_refl _) (by rw [E9] <;> rfl) rfl (by rw [E9] <;> exact (show (am_row h 322 (upd (h 322) 0 (nI 0))) = (am_row (am_row (am_row h 322 (upd (h 322) 0 (nI 0))) 329 (h 329)) 328 (h 328)) from by funext c9; simp only [am_row]; repeat (split <;> try simp_all)))

