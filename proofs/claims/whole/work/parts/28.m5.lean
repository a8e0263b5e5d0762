set_option maxHeartbeats 400000 in
set_option maxRecDepth 100000 in
theorem c_X12_lies {ad : Nat → Nat} {r : am_R} (hR : am_rs r) {h : am_H} (m : Int32) (p : Int32) (x : Int32) (hF0 : rf_n ((h 323) 6) 41)  : am_CM mX12_lies 1 0 0 [.ref 322, .int m, .int p, .int x] (am_VV ad) r h (am_po none r (am_row h 323 (rf_lie (h 323) m p x))) := by
  refine am_CM.of (by decide +kernel) (Nat.le_of_ble_eq_true rfl) (fun X C T => ?_)
  show am_G X (am_VV ad) (0, 0) 0 [(0, .ref 322), (1, .int m), (2, .int p), (3, .int x)] [] r h
  have hF9 : rf_F (h 323) < 41 := hF0.2
  have hF : h 323 6 = nI (rf_F (h 323)) := hF0.1
  refine am_aload_n (pc := 0) C dX12_lies_0 rfl ?_
  refine am_getR (pc := 1) (j := 323) C dX12_lies_1 f12_13 bn_322 sh_322 (rf_322_1 hR) ?_
  refine am_bipush (pc := 4) (v := nI 6) C dX12_lies_4 (by decide) ?_
  refine am_iaload (pc := 6) C dX12_lies_6 bn_323 sh_323 (vp_in_nI (by omega) (by decide)) ?_
  refine am_top (show (h 323) (nI 6).toNatClampNeg = (h 323) 6 from by rw [nI_clamp (by omega)]) ?_
  refine am_top (show ((h 323) 6) = (nI (rf_F (h 323))) from hF) ?_
  refine am_bipush (pc := 7) (v := nI 40) C dX12_lies_7 (by decide) ?_
  refine am_icmp_neN (pc := 9) (tgt := 17) C dX12_lies_9 (by decide) (by omega) (by omega) (fun q9 => ?_) (fun q9 => ?_)
  · skip
    refine am_sipush (pc := 17) (v := nI 311) C dX12_lies_17 (by decide) ?_
    refine am_iconstN (pc := 20) (k := 3) C dX12_lies_20 ?_
    refine am_aload_n (pc := 21) C dX12_lies_21 rfl ?_
    refine am_getR (pc := 22) (j := 323) C dX12_lies_22 f12_13 bn_322 sh_322 (rf_322_1 hR) ?_
    refine am_bipush (pc := 25) (v := nI 6) C dX12_lies_25 (by decide) ?_
    refine am_iaload (pc := 27) C dX12_lies_27 bn_323 sh_323 (vp_in_nI (by omega) (by decide)) ?_
    refine am_top (show (h 323) (nI 6).toNatClampNeg = (h 323) 6 from by rw [nI_clamp (by omega)]) ?_
    refine am_top (show ((h 323) 6) = (nI (rf_F (h 323))) from hF) ?_
    refine am_imulN (pc := 28) C dX12_lies_28 ?_
    refine am_iaddN (pc := 29) C dX12_lies_29 ?_
    refine am_istore (pc := 30) (ls' := [(0, .ref 322), (1, .int m), (2, .int p), (3, .int x), (4, .int (nI (311 + (3 * (rf_F (h 323))))))]) C dX12_lies_30 (by decide) rfl ?_
    refine am_aload_n (pc := 32) C dX12_lies_32 rfl ?_
    refine am_getR (pc := 33) (j := 323) C dX12_lies_33 f12_13 bn_322 sh_322 (rf_322_1 hR) ?_
    refine am_iload (pc := 36) C dX12_lies_36 rfl ?_
    refine am_iload_n (pc := 38) C dX12_lies_38 rfl ?_
    refine am_iastore (pc := 39) C dX12_lies_39 bn_323 sh_323 (vp_in_nI (by omega) (by decide)) ?_
    refine am_hp (show am_up h 323 (nI (311 + (3 * (rf_F (h 323))))).toNatClampNeg m = am_row h 323 (upd (h 323) (311 + (3 * (rf_F (h 323)))) m) from by rw [nI_clamp (by omega)]; exact am_up_rw _ _ _ _) ?_
    refine am_aload_n (pc := 40) C dX12_lies_40 rfl ?_
    refine am_getR (pc := 41) (j := 323) C dX12_lies_41 f12_13 bn_322 sh_322 (rf_322_1 hR) ?_
    refine am_iload (pc := 44) C dX12_lies_44 rfl ?_
    refine am_iconstN (pc := 46) (k := 1) C dX12_lies_46 ?_
    refine am_iaddN (pc := 47) C dX12_lies_47 ?_
    refine am_iload_n (pc := 48) C dX12_lies_48 rfl ?_
    refine am_iastore (pc := 49) C dX12_lies_49 bn_323 sh_323 (vp_in_nI (by omega) (by decide)) ?_
    refine am_hp (show am_up (am_row h 323 (upd (h 323) (311 + (3 * (rf_F (h 323)))) m)) 323 (nI ((311 + (3 * (rf_F (h 323)))) + 1)).toNatClampNeg p = am_row (am_row h 323 (upd (h 323) (311 + (3 * (rf_F (h 323)))) m)) 323 (upd (upd (h 323) (311 + (3 * (rf_F (h 323)))) m) ((311 + (3 * (rf_F (h 323)))) + 1) p) from by rw [nI_clamp (by omega)]; exact am_up_rw _ _ _ _) ?_
    refine am_hp (show am_row (am_row h 323 (upd (h 323) (311 + (3 * (rf_F (h 323)))) m)) 323 (upd (upd (h 323) (311 + (3 * (rf_F (h 323)))) m) ((311 + (3 * (rf_F (h 323)))) + 1) p) = (am_row h 323 (upd (upd (h 323) (311 + (3 * (rf_F (h 323)))) m) ((311 + (3 * (rf_F (h 323)))) + 1) p)) from am_row_s0) ?_
    refine am_aload_n (pc := 50) C dX12_lies_50 rfl ?_
    refine am_getR (pc := 51) (j := 323) C dX12_lies_51 f12_13 bn_322 sh_322 (rf_322_1 hR) ?_
    refine am_iload (pc := 54) C dX12_lies_54 rfl ?_
    refine am_iconstN (pc := 56) (k := 2) C dX12_lies_56 ?_
    refine am_iaddN (pc := 57) C dX12_lies_57 ?_
    refine am_iload_n (pc := 58) C dX12_lies_58 rfl ?_
    refine am_iastore (pc := 59) C dX12_lies_59 bn_323 sh_323 (vp_in_nI (by omega) (by decide)) ?_
    refine am_hp (show am_up (am_row h 323 (upd (upd (h 323) (311 + (3 * (rf_F (h 323)))) m) ((311 + (3 * (rf_F (h 323)))) + 1) p)) 323 (nI ((311 + (3 * (rf_F (h 323)))) + 2)).toNatClampNeg x = am_row (am_row h 323 (upd (upd (h 323) (311 + (3 * (rf_F (h 323)))) m) ((311 + (3 * (rf_F (h 323)))) + 1) p)) 323 (upd (upd (upd (h 323) (311 + (3 * (rf_F (h 323)))) m) ((311 + (3 * (rf_F (h 323)))) + 1) p) ((311 + (3 * (rf_F (h 323)))) + 2) x) from by rw [nI_clamp (by omega)]; exact am_up_rw _ _ _ _) ?_
    refine am_hp (show am_row (am_row h 323 (upd (upd (h 323) (311 + (3 * (rf_F (h 323)))) m) ((311 + (3 * (rf_F (h 323)))) + 1) p)) 323 (upd (upd (upd (h 323) (311 + (3 * (rf_F (h 323)))) m) ((311 + (3 * (rf_F (h 323)))) + 1) p) ((311 + (3 * (rf_F (h 323)))) + 2) x) = (am_row h 323 (upd (upd (upd (h 323) (311 + (3 * (rf_F (h 323)))) m) ((311 + (3 * (rf_F (h 323)))) + 1) p) ((311 + (3 * (rf_F (h 323)))) + 2) x)) from am_row_s0) ?_
    refine am_aload_n (pc := 60) C dX12_lies_60 rfl ?_
    refine am_getR (pc := 61) (j := 323) C dX12_lies_61 f12_13 bn_322 sh_322 (rf_322_1 hR) ?_
    refine am_bipush (pc := 64) (v := nI 6) C dX12_lies_64 (by decide) ?_
    refine am_dup2 (pc := 66) C dX12_lies_66 rfl rfl ?_
    refine am_iaload (pc := 67) C dX12_lies_67 bn_323 sh_323 (vp_in_nI (by omega) (by decide)) ?_
    refine am_top (show (upd (upd (upd (h 323) (311 + (3 * (rf_F (h 323)))) m) ((311 + (3 * (rf_F (h 323)))) + 1) p) ((311 + (3 * (rf_F (h 323)))) + 2) x) (nI 6).toNatClampNeg = (upd (upd (upd (h 323) (311 + (3 * (rf_F (h 323)))) m) ((311 + (3 * (rf_F (h 323)))) + 1) p) ((311 + (3 * (rf_F (h 323)))) + 2) x) 6 from by rw [nI_clamp (by omega)]) ?_
    refine am_top (show ((upd (upd (upd (h 323) (311 + (3 * (rf_F (h 323)))) m) ((311 + (3 * (rf_F (h 323)))) + 1) p) ((311 + (3 * (rf_F (h 323)))) + 2) x) 6) = (nI (rf_F (h 323))) from (by rw [rf_upd_ne (by omega), rf_upd_ne (by omega), rf_upd_ne (by omega)]; exact hF)) ?_
    refine am_iconstN (pc := 68) (k := 1) C dX12_lies_68 ?_
    refine am_iaddN (pc := 69) C dX12_lies_69 ?_
    refine am_iastore (pc := 70) C dX12_lies_70 bn_323 sh_323 (vp_in_nI (by omega) (by decide)) ?_
    refine am_hp (show am_up (am_row h 323 (upd (upd (upd (h 323) (311 + (3 * (rf_F (h 323)))) m) ((311 + (3 * (rf_F (h 323)))) + 1) p) ((311 + (3 * (rf_F (h 323)))) + 2) x)) 323 (nI 6).toNatClampNeg (nI ((rf_F (h 323)) + 1)) = am_row (am_row h 323 (upd (upd (upd (h 323) (311 + (3 * (rf_F (h 323)))) m) ((311 + (3 * (rf_F (h 323)))) + 1) p) ((311 + (3 * (rf_F (h 323)))) + 2) x)) 323 (upd (upd (upd (upd (h 323) (311 + (3 * (rf_F (h 323)))) m) ((311 + (3 * (rf_F (h 323)))) + 1) p) ((311 + (3 * (rf_F (h 323)))) + 2) x) 6 (nI ((rf_F (h 323)) + 1))) from by rw [nI_clamp (by omega)]; exact am_up_rw _ _ _ _) ?_
    refine am_hp (show am_row (am_row h 323 (upd (upd (upd (h 323) (311 + (3 * (rf_F (h 323)))) m) ((311 + (3 * (rf_F (h 323)))) + 1) p) ((311 + (3 * (rf_F (h 323)))) + 2) x)) 323 (upd (upd (upd (upd (h 323) (311 + (3 * (rf_F (h 323)))) m) ((311 + (3 * (rf_F (h 323)))) + 1) p) ((311 + (3 * (rf_F (h 323)))) + 2) x) 6 (nI ((rf_F (h 323)) + 1))) = (am_row h 323 (upd (upd (upd (upd (h 323) (311 + (3 * (rf_F (h 323)))) m) ((311 + (3 * (rf_F (h 323)))) + 1) p) ((311 + (3 * (rf_F (h 323)))) + 2) x) 6 (nI ((rf_F (h 323)) + 1)))) from am_row_s0) ?_
    exact am_vretv T dX12_lies_71 rfl (Nat.le_refl _) (Nat.le_refl _) rfl (by rw [rf_lie, if_neg (by omega)]; rfl)
  · skip
    refine am_aload_n (pc := 12) C dX12_lies_12 rfl ?_
    refine am_iconstN (pc := 13) (k := 0) C dX12_lies_13 ?_
    refine am_callVv (Y := mX12_removes) (pc := 14) (st := []) (As := [.int (nI 0)]) (h2 := (am_row h 323 (rf_remove (h 323) 0))) C dX12_lies_14 k12_349 v_X12_removes rfl rfl bn_322 sh_322 ⟨by decide, rfl⟩ (by decide) (Nat.zero_le _) (Nat.zero_le _) (Nat.le_of_ble_eq_true rfl) (c_X12_removes hR 0 (show rf_n ((h 323) 6) 41 from hF0) (show 0 < rf_F (h 323) from (by omega))) ?_
    refine am_sipush (pc := 17) (v := nI 311) C dX12_lies_17 (by decide) ?_
    refine am_iconstN (pc := 20) (k := 3) C dX12_lies_20 ?_
    refine am_aload_n (pc := 21) C dX12_lies_21 rfl ?_
    refine am_getR (pc := 22) (j := 323) C dX12_lies_22 f12_13 bn_322 sh_322 (rf_322_1 hR) ?_
    refine am_bipush (pc := 25) (v := nI 6) C dX12_lies_25 (by decide) ?_
    refine am_iaload (pc := 27) C dX12_lies_27 bn_323 sh_323 (vp_in_nI (by omega) (by decide)) ?_
    refine am_top (show (rf_remove (h 323) 0) (nI 6).toNatClampNeg = (rf_remove (h 323) 0) 6 from by rw [nI_clamp (by omega)]) ?_
    refine am_top (show ((rf_remove (h 323) 0) 6) = (nI (rf_F (h 323) - 1)) from (by rw [rf_remove]; exact rf_upd_eq)) ?_
    refine am_imulN (pc := 28) C dX12_lies_28 ?_
    refine am_iaddN (pc := 29) C dX12_lies_29 ?_
    refine am_istore (pc := 30) (ls' := [(0, .ref 322), (1, .int m), (2, .int p), (3, .int x), (4, .int (nI (311 + (3 * (rf_F (h 323) - 1)))))]) C dX12_lies_30 (by decide) rfl ?_
    refine am_aload_n (pc := 32) C dX12_lies_32 rfl ?_
    refine am_getR (pc := 33) (j := 323) C dX12_lies_33 f12_13 bn_322 sh_322 (rf_322_1 hR) ?_
    refine am_iload (pc := 36) C dX12_lies_36 rfl ?_
    refine am_iload_n (pc := 38) C dX12_lies_38 rfl ?_
    refine am_iastore (pc := 39) C dX12_lies_39 bn_323 sh_323 (vp_in_nI (by omega) (by decide)) ?_
    refine am_hp (show am_up (am_row h 323 (rf_remove (h 323) 0)) 323 (nI (311 + (3 * (rf_F (h 323) - 1)))).toNatClampNeg m = am_row (am_row h 323 (rf_remove (h 323) 0)) 323 (upd (rf_remove (h 323) 0) (311 + (3 * (rf_F (h 323) - 1))) m) from by rw [nI_clamp (by omega)]; exact am_up_rw _ _ _ _) ?_
    refine am_hp (show am_row (am_row h 323 (rf_remove (h 323) 0)) 323 (upd (rf_remove (h 323) 0) (311 + (3 * (rf_F (h 323) - 1))) m) = (am_row h 323 (upd (rf_remove (h 323) 0) (311 + (3 * (rf_F (h 323) - 1))) m)) from am_row_s0) ?_
    refine am_aload_n (pc := 40) C dX12_lies_40 rfl ?_
    refine am_getR (pc := 41) (j := 323) C dX12_lies_41 f12_13 bn_322 sh_322 (rf_322_1 hR) ?_
    refine am_iload (pc := 44) C dX12_lies_44 rfl ?_
    refine am_iconstN (pc := 46) (k := 1) C dX12_lies_46 ?_
    refine am_iaddN (pc := 47) C dX12_lies_47 ?_
    refine am_iload_n (pc := 48) C dX12_lies_48 rfl ?_
    refine am_iastore (pc := 49) C dX12_lies_49 bn_323 sh_323 (vp_in_nI (by omega) (by decide)) ?_
    refine am_hp (show am_up (am_row h 323 (upd (rf_remove (h 323) 0) (311 + (3 * (rf_F (h 323) - 1))) m)) 323 (nI ((311 + (3 * (rf_F (h 323) - 1))) + 1)).toNatClampNeg p = am_row (am_row h 323 (upd (rf_remove (h 323) 0) (311 + (3 * (rf_F (h 323) - 1))) m)) 323 (upd (upd (rf_remove (h 323) 0) (311 + (3 * (rf_F (h 323) - 1))) m) ((311 + (3 * (rf_F (h 323) - 1))) + 1) p) from by rw [nI_clamp (by omega)]; exact am_up_rw _ _ _ _) ?_
    refine am_hp (show am_row (am_row h 323 (upd (rf_remove (h 323) 0) (311 + (3 * (rf_F (h 323) - 1))) m)) 323 (upd (upd (rf_remove (h 323) 0) (311 + (3 * (rf_F (h 323) - 1))) m) ((311 + (3 * (rf_F (h 323) - 1))) + 1) p) = (am_row h 323 (upd (upd (rf_remove (h 323) 0) (311 + (3 * (rf_F (h 323) - 1))) m) ((311 + (3 * (rf_F (h 323) - 1))) + 1) p)) from am_row_s0) ?_
    refine am_aload_n (pc := 50) C dX12_lies_50 rfl ?_
    refine am_getR (pc := 51) (j := 323) C dX12_lies_51 f12_13 bn_322 sh_322 (rf_322_1 hR) ?_
    refine am_iload (pc := 54) C dX12_lies_54 rfl ?_
    refine am_iconstN (pc := 56) (k := 2) C dX12_lies_56 ?_
    refine am_iaddN (pc := 57) C dX12_lies_57 ?_
    refine am_iload_n (pc := 58) C dX12_lies_58 rfl ?_
    refine am_iastore (pc := 59) C dX12_lies_59 bn_323 sh_323 (vp_in_nI (by omega) (by decide)) ?_
    refine am_hp (show am_up (am_row h 323 (upd (upd (rf_remove (h 323) 0) (311 + (3 * (rf_F (h 323) - 1))) m) ((311 + (3 * (rf_F (h 323) - 1))) + 1) p)) 323 (nI ((311 + (3 * (rf_F (h 323) - 1))) + 2)).toNatClampNeg x = am_row (am_row h 323 (upd (upd (rf_remove (h 323) 0) (311 + (3 * (rf_F (h 323) - 1))) m) ((311 + (3 * (rf_F (h 323) - 1))) + 1) p)) 323 (upd (upd (upd (rf_remove (h 323) 0) (311 + (3 * (rf_F (h 323) - 1))) m) ((311 + (3 * (rf_F (h 323) - 1))) + 1) p) ((311 + (3 * (rf_F (h 323) - 1))) + 2) x) from by rw [nI_clamp (by omega)]; exact am_up_rw _ _ _ _) ?_
    refine am_hp (show am_row (am_row h 323 (upd (upd (rf_remove (h 323) 0) (311 + (3 * (rf_F (h 323) - 1))) m) ((311 + (3 * (rf_F (h 323) - 1))) + 1) p)) 323 (upd (upd (upd (rf_remove (h 323) 0) (311 + (3 * (rf_F (h 323) - 1))) m) ((311 + (3 * (rf_F (h 323) - 1))) + 1) p) ((311 + (3 * (rf_F (h 323) - 1))) + 2) x) = (am_row h 323 (upd (upd (upd (rf_remove (h 323) 0) (311 + (3 * (rf_F (h 323) - 1))) m) ((311 + (3 * (rf_F (h 323) - 1))) + 1) p) ((311 + (3 * (rf_F (h 323) - 1))) + 2) x)) from am_row_s0) ?_
    refine am_aload_n (pc := 60) C dX12_lies_60 rfl ?_
    refine am_getR (pc := 61) (j := 323) C dX12_lies_61 f12_13 bn_322 sh_322 (rf_322_1 hR) ?_
    refine am_bipush (pc := 64) (v := nI 6) C dX12_lies_64 (by decide) ?_
    refine am_dup2 (pc := 66) C dX12_lies_66 rfl rfl ?_
    refine am_iaload (pc := 67) C dX12_lies_67 bn_323 sh_323 (vp_in_nI (by omega) (by decide)) ?_
    refine am_top (show (upd (upd (upd (rf_remove (h 323) 0) (311 + (3 * (rf_F (h 323) - 1))) m) ((311 + (3 * (rf_F (h 323) - 1))) + 1) p) ((311 + (3 * (rf_F (h 323) - 1))) + 2) x) (nI 6).toNatClampNeg = (upd (upd (upd (rf_remove (h 323) 0) (311 + (3 * (rf_F (h 323) - 1))) m) ((311 + (3 * (rf_F (h 323) - 1))) + 1) p) ((311 + (3 * (rf_F (h 323) - 1))) + 2) x) 6 from by rw [nI_clamp (by omega)]) ?_
    refine am_top (show ((upd (upd (upd (rf_remove (h 323) 0) (311 + (3 * (rf_F (h 323) - 1))) m) ((311 + (3 * (rf_F (h 323) - 1))) + 1) p) ((311 + (3 * (rf_F (h 323) - 1))) + 2) x) 6) = (nI (rf_F (h 323) - 1)) from (by rw [rf_upd_ne (by omega), rf_upd_ne (by omega), rf_upd_ne (by omega), rf_remove]; exact rf_upd_eq)) ?_
    refine am_iconstN (pc := 68) (k := 1) C dX12_lies_68 ?_
    refine am_iaddN (pc := 69) C dX12_lies_69 ?_
    refine am_iastore (pc := 70) C dX12_lies_70 bn_323 sh_323 (vp_in_nI (by omega) (by decide)) ?_
    refine am_hp (show am_up (am_row h 323 (upd (upd (upd (rf_remove (h 323) 0) (311 + (3 * (rf_F (h 323) - 1))) m) ((311 + (3 * (rf_F (h 323) - 1))) + 1) p) ((311 + (3 * (rf_F (h 323) - 1))) + 2) x)) 323 (nI 6).toNatClampNeg (nI ((rf_F (h 323) - 1) + 1)) = am_row (am_row h 323 (upd (upd (upd (rf_remove (h 323) 0) (311 + (3 * (rf_F (h 323) - 1))) m) ((311 + (3 * (rf_F (h 323) - 1))) + 1) p) ((311 + (3 * (rf_F (h 323) - 1))) + 2) x)) 323 (upd (upd (upd (upd (rf_remove (h 323) 0) (311 + (3 * (rf_F (h 323) - 1))) m) ((311 + (3 * (rf_F (h 323) - 1))) + 1) p) ((311 + (3 * (rf_F (h 323) - 1))) + 2) x) 6 (nI ((rf_F (h 323) - 1) + 1))) from by rw [nI_clamp (by omega)]; exact am_up_rw _ _ _ _) ?_
    refine am_hp (show am_row (am_row h 323 (upd (upd (upd (rf_remove (h 323) 0) (311 + (3 * (rf_F (h 323) - 1))) m) ((311 + (3 * (rf_F (h 323) - 1))) + 1) p) ((311 + (3 * (rf_F (h 323) - 1))) + 2) x)) 323 (upd (upd (upd (upd (rf_remove (h 323) 0) (311 + (3 * (rf_F (h 323) - 1))) m) ((311 + (3 * (rf_F (h 323) - 1))) + 1) p) ((311 + (3 * (rf_F (h 323) - 1))) + 2) x) 6 (nI ((rf_F (h 323) - 1) + 1))) = (am_row h 323 (upd (upd (upd (upd (rf_remove (h 323) 0) (311 + (3 * (rf_F (h 323) - 1))) m) ((311 + (3 * (rf_F (h 323) - 1))) + 1) p) ((311 + (3 * (rf_F (h 323) - 1))) + 2) x) 6 (nI ((rf_F (h 323) - 1) + 1)))) from am_row_s0) ?_
    exact am_vretv T dX12_lies_71 rfl (Nat.le_refl _) (Nat.le_refl _) rfl (by rw [rf_lie, if_pos q9, rf_put, rf_remove_F hF9])

set_option maxHeartbeats 400000 in
set_option maxRecDepth 100000 in
theorem c_X12_factOf {ad : Nat → Nat} {r : am_R} (hR : am_rs r) {h : am_H} (c : Nat) (n : Int32) (s : Nat) (hV : rf_I (h 323)) (hs : s < rf_S (h 323)) (hc : c < 9)  : am_CM mX12_factOf 4 0 0 [.ref 322, .int (nI c), .int n, .int (nI s)] (am_VV ad) r h (am_po (some (.int (rf_fact (h 323) c n s))) r h) := by
  refine am_CM.of (by decide +kernel) (Nat.le_of_ble_eq_true rfl) (fun X C T => ?_)
  show am_G X (am_VV ad) (0, 0) 0 [(0, .ref 322), (1, .int (nI c)), (2, .int n), (3, .int (nI s))] [] r h
  have hM9 : rf_M (h 323) < 17 := hV.1.1.2
  have hS9 : rf_S (h 323) < 11 := hV.1.2.1.2
  have hO9 : rf_O (h 323) < 11 := hV.1.2.2.2
  refine am_iload_n (pc := 0) C dX12_factOf_0 rfl ?_
  by_cases e1_0 : c = 0
  · refine am_tableIn (pc := 1) (tgt := 48) C dX12_factOf_1 (by rw [e1_0]; decide) (by rw [e1_0]; decide) (by rw [e1_0]; rfl) (by decide) ?_
    refine am_iload_n (pc := 48) C dX12_factOf_48 rfl ?_
    exact am_ireti T dX12_factOf_49 rfl (Nat.le_refl _) (Nat.le_refl _) (by rw [e1_0]; rfl) rfl rfl
  by_cases e1_1 : c = 1
  · refine am_tableIn (pc := 1) (tgt := 50) C dX12_factOf_1 (by rw [e1_1]; decide) (by rw [e1_1]; decide) (by rw [e1_1]; rfl) (by decide) ?_
    refine am_aload_n (pc := 50) C dX12_factOf_50 rfl ?_
    refine am_iload_n (pc := 51) C dX12_factOf_51 rfl ?_
    refine am_iconstN (pc := 52) (k := 0) C dX12_factOf_52 ?_
    refine am_callVi (Y := mX12_of) (pc := 53) (st := []) (As := [.int (nI s), .int (nI 0)]) (x := (rf_of (h 323) s 0)) (h2 := h) C dX12_factOf_53 k12_63 v_X12_of rfl rfl bn_322 sh_322 ⟨by decide, rfl⟩ (by decide) (Nat.zero_le _) (Nat.zero_le _) (Nat.le_of_ble_eq_true rfl) (c_X12_of hR s 0 (show s < 11 from by omega) (show 0 < 23 from by omega)) ?_
    exact am_ireti T dX12_factOf_56 rfl (Nat.le_refl _) (Nat.le_refl _) (by rw [e1_1]; rfl) rfl rfl
  by_cases e1_2 : c = 2
  · refine am_tableIn (pc := 1) (tgt := 57) C dX12_factOf_1 (by rw [e1_2]; decide) (by rw [e1_2]; decide) (by rw [e1_2]; rfl) (by decide) ?_
    refine am_aload_n (pc := 57) C dX12_factOf_57 rfl ?_
    refine am_iload_n (pc := 58) C dX12_factOf_58 rfl ?_
    refine am_callVi (Y := mX12_placeOf) (pc := 59) (st := []) (As := [.int (nI s)]) (x := (rf_pl (h 323) s)) (h2 := h) C dX12_factOf_59 k12_272 v_X12_placeOf rfl rfl bn_322 sh_322 ⟨by decide, rfl⟩ (by decide) (Nat.zero_le _) (Nat.zero_le _) (Nat.le_of_ble_eq_true rfl) (c_X12_placeOf hR s (show s < 11 from by omega) (show rf_Is (h 323) s from (hV.2.1 s (by omega)))) ?_
    exact am_ireti T dX12_factOf_62 rfl (Nat.le_refl _) (Nat.le_refl _) (by rw [e1_2]; rfl) rfl rfl
  by_cases e1_3 : c = 3
  · refine am_tableIn (pc := 1) (tgt := 63) C dX12_factOf_1 (by rw [e1_3]; decide) (by rw [e1_3]; decide) (by rw [e1_3]; rfl) (by decide) ?_
    refine am_aload_n (pc := 63) C dX12_factOf_63 rfl ?_
    refine am_getR (pc := 64) (j := 323) C dX12_factOf_64 f12_13 bn_322 sh_322 (rf_322_1 hR) ?_
    refine am_iconstN (pc := 67) (k := 5) C dX12_factOf_67 ?_
    refine am_iaload (pc := 68) C dX12_factOf_68 bn_323 sh_323 (vp_in_nI (by omega) (by decide)) ?_
    refine am_top (show (h 323) (nI 5).toNatClampNeg = (h 323) 5 from by rw [nI_clamp (by omega)]) ?_
    exact am_ireti T dX12_factOf_69 rfl (Nat.le_refl _) (Nat.le_refl _) (by rw [e1_3]; rfl) rfl rfl
  by_cases e1_4 : c = 4
  · refine am_tableIn (pc := 1) (tgt := 70) C dX12_factOf_1 (by rw [e1_4]; decide) (by rw [e1_4]; decide) (by rw [e1_4]; rfl) (by decide) ?_
    refine am_aload_n (pc := 70) C dX12_factOf_70 rfl ?_
    refine am_iload_n (pc := 71) C dX12_factOf_71 rfl ?_
    refine am_bipush (pc := 72) (v := nI 9) C dX12_factOf_72 (by decide) ?_
    refine am_callVi (Y := mX12_of) (pc := 74) (st := []) (As := [.int (nI s), .int (nI 9)]) (x := (rf_of (h 323) s 9)) (h2 := h) C dX12_factOf_74 k12_63 v_X12_of rfl rfl bn_322 sh_322 ⟨by decide, rfl⟩ (by decide) (Nat.zero_le _) (Nat.zero_le _) (Nat.le_of_ble_eq_true rfl) (c_X12_of hR s 9 (show s < 11 from by omega) (show 9 < 23 from by omega)) ?_
    exact am_ireti T dX12_factOf_77 rfl (Nat.le_refl _) (Nat.le_refl _) (by rw [e1_4]; rfl) rfl rfl
  by_cases e1_5 : c = 5
  · refine am_tableIn (pc := 1) (tgt := 78) C dX12_factOf_1 (by rw [e1_5]; decide) (by rw [e1_5]; decide) (by rw [e1_5]; rfl) (by decide) ?_
    refine am_aload_n (pc := 78) C dX12_factOf_78 rfl ?_
    refine am_iload_n (pc := 79) C dX12_factOf_79 rfl ?_
    refine am_callVi (Y := mX12_usableOf) (pc := 80) (st := []) (As := [.int (nI s)]) (x := (rf_use (h 323) s)) (h2 := h) C dX12_factOf_80 k12_275 v_X12_usableOf rfl rfl bn_322 sh_322 ⟨by decide, rfl⟩ (by decide) (Nat.zero_le _) (Nat.zero_le _) (Nat.le_of_ble_eq_true rfl) (c_X12_usableOf hR s hs (show rf_Is (h 323) s from (hV.2.1 s (by omega))) (show rf_Cn (h 323) from hV.1)) ?_
    refine am_callSi (Y := mJ6_bitCount_0f7a4) (pc := 83) (st := []) (As := [.int (rf_use (h 323) s)]) (x := (rf_pc (rf_use (h 323) s))) (h2 := h) C dX12_factOf_83 k12_278 v_J6_bitCount_0f7a4 rfl rfl (by decide) (Nat.zero_le _) (Nat.zero_le _) (Nat.le_of_ble_eq_true rfl) (c_J6_bitCount_0f7a4 hR (rf_use (h 323) s)) ?_
    exact am_ireti T dX12_factOf_86 rfl (Nat.le_refl _) (Nat.le_refl _) (by rw [e1_5]; rfl) rfl rfl
  by_cases e1_6 : c = 6
  · refine am_tableIn (pc := 1) (tgt := 87) C dX12_factOf_1 (by rw [e1_6]; decide) (by rw [e1_6]; decide) (by rw [e1_6]; rfl) (by decide) ?_
    refine am_aload_n (pc := 87) C dX12_factOf_87 rfl ?_
    refine am_iconstN (pc := 88) (k := 1) C dX12_factOf_88 ?_
    refine am_aload_n (pc := 89) C dX12_factOf_89 rfl ?_
    refine am_iload_n (pc := 90) C dX12_factOf_90 rfl ?_
    refine am_iconstN (pc := 91) (k := 0) C dX12_factOf_91 ?_
    refine am_callVi (Y := mX12_of) (pc := 92) (st := [.int (nI 1), .ref 322]) (As := [.int (nI s), .int (nI 0)]) (x := (rf_of (h 323) s 0)) (h2 := h) C dX12_factOf_92 k12_63 v_X12_of rfl rfl bn_322 sh_322 ⟨by decide, rfl⟩ (by decide) (Nat.zero_le _) (Nat.zero_le _) (Nat.le_of_ble_eq_true rfl) (c_X12_of hR s 0 (show s < 11 from by omega) (show 0 < 23 from by omega)) ?_
    refine am_isub (pc := 95) C dX12_factOf_95 ?_
    refine am_aload_n (pc := 96) C dX12_factOf_96 rfl ?_
    refine am_iload_n (pc := 97) C dX12_factOf_97 rfl ?_
    refine am_callVi (Y := mX12_placeOf) (pc := 98) (st := [.int ((nI 1) - (rf_of (h 323) s 0)), .ref 322]) (As := [.int (nI s)]) (x := (rf_pl (h 323) s)) (h2 := h) C dX12_factOf_98 k12_272 v_X12_placeOf rfl rfl bn_322 sh_322 ⟨by decide, rfl⟩ (by decide) (Nat.zero_le _) (Nat.zero_le _) (Nat.le_of_ble_eq_true rfl) (c_X12_placeOf hR s (show s < 11 from by omega) (show rf_Is (h 323) s from (hV.2.1 s (by omega)))) ?_
    refine am_callVi (Y := mX12_sideIn) (pc := 101) (st := []) (As := [.int ((nI 1) - (rf_of (h 323) s 0)), .int (rf_pl (h 323) s)]) (x := (rf_sideIn (h 323) ((nI 1) - (rf_of (h 323) s 0)) (rf_pl (h 323) s))) (h2 := h) C dX12_factOf_101 k12_283 v_X12_sideIn rfl rfl bn_322 sh_322 ⟨by decide, rfl⟩ (by decide) (Nat.zero_le _) (Nat.zero_le _) (Nat.le_of_ble_eq_true rfl) (c_X12_sideIn hR ((nI 1) - (rf_of (h 323) s 0)) (rf_pl (h 323) s) hV) ?_
    refine am_callSi (Y := mJ6_bitCount_0f7a4) (pc := 104) (st := []) (As := [.int (rf_sideIn (h 323) ((nI 1) - (rf_of (h 323) s 0)) (rf_pl (h 323) s))]) (x := (rf_pc (rf_sideIn (h 323) ((nI 1) - (rf_of (h 323) s 0)) (rf_pl (h 323) s)))) (h2 := h) C dX12_factOf_104 k12_278 v_J6_bitCount_0f7a4 rfl rfl (by decide) (Nat.zero_le _) (Nat.zero_le _) (Nat.le_of_ble_eq_true rfl) (c_J6_bitCount_0f7a4 hR (rf_sideIn (h 323) ((nI 1) - (rf_of (h 323) s 0)) (rf_pl (h 323) s))) ?_
    exact am_ireti T dX12_factOf_107 rfl (Nat.le_refl _) (Nat.le_refl _) (by rw [e1_6]; rfl) rfl rfl
  by_cases e1_7 : c = 7
  · refine am_tableIn (pc := 1) (tgt := 108) C dX12_factOf_1 (by rw [e1_7]; decide) (by rw [e1_7]; decide) (by rw [e1_7]; rfl) (by decide) ?_
    refine am_aload_n (pc := 108) C dX12_factOf_108 rfl ?_
    refine am_aload_n (pc := 109) C dX12_factOf_109 rfl ?_
    refine am_iload_n (pc := 110) C dX12_factOf_110 rfl ?_
    refine am_iconstN (pc := 111) (k := 0) C dX12_factOf_111 ?_
    refine am_callVi (Y := mX12_of) (pc := 112) (st := [.ref 322]) (As := [.int (nI s), .int (nI 0)]) (x := (rf_of (h 323) s 0)) (h2 := h) C dX12_factOf_112 k12_63 v_X12_of rfl rfl bn_322 sh_322 ⟨by decide, rfl⟩ (by decide) (Nat.zero_le _) (Nat.zero_le _) (Nat.le_of_ble_eq_true rfl) (c_X12_of hR s 0 (show s < 11 from by omega) (show 0 < 23 from by omega)) ?_
    refine am_aload_n (pc := 115) C dX12_factOf_115 rfl ?_
    refine am_iload_n (pc := 116) C dX12_factOf_116 rfl ?_
    refine am_callVi (Y := mX12_placeOf) (pc := 117) (st := [.int (rf_of (h 323) s 0), .ref 322]) (As := [.int (nI s)]) (x := (rf_pl (h 323) s)) (h2 := h) C dX12_factOf_117 k12_272 v_X12_placeOf rfl rfl bn_322 sh_322 ⟨by decide, rfl⟩ (by decide) (Nat.zero_le _) (Nat.zero_le _) (Nat.le_of_ble_eq_true rfl) (c_X12_placeOf hR s (show s < 11 from by omega) (show rf_Is (h 323) s from (hV.2.1 s (by omega)))) ?_
    refine am_callVi (Y := mX12_sideIn) (pc := 120) (st := []) (As := [.int (rf_of (h 323) s 0), .int (rf_pl (h 323) s)]) (x := (rf_sideIn (h 323) (rf_of (h 323) s 0) (rf_pl (h 323) s))) (h2 := h) C dX12_factOf_120 k12_283 v_X12_sideIn rfl rfl bn_322 sh_322 ⟨by decide, rfl⟩ (by decide) (Nat.zero_le _) (Nat.zero_le _) (Nat.le_of_ble_eq_true rfl) (c_X12_sideIn hR (rf_of (h 323) s 0) (rf_pl (h 323) s) hV) ?_
    refine am_iconstN (pc := 123) (k := 1) C dX12_factOf_123 ?_
    refine am_iload_n (pc := 124) C dX12_factOf_124 rfl ?_
    refine am_ishl (pc := 125) C dX12_factOf_125 ?_
    refine am_icmp_ne (pc := 126) (tgt := 133) C dX12_factOf_126 (by decide) (fun q126 => ?_) (fun q126 => ?_)
    · skip
      refine am_iconstN (pc := 133) (k := 0) C dX12_factOf_133 ?_
      exact am_ireti T dX12_factOf_134 rfl (Nat.le_refl _) (Nat.le_refl _) (by rw [e1_7]; first | exact (if_pos q126).symm | exact (if_neg q126).symm) rfl rfl
    · skip
      refine am_iconstN (pc := 129) (k := 1) C dX12_factOf_129 ?_
      refine am_goto (pc := 130) (tgt := 134) C dX12_factOf_130 (by decide) ?_
      exact am_ireti T dX12_factOf_134 rfl (Nat.le_refl _) (Nat.le_refl _) (by rw [e1_7]; first | exact (if_pos q126).symm | exact (if_neg q126).symm) rfl rfl
  refine am_tableOut (pc := 1) (tgt := 135) C dX12_factOf_1 (by rw [nI_toInt (by omega)]; omega) (by decide) ?_
  refine am_iload_n (pc := 135) C dX12_factOf_135 rfl ?_
  exact am_ireti T dX12_factOf_136 rfl (Nat.le_refl _) (Nat.le_refl _) (rf_fact_8 (by omega)).symm rfl rfl

set_option maxHeartbeats 400000 in
set_option maxRecDepth 100000 in
theorem c_X12_holdsLine {ad : Nat → Nat} {r : am_R} (hR : am_rs r) {h : am_H} (line : Nat) (s : Nat) (hV : rf_I (h 323)) (hs : s < rf_S (h 323)) (hl : line < 12) (hLl : rf_Ll (h 323) line)  : am_CM mX12_holdsLine 5 0 0 [.ref 322, .int (nI line), .int (nI s)] (am_VV ad) r h (am_pj (some (.int (am_b (rf_holds (h 323) line s)))) r (fun G => (am_row h 330 (G 330)))) := by
  refine am_CM.of (by decide +kernel) (Nat.le_of_ble_eq_true rfl) (fun X C T => ?_)
  show am_G X (am_VV ad) (0, 0) 0 [(0, .ref 322), (1, .int (nI line)), (2, .int (nI s))] [] r h
  have hM9 : rf_M (h 323) < 17 := hV.1.1.2
  have hS9 : rf_S (h 323) < 11 := hV.1.2.1.2
  have hO9 : rf_O (h 323) < 11 := hV.1.2.2.2
  obtain ⟨-, -, hf2, hf3, hft, hok0⟩ := hLl
  have hf2b := hf2.2
  have hf3b := hf3.2
  refine am_hp (show h = (am_row h 330 (h 330)) from (am_row_id _ _).symm) ?_
  refine am_iconstN (pc := 0) (k := 0) C dX12_holdsLine_0 ?_
  refine am_istore_n (pc := 1) (ls' := [(0, .ref 322), (1, .int (nI line)), (2, .int (nI s)), (3, .int (nI 0))]) C dX12_holdsLine_1 (by decide) rfl ?_
  refine am_sipush (pc := 2) (v := nI 732) C dX12_holdsLine_2 (by decide) ?_
  refine am_iconstN (pc := 5) (k := 4) C dX12_holdsLine_5 ?_
  refine am_iload_n (pc := 6) C dX12_holdsLine_6 rfl ?_
  refine am_imulN (pc := 7) C dX12_holdsLine_7 ?_
  refine am_iaddN (pc := 8) C dX12_holdsLine_8 ?_
  refine am_istore (pc := 9) (ls' := [(0, .ref 322), (1, .int (nI line)), (2, .int (nI s)), (3, .int (nI 0)), (4, .int (nI (732 + (4 * line))))]) C dX12_holdsLine_9 (by decide) rfl ?_
  refine am_aload_n (pc := 11) C dX12_holdsLine_11 rfl ?_
  refine am_getR (pc := 12) (j := 323) C dX12_holdsLine_12 f12_13 bn_322 sh_322 (rf_322_1 hR) ?_
  refine am_iload (pc := 15) C dX12_holdsLine_15 rfl ?_
  refine am_iconstN (pc := 17) (k := 2) C dX12_holdsLine_17 ?_
  refine am_iaddN (pc := 18) C dX12_holdsLine_18 ?_
  refine am_iaload (pc := 19) C dX12_holdsLine_19 bn_323 sh_323 (vp_in_nI (by omega) (by decide)) ?_
  refine am_top (show (h 323) (nI ((732 + (4 * line)) + 2)).toNatClampNeg = (h 323) ((732 + (4 * line)) + 2) from by rw [nI_clamp (by omega)]) ?_
  refine am_top (show ((h 323) ((732 + (4 * line)) + 2)) = (nI (rf_nat ((h 323) (732 + 4 * line + 2)))) from hf2.1) ?_
  refine am_istore (pc := 20) (ls' := [(0, .ref 322), (1, .int (nI line)), (2, .int (nI s)), (3, .int (nI 0)), (4, .int (nI (732 + (4 * line)))), (5, .int (nI (rf_nat ((h 323) (732 + 4 * line + 2)))))]) C dX12_holdsLine_20 (by decide) rfl ?_
  have L22 : ∀ (j22 : Nat) (i : Nat) (l : List Int32) (g22 : am_H), (hij : i + j22 = rf_nat ((h 323) (732 + 4 * line + 3))) → (hok : rf_okc (h 323) j22 i l.length) → (hev : rf_evl (h 323) s j22 i l = rf_evl (h 323) s (rf_nat ((h 323) (732 + 4 * line + 3)) - rf_nat ((h 323) (732 + 4 * line + 2))) (rf_nat ((h 323) (732 + 4 * line + 2))) []) → (hv : rf_hv (g22 330) l) → (hll : l.length < 40) → am_G X (am_VV ad) (0, 0) 22 [(0, .ref 322), (1, .int (nI line)), (2, .int (nI s)), (3, .int (nI l.length)), (4, .int (nI (732 + (4 * line)))), (5, .int (nI i))] [] r (am_row h 330 (g22 330)) := by
    intro j22
    induction j22 with
    | zero =>
      intro i l g22 hij hok hev hv hll
      refine am_iload (pc := 22) C dX12_holdsLine_22 rfl ?_
      refine am_aload_n (pc := 24) C dX12_holdsLine_24 rfl ?_
      refine am_getR (pc := 25) (j := 323) C dX12_holdsLine_25 f12_13 bn_322 sh_322 (rf_322_1 hR) ?_
      refine am_iload (pc := 28) C dX12_holdsLine_28 rfl ?_
      refine am_iconstN (pc := 30) (k := 3) C dX12_holdsLine_30 ?_
      refine am_iaddN (pc := 31) C dX12_holdsLine_31 ?_
      refine am_iaload (pc := 32) C dX12_holdsLine_32 bn_323 sh_323 (vp_in_nI (by omega) (by decide)) ?_
      refine am_top (show (h 323) (nI ((732 + (4 * line)) + 3)).toNatClampNeg = (h 323) ((732 + (4 * line)) + 3) from by rw [nI_clamp (by omega)]) ?_
      refine am_top (show ((h 323) ((732 + (4 * line)) + 3)) = (nI (rf_nat ((h 323) (732 + 4 * line + 3)))) from hf3.1) ?_
      refine am_icmp_geN (pc := 33) (tgt := 263) C dX12_holdsLine_33 (by decide) (by omega) (by omega) (fun q33 => ?_) (fun q33 => ?_)
      · skip
        refine am_iload_n (pc := 263) C dX12_holdsLine_263 rfl ?_
        refine am_if_eqN (pc := 264) (tgt := 277) C dX12_holdsLine_264 (by decide) (by omega) (fun q264 => ?_) (fun q264 => ?_)
        · skip
          refine am_iconstN (pc := 277) (k := 1) C dX12_holdsLine_277 ?_
          refine am_goto (pc := 278) (tgt := 282) C dX12_holdsLine_278 (by decide) ?_
          exact am_iretbj (G := (am_row h 330 (g22 330))) T dX12_holdsLine_282 rfl (Nat.le_refl _) (Nat.le_refl _) (by simp only [rf_holds, ← hev, rf_evl]; first | (rw [decide_eq_true q264]; rfl) | (rw [decide_eq_false (by omega), show l.getD (l.length - 1) 0 = g22 330 0 from (hv 0 (by omega)).symm]; first | (rw [decide_eq_true q274]; rfl) | (rw [decide_eq_false q274]; rfl))) rfl rfl
        · skip
          refine am_aload_n (pc := 267) C dX12_holdsLine_267 rfl ?_
          refine am_getR (pc := 268) (j := 330) C dX12_holdsLine_268 f12_39 bn_322 sh_322 (rf_322_17 hR) ?_
          refine am_iconstN (pc := 271) (k := 0) C dX12_holdsLine_271 ?_
          refine am_iaload (pc := 272) C dX12_holdsLine_272 bn_330 sh_330 (vp_in_nI (by omega) (by decide)) ?_
          refine am_top (show (g22 330) (nI 0).toNatClampNeg = (g22 330) 0 from by rw [nI_clamp (by omega)]) ?_
          refine am_iconstN (pc := 273) (k := 1) C dX12_holdsLine_273 ?_
          refine am_icmp_ne (pc := 274) (tgt := 281) C dX12_holdsLine_274 (by decide) (fun q274 => ?_) (fun q274 => ?_)
          · skip
            refine am_iconstN (pc := 281) (k := 0) C dX12_holdsLine_281 ?_
            exact am_iretbj (G := (am_row h 330 (g22 330))) T dX12_holdsLine_282 rfl (Nat.le_refl _) (Nat.le_refl _) (by simp only [rf_holds, ← hev, rf_evl]; first | (rw [decide_eq_true q264]; rfl) | (rw [decide_eq_false (by omega), show l.getD (l.length - 1) 0 = g22 330 0 from (hv 0 (by omega)).symm]; first | (rw [decide_eq_true q274]; rfl) | (rw [decide_eq_false q274]; rfl))) rfl rfl
          · skip
            refine am_iconstN (pc := 277) (k := 1) C dX12_holdsLine_277 ?_
            refine am_goto (pc := 278) (tgt := 282) C dX12_holdsLine_278 (by decide) ?_
            exact am_iretbj (G := (am_row h 330 (g22 330))) T dX12_holdsLine_282 rfl (Nat.le_refl _) (Nat.le_refl _) (by simp only [rf_holds, ← hev, rf_evl]; first | (rw [decide_eq_true q264]; rfl) | (rw [decide_eq_false (by omega), show l.getD (l.length - 1) 0 = g22 330 0 from (hv 0 (by omega)).symm]; first | (rw [decide_eq_true q274]; rfl) | (rw [decide_eq_false q274]; rfl))) rfl rfl
      · skip
        exact absurd q33 (by omega)
    | succ j22 ih22 =>
      intro i l g22 hij hok hev hv hll
      obtain ⟨hsc, hpush, hnot, hbin⟩ := hok
      have hsc2 : rf_sc (h 323) i < 15 := hsc.2
      refine am_iload (pc := 22) C dX12_holdsLine_22 rfl ?_
      refine am_aload_n (pc := 24) C dX12_holdsLine_24 rfl ?_
      refine am_getR (pc := 25) (j := 323) C dX12_holdsLine_25 f12_13 bn_322 sh_322 (rf_322_1 hR) ?_
      refine am_iload (pc := 28) C dX12_holdsLine_28 rfl ?_
      refine am_iconstN (pc := 30) (k := 3) C dX12_holdsLine_30 ?_
      refine am_iaddN (pc := 31) C dX12_holdsLine_31 ?_
      refine am_iaload (pc := 32) C dX12_holdsLine_32 bn_323 sh_323 (vp_in_nI (by omega) (by decide)) ?_
      refine am_top (show (h 323) (nI ((732 + (4 * line)) + 3)).toNatClampNeg = (h 323) ((732 + (4 * line)) + 3) from by rw [nI_clamp (by omega)]) ?_
      refine am_top (show ((h 323) ((732 + (4 * line)) + 3)) = (nI (rf_nat ((h 323) (732 + 4 * line + 3)))) from hf3.1) ?_
      refine am_icmp_geN (pc := 33) (tgt := 263) C dX12_holdsLine_33 (by decide) (by omega) (by omega) (fun q33 => ?_) (fun q33 => ?_)
      · skip
        exact absurd q33 (by omega)
      · skip
        refine am_aload_n (pc := 36) C dX12_holdsLine_36 rfl ?_
        refine am_getR (pc := 37) (j := 323) C dX12_holdsLine_37 f12_13 bn_322 sh_322 (rf_322_1 hR) ?_
        refine am_sipush (pc := 40) (v := nI 780) C dX12_holdsLine_40 (by decide) ?_
        refine am_iconstN (pc := 43) (k := 2) C dX12_holdsLine_43 ?_
        refine am_iload (pc := 44) C dX12_holdsLine_44 rfl ?_
        refine am_imulN (pc := 46) C dX12_holdsLine_46 ?_
        refine am_iaddN (pc := 47) C dX12_holdsLine_47 ?_
        refine am_iaload (pc := 48) C dX12_holdsLine_48 bn_323 sh_323 (vp_in_nI (by omega) (by decide)) ?_
        refine am_top (show (h 323) (nI (780 + (2 * i))).toNatClampNeg = (h 323) (780 + (2 * i)) from by rw [nI_clamp (by omega)]) ?_
        refine am_top (show ((h 323) (780 + (2 * i))) = (nI (rf_sc (h 323) i)) from hsc.1) ?_
        refine am_istore (pc := 49) (ls' := [(0, .ref 322), (1, .int (nI line)), (2, .int (nI s)), (3, .int (nI l.length)), (4, .int (nI (732 + (4 * line)))), (5, .int (nI i)), (6, .int (nI (rf_sc (h 323) i)))]) C dX12_holdsLine_49 (by decide) rfl ?_
        refine am_iload (pc := 51) C dX12_holdsLine_51 rfl ?_
        refine am_bipush (pc := 53) (v := nI 8) C dX12_holdsLine_53 (by decide) ?_
        refine am_icmp_gtN (pc := 55) (tgt := 92) C dX12_holdsLine_55 (by decide) (by omega) (by omega) (fun q55 => ?_) (fun q55 => ?_)
        · skip
          refine am_iload (pc := 92) C dX12_holdsLine_92 rfl ?_
          refine am_bipush (pc := 94) (v := nI 12) C dX12_holdsLine_94 (by decide) ?_
          refine am_icmp_neN (pc := 96) (tgt := 120) C dX12_holdsLine_96 (by decide) (by omega) (by omega) (fun q96 => ?_) (fun q96 => ?_)
          · skip
            have hl2 := (hbin q55 q96).1
            refine am_iincN (pc := 120) (ls' := [(0, .ref 322), (1, .int (nI line)), (2, .int (nI s)), (3, .int (nI (l.length - 1))), (4, .int (nI (732 + (4 * line)))), (5, .int (nI i)), (6, .int (nI (rf_sc (h 323) i)))]) C dX12_holdsLine_120 rfl (am_dn (by omega)) (by decide) rfl ?_
            refine am_aload_n (pc := 123) C dX12_holdsLine_123 rfl ?_
            refine am_getR (pc := 124) (j := 330) C dX12_holdsLine_124 f12_39 bn_322 sh_322 (rf_322_17 hR) ?_
            refine am_iload_n (pc := 127) C dX12_holdsLine_127 rfl ?_
            refine am_iconstN (pc := 128) (k := 1) C dX12_holdsLine_128 ?_
            refine am_isubN (pc := 129) C dX12_holdsLine_129 (by omega) ?_
            refine am_iaload (pc := 130) C dX12_holdsLine_130 bn_330 sh_330 (vp_in_nI (by omega) (by decide)) ?_
            refine am_top (show (g22 330) (nI ((l.length - 1) - 1)).toNatClampNeg = (g22 330) ((l.length - 1) - 1) from by rw [nI_clamp (by omega)]) ?_
            refine am_istore (pc := 131) (ls' := [(0, .ref 322), (1, .int (nI line)), (2, .int (nI s)), (3, .int (nI (l.length - 1))), (4, .int (nI (732 + (4 * line)))), (5, .int (nI i)), (6, .int (nI (rf_sc (h 323) i))), (7, .int ((g22 330) ((l.length - 1) - 1)))]) C dX12_holdsLine_131 (by decide) rfl ?_
            refine am_aload_n (pc := 133) C dX12_holdsLine_133 rfl ?_
            refine am_getR (pc := 134) (j := 330) C dX12_holdsLine_134 f12_39 bn_322 sh_322 (rf_322_17 hR) ?_
            refine am_iload_n (pc := 137) C dX12_holdsLine_137 rfl ?_
            refine am_iaload (pc := 138) C dX12_holdsLine_138 bn_330 sh_330 (vp_in_nI (by omega) (by decide)) ?_
            refine am_top (show (g22 330) (nI (l.length - 1)).toNatClampNeg = (g22 330) (l.length - 1) from by rw [nI_clamp (by omega)]) ?_
            refine am_istore (pc := 139) (ls' := [(0, .ref 322), (1, .int (nI line)), (2, .int (nI s)), (3, .int (nI (l.length - 1))), (4, .int (nI (732 + (4 * line)))), (5, .int (nI i)), (6, .int (nI (rf_sc (h 323) i))), (7, .int ((g22 330) ((l.length - 1) - 1))), (8, .int ((g22 330) (l.length - 1)))]) C dX12_holdsLine_139 (by decide) rfl ?_
            refine am_iload (pc := 141) C dX12_holdsLine_141 rfl ?_
            refine am_bipush (pc := 143) (v := nI 10) C dX12_holdsLine_143 (by decide) ?_
            refine am_icmp_neN (pc := 145) (tgt := 163) C dX12_holdsLine_145 (by decide) (by omega) (by omega) (fun q145 => ?_) (fun q145 => ?_)
            · skip
              refine am_iload (pc := 163) C dX12_holdsLine_163 rfl ?_
              refine am_bipush (pc := 165) (v := nI 11) C dX12_holdsLine_165 (by decide) ?_
              refine am_icmp_neN (pc := 167) (tgt := 185) C dX12_holdsLine_167 (by decide) (by omega) (by omega) (fun q167 => ?_) (fun q167 => ?_)
              · skip
                refine am_iload (pc := 185) C dX12_holdsLine_185 rfl ?_
                refine am_bipush (pc := 187) (v := nI 13) C dX12_holdsLine_187 (by decide) ?_
                refine am_icmp_neN (pc := 189) (tgt := 209) C dX12_holdsLine_189 (by decide) (by omega) (by omega) (fun q189 => ?_) (fun q189 => ?_)
                · skip
                  refine am_iload (pc := 209) C dX12_holdsLine_209 rfl ?_
                  refine am_iload (pc := 211) C dX12_holdsLine_211 rfl ?_
                  refine am_iadd (pc := 213) C dX12_holdsLine_213 ?_
                  refine am_if_le (pc := 214) (tgt := 221) C dX12_holdsLine_214 (by decide) (fun q214 => ?_) (fun q214 => ?_)
                  · skip
                    refine am_iconstN (pc := 221) (k := 0) C dX12_holdsLine_221 ?_
                    refine am_istore (pc := 222) (ls' := [(0, .ref 322), (1, .int (nI line)), (2, .int (nI s)), (3, .int (nI (l.length - 1))), (4, .int (nI (732 + (4 * line)))), (5, .int (nI i)), (6, .int (nI (rf_sc (h 323) i))), (7, .int ((g22 330) ((l.length - 1) - 1))), (8, .int ((g22 330) (l.length - 1))), (9, .int (nI 0))]) C dX12_holdsLine_222 (by decide) rfl ?_
                    refine am_aload_n (pc := 224) C dX12_holdsLine_224 rfl ?_
                    refine am_getR (pc := 225) (j := 330) C dX12_holdsLine_225 f12_39 bn_322 sh_322 (rf_322_17 hR) ?_
                    refine am_iload_n (pc := 228) C dX12_holdsLine_228 rfl ?_
                    refine am_iconstN (pc := 229) (k := 1) C dX12_holdsLine_229 ?_
                    refine am_isubN (pc := 230) C dX12_holdsLine_230 (by omega) ?_
                    refine am_iload (pc := 231) C dX12_holdsLine_231 rfl ?_
                    refine am_bipush (pc := 233) (v := nI 9) C dX12_holdsLine_233 (by decide) ?_
                    refine am_icmp_neN (pc := 235) (tgt := 246) C dX12_holdsLine_235 (by decide) (by omega) (by omega) (fun q235 => ?_) (fun q235 => ?_)
                    · skip
                      refine am_iload (pc := 246) C dX12_holdsLine_246 rfl ?_
                      refine am_if_eqN (pc := 248) (tgt := 255) C dX12_holdsLine_248 (by decide) (by omega) (fun q248 => ?_) (fun q248 => ?_)
                      · skip
                        refine am_iconstN (pc := 255) (k := 0) C dX12_holdsLine_255 ?_
                        refine am_iastore (pc := 256) C dX12_holdsLine_256 bn_330 sh_330 (vp_in_nI (by omega) (by decide)) ?_
                        refine am_hp (show am_up (am_row h 330 (g22 330)) 330 (nI ((l.length - 1) - 1)).toNatClampNeg (nI 0) = am_row (am_row h 330 (g22 330)) 330 (upd (g22 330) ((l.length - 1) - 1) (nI 0)) from by rw [nI_clamp (by omega)]; exact am_up_rw _ _ _ _) ?_
                        refine am_hp (show am_row (am_row h 330 (g22 330)) 330 (upd (g22 330) ((l.length - 1) - 1) (nI 0)) = (am_row h 330 (upd (g22 330) ((l.length - 1) - 1) (nI 0))) from am_row_s0) ?_
                        refine am_iincN (pc := 257) (ls' := [(0, .ref 322), (1, .int (nI line)), (2, .int (nI s)), (3, .int (nI (l.length - 1))), (4, .int (nI (732 + (4 * line)))), (5, .int (nI (i + 1))), (6, .int (nI (rf_sc (h 323) i))), (7, .int ((g22 330) ((l.length - 1) - 1))), (8, .int ((g22 330) (l.length - 1))), (9, .int (nI 0))]) C dX12_holdsLine_257 rfl (am_up1 _) (by decide) rfl ?_
                        refine am_goto (pc := 260) (tgt := 22) C dX12_holdsLine_260 (by decide) ?_
                        refine am_sub (ls' := [(0, .ref 322), (1, .int (nI line)), (2, .int (nI s)), (3, .int (nI (l.length - 1))), (4, .int (nI (732 + (4 * line)))), (5, .int (nI (i + 1)))]) (by intro q hq; simp only [List.mem_cons, List.not_mem_nil, or_false] at hq ⊢; rcases hq with rfl | rfl | rfl | rfl | rfl | rfl <;> simp) ?_
                        refine am_lsv (ls' := [(0, .ref 322), (1, .int (nI line)), (2, .int (nI s)), (3, .int (nI ((rf_stl (h 323) s i l).length))), (4, .int (nI (732 + (4 * line)))), (5, .int (nI (i + 1)))]) (by rw [show (nI (l.length - 1)) = (nI ((rf_stl (h 323) s i l).length)) from congrArg nI (by rw [rf_stl, if_neg (by omega), if_neg q96, List.length_cons, List.length_drop]; omega)]) ?_
                        exact ih22 (i + 1) (rf_stl (h 323) s i l) (am_row h 330 (upd (g22 330) ((l.length - 1) - 1) (nI 0))) (by omega) (by rw [rf_stl]; first | (rw [if_pos q55]; exact (hpush q55).2) | (rw [if_neg (by omega), if_pos q96, show ((nI 1 - l.getD 0 0) :: l.drop 1).length = l.length by rw [List.length_cons, List.length_drop]; omega]; exact (hnot q55 q96).2) | (rw [if_neg (by omega), if_neg q96, show (rf_ap (rf_sc (h 323) i) (l.getD 1 0) (l.getD 0 0) :: l.drop 2).length = l.length - 1 by rw [List.length_cons, List.length_drop]; omega]; exact (hbin q55 q96).2)) hev (by rw [rf_stl, if_neg (by omega), if_neg q96]; exact rf_hv_bin hv hl2 (by rw [rf_ap_14 q235 q145 q167 q189, if_neg (Int32.not_lt.mpr q214)])) (by rw [rf_stl]; first | (rw [if_pos q55, List.length_cons]; omega) | (rw [if_neg (by omega), if_pos q96, List.length_cons, List.length_drop]; omega) | (rw [if_neg (by omega), if_neg q96, List.length_cons, List.length_drop]; omega))
                      · skip
                        exact absurd q248 (by decide)
                    · skip
                      refine am_iload (pc := 238) C dX12_holdsLine_238 rfl ?_
                      refine am_iload (pc := 240) C dX12_holdsLine_240 rfl ?_
                      refine am_iadd (pc := 242) C dX12_holdsLine_242 ?_
                      refine am_goto (pc := 243) (tgt := 256) C dX12_holdsLine_243 (by decide) ?_
                      refine am_iastore (pc := 256) C dX12_holdsLine_256 bn_330 sh_330 (vp_in_nI (by omega) (by decide)) ?_
                      refine am_hp (show am_up (am_row h 330 (g22 330)) 330 (nI ((l.length - 1) - 1)).toNatClampNeg (((g22 330) ((l.length - 1) - 1)) + ((g22 330) (l.length - 1))) = am_row (am_row h 330 (g22 330)) 330 (upd (g22 330) ((l.length - 1) - 1) (((g22 330) ((l.length - 1) - 1)) + ((g22 330) (l.length - 1)))) from by rw [nI_clamp (by omega)]; exact am_up_rw _ _ _ _) ?_
                      refine am_hp (show am_row (am_row h 330 (g22 330)) 330 (upd (g22 330) ((l.length - 1) - 1) (((g22 330) ((l.length - 1) - 1)) + ((g22 330) (l.length - 1)))) = (am_row h 330 (upd (g22 330) ((l.length - 1) - 1) (((g22 330) ((l.length - 1) - 1)) + ((g22 330) (l.length - 1))))) from am_row_s0) ?_
                      refine am_iincN (pc := 257) (ls' := [(0, .ref 322), (1, .int (nI line)), (2, .int (nI s)), (3, .int (nI (l.length - 1))), (4, .int (nI (732 + (4 * line)))), (5, .int (nI (i + 1))), (6, .int (nI (rf_sc (h 323) i))), (7, .int ((g22 330) ((l.length - 1) - 1))), (8, .int ((g22 330) (l.length - 1))), (9, .int (nI 0))]) C dX12_holdsLine_257 rfl (am_up1 _) (by decide) rfl ?_
                      refine am_goto (pc := 260) (tgt := 22) C dX12_holdsLine_260 (by decide) ?_
                      refine am_sub (ls' := [(0, .ref 322), (1, .int (nI line)), (2, .int (nI s)), (3, .int (nI (l.length - 1))), (4, .int (nI (732 + (4 * line)))), (5, .int (nI (i + 1)))]) (by intro q hq; simp only [List.mem_cons, List.not_mem_nil, or_false] at hq ⊢; rcases hq with rfl | rfl | rfl | rfl | rfl | rfl <;> simp) ?_
                      refine am_lsv (ls' := [(0, .ref 322), (1, .int (nI line)), (2, .int (nI s)), (3, .int (nI ((rf_stl (h 323) s i l).length))), (4, .int (nI (732 + (4 * line)))), (5, .int (nI (i + 1)))]) (by rw [show (nI (l.length - 1)) = (nI ((rf_stl (h 323) s i l).length)) from congrArg nI (by rw [rf_stl, if_neg (by omega), if_neg q96, List.length_cons, List.length_drop]; omega)]) ?_
                      exact ih22 (i + 1) (rf_stl (h 323) s i l) (am_row h 330 (upd (g22 330) ((l.length - 1) - 1) (((g22 330) ((l.length - 1) - 1)) + ((g22 330) (l.length - 1))))) (by omega) (by rw [rf_stl]; first | (rw [if_pos q55]; exact (hpush q55).2) | (rw [if_neg (by omega), if_pos q96, show ((nI 1 - l.getD 0 0) :: l.drop 1).length = l.length by rw [List.length_cons, List.length_drop]; omega]; exact (hnot q55 q96).2) | (rw [if_neg (by omega), if_neg q96, show (rf_ap (rf_sc (h 323) i) (l.getD 1 0) (l.getD 0 0) :: l.drop 2).length = l.length - 1 by rw [List.length_cons, List.length_drop]; omega]; exact (hbin q55 q96).2)) hev (by rw [rf_stl, if_neg (by omega), if_neg q96]; exact rf_hv_bin hv hl2 (by rw [rf_ap_9 q235])) (by rw [rf_stl]; first | (rw [if_pos q55, List.length_cons]; omega) | (rw [if_neg (by omega), if_pos q96, List.length_cons, List.length_drop]; omega) | (rw [if_neg (by omega), if_neg q96, List.length_cons, List.length_drop]; omega))
                  · skip
                    refine am_iconstN (pc := 217) (k := 1) C dX12_holdsLine_217 ?_
                    refine am_goto (pc := 218) (tgt := 222) C dX12_holdsLine_218 (by decide) ?_
                    refine am_istore (pc := 222) (ls' := [(0, .ref 322), (1, .int (nI line)), (2, .int (nI s)), (3, .int (nI (l.length - 1))), (4, .int (nI (732 + (4 * line)))), (5, .int (nI i)), (6, .int (nI (rf_sc (h 323) i))), (7, .int ((g22 330) ((l.length - 1) - 1))), (8, .int ((g22 330) (l.length - 1))), (9, .int (nI 1))]) C dX12_holdsLine_222 (by decide) rfl ?_
                    refine am_aload_n (pc := 224) C dX12_holdsLine_224 rfl ?_
                    refine am_getR (pc := 225) (j := 330) C dX12_holdsLine_225 f12_39 bn_322 sh_322 (rf_322_17 hR) ?_
                    refine am_iload_n (pc := 228) C dX12_holdsLine_228 rfl ?_
                    refine am_iconstN (pc := 229) (k := 1) C dX12_holdsLine_229 ?_
                    refine am_isubN (pc := 230) C dX12_holdsLine_230 (by omega) ?_
                    refine am_iload (pc := 231) C dX12_holdsLine_231 rfl ?_
                    refine am_bipush (pc := 233) (v := nI 9) C dX12_holdsLine_233 (by decide) ?_
                    refine am_icmp_neN (pc := 235) (tgt := 246) C dX12_holdsLine_235 (by decide) (by omega) (by omega) (fun q235 => ?_) (fun q235 => ?_)
                    · skip
                      refine am_iload (pc := 246) C dX12_holdsLine_246 rfl ?_
                      refine am_if_eqN (pc := 248) (tgt := 255) C dX12_holdsLine_248 (by decide) (by omega) (fun q248 => ?_) (fun q248 => ?_)
                      · skip
                        exact absurd q248 (by decide)
                      · skip
                        refine am_iconstN (pc := 251) (k := 1) C dX12_holdsLine_251 ?_
                        refine am_goto (pc := 252) (tgt := 256) C dX12_holdsLine_252 (by decide) ?_
                        refine am_iastore (pc := 256) C dX12_holdsLine_256 bn_330 sh_330 (vp_in_nI (by omega) (by decide)) ?_
                        refine am_hp (show am_up (am_row h 330 (g22 330)) 330 (nI ((l.length - 1) - 1)).toNatClampNeg (nI 1) = am_row (am_row h 330 (g22 330)) 330 (upd (g22 330) ((l.length - 1) - 1) (nI 1)) from by rw [nI_clamp (by omega)]; exact am_up_rw _ _ _ _) ?_
                        refine am_hp (show am_row (am_row h 330 (g22 330)) 330 (upd (g22 330) ((l.length - 1) - 1) (nI 1)) = (am_row h 330 (upd (g22 330) ((l.length - 1) - 1) (nI 1))) from am_row_s0) ?_
                        refine am_iincN (pc := 257) (ls' := [(0, .ref 322), (1, .int (nI line)), (2, .int (nI s)), (3, .int (nI (l.length - 1))), (4, .int (nI (732 + (4 * line)))), (5, .int (nI (i + 1))), (6, .int (nI (rf_sc (h 323) i))), (7, .int ((g22 330) ((l.length - 1) - 1))), (8, .int ((g22 330) (l.length - 1))), (9, .int (nI 1))]) C dX12_holdsLine_257 rfl (am_up1 _) (by decide) rfl ?_
                        refine am_goto (pc := 260) (tgt := 22) C dX12_holdsLine_260 (by decide) ?_
                        refine am_sub (ls' := [(0, .ref 322), (1, .int (nI line)), (2, .int (nI s)), (3, .int (nI (l.length - 1))), (4, .int (nI (732 + (4 * line)))), (5, .int (nI (i + 1)))]) (by intro q hq; simp only [List.mem_cons, List.not_mem_nil, or_false] at hq ⊢; rcases hq with rfl | rfl | rfl | rfl | rfl | rfl <;> simp) ?_
                        refine am_lsv (ls' := [(0, .ref 322), (1, .int (nI line)), (2, .int (nI s)), (3, .int (nI ((rf_stl (h 323) s i l).length))), (4, .int (nI (732 + (4 * line)))), (5, .int (nI (i + 1)))]) (by rw [show (nI (l.length - 1)) = (nI ((rf_stl (h 323) s i l).length)) from congrArg nI (by rw [rf_stl, if_neg (by omega), if_neg q96, List.length_cons, List.length_drop]; omega)]) ?_
                        exact ih22 (i + 1) (rf_stl (h 323) s i l) (am_row h 330 (upd (g22 330) ((l.length - 1) - 1) (nI 1))) (by omega) (by rw [rf_stl]; first | (rw [if_pos q55]; exact (hpush q55).2) | (rw [if_neg (by omega), if_pos q96, show ((nI 1 - l.getD 0 0) :: l.drop 1).length = l.length by rw [List.length_cons, List.length_drop]; omega]; exact (hnot q55 q96).2) | (rw [if_neg (by omega), if_neg q96, show (rf_ap (rf_sc (h 323) i) (l.getD 1 0) (l.getD 0 0) :: l.drop 2).length = l.length - 1 by rw [List.length_cons, List.length_drop]; omega]; exact (hbin q55 q96).2)) hev (by rw [rf_stl, if_neg (by omega), if_neg q96]; exact rf_hv_bin hv hl2 (by rw [rf_ap_14 q235 q145 q167 q189, if_pos (Int32.not_le.mp q214)])) (by rw [rf_stl]; first | (rw [if_pos q55, List.length_cons]; omega) | (rw [if_neg (by omega), if_pos q96, List.length_cons, List.length_drop]; omega) | (rw [if_neg (by omega), if_neg q96, List.length_cons, List.length_drop]; omega))
                    · skip
                      refine am_iload (pc := 238) C dX12_holdsLine_238 rfl ?_
                      refine am_iload (pc := 240) C dX12_holdsLine_240 rfl ?_
                      refine am_iadd (pc := 242) C dX12_holdsLine_242 ?_
                      refine am_goto (pc := 243) (tgt := 256) C dX12_holdsLine_243 (by decide) ?_
                      refine am_iastore (pc := 256) C dX12_holdsLine_256 bn_330 sh_330 (vp_in_nI (by omega) (by decide)) ?_
                      refine am_hp (show am_up (am_row h 330 (g22 330)) 330 (nI ((l.length - 1) - 1)).toNatClampNeg (((g22 330) ((l.length - 1) - 1)) + ((g22 330) (l.length - 1))) = am_row (am_row h 330 (g22 330)) 330 (upd (g22 330) ((l.length - 1) - 1) (((g22 330) ((l.length - 1) - 1)) + ((g22 330) (l.length - 1)))) from by rw [nI_clamp (by omega)]; exact am_up_rw _ _ _ _) ?_
                      refine am_hp (show am_row (am_row h 330 (g22 330)) 330 (upd (g22 330) ((l.length - 1) - 1) (((g22 330) ((l.length - 1) - 1)) + ((g22 330) (l.length - 1)))) = (am_row h 330 (upd (g22 330) ((l.length - 1) - 1) (((g22 330) ((l.length - 1) - 1)) + ((g22 330) (l.length - 1))))) from am_row_s0) ?_
                      refine am_iincN (pc := 257) (ls' := [(0, .ref 322), (1, .int (nI line)), (2, .int (nI s)), (3, .int (nI (l.length - 1))), (4, .int (nI (732 + (4 * line)))), (5, .int (nI (i + 1))), (6, .int (nI (rf_sc (h 323) i))), (7, .int ((g22 330) ((l.length - 1) - 1))), (8, .int ((g22 330) (l.length - 1))), (9, .int (nI 1))]) C dX12_holdsLine_257 rfl (am_up1 _) (by decide) rfl ?_
                      refine am_goto (pc := 260) (tgt := 22) C dX12_holdsLine_260 (by decide) ?_
                      refine am_sub (ls' := [(0, .ref 322), (1, .int (nI line)), (2, .int (nI s)), (3, .int (nI (l.length - 1))), (4, .int (nI (732 + (4 * line)))), (5, .int (nI (i + 1)))]) (by intro q hq; simp only [List.mem_cons, List.not_mem_nil, or_false] at hq ⊢; rcases hq with rfl | rfl | rfl | rfl | rfl | rfl <;> simp) ?_
                      refine am_lsv (ls' := [(0, .ref 322), (1, .int (nI line)), (2, .int (nI s)), (3, .int (nI ((rf_stl (h 323) s i l).length))), (4, .int (nI (732 + (4 * line)))), (5, .int (nI (i + 1)))]) (by rw [show (nI (l.length - 1)) = (nI ((rf_stl (h 323) s i l).length)) from congrArg nI (by rw [rf_stl, if_neg (by omega), if_neg q96, List.length_cons, List.length_drop]; omega)]) ?_
                      exact ih22 (i + 1) (rf_stl (h 323) s i l) (am_row h 330 (upd (g22 330) ((l.length - 1) - 1) (((g22 330) ((l.length - 1) - 1)) + ((g22 330) (l.length - 1))))) (by omega) (by rw [rf_stl]; first | (rw [if_pos q55]; exact (hpush q55).2) | (rw [if_neg (by omega), if_pos q96, show ((nI 1 - l.getD 0 0) :: l.drop 1).length = l.length by rw [List.length_cons, List.length_drop]; omega]; exact (hnot q55 q96).2) | (rw [if_neg (by omega), if_neg q96, show (rf_ap (rf_sc (h 323) i) (l.getD 1 0) (l.getD 0 0) :: l.drop 2).length = l.length - 1 by rw [List.length_cons, List.length_drop]; omega]; exact (hbin q55 q96).2)) hev (by rw [rf_stl, if_neg (by omega), if_neg q96]; exact rf_hv_bin hv hl2 (by rw [rf_ap_9 q235])) (by rw [rf_stl]; first | (rw [if_pos q55, List.length_cons]; omega) | (rw [if_neg (by omega), if_pos q96, List.length_cons, List.length_drop]; omega) | (rw [if_neg (by omega), if_neg q96, List.length_cons, List.length_drop]; omega))
                · skip
                  refine am_iload (pc := 192) C dX12_holdsLine_192 rfl ?_
                  refine am_iload (pc := 194) C dX12_holdsLine_194 rfl ?_
                  refine am_iadd (pc := 196) C dX12_holdsLine_196 ?_
                  refine am_iconstN (pc := 197) (k := 2) C dX12_holdsLine_197 ?_
                  refine am_icmp_ne (pc := 198) (tgt := 205) C dX12_holdsLine_198 (by decide) (fun q198 => ?_) (fun q198 => ?_)
                  · skip
                    refine am_iconstN (pc := 205) (k := 0) C dX12_holdsLine_205 ?_
                    refine am_goto (pc := 206) (tgt := 222) C dX12_holdsLine_206 (by decide) ?_
                    refine am_istore (pc := 222) (ls' := [(0, .ref 322), (1, .int (nI line)), (2, .int (nI s)), (3, .int (nI (l.length - 1))), (4, .int (nI (732 + (4 * line)))), (5, .int (nI i)), (6, .int (nI (rf_sc (h 323) i))), (7, .int ((g22 330) ((l.length - 1) - 1))), (8, .int ((g22 330) (l.length - 1))), (9, .int (nI 0))]) C dX12_holdsLine_222 (by decide) rfl ?_
                    refine am_aload_n (pc := 224) C dX12_holdsLine_224 rfl ?_
                    refine am_getR (pc := 225) (j := 330) C dX12_holdsLine_225 f12_39 bn_322 sh_322 (rf_322_17 hR) ?_
                    refine am_iload_n (pc := 228) C dX12_holdsLine_228 rfl ?_
                    refine am_iconstN (pc := 229) (k := 1) C dX12_holdsLine_229 ?_
                    refine am_isubN (pc := 230) C dX12_holdsLine_230 (by omega) ?_
                    refine am_iload (pc := 231) C dX12_holdsLine_231 rfl ?_
                    refine am_bipush (pc := 233) (v := nI 9) C dX12_holdsLine_233 (by decide) ?_
                    refine am_icmp_neN (pc := 235) (tgt := 246) C dX12_holdsLine_235 (by decide) (by omega) (by omega) (fun q235 => ?_) (fun q235 => ?_)
                    · skip
                      refine am_iload (pc := 246) C dX12_holdsLine_246 rfl ?_
                      refine am_if_eqN (pc := 248) (tgt := 255) C dX12_holdsLine_248 (by decide) (by omega) (fun q248 => ?_) (fun q248 => ?_)
                      · skip
                        refine am_iconstN (pc := 255) (k := 0) C dX12_holdsLine_255 ?_
                        refine am_iastore (pc := 256) C dX12_holdsLine_256 bn_330 sh_330 (vp_in_nI (by omega) (by decide)) ?_
                        refine am_hp (show am_up (am_row h 330 (g22 330)) 330 (nI ((l.length - 1) - 1)).toNatClampNeg (nI 0) = am_row (am_row h 330 (g22 330)) 330 (upd (g22 330) ((l.length - 1) - 1) (nI 0)) from by rw [nI_clamp (by omega)]; exact am_up_rw _ _ _ _) ?_
                        refine am_hp (show am_row (am_row h 330 (g22 330)) 330 (upd (g22 330) ((l.length - 1) - 1) (nI 0)) = (am_row h 330 (upd (g22 330) ((l.length - 1) - 1) (nI 0))) from am_row_s0) ?_
                        refine am_iincN (pc := 257) (ls' := [(0, .ref 322), (1, .int (nI line)), (2, .int (nI s)), (3, .int (nI (l.length - 1))), (4, .int (nI (732 + (4 * line)))), (5, .int (nI (i + 1))), (6, .int (nI (rf_sc (h 323) i))), (7, .int ((g22 330) ((l.length - 1) - 1))), (8, .int ((g22 330) (l.length - 1))), (9, .int (nI 0))]) C dX12_holdsLine_257 rfl (am_up1 _) (by decide) rfl ?_
                        refine am_goto (pc := 260) (tgt := 22) C dX12_holdsLine_260 (by decide) ?_
                        refine am_sub (ls' := [(0, .ref 322), (1, .int (nI line)), (2, .int (nI s)), (3, .int (nI (l.length - 1))), (4, .int (nI (732 + (4 * line)))), (5, .int (nI (i + 1)))]) (by intro q hq; simp only [List.mem_cons, List.not_mem_nil, or_false] at hq ⊢; rcases hq with rfl | rfl | rfl | rfl | rfl | rfl <;> simp) ?_
                        refine am_lsv (ls' := [(0, .ref 322), (1, .int (nI line)), (2, .int (nI s)), (3, .int (nI ((rf_stl (h 323) s i l).length))), (4, .int (nI (732 + (4 * line)))), (5, .int (nI (i + 1)))]) (by rw [show (nI (l.length - 1)) = (nI ((rf_stl (h 323) s i l).length)) from congrArg nI (by rw [rf_stl, if_neg (by omega), if_neg q96, List.length_cons, List.length_drop]; omega)]) ?_
                        exact ih22 (i + 1) (rf_stl (h 323) s i l) (am_row h 330 (upd (g22 330) ((l.length - 1) - 1) (nI 0))) (by omega) (by rw [rf_stl]; first | (rw [if_pos q55]; exact (hpush q55).2) | (rw [if_neg (by omega), if_pos q96, show ((nI 1 - l.getD 0 0) :: l.drop 1).length = l.length by rw [List.length_cons, List.length_drop]; omega]; exact (hnot q55 q96).2) | (rw [if_neg (by omega), if_neg q96, show (rf_ap (rf_sc (h 323) i) (l.getD 1 0) (l.getD 0 0) :: l.drop 2).length = l.length - 1 by rw [List.length_cons, List.length_drop]; omega]; exact (hbin q55 q96).2)) hev (by rw [rf_stl, if_neg (by omega), if_neg q96]; exact rf_hv_bin hv hl2 (by rw [rf_ap_13 q189, if_neg q198])) (by rw [rf_stl]; first | (rw [if_pos q55, List.length_cons]; omega) | (rw [if_neg (by omega), if_pos q96, List.length_cons, List.length_drop]; omega) | (rw [if_neg (by omega), if_neg q96, List.length_cons, List.length_drop]; omega))
                      · skip
                        exact absurd q248 (by decide)
                    · skip
                      refine am_iload (pc := 238) C dX12_holdsLine_238 rfl ?_
                      refine am_iload (pc := 240) C dX12_holdsLine_240 rfl ?_
                      refine am_iadd (pc := 242) C dX12_holdsLine_242 ?_
                      refine am_goto (pc := 243) (tgt := 256) C dX12_holdsLine_243 (by decide) ?_
                      refine am_iastore (pc := 256) C dX12_holdsLine_256 bn_330 sh_330 (vp_in_nI (by omega) (by decide)) ?_
                      refine am_hp (show am_up (am_row h 330 (g22 330)) 330 (nI ((l.length - 1) - 1)).toNatClampNeg (((g22 330) ((l.length - 1) - 1)) + ((g22 330) (l.length - 1))) = am_row (am_row h 330 (g22 330)) 330 (upd (g22 330) ((l.length - 1) - 1) (((g22 330) ((l.length - 1) - 1)) + ((g22 330) (l.length - 1)))) from by rw [nI_clamp (by omega)]; exact am_up_rw _ _ _ _) ?_
                      refine am_hp (show am_row (am_row h 330 (g22 330)) 330 (upd (g22 330) ((l.length - 1) - 1) (((g22 330) ((l.length - 1) - 1)) + ((g22 330) (l.length - 1)))) = (am_row h 330 (upd (g22 330) ((l.length - 1) - 1) (((g22 330) ((l.length - 1) - 1)) + ((g22 330) (l.length - 1))))) from am_row_s0) ?_
                      refine am_iincN (pc := 257) (ls' := [(0, .ref 322), (1, .int (nI line)), (2, .int (nI s)), (3, .int (nI (l.length - 1))), (4, .int (nI (732 + (4 * line)))), (5, .int (nI (i + 1))), (6, .int (nI (rf_sc (h 323) i))), (7, .int ((g22 330) ((l.length - 1) - 1))), (8, .int ((g22 330) (l.length - 1))), (9, .int (nI 0))]) C dX12_holdsLine_257 rfl (am_up1 _) (by decide) rfl ?_
                      refine am_goto (pc := 260) (tgt := 22) C dX12_holdsLine_260 (by decide) ?_
                      refine am_sub (ls' := [(0, .ref 322), (1, .int (nI line)), (2, .int (nI s)), (3, .int (nI (l.length - 1))), (4, .int (nI (732 + (4 * line)))), (5, .int (nI (i + 1)))]) (by intro q hq; simp only [List.mem_cons, List.not_mem_nil, or_false] at hq ⊢; rcases hq with rfl | rfl | rfl | rfl | rfl | rfl <;> simp) ?_
                      refine am_lsv (ls' := [(0, .ref 322), (1, .int (nI line)), (2, .int (nI s)), (3, .int (nI ((rf_stl (h 323) s i l).length))), (4, .int (nI (732 + (4 * line)))), (5, .int (nI (i + 1)))]) (by rw [show (nI (l.length - 1)) = (nI ((rf_stl (h 323) s i l).length)) from congrArg nI (by rw [rf_stl, if_neg (by omega), if_neg q96, List.length_cons, List.length_drop]; omega)]) ?_
                      exact ih22 (i + 1) (rf_stl (h 323) s i l) (am_row h 330 (upd (g22 330) ((l.length - 1) - 1) (((g22 330) ((l.length - 1) - 1)) + ((g22 330) (l.length - 1))))) (by omega) (by rw [rf_stl]; first | (rw [if_pos q55]; exact (hpush q55).2) | (rw [if_neg (by omega), if_pos q96, show ((nI 1 - l.getD 0 0) :: l.drop 1).length = l.length by rw [List.length_cons, List.length_drop]; omega]; exact (hnot q55 q96).2) | (rw [if_neg (by omega), if_neg q96, show (rf_ap (rf_sc (h 323) i) (l.getD 1 0) (l.getD 0 0) :: l.drop 2).length = l.length - 1 by rw [List.length_cons, List.length_drop]; omega]; exact (hbin q55 q96).2)) hev (by rw [rf_stl, if_neg (by omega), if_neg q96]; exact rf_hv_bin hv hl2 (by rw [rf_ap_9 q235])) (by rw [rf_stl]; first | (rw [if_pos q55, List.length_cons]; omega) | (rw [if_neg (by omega), if_pos q96, List.length_cons, List.length_drop]; omega) | (rw [if_neg (by omega), if_neg q96, List.length_cons, List.length_drop]; omega))
                  · skip
                    refine am_iconstN (pc := 201) (k := 1) C dX12_holdsLine_201 ?_
                    refine am_goto (pc := 202) (tgt := 222) C dX12_holdsLine_202 (by decide) ?_
                    refine am_istore (pc := 222) (ls' := [(0, .ref 322), (1, .int (nI line)), (2, .int (nI s)), (3, .int (nI (l.length - 1))), (4, .int (nI (732 + (4 * line)))), (5, .int (nI i)), (6, .int (nI (rf_sc (h 323) i))), (7, .int ((g22 330) ((l.length - 1) - 1))), (8, .int ((g22 330) (l.length - 1))), (9, .int (nI 1))]) C dX12_holdsLine_222 (by decide) rfl ?_
                    refine am_aload_n (pc := 224) C dX12_holdsLine_224 rfl ?_
                    refine am_getR (pc := 225) (j := 330) C dX12_holdsLine_225 f12_39 bn_322 sh_322 (rf_322_17 hR) ?_
                    refine am_iload_n (pc := 228) C dX12_holdsLine_228 rfl ?_
                    refine am_iconstN (pc := 229) (k := 1) C dX12_holdsLine_229 ?_
                    refine am_isubN (pc := 230) C dX12_holdsLine_230 (by omega) ?_
                    refine am_iload (pc := 231) C dX12_holdsLine_231 rfl ?_
                    refine am_bipush (pc := 233) (v := nI 9) C dX12_holdsLine_233 (by decide) ?_
                    refine am_icmp_neN (pc := 235) (tgt := 246) C dX12_holdsLine_235 (by decide) (by omega) (by omega) (fun q235 => ?_) (fun q235 => ?_)
                    · skip
                      refine am_iload (pc := 246) C dX12_holdsLine_246 rfl ?_
                      refine am_if_eqN (pc := 248) (tgt := 255) C dX12_holdsLine_248 (by decide) (by omega) (fun q248 => ?_) (fun q248 => ?_)
                      · skip
                        exact absurd q248 (by decide)
                      · skip
                        refine am_iconstN (pc := 251) (k := 1) C dX12_holdsLine_251 ?_
                        refine am_goto (pc := 252) (tgt := 256) C dX12_holdsLine_252 (by decide) ?_
                        refine am_iastore (pc := 256) C dX12_holdsLine_256 bn_330 sh_330 (vp_in_nI (by omega) (by decide)) ?_
                        refine am_hp (show am_up (am_row h 330 (g22 330)) 330 (nI ((l.length - 1) - 1)).toNatClampNeg (nI 1) = am_row (am_row h 330 (g22 330)) 330 (upd (g22 330) ((l.length - 1) - 1) (nI 1)) from by rw [nI_clamp (by omega)]; exact am_up_rw _ _ _ _) ?_
                        refine am_hp (show am_row (am_row h 330 (g22 330)) 330 (upd (g22 330) ((l.length - 1) - 1) (nI 1)) = (am_row h 330 (upd (g22 330) ((l.length - 1) - 1) (nI 1))) from am_row_s0) ?_
                        refine am_iincN (pc := 257) (ls' := [(0, .ref 322), (1, .int (nI line)), (2, .int (nI s)), (3, .int (nI (l.length - 1))), (4, .int (nI (732 + (4 * line)))), (5, .int (nI (i + 1))), (6, .int (nI (rf_sc (h 323) i))), (7, .int ((g22 330) ((l.length - 1) - 1))), (8, .int ((g22 330) (l.length - 1))), (9, .int (nI 1))]) C dX12_holdsLine_257 rfl (am_up1 _) (by decide) rfl ?_
                        refine am_goto (pc := 260) (tgt := 22) C dX12_holdsLine_260 (by decide) ?_
                        refine am_sub (ls' := [(0, .ref 322), (1, .int (nI line)), (2, .int (nI s)), (3, .int (nI (l.length - 1))), (4, .int (nI (732 + (4 * line)))), (5, .int (nI (i + 1)))]) (by intro q hq; simp only [List.mem_cons, List.not_mem_nil, or_false] at hq ⊢; rcases hq with rfl | rfl | rfl | rfl | rfl | rfl <;> simp) ?_
                        refine am_lsv (ls' := [(0, .ref 322), (1, .int (nI line)), (2, .int (nI s)), (3, .int (nI ((rf_stl (h 323) s i l).length))), (4, .int (nI (732 + (4 * line)))), (5, .int (nI (i + 1)))]) (by rw [show (nI (l.length - 1)) = (nI ((rf_stl (h 323) s i l).length)) from congrArg nI (by rw [rf_stl, if_neg (by omega), if_neg q96, List.length_cons, List.length_drop]; omega)]) ?_
                        exact ih22 (i + 1) (rf_stl (h 323) s i l) (am_row h 330 (upd (g22 330) ((l.length - 1) - 1) (nI 1))) (by omega) (by rw [rf_stl]; first | (rw [if_pos q55]; exact (hpush q55).2) | (rw [if_neg (by omega), if_pos q96, show ((nI 1 - l.getD 0 0) :: l.drop 1).length = l.length by rw [List.length_cons, List.length_drop]; omega]; exact (hnot q55 q96).2) | (rw [if_neg (by omega), if_neg q96, show (rf_ap (rf_sc (h 323) i) (l.getD 1 0) (l.getD 0 0) :: l.drop 2).length = l.length - 1 by rw [List.length_cons, List.length_drop]; omega]; exact (hbin q55 q96).2)) hev (by rw [rf_stl, if_neg (by omega), if_neg q96]; exact rf_hv_bin hv hl2 (by rw [rf_ap_13 q189, if_pos q198])) (by rw [rf_stl]; first | (rw [if_pos q55, List.length_cons]; omega) | (rw [if_neg (by omega), if_pos q96, List.length_cons, List.length_drop]; omega) | (rw [if_neg (by omega), if_neg q96, List.length_cons, List.length_drop]; omega))
                    · skip
                      refine am_iload (pc := 238) C dX12_holdsLine_238 rfl ?_
                      refine am_iload (pc := 240) C dX12_holdsLine_240 rfl ?_
                      refine am_iadd (pc := 242) C dX12_holdsLine_242 ?_
                      refine am_goto (pc := 243) (tgt := 256) C dX12_holdsLine_243 (by decide) ?_
                      refine am_iastore (pc := 256) C dX12_holdsLine_256 bn_330 sh_330 (vp_in_nI (by omega) (by decide)) ?_
                      refine am_hp (show am_up (am_row h 330 (g22 330)) 330 (nI ((l.length - 1) - 1)).toNatClampNeg (((g22 330) ((l.length - 1) - 1)) + ((g22 330) (l.length - 1))) = am_row (am_row h 330 (g22 330)) 330 (upd (g22 330) ((l.length - 1) - 1) (((g22 330) ((l.length - 1) - 1)) + ((g22 330) (l.length - 1)))) from by rw [nI_clamp (by omega)]; exact am_up_rw _ _ _ _) ?_
                      refine am_hp (show am_row (am_row h 330 (g22 330)) 330 (upd (g22 330) ((l.length - 1) - 1) (((g22 330) ((l.length - 1) - 1)) + ((g22 330) (l.length - 1)))) = (am_row h 330 (upd (g22 330) ((l.length - 1) - 1) (((g22 330) ((l.length - 1) - 1)) + ((g22 330) (l.length - 1))))) from am_row_s0) ?_
                      refine am_iincN (pc := 257) (ls' := [(0, .ref 322), (1, .int (nI line)), (2, .int (nI s)), (3, .int (nI (l.length - 1))), (4, .int (nI (732 + (4 * line)))), (5, .int (nI (i + 1))), (6, .int (nI (rf_sc (h 323) i))), (7, .int ((g22 330) ((l.length - 1) - 1))), (8, .int ((g22 330) (l.length - 1))), (9, .int (nI 1))]) C dX12_holdsLine_257 rfl (am_up1 _) (by decide) rfl ?_
                      refine am_goto (pc := 260) (tgt := 22) C dX12_holdsLine_260 (by decide) ?_
                      refine am_sub (ls' := [(0, .ref 322), (1, .int (nI line)), (2, .int (nI s)), (3, .int (nI (l.length - 1))), (4, .int (nI (732 + (4 * line)))), (5, .int (nI (i + 1)))]) (by intro q hq; simp only [List.mem_cons, List.not_mem_nil, or_false] at hq ⊢; rcases hq with rfl | rfl | rfl | rfl | rfl | rfl <;> simp) ?_
                      refine am_lsv (ls' := [(0, .ref 322), (1, .int (nI line)), (2, .int (nI s)), (3, .int (nI ((rf_stl (h 323) s i l).length))), (4, .int (nI (732 + (4 * line)))), (5, .int (nI (i + 1)))]) (by rw [show (nI (l.length - 1)) = (nI ((rf_stl (h 323) s i l).length)) from congrArg nI (by rw [rf_stl, if_neg (by omega), if_neg q96, List.length_cons, List.length_drop]; omega)]) ?_
                      exact ih22 (i + 1) (rf_stl (h 323) s i l) (am_row h 330 (upd (g22 330) ((l.length - 1) - 1) (((g22 330) ((l.length - 1) - 1)) + ((g22 330) (l.length - 1))))) (by omega) (by rw [rf_stl]; first | (rw [if_pos q55]; exact (hpush q55).2) | (rw [if_neg (by omega), if_pos q96, show ((nI 1 - l.getD 0 0) :: l.drop 1).length = l.length by rw [List.length_cons, List.length_drop]; omega]; exact (hnot q55 q96).2) | (rw [if_neg (by omega), if_neg q96, show (rf_ap (rf_sc (h 323) i) (l.getD 1 0) (l.getD 0 0) :: l.drop 2).length = l.length - 1 by rw [List.length_cons, List.length_drop]; omega]; exact (hbin q55 q96).2)) hev (by rw [rf_stl, if_neg (by omega), if_neg q96]; exact rf_hv_bin hv hl2 (by rw [rf_ap_9 q235])) (by rw [rf_stl]; first | (rw [if_pos q55, List.length_cons]; omega) | (rw [if_neg (by omega), if_pos q96, List.length_cons, List.length_drop]; omega) | (rw [if_neg (by omega), if_neg q96, List.length_cons, List.length_drop]; omega))
              · skip
                refine am_iload (pc := 170) C dX12_holdsLine_170 rfl ?_
                refine am_iload (pc := 172) C dX12_holdsLine_172 rfl ?_
                refine am_icmp_le (pc := 174) (tgt := 181) C dX12_holdsLine_174 (by decide) (fun q174 => ?_) (fun q174 => ?_)
                · skip
                  refine am_iconstN (pc := 181) (k := 0) C dX12_holdsLine_181 ?_
                  refine am_goto (pc := 182) (tgt := 222) C dX12_holdsLine_182 (by decide) ?_
                  refine am_istore (pc := 222) (ls' := [(0, .ref 322), (1, .int (nI line)), (2, .int (nI s)), (3, .int (nI (l.length - 1))), (4, .int (nI (732 + (4 * line)))), (5, .int (nI i)), (6, .int (nI (rf_sc (h 323) i))), (7, .int ((g22 330) ((l.length - 1) - 1))), (8, .int ((g22 330) (l.length - 1))), (9, .int (nI 0))]) C dX12_holdsLine_222 (by decide) rfl ?_
                  refine am_aload_n (pc := 224) C dX12_holdsLine_224 rfl ?_
                  refine am_getR (pc := 225) (j := 330) C dX12_holdsLine_225 f12_39 bn_322 sh_322 (rf_322_17 hR) ?_
                  refine am_iload_n (pc := 228) C dX12_holdsLine_228 rfl ?_
                  refine am_iconstN (pc := 229) (k := 1) C dX12_holdsLine_229 ?_
                  refine am_isubN (pc := 230) C dX12_holdsLine_230 (by omega) ?_
                  refine am_iload (pc := 231) C dX12_holdsLine_231 rfl ?_
                  refine am_bipush (pc := 233) (v := nI 9) C dX12_holdsLine_233 (by decide) ?_
                  refine am_icmp_neN (pc := 235) (tgt := 246) C dX12_holdsLine_235 (by decide) (by omega) (by omega) (fun q235 => ?_) (fun q235 => ?_)
                  · skip
                    refine am_iload (pc := 246) C dX12_holdsLine_246 rfl ?_
                    refine am_if_eqN (pc := 248) (tgt := 255) C dX12_holdsLine_248 (by decide) (by omega) (fun q248 => ?_) (fun q248 => ?_)
                    · skip
                      refine am_iconstN (pc := 255) (k := 0) C dX12_holdsLine_255 ?_
                      refine am_iastore (pc := 256) C dX12_holdsLine_256 bn_330 sh_330 (vp_in_nI (by omega) (by decide)) ?_
                      refine am_hp (show am_up (am_row h 330 (g22 330)) 330 (nI ((l.length - 1) - 1)).toNatClampNeg (nI 0) = am_row (am_row h 330 (g22 330)) 330 (upd (g22 330) ((l.length - 1) - 1) (nI 0)) from by rw [nI_clamp (by omega)]; exact am_up_rw _ _ _ _) ?_
                      refine am_hp (show am_row (am_row h 330 (g22 330)) 330 (upd (g22 330) ((l.length - 1) - 1) (nI 0)) = (am_row h 330 (upd (g22 330) ((l.length - 1) - 1) (nI 0))) from am_row_s0) ?_
                      refine am_iincN (pc := 257) (ls' := [(0, .ref 322), (1, .int (nI line)), (2, .int (nI s)), (3, .int (nI (l.length - 1))), (4, .int (nI (732 + (4 * line)))), (5, .int (nI (i + 1))), (6, .int (nI (rf_sc (h 323) i))), (7, .int ((g22 330) ((l.length - 1) - 1))), (8, .int ((g22 330) (l.length - 1))), (9, .int (nI 0))]) C dX12_holdsLine_257 rfl (am_up1 _) (by decide) rfl ?_
                      refine am_goto (pc := 260) (tgt := 22) C dX12_holdsLine_260 (by decide) ?_
                      refine am_sub (ls' := [(0, .ref 322), (1, .int (nI line)), (2, .int (nI s)), (3, .int (nI (l.length - 1))), (4, .int (nI (732 + (4 * line)))), (5, .int (nI (i + 1)))]) (by intro q hq; simp only [List.mem_cons, List.not_mem_nil, or_false] at hq ⊢; rcases hq with rfl | rfl | rfl | rfl | rfl | rfl <;> simp) ?_
                      refine am_lsv (ls' := [(0, .ref 322), (1, .int (nI line)), (2, .int (nI s)), (3, .int (nI ((rf_stl (h 323) s i l).length))), (4, .int (nI (732 + (4 * line)))), (5, .int (nI (i + 1)))]) (by rw [show (nI (l.length - 1)) = (nI ((rf_stl (h 323) s i l).length)) from congrArg nI (by rw [rf_stl, if_neg (by omega), if_neg q96, List.length_cons, List.length_drop]; omega)]) ?_
                      exact ih22 (i + 1) (rf_stl (h 323) s i l) (am_row h 330 (upd (g22 330) ((l.length - 1) - 1) (nI 0))) (by omega) (by rw [rf_stl]; first | (rw [if_pos q55]; exact (hpush q55).2) | (rw [if_neg (by omega), if_pos q96, show ((nI 1 - l.getD 0 0) :: l.drop 1).length = l.length by rw [List.length_cons, List.length_drop]; omega]; exact (hnot q55 q96).2) | (rw [if_neg (by omega), if_neg q96, show (rf_ap (rf_sc (h 323) i) (l.getD 1 0) (l.getD 0 0) :: l.drop 2).length = l.length - 1 by rw [List.length_cons, List.length_drop]; omega]; exact (hbin q55 q96).2)) hev (by rw [rf_stl, if_neg (by omega), if_neg q96]; exact rf_hv_bin hv hl2 (by rw [rf_ap_11 q167, if_neg (Int32.not_lt.mpr q174)])) (by rw [rf_stl]; first | (rw [if_pos q55, List.length_cons]; omega) | (rw [if_neg (by omega), if_pos q96, List.length_cons, List.length_drop]; omega) | (rw [if_neg (by omega), if_neg q96, List.length_cons, List.length_drop]; omega))
                    · skip
                      exact absurd q248 (by decide)
                  · skip
                    refine am_iload (pc := 238) C dX12_holdsLine_238 rfl ?_
                    refine am_iload (pc := 240) C dX12_holdsLine_240 rfl ?_
                    refine am_iadd (pc := 242) C dX12_holdsLine_242 ?_
                    refine am_goto (pc := 243) (tgt := 256) C dX12_holdsLine_243 (by decide) ?_
                    refine am_iastore (pc := 256) C dX12_holdsLine_256 bn_330 sh_330 (vp_in_nI (by omega) (by decide)) ?_
                    refine am_hp (show am_up (am_row h 330 (g22 330)) 330 (nI ((l.length - 1) - 1)).toNatClampNeg (((g22 330) ((l.length - 1) - 1)) + ((g22 330) (l.length - 1))) = am_row (am_row h 330 (g22 330)) 330 (upd (g22 330) ((l.length - 1) - 1) (((g22 330) ((l.length - 1) - 1)) + ((g22 330) (l.length - 1)))) from by rw [nI_clamp (by omega)]; exact am_up_rw _ _ _ _) ?_
                    refine am_hp (show am_row (am_row h 330 (g22 330)) 330 (upd (g22 330) ((l.length - 1) - 1) (((g22 330) ((l.length - 1) - 1)) + ((g22 330) (l.length - 1)))) = (am_row h 330 (upd (g22 330) ((l.length - 1) - 1) (((g22 330) ((l.length - 1) - 1)) + ((g22 330) (l.length - 1))))) from am_row_s0) ?_
                    refine am_iincN (pc := 257) (ls' := [(0, .ref 322), (1, .int (nI line)), (2, .int (nI s)), (3, .int (nI (l.length - 1))), (4, .int (nI (732 + (4 * line)))), (5, .int (nI (i + 1))), (6, .int (nI (rf_sc (h 323) i))), (7, .int ((g22 330) ((l.length - 1) - 1))), (8, .int ((g22 330) (l.length - 1))), (9, .int (nI 0))]) C dX12_holdsLine_257 rfl (am_up1 _) (by decide) rfl ?_
                    refine am_goto (pc := 260) (tgt := 22) C dX12_holdsLine_260 (by decide) ?_
                    refine am_sub (ls' := [(0, .ref 322), (1, .int (nI line)), (2, .int (nI s)), (3, .int (nI (l.length - 1))), (4, .int (nI (732 + (4 * line)))), (5, .int (nI (i + 1)))]) (by intro q hq; simp only [List.mem_cons, List.not_mem_nil, or_false] at hq ⊢; rcases hq with rfl | rfl | rfl | rfl | rfl | rfl <;> simp) ?_
                    refine am_lsv (ls' := [(0, .ref 322), (1, .int (nI line)), (2, .int (nI s)), (3, .int (nI ((rf_stl (h 323) s i l).length))), (4, .int (nI (732 + (4 * line)))), (5, .int (nI (i + 1)))]) (by rw [show (nI (l.length - 1)) = (nI ((rf_stl (h 323) s i l).length)) from congrArg nI (by rw [rf_stl, if_neg (by omega), if_neg q96, List.length_cons, List.length_drop]; omega)]) ?_
                    exact ih22 (i + 1) (rf_stl (h 323) s i l) (am_row h 330 (upd (g22 330) ((l.length - 1) - 1) (((g22 330) ((l.length - 1) - 1)) + ((g22 330) (l.length - 1))))) (by omega) (by rw [rf_stl]; first | (rw [if_pos q55]; exact (hpush q55).2) | (rw [if_neg (by omega), if_pos q96, show ((nI 1 - l.getD 0 0) :: l.drop 1).length = l.length by rw [List.length_cons, List.length_drop]; omega]; exact (hnot q55 q96).2) | (rw [if_neg (by omega), if_neg q96, show (rf_ap (rf_sc (h 323) i) (l.getD 1 0) (l.getD 0 0) :: l.drop 2).length = l.length - 1 by rw [List.length_cons, List.length_drop]; omega]; exact (hbin q55 q96).2)) hev (by rw [rf_stl, if_neg (by omega), if_neg q96]; exact rf_hv_bin hv hl2 (by rw [rf_ap_9 q235])) (by rw [rf_stl]; first | (rw [if_pos q55, List.length_cons]; omega) | (rw [if_neg (by omega), if_pos q96, List.length_cons, List.length_drop]; omega) | (rw [if_neg (by omega), if_neg q96, List.length_cons, List.length_drop]; omega))
                · skip
                  refine am_iconstN (pc := 177) (k := 1) C dX12_holdsLine_177 ?_
                  refine am_goto (pc := 178) (tgt := 222) C dX12_holdsLine_178 (by decide) ?_
                  refine am_istore (pc := 222) (ls' := [(0, .ref 322), (1, .int (nI line)), (2, .int (nI s)), (3, .int (nI (l.length - 1))), (4, .int (nI (732 + (4 * line)))), (5, .int (nI i)), (6, .int (nI (rf_sc (h 323) i))), (7, .int ((g22 330) ((l.length - 1) - 1))), (8, .int ((g22 330) (l.length - 1))), (9, .int (nI 1))]) C dX12_holdsLine_222 (by decide) rfl ?_
                  refine am_aload_n (pc := 224) C dX12_holdsLine_224 rfl ?_
                  refine am_getR (pc := 225) (j := 330) C dX12_holdsLine_225 f12_39 bn_322 sh_322 (rf_322_17 hR) ?_
                  refine am_iload_n (pc := 228) C dX12_holdsLine_228 rfl ?_
                  refine am_iconstN (pc := 229) (k := 1) C dX12_holdsLine_229 ?_
                  refine am_isubN (pc := 230) C dX12_holdsLine_230 (by omega) ?_
                  refine am_iload (pc := 231) C dX12_holdsLine_231 rfl ?_
                  refine am_bipush (pc := 233) (v := nI 9) C dX12_holdsLine_233 (by decide) ?_
                  refine am_icmp_neN (pc := 235) (tgt := 246) C dX12_holdsLine_235 (by decide) (by omega) (by omega) (fun q235 => ?_) (fun q235 => ?_)
                  · skip
                    refine am_iload (pc := 246) C dX12_holdsLine_246 rfl ?_
                    refine am_if_eqN (pc := 248) (tgt := 255) C dX12_holdsLine_248 (by decide) (by omega) (fun q248 => ?_) (fun q248 => ?_)
                    · skip
                      exact absurd q248 (by decide)
                    · skip
                      refine am_iconstN (pc := 251) (k := 1) C dX12_holdsLine_251 ?_
                      refine am_goto (pc := 252) (tgt := 256) C dX12_holdsLine_252 (by decide) ?_
                      refine am_iastore (pc := 256) C dX12_holdsLine_256 bn_330 sh_330 (vp_in_nI (by omega) (by decide)) ?_
                      refine am_hp (show am_up (am_row h 330 (g22 330)) 330 (nI ((l.length - 1) - 1)).toNatClampNeg (nI 1) = am_row (am_row h 330 (g22 330)) 330 (upd (g22 330) ((l.length - 1) - 1) (nI 1)) from by rw [nI_clamp (by omega)]; exact am_up_rw _ _ _ _) ?_
                      refine am_hp (show am_row (am_row h 330 (g22 330)) 330 (upd (g22 330) ((l.length - 1) - 1) (nI 1)) = (am_row h 330 (upd (g22 330) ((l.length - 1) - 1) (nI 1))) from am_row_s0) ?_
                      refine am_iincN (pc := 257) (ls' := [(0, .ref 322), (1, .int (nI line)), (2, .int (nI s)), (3, .int (nI (l.length - 1))), (4, .int (nI (732 + (4 * line)))), (5, .int (nI (i + 1))), (6, .int (nI (rf_sc (h 323) i))), (7, .int ((g22 330) ((l.length - 1) - 1))), (8, .int ((g22 330) (l.length - 1))), (9, .int (nI 1))]) C dX12_holdsLine_257 rfl (am_up1 _) (by decide) rfl ?_
                      refine am_goto (pc := 260) (tgt := 22) C dX12_holdsLine_260 (by decide) ?_
                      refine am_sub (ls' := [(0, .ref 322), (1, .int (nI line)), (2, .int (nI s)), (3, .int (nI (l.length - 1))), (4, .int (nI (732 + (4 * line)))), (5, .int (nI (i + 1)))]) (by intro q hq; simp only [List.mem_cons, List.not_mem_nil, or_false] at hq ⊢; rcases hq with rfl | rfl | rfl | rfl | rfl | rfl <;> simp) ?_
                      refine am_lsv (ls' := [(0, .ref 322), (1, .int (nI line)), (2, .int (nI s)), (3, .int (nI ((rf_stl (h 323) s i l).length))), (4, .int (nI (732 + (4 * line)))), (5, .int (nI (i + 1)))]) (by rw [show (nI (l.length - 1)) = (nI ((rf_stl (h 323) s i l).length)) from congrArg nI (by rw [rf_stl, if_neg (by omega), if_neg q96, List.length_cons, List.length_drop]; omega)]) ?_
                      exact ih22 (i + 1) (rf_stl (h 323) s i l) (am_row h 330 (upd (g22 330) ((l.length - 1) - 1) (nI 1))) (by omega) (by rw [rf_stl]; first | (rw [if_pos q55]; exact (hpush q55).2) | (rw [if_neg (by omega), if_pos q96, show ((nI 1 - l.getD 0 0) :: l.drop 1).length = l.length by rw [List.length_cons, List.length_drop]; omega]; exact (hnot q55 q96).2) | (rw [if_neg (by omega), if_neg q96, show (rf_ap (rf_sc (h 323) i) (l.getD 1 0) (l.getD 0 0) :: l.drop 2).length = l.length - 1 by rw [List.length_cons, List.length_drop]; omega]; exact (hbin q55 q96).2)) hev (by rw [rf_stl, if_neg (by omega), if_neg q96]; exact rf_hv_bin hv hl2 (by rw [rf_ap_11 q167, if_pos (Int32.not_le.mp q174)])) (by rw [rf_stl]; first | (rw [if_pos q55, List.length_cons]; omega) | (rw [if_neg (by omega), if_pos q96, List.length_cons, List.length_drop]; omega) | (rw [if_neg (by omega), if_neg q96, List.length_cons, List.length_drop]; omega))
                  · skip
                    refine am_iload (pc := 238) C dX12_holdsLine_238 rfl ?_
                    refine am_iload (pc := 240) C dX12_holdsLine_240 rfl ?_
                    refine am_iadd (pc := 242) C dX12_holdsLine_242 ?_
                    refine am_goto (pc := 243) (tgt := 256) C dX12_holdsLine_243 (by decide) ?_
                    refine am_iastore (pc := 256) C dX12_holdsLine_256 bn_330 sh_330 (vp_in_nI (by omega) (by decide)) ?_
                    refine am_hp (show am_up (am_row h 330 (g22 330)) 330 (nI ((l.length - 1) - 1)).toNatClampNeg (((g22 330) ((l.length - 1) - 1)) + ((g22 330) (l.length - 1))) = am_row (am_row h 330 (g22 330)) 330 (upd (g22 330) ((l.length - 1) - 1) (((g22 330) ((l.length - 1) - 1)) + ((g22 330) (l.length - 1)))) from by rw [nI_clamp (by omega)]; exact am_up_rw _ _ _ _) ?_
                    refine am_hp (show am_row (am_row h 330 (g22 330)) 330 (upd (g22 330) ((l.length - 1) - 1) (((g22 330) ((l.length - 1) - 1)) + ((g22 330) (l.length - 1)))) = (am_row h 330 (upd (g22 330) ((l.length - 1) - 1) (((g22 330) ((l.length - 1) - 1)) + ((g22 330) (l.length - 1))))) from am_row_s0) ?_
                    refine am_iincN (pc := 257) (ls' := [(0, .ref 322), (1, .int (nI line)), (2, .int (nI s)), (3, .int (nI (l.length - 1))), (4, .int (nI (732 + (4 * line)))), (5, .int (nI (i + 1))), (6, .int (nI (rf_sc (h 323) i))), (7, .int ((g22 330) ((l.length - 1) - 1))), (8, .int ((g22 330) (l.length - 1))), (9, .int (nI 1))]) C dX12_holdsLine_257 rfl (am_up1 _) (by decide) rfl ?_
                    refine am_goto (pc := 260) (tgt := 22) C dX12_holdsLine_260 (by decide) ?_
                    refine am_sub (ls' := [(0, .ref 322), (1, .int (nI line)), (2, .int (nI s)), (3, .int (nI (l.length - 1))), (4, .int (nI (732 + (4 * line)))), (5, .int (nI (i + 1)))]) (by intro q hq; simp only [List.mem_cons, List.not_mem_nil, or_false] at hq ⊢; rcases hq with rfl | rfl | rfl | rfl | rfl | rfl <;> simp) ?_
                    refine am_lsv (ls' := [(0, .ref 322), (1, .int (nI line)), (2, .int (nI s)), (3, .int (nI ((rf_stl (h 323) s i l).length))), (4, .int (nI (732 + (4 * line)))), (5, .int (nI (i + 1)))]) (by rw [show (nI (l.length - 1)) = (nI ((rf_stl (h 323) s i l).length)) from congrArg nI (by rw [rf_stl, if_neg (by omega), if_neg q96, List.length_cons, List.length_drop]; omega)]) ?_
                    exact ih22 (i + 1) (rf_stl (h 323) s i l) (am_row h 330 (upd (g22 330) ((l.length - 1) - 1) (((g22 330) ((l.length - 1) - 1)) + ((g22 330) (l.length - 1))))) (by omega) (by rw [rf_stl]; first | (rw [if_pos q55]; exact (hpush q55).2) | (rw [if_neg (by omega), if_pos q96, show ((nI 1 - l.getD 0 0) :: l.drop 1).length = l.length by rw [List.length_cons, List.length_drop]; omega]; exact (hnot q55 q96).2) | (rw [if_neg (by omega), if_neg q96, show (rf_ap (rf_sc (h 323) i) (l.getD 1 0) (l.getD 0 0) :: l.drop 2).length = l.length - 1 by rw [List.length_cons, List.length_drop]; omega]; exact (hbin q55 q96).2)) hev (by rw [rf_stl, if_neg (by omega), if_neg q96]; exact rf_hv_bin hv hl2 (by rw [rf_ap_9 q235])) (by rw [rf_stl]; first | (rw [if_pos q55, List.length_cons]; omega) | (rw [if_neg (by omega), if_pos q96, List.length_cons, List.length_drop]; omega) | (rw [if_neg (by omega), if_neg q96, List.length_cons, List.length_drop]; omega))
            · skip
              refine am_iload (pc := 148) C dX12_holdsLine_148 rfl ?_
              refine am_iload (pc := 150) C dX12_holdsLine_150 rfl ?_
              refine am_icmp_ge (pc := 152) (tgt := 159) C dX12_holdsLine_152 (by decide) (fun q152 => ?_) (fun q152 => ?_)
              · skip
                refine am_iconstN (pc := 159) (k := 0) C dX12_holdsLine_159 ?_
                refine am_goto (pc := 160) (tgt := 222) C dX12_holdsLine_160 (by decide) ?_
                refine am_istore (pc := 222) (ls' := [(0, .ref 322), (1, .int (nI line)), (2, .int (nI s)), (3, .int (nI (l.length - 1))), (4, .int (nI (732 + (4 * line)))), (5, .int (nI i)), (6, .int (nI (rf_sc (h 323) i))), (7, .int ((g22 330) ((l.length - 1) - 1))), (8, .int ((g22 330) (l.length - 1))), (9, .int (nI 0))]) C dX12_holdsLine_222 (by decide) rfl ?_
                refine am_aload_n (pc := 224) C dX12_holdsLine_224 rfl ?_
                refine am_getR (pc := 225) (j := 330) C dX12_holdsLine_225 f12_39 bn_322 sh_322 (rf_322_17 hR) ?_
                refine am_iload_n (pc := 228) C dX12_holdsLine_228 rfl ?_
                refine am_iconstN (pc := 229) (k := 1) C dX12_holdsLine_229 ?_
                refine am_isubN (pc := 230) C dX12_holdsLine_230 (by omega) ?_
                refine am_iload (pc := 231) C dX12_holdsLine_231 rfl ?_
                refine am_bipush (pc := 233) (v := nI 9) C dX12_holdsLine_233 (by decide) ?_
                refine am_icmp_neN (pc := 235) (tgt := 246) C dX12_holdsLine_235 (by decide) (by omega) (by omega) (fun q235 => ?_) (fun q235 => ?_)
                · skip
                  refine am_iload (pc := 246) C dX12_holdsLine_246 rfl ?_
                  refine am_if_eqN (pc := 248) (tgt := 255) C dX12_holdsLine_248 (by decide) (by omega) (fun q248 => ?_) (fun q248 => ?_)
                  · skip
                    refine am_iconstN (pc := 255) (k := 0) C dX12_holdsLine_255 ?_
                    refine am_iastore (pc := 256) C dX12_holdsLine_256 bn_330 sh_330 (vp_in_nI (by omega) (by decide)) ?_
                    refine am_hp (show am_up (am_row h 330 (g22 330)) 330 (nI ((l.length - 1) - 1)).toNatClampNeg (nI 0) = am_row (am_row h 330 (g22 330)) 330 (upd (g22 330) ((l.length - 1) - 1) (nI 0)) from by rw [nI_clamp (by omega)]; exact am_up_rw _ _ _ _) ?_
                    refine am_hp (show am_row (am_row h 330 (g22 330)) 330 (upd (g22 330) ((l.length - 1) - 1) (nI 0)) = (am_row h 330 (upd (g22 330) ((l.length - 1) - 1) (nI 0))) from am_row_s0) ?_
                    refine am_iincN (pc := 257) (ls' := [(0, .ref 322), (1, .int (nI line)), (2, .int (nI s)), (3, .int (nI (l.length - 1))), (4, .int (nI (732 + (4 * line)))), (5, .int (nI (i + 1))), (6, .int (nI (rf_sc (h 323) i))), (7, .int ((g22 330) ((l.length - 1) - 1))), (8, .int ((g22 330) (l.length - 1))), (9, .int (nI 0))]) C dX12_holdsLine_257 rfl (am_up1 _) (by decide) rfl ?_
                    refine am_goto (pc := 260) (tgt := 22) C dX12_holdsLine_260 (by decide) ?_
                    refine am_sub (ls' := [(0, .ref 322), (1, .int (nI line)), (2, .int (nI s)), (3, .int (nI (l.length - 1))), (4, .int (nI (732 + (4 * line)))), (5, .int (nI (i + 1)))]) (by intro q hq; simp only [List.mem_cons, List.not_mem_nil, or_false] at hq ⊢; rcases hq with rfl | rfl | rfl | rfl | rfl | rfl <;> simp) ?_
                    refine am_lsv (ls' := [(0, .ref 322), (1, .int (nI line)), (2, .int (nI s)), (3, .int (nI ((rf_stl (h 323) s i l).length))), (4, .int (nI (732 + (4 * line)))), (5, .int (nI (i + 1)))]) (by rw [show (nI (l.length - 1)) = (nI ((rf_stl (h 323) s i l).length)) from congrArg nI (by rw [rf_stl, if_neg (by omega), if_neg q96, List.length_cons, List.length_drop]; omega)]) ?_
                    exact ih22 (i + 1) (rf_stl (h 323) s i l) (am_row h 330 (upd (g22 330) ((l.length - 1) - 1) (nI 0))) (by omega) (by rw [rf_stl]; first | (rw [if_pos q55]; exact (hpush q55).2) | (rw [if_neg (by omega), if_pos q96, show ((nI 1 - l.getD 0 0) :: l.drop 1).length = l.length by rw [List.length_cons, List.length_drop]; omega]; exact (hnot q55 q96).2) | (rw [if_neg (by omega), if_neg q96, show (rf_ap (rf_sc (h 323) i) (l.getD 1 0) (l.getD 0 0) :: l.drop 2).length = l.length - 1 by rw [List.length_cons, List.length_drop]; omega]; exact (hbin q55 q96).2)) hev (by rw [rf_stl, if_neg (by omega), if_neg q96]; exact rf_hv_bin hv hl2 (by rw [rf_ap_10 q145, if_neg (Int32.not_lt.mpr q152)])) (by rw [rf_stl]; first | (rw [if_pos q55, List.length_cons]; omega) | (rw [if_neg (by omega), if_pos q96, List.length_cons, List.length_drop]; omega) | (rw [if_neg (by omega), if_neg q96, List.length_cons, List.length_drop]; omega))
                  · skip
                    exact absurd q248 (by decide)
                · skip
                  refine am_iload (pc := 238) C dX12_holdsLine_238 rfl ?_
                  refine am_iload (pc := 240) C dX12_holdsLine_240 rfl ?_
                  refine am_iadd (pc := 242) C dX12_holdsLine_242 ?_
                  refine am_goto (pc := 243) (tgt := 256) C dX12_holdsLine_243 (by decide) ?_
                  refine am_iastore (pc := 256) C dX12_holdsLine_256 bn_330 sh_330 (vp_in_nI (by omega) (by decide)) ?_
                  refine am_hp (show am_up (am_row h 330 (g22 330)) 330 (nI ((l.length - 1) - 1)).toNatClampNeg (((g22 330) ((l.length - 1) - 1)) + ((g22 330) (l.length - 1))) = am_row (am_row h 330 (g22 330)) 330 (upd (g22 330) ((l.length - 1) - 1) (((g22 330) ((l.length - 1) - 1)) + ((g22 330) (l.length - 1)))) from by rw [nI_clamp (by omega)]; exact am_up_rw _ _ _ _) ?_
                  refine am_hp (show am_row (am_row h 330 (g22 330)) 330 (upd (g22 330) ((l.length - 1) - 1) (((g22 330) ((l.length - 1) - 1)) + ((g22 330) (l.length - 1)))) = (am_row h 330 (upd (g22 330) ((l.length - 1) - 1) (((g22 330) ((l.length - 1) - 1)) + ((g22 330) (l.length - 1))))) from am_row_s0) ?_
                  refine am_iincN (pc := 257) (ls' := [(0, .ref 322), (1, .int (nI line)), (2, .int (nI s)), (3, .int (nI (l.length - 1))), (4, .int (nI (732 + (4 * line)))), (5, .int (nI (i + 1))), (6, .int (nI (rf_sc (h 323) i))), (7, .int ((g22 330) ((l.length - 1) - 1))), (8, .int ((g22 330) (l.length - 1))), (9, .int (nI 0))]) C dX12_holdsLine_257 rfl (am_up1 _) (by decide) rfl ?_
                  refine am_goto (pc := 260) (tgt := 22) C dX12_holdsLine_260 (by decide) ?_
                  refine am_sub (ls' := [(0, .ref 322), (1, .int (nI line)), (2, .int (nI s)), (3, .int (nI (l.length - 1))), (4, .int (nI (732 + (4 * line)))), (5, .int (nI (i + 1)))]) (by intro q hq; simp only [List.mem_cons, List.not_mem_nil, or_false] at hq ⊢; rcases hq with rfl | rfl | rfl | rfl | rfl | rfl <;> simp) ?_
                  refine am_lsv (ls' := [(0, .ref 322), (1, .int (nI line)), (2, .int (nI s)), (3, .int (nI ((rf_stl (h 323) s i l).length))), (4, .int (nI (732 + (4 * line)))), (5, .int (nI (i + 1)))]) (by rw [show (nI (l.length - 1)) = (nI ((rf_stl (h 323) s i l).length)) from congrArg nI (by rw [rf_stl, if_neg (by omega), if_neg q96, List.length_cons, List.length_drop]; omega)]) ?_
                  exact ih22 (i + 1) (rf_stl (h 323) s i l) (am_row h 330 (upd (g22 330) ((l.length - 1) - 1) (((g22 330) ((l.length - 1) - 1)) + ((g22 330) (l.length - 1))))) (by omega) (by rw [rf_stl]; first | (rw [if_pos q55]; exact (hpush q55).2) | (rw [if_neg (by omega), if_pos q96, show ((nI 1 - l.getD 0 0) :: l.drop 1).length = l.length by rw [List.length_cons, List.length_drop]; omega]; exact (hnot q55 q96).2) | (rw [if_neg (by omega), if_neg q96, show (rf_ap (rf_sc (h 323) i) (l.getD 1 0) (l.getD 0 0) :: l.drop 2).length = l.length - 1 by rw [List.length_cons, List.length_drop]; omega]; exact (hbin q55 q96).2)) hev (by rw [rf_stl, if_neg (by omega), if_neg q96]; exact rf_hv_bin hv hl2 (by rw [rf_ap_9 q235])) (by rw [rf_stl]; first | (rw [if_pos q55, List.length_cons]; omega) | (rw [if_neg (by omega), if_pos q96, List.length_cons, List.length_drop]; omega) | (rw [if_neg (by omega), if_neg q96, List.length_cons, List.length_drop]; omega))
              · skip
                refine am_iconstN (pc := 155) (k := 1) C dX12_holdsLine_155 ?_
                refine am_goto (pc := 156) (tgt := 222) C dX12_holdsLine_156 (by decide) ?_
                refine am_istore (pc := 222) (ls' := [(0, .ref 322), (1, .int (nI line)), (2, .int (nI s)), (3, .int (nI (l.length - 1))), (4, .int (nI (732 + (4 * line)))), (5, .int (nI i)), (6, .int (nI (rf_sc (h 323) i))), (7, .int ((g22 330) ((l.length - 1) - 1))), (8, .int ((g22 330) (l.length - 1))), (9, .int (nI 1))]) C dX12_holdsLine_222 (by decide) rfl ?_
                refine am_aload_n (pc := 224) C dX12_holdsLine_224 rfl ?_
                refine am_getR (pc := 225) (j := 330) C dX12_holdsLine_225 f12_39 bn_322 sh_322 (rf_322_17 hR) ?_
                refine am_iload_n (pc := 228) C dX12_holdsLine_228 rfl ?_
                refine am_iconstN (pc := 229) (k := 1) C dX12_holdsLine_229 ?_
                refine am_isubN (pc := 230) C dX12_holdsLine_230 (by omega) ?_
                refine am_iload (pc := 231) C dX12_holdsLine_231 rfl ?_
                refine am_bipush (pc := 233) (v := nI 9) C dX12_holdsLine_233 (by decide) ?_
                refine am_icmp_neN (pc := 235) (tgt := 246) C dX12_holdsLine_235 (by decide) (by omega) (by omega) (fun q235 => ?_) (fun q235 => ?_)
                · skip
                  refine am_iload (pc := 246) C dX12_holdsLine_246 rfl ?_
                  refine am_if_eqN (pc := 248) (tgt := 255) C dX12_holdsLine_248 (by decide) (by omega) (fun q248 => ?_) (fun q248 => ?_)
                  · skip
                    exact absurd q248 (by decide)
                  · skip
                    refine am_iconstN (pc := 251) (k := 1) C dX12_holdsLine_251 ?_
                    refine am_goto (pc := 252) (tgt := 256) C dX12_holdsLine_252 (by decide) ?_
                    refine am_iastore (pc := 256) C dX12_holdsLine_256 bn_330 sh_330 (vp_in_nI (by omega) (by decide)) ?_
                    refine am_hp (show am_up (am_row h 330 (g22 330)) 330 (nI ((l.length - 1) - 1)).toNatClampNeg (nI 1) = am_row (am_row h 330 (g22 330)) 330 (upd (g22 330) ((l.length - 1) - 1) (nI 1)) from by rw [nI_clamp (by omega)]; exact am_up_rw _ _ _ _) ?_
                    refine am_hp (show am_row (am_row h 330 (g22 330)) 330 (upd (g22 330) ((l.length - 1) - 1) (nI 1)) = (am_row h 330 (upd (g22 330) ((l.length - 1) - 1) (nI 1))) from am_row_s0) ?_
                    refine am_iincN (pc := 257) (ls' := [(0, .ref 322), (1, .int (nI line)), (2, .int (nI s)), (3, .int (nI (l.length - 1))), (4, .int (nI (732 + (4 * line)))), (5, .int (nI (i + 1))), (6, .int (nI (rf_sc (h 323) i))), (7, .int ((g22 330) ((l.length - 1) - 1))), (8, .int ((g22 330) (l.length - 1))), (9, .int (nI 1))]) C dX12_holdsLine_257 rfl (am_up1 _) (by decide) rfl ?_
                    refine am_goto (pc := 260) (tgt := 22) C dX12_holdsLine_260 (by decide) ?_
                    refine am_sub (ls' := [(0, .ref 322), (1, .int (nI line)), (2, .int (nI s)), (3, .int (nI (l.length - 1))), (4, .int (nI (732 + (4 * line)))), (5, .int (nI (i + 1)))]) (by intro q hq; simp only [List.mem_cons, List.not_mem_nil, or_false] at hq ⊢; rcases hq with rfl | rfl | rfl | rfl | rfl | rfl <;> simp) ?_
                    refine am_lsv (ls' := [(0, .ref 322), (1, .int (nI line)), (2, .int (nI s)), (3, .int (nI ((rf_stl (h 323) s i l).length))), (4, .int (nI (732 + (4 * line)))), (5, .int (nI (i + 1)))]) (by rw [show (nI (l.length - 1)) = (nI ((rf_stl (h 323) s i l).length)) from congrArg nI (by rw [rf_stl, if_neg (by omega), if_neg q96, List.length_cons, List.length_drop]; omega)]) ?_
                    exact ih22 (i + 1) (rf_stl (h 323) s i l) (am_row h 330 (upd (g22 330) ((l.length - 1) - 1) (nI 1))) (by omega) (by rw [rf_stl]; first | (rw [if_pos q55]; exact (hpush q55).2) | (rw [if_neg (by omega), if_pos q96, show ((nI 1 - l.getD 0 0) :: l.drop 1).length = l.length by rw [List.length_cons, List.length_drop]; omega]; exact (hnot q55 q96).2) | (rw [if_neg (by omega), if_neg q96, show (rf_ap (rf_sc (h 323) i) (l.getD 1 0) (l.getD 0 0) :: l.drop 2).length = l.length - 1 by rw [List.length_cons, List.length_drop]; omega]; exact (hbin q55 q96).2)) hev (by rw [rf_stl, if_neg (by omega), if_neg q96]; exact rf_hv_bin hv hl2 (by rw [rf_ap_10 q145, if_pos (Int32.not_le.mp q152)])) (by rw [rf_stl]; first | (rw [if_pos q55, List.length_cons]; omega) | (rw [if_neg (by omega), if_pos q96, List.length_cons, List.length_drop]; omega) | (rw [if_neg (by omega), if_neg q96, List.length_cons, List.length_drop]; omega))
                · skip
                  refine am_iload (pc := 238) C dX12_holdsLine_238 rfl ?_
                  refine am_iload (pc := 240) C dX12_holdsLine_240 rfl ?_
                  refine am_iadd (pc := 242) C dX12_holdsLine_242 ?_
                  refine am_goto (pc := 243) (tgt := 256) C dX12_holdsLine_243 (by decide) ?_
                  refine am_iastore (pc := 256) C dX12_holdsLine_256 bn_330 sh_330 (vp_in_nI (by omega) (by decide)) ?_
                  refine am_hp (show am_up (am_row h 330 (g22 330)) 330 (nI ((l.length - 1) - 1)).toNatClampNeg (((g22 330) ((l.length - 1) - 1)) + ((g22 330) (l.length - 1))) = am_row (am_row h 330 (g22 330)) 330 (upd (g22 330) ((l.length - 1) - 1) (((g22 330) ((l.length - 1) - 1)) + ((g22 330) (l.length - 1)))) from by rw [nI_clamp (by omega)]; exact am_up_rw _ _ _ _) ?_
                  refine am_hp (show am_row (am_row h 330 (g22 330)) 330 (upd (g22 330) ((l.length - 1) - 1) (((g22 330) ((l.length - 1) - 1)) + ((g22 330) (l.length - 1)))) = (am_row h 330 (upd (g22 330) ((l.length - 1) - 1) (((g22 330) ((l.length - 1) - 1)) + ((g22 330) (l.length - 1))))) from am_row_s0) ?_
                  refine am_iincN (pc := 257) (ls' := [(0, .ref 322), (1, .int (nI line)), (2, .int (nI s)), (3, .int (nI (l.length - 1))), (4, .int (nI (732 + (4 * line)))), (5, .int (nI (i + 1))), (6, .int (nI (rf_sc (h 323) i))), (7, .int ((g22 330) ((l.length - 1) - 1))), (8, .int ((g22 330) (l.length - 1))), (9, .int (nI 1))]) C dX12_holdsLine_257 rfl (am_up1 _) (by decide) rfl ?_
                  refine am_goto (pc := 260) (tgt := 22) C dX12_holdsLine_260 (by decide) ?_
                  refine am_sub (ls' := [(0, .ref 322), (1, .int (nI line)), (2, .int (nI s)), (3, .int (nI (l.length - 1))), (4, .int (nI (732 + (4 * line)))), (5, .int (nI (i + 1)))]) (by intro q hq; simp only [List.mem_cons, List.not_mem_nil, or_false] at hq ⊢; rcases hq with rfl | rfl | rfl | rfl | rfl | rfl <;> simp) ?_
                  refine am_lsv (ls' := [(0, .ref 322), (1, .int (nI line)), (2, .int (nI s)), (3, .int (nI ((rf_stl (h 323) s i l).length))), (4, .int (nI (732 + (4 * line)))), (5, .int (nI (i + 1)))]) (by rw [show (nI (l.length - 1)) = (nI ((rf_stl (h 323) s i l).length)) from congrArg nI (by rw [rf_stl, if_neg (by omega), if_neg q96, List.length_cons, List.length_drop]; omega)]) ?_
                  exact ih22 (i + 1) (rf_stl (h 323) s i l) (am_row h 330 (upd (g22 330) ((l.length - 1) - 1) (((g22 330) ((l.length - 1) - 1)) + ((g22 330) (l.length - 1))))) (by omega) (by rw [rf_stl]; first | (rw [if_pos q55]; exact (hpush q55).2) | (rw [if_neg (by omega), if_pos q96, show ((nI 1 - l.getD 0 0) :: l.drop 1).length = l.length by rw [List.length_cons, List.length_drop]; omega]; exact (hnot q55 q96).2) | (rw [if_neg (by omega), if_neg q96, show (rf_ap (rf_sc (h 323) i) (l.getD 1 0) (l.getD 0 0) :: l.drop 2).length = l.length - 1 by rw [List.length_cons, List.length_drop]; omega]; exact (hbin q55 q96).2)) hev (by rw [rf_stl, if_neg (by omega), if_neg q96]; exact rf_hv_bin hv hl2 (by rw [rf_ap_9 q235])) (by rw [rf_stl]; first | (rw [if_pos q55, List.length_cons]; omega) | (rw [if_neg (by omega), if_pos q96, List.length_cons, List.length_drop]; omega) | (rw [if_neg (by omega), if_neg q96, List.length_cons, List.length_drop]; omega))
          · skip
            have hl1 := (hnot q55 q96).1
            refine am_aload_n (pc := 99) C dX12_holdsLine_99 rfl ?_
            refine am_getR (pc := 100) (j := 330) C dX12_holdsLine_100 f12_39 bn_322 sh_322 (rf_322_17 hR) ?_
            refine am_iload_n (pc := 103) C dX12_holdsLine_103 rfl ?_
            refine am_iconstN (pc := 104) (k := 1) C dX12_holdsLine_104 ?_
            refine am_isubN (pc := 105) C dX12_holdsLine_105 (by omega) ?_
            refine am_iconstN (pc := 106) (k := 1) C dX12_holdsLine_106 ?_
            refine am_aload_n (pc := 107) C dX12_holdsLine_107 rfl ?_
            refine am_getR (pc := 108) (j := 330) C dX12_holdsLine_108 f12_39 bn_322 sh_322 (rf_322_17 hR) ?_
            refine am_iload_n (pc := 111) C dX12_holdsLine_111 rfl ?_
            refine am_iconstN (pc := 112) (k := 1) C dX12_holdsLine_112 ?_
            refine am_isubN (pc := 113) C dX12_holdsLine_113 (by omega) ?_
            refine am_iaload (pc := 114) C dX12_holdsLine_114 bn_330 sh_330 (vp_in_nI (by omega) (by decide)) ?_
            refine am_top (show (g22 330) (nI (l.length - 1)).toNatClampNeg = (g22 330) (l.length - 1) from by rw [nI_clamp (by omega)]) ?_
            refine am_isub (pc := 115) C dX12_holdsLine_115 ?_
            refine am_iastore (pc := 116) C dX12_holdsLine_116 bn_330 sh_330 (vp_in_nI (by omega) (by decide)) ?_
            refine am_hp (show am_up (am_row h 330 (g22 330)) 330 (nI (l.length - 1)).toNatClampNeg ((nI 1) - ((g22 330) (l.length - 1))) = am_row (am_row h 330 (g22 330)) 330 (upd (g22 330) (l.length - 1) ((nI 1) - ((g22 330) (l.length - 1)))) from by rw [nI_clamp (by omega)]; exact am_up_rw _ _ _ _) ?_
            refine am_hp (show am_row (am_row h 330 (g22 330)) 330 (upd (g22 330) (l.length - 1) ((nI 1) - ((g22 330) (l.length - 1)))) = (am_row h 330 (upd (g22 330) (l.length - 1) ((nI 1) - ((g22 330) (l.length - 1))))) from am_row_s0) ?_
            refine am_goto (pc := 117) (tgt := 257) C dX12_holdsLine_117 (by decide) ?_
            refine am_iincN (pc := 257) (ls' := [(0, .ref 322), (1, .int (nI line)), (2, .int (nI s)), (3, .int (nI l.length)), (4, .int (nI (732 + (4 * line)))), (5, .int (nI (i + 1))), (6, .int (nI (rf_sc (h 323) i)))]) C dX12_holdsLine_257 rfl (am_up1 _) (by decide) rfl ?_
            refine am_goto (pc := 260) (tgt := 22) C dX12_holdsLine_260 (by decide) ?_
            refine am_sub (ls' := [(0, .ref 322), (1, .int (nI line)), (2, .int (nI s)), (3, .int (nI l.length)), (4, .int (nI (732 + (4 * line)))), (5, .int (nI (i + 1)))]) (by intro q hq; simp only [List.mem_cons, List.not_mem_nil, or_false] at hq ⊢; rcases hq with rfl | rfl | rfl | rfl | rfl | rfl <;> simp) ?_
            refine am_lsv (ls' := [(0, .ref 322), (1, .int (nI line)), (2, .int (nI s)), (3, .int (nI ((rf_stl (h 323) s i l).length))), (4, .int (nI (732 + (4 * line)))), (5, .int (nI (i + 1)))]) (by rw [show (nI l.length) = (nI ((rf_stl (h 323) s i l).length)) from congrArg nI (by rw [rf_stl, if_neg (by omega), if_pos q96, List.length_cons, List.length_drop]; omega)]) ?_
            exact ih22 (i + 1) (rf_stl (h 323) s i l) (am_row h 330 (upd (g22 330) (l.length - 1) ((nI 1) - ((g22 330) (l.length - 1))))) (by omega) (by rw [rf_stl]; first | (rw [if_pos q55]; exact (hpush q55).2) | (rw [if_neg (by omega), if_pos q96, show ((nI 1 - l.getD 0 0) :: l.drop 1).length = l.length by rw [List.length_cons, List.length_drop]; omega]; exact (hnot q55 q96).2) | (rw [if_neg (by omega), if_neg q96, show (rf_ap (rf_sc (h 323) i) (l.getD 1 0) (l.getD 0 0) :: l.drop 2).length = l.length - 1 by rw [List.length_cons, List.length_drop]; omega]; exact (hbin q55 q96).2)) hev (by rw [rf_stl, if_neg (by omega), if_pos q96]; exact rf_hv_not hv hl1 rfl) (by rw [rf_stl]; first | (rw [if_pos q55, List.length_cons]; omega) | (rw [if_neg (by omega), if_pos q96, List.length_cons, List.length_drop]; omega) | (rw [if_neg (by omega), if_neg q96, List.length_cons, List.length_drop]; omega))
        · skip
          have hl9 := (hpush q55).1
          refine am_aload_n (pc := 58) C dX12_holdsLine_58 rfl ?_
          refine am_getR (pc := 59) (j := 330) C dX12_holdsLine_59 f12_39 bn_322 sh_322 (rf_322_17 hR) ?_
          refine am_iload_n (pc := 62) C dX12_holdsLine_62 rfl ?_
          refine am_aload_n (pc := 63) C dX12_holdsLine_63 rfl ?_
          refine am_iload (pc := 64) C dX12_holdsLine_64 rfl ?_
          refine am_aload_n (pc := 66) C dX12_holdsLine_66 rfl ?_
          refine am_getR (pc := 67) (j := 323) C dX12_holdsLine_67 f12_13 bn_322 sh_322 (rf_322_1 hR) ?_
          refine am_sipush (pc := 70) (v := nI 780) C dX12_holdsLine_70 (by decide) ?_
          refine am_iconstN (pc := 73) (k := 2) C dX12_holdsLine_73 ?_
          refine am_iload (pc := 74) C dX12_holdsLine_74 rfl ?_
          refine am_imulN (pc := 76) C dX12_holdsLine_76 ?_
          refine am_iaddN (pc := 77) C dX12_holdsLine_77 ?_
          refine am_iconstN (pc := 78) (k := 1) C dX12_holdsLine_78 ?_
          refine am_iaddN (pc := 79) C dX12_holdsLine_79 ?_
          refine am_iaload (pc := 80) C dX12_holdsLine_80 bn_323 sh_323 (vp_in_nI (by omega) (by decide)) ?_
          refine am_top (show (h 323) (nI ((780 + (2 * i)) + 1)).toNatClampNeg = (h 323) ((780 + (2 * i)) + 1) from by rw [nI_clamp (by omega)]) ?_
          refine am_iload_n (pc := 81) C dX12_holdsLine_81 rfl ?_
          refine am_callVi (Y := mX12_factOf) (pc := 82) (st := [.int (nI l.length), .ref 330]) (As := [.int (nI (rf_sc (h 323) i)), .int ((h 323) ((780 + (2 * i)) + 1)), .int (nI s)]) (x := (rf_fact (h 323) (rf_sc (h 323) i) ((h 323) ((780 + (2 * i)) + 1)) s)) (h2 := (am_row h 330 (g22 330))) C dX12_holdsLine_82 k12_286 v_X12_factOf rfl rfl bn_322 sh_322 ⟨by decide, rfl⟩ (by decide) (Nat.zero_le _) (Nat.zero_le _) (Nat.le_of_ble_eq_true rfl) (c_X12_factOf hR (rf_sc (h 323) i) ((h 323) ((780 + (2 * i)) + 1)) s hV hs (show (rf_sc (h 323) i) < 9 from by omega)) ?_
          refine am_iastore (pc := 85) C dX12_holdsLine_85 bn_330 sh_330 (vp_in_nI (by omega) (by decide)) ?_
          refine am_hp (show am_up (am_row h 330 (g22 330)) 330 (nI l.length).toNatClampNeg (rf_fact (h 323) (rf_sc (h 323) i) ((h 323) ((780 + (2 * i)) + 1)) s) = am_row (am_row h 330 (g22 330)) 330 (upd (g22 330) l.length (rf_fact (h 323) (rf_sc (h 323) i) ((h 323) ((780 + (2 * i)) + 1)) s)) from by rw [nI_clamp (by omega)]; exact am_up_rw _ _ _ _) ?_
          refine am_hp (show am_row (am_row h 330 (g22 330)) 330 (upd (g22 330) l.length (rf_fact (h 323) (rf_sc (h 323) i) ((h 323) ((780 + (2 * i)) + 1)) s)) = (am_row h 330 (upd (g22 330) l.length (rf_fact (h 323) (rf_sc (h 323) i) ((h 323) ((780 + (2 * i)) + 1)) s))) from am_row_s0) ?_
          refine am_iincN (pc := 86) (ls' := [(0, .ref 322), (1, .int (nI line)), (2, .int (nI s)), (3, .int (nI (l.length + 1))), (4, .int (nI (732 + (4 * line)))), (5, .int (nI i)), (6, .int (nI (rf_sc (h 323) i)))]) C dX12_holdsLine_86 rfl (am_up1 _) (by decide) rfl ?_
          refine am_goto (pc := 89) (tgt := 257) C dX12_holdsLine_89 (by decide) ?_
          refine am_iincN (pc := 257) (ls' := [(0, .ref 322), (1, .int (nI line)), (2, .int (nI s)), (3, .int (nI (l.length + 1))), (4, .int (nI (732 + (4 * line)))), (5, .int (nI (i + 1))), (6, .int (nI (rf_sc (h 323) i)))]) C dX12_holdsLine_257 rfl (am_up1 _) (by decide) rfl ?_
          refine am_goto (pc := 260) (tgt := 22) C dX12_holdsLine_260 (by decide) ?_
          refine am_sub (ls' := [(0, .ref 322), (1, .int (nI line)), (2, .int (nI s)), (3, .int (nI (l.length + 1))), (4, .int (nI (732 + (4 * line)))), (5, .int (nI (i + 1)))]) (by intro q hq; simp only [List.mem_cons, List.not_mem_nil, or_false] at hq ⊢; rcases hq with rfl | rfl | rfl | rfl | rfl | rfl <;> simp) ?_
          refine am_lsv (ls' := [(0, .ref 322), (1, .int (nI line)), (2, .int (nI s)), (3, .int (nI ((rf_stl (h 323) s i l).length))), (4, .int (nI (732 + (4 * line)))), (5, .int (nI (i + 1)))]) (by rw [show (nI (l.length + 1)) = (nI ((rf_stl (h 323) s i l).length)) from congrArg nI (by rw [rf_stl, if_pos q55]; rfl)]) ?_
          exact ih22 (i + 1) (rf_stl (h 323) s i l) (am_row h 330 (upd (g22 330) l.length (rf_fact (h 323) (rf_sc (h 323) i) ((h 323) ((780 + (2 * i)) + 1)) s))) (by omega) (by rw [rf_stl]; first | (rw [if_pos q55]; exact (hpush q55).2) | (rw [if_neg (by omega), if_pos q96, show ((nI 1 - l.getD 0 0) :: l.drop 1).length = l.length by rw [List.length_cons, List.length_drop]; omega]; exact (hnot q55 q96).2) | (rw [if_neg (by omega), if_neg q96, show (rf_ap (rf_sc (h 323) i) (l.getD 1 0) (l.getD 0 0) :: l.drop 2).length = l.length - 1 by rw [List.length_cons, List.length_drop]; omega]; exact (hbin q55 q96).2)) hev (by rw [rf_stl, if_pos q55]; exact rf_hv_push hv) (by rw [rf_stl]; first | (rw [if_pos q55, List.length_cons]; omega) | (rw [if_neg (by omega), if_pos q96, List.length_cons, List.length_drop]; omega) | (rw [if_neg (by omega), if_neg q96, List.length_cons, List.length_drop]; omega))
  exact L22 (rf_nat ((h 323) (732 + 4 * line + 3)) - rf_nat ((h 323) (732 + 4 * line + 2))) (rf_nat ((h 323) (732 + 4 * line + 2))) ([]) (am_row h 330 (h 330)) (by omega) hok0 rfl (fun k hk => absurd hk (Nat.not_lt_zero k)) (by decide)

