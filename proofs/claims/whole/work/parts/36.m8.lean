set_option maxHeartbeats 400000 in
set_option maxRecDepth 100000 in
theorem c_X12_uses {ad : Nat → Nat} {r : am_R} (hR : am_rs r) {h : am_H}    : am_CM mX12_uses 0 0 0 [.ref 322] (am_VV ad) r h (am_po none r (am_row h 322 (rf_uses (h 322)))) := by
  refine am_CM.of (by decide +kernel) (Nat.le_of_ble_eq_true rfl) (fun X C T => ?_)
  show am_G X (am_VV ad) (0, 0) 0 [(0, .ref 322)] [] r h
  refine am_aload_n (pc := 0) C dX12_uses_0 rfl ?_
  refine am_iconstN (pc := 1) (k := 0) C dX12_uses_1 ?_
  refine am_putI (pc := 2) C dX12_uses_2 f12_3 bn_322 sh_322 rfl rfl ?_
  refine am_hp (show am_up h 322 0 (nI 0) = am_row h 322 (upd (h 322) 0 (nI 0)) from am_up_rw _ _ _ _) ?_
  refine am_aload_n (pc := 5) C dX12_uses_5 rfl ?_
  refine am_aload_n (pc := 6) C dX12_uses_6 rfl ?_
  refine am_getI (pc := 7) C dX12_uses_7 f12_96 bn_322 sh_322 ?_
  refine am_top (show ((upd (h 322) 0 (nI 0)) 9) = ((h 322) 9) from (rf_upd_ne (by decide))) ?_
  refine am_putI (pc := 10) C dX12_uses_10 f12_102 bn_322 sh_322 rfl rfl ?_
  refine am_hp (show am_up (am_row h 322 (upd (h 322) 0 (nI 0))) 322 11 ((h 322) 9) = am_row (am_row h 322 (upd (h 322) 0 (nI 0))) 322 (upd (upd (h 322) 0 (nI 0)) 11 ((h 322) 9)) from am_up_rw _ _ _ _) ?_
  refine am_hp (show am_row (am_row h 322 (upd (h 322) 0 (nI 0))) 322 (upd (upd (h 322) 0 (nI 0)) 11 ((h 322) 9)) = (am_row h 322 (upd (upd (h 322) 0 (nI 0)) 11 ((h 322) 9))) from am_row_s0) ?_
  refine am_aload_n (pc := 13) C dX12_uses_13 rfl ?_
  refine am_iconstN (pc := 14) (k := 0) C dX12_uses_14 ?_
  refine am_putI (pc := 15) C dX12_uses_15 f12_96 bn_322 sh_322 rfl rfl ?_
  refine am_hp (show am_up (am_row h 322 (upd (upd (h 322) 0 (nI 0)) 11 ((h 322) 9))) 322 9 (nI 0) = am_row (am_row h 322 (upd (upd (h 322) 0 (nI 0)) 11 ((h 322) 9))) 322 (upd (upd (upd (h 322) 0 (nI 0)) 11 ((h 322) 9)) 9 (nI 0)) from am_up_rw _ _ _ _) ?_
  refine am_hp (show am_row (am_row h 322 (upd (upd (h 322) 0 (nI 0)) 11 ((h 322) 9))) 322 (upd (upd (upd (h 322) 0 (nI 0)) 11 ((h 322) 9)) 9 (nI 0)) = (am_row h 322 (upd (upd (upd (h 322) 0 (nI 0)) 11 ((h 322) 9)) 9 (nI 0))) from am_row_s0) ?_
  refine am_aload_n (pc := 18) C dX12_uses_18 rfl ?_
  refine am_iconstN (pc := 19) (k := 0) C dX12_uses_19 ?_
  refine am_putI (pc := 20) C dX12_uses_20 f12_99 bn_322 sh_322 rfl rfl ?_
  refine am_hp (show am_up (am_row h 322 (upd (upd (upd (h 322) 0 (nI 0)) 11 ((h 322) 9)) 9 (nI 0))) 322 10 (nI 0) = am_row (am_row h 322 (upd (upd (upd (h 322) 0 (nI 0)) 11 ((h 322) 9)) 9 (nI 0))) 322 (upd (upd (upd (upd (h 322) 0 (nI 0)) 11 ((h 322) 9)) 9 (nI 0)) 10 (nI 0)) from am_up_rw _ _ _ _) ?_
  refine am_hp (show am_row (am_row h 322 (upd (upd (upd (h 322) 0 (nI 0)) 11 ((h 322) 9)) 9 (nI 0))) 322 (upd (upd (upd (upd (h 322) 0 (nI 0)) 11 ((h 322) 9)) 9 (nI 0)) 10 (nI 0)) = (am_row h 322 (upd (upd (upd (upd (h 322) 0 (nI 0)) 11 ((h 322) 9)) 9 (nI 0)) 10 (nI 0))) from am_row_s0) ?_
  exact am_vretv T dX12_uses_23 rfl (Nat.le_refl _) (Nat.le_refl _) rfl rfl

set_option maxHeartbeats 400000 in
set_option maxRecDepth 100000 in
theorem c_X12_memoryTold {ad : Nat → Nat} {r : am_R} (hR : am_rs r) {h : am_H}  (hT : rf_To (h 322)) (hC : rf_Cn (h 323))  : am_CM mX12_memoryTold 3 0 0 [.ref 322] (am_VV ad) r h (am_po (some (.int (am_oi (rf_rM (h 328) (h 322) (h 323))))) r (am_row h 322 (rf_oNum (h 328) (h 322)))) := by
  refine am_CM.of (by decide +kernel) (Nat.le_of_ble_eq_true rfl) (fun X C T => ?_)
  show am_G X (am_VV ad) (0, 0) 0 [(0, .ref 322)] [] r h
  refine am_aload_n (pc := 0) C dX12_memoryTold_0 rfl ?_
  refine am_iconstN (pc := 1) (k := 0) C dX12_memoryTold_1 ?_
  refine am_aload_n (pc := 2) C dX12_memoryTold_2 rfl ?_
  refine am_callVi (Y := mX12_memories) (pc := 3) (st := [.int (nI 0), .ref 322]) (As := []) (x := (nI (rf_M (h 323)))) (h2 := h) C dX12_memoryTold_3 k12_67 v_X12_memories rfl rfl bn_322 sh_322 ⟨by decide, rfl⟩ (by decide) (Nat.zero_le _) (Nat.zero_le _) (Nat.le_of_ble_eq_true rfl) (c_X12_memories hR hC) ?_
  refine am_iconstN (pc := 6) (k := 1) C dX12_memoryTold_6 ?_
  refine am_isub (pc := 7) C dX12_memoryTold_7 ?_
  refine am_callVi (Y := mX12_number) (pc := 8) (st := []) (As := [.int (nI 0), .int ((nI (rf_M (h 323))) - (nI 1))]) (x := (am_oi (rf_rNum (h 328) (h 322) 0 ((nI (rf_M (h 323))) - (nI 1))))) (h2 := (am_row h 322 (rf_oNum (h 328) (h 322)))) C dX12_memoryTold_8 k12_130 v_X12_number rfl rfl bn_322 sh_322 ⟨by decide, rfl⟩ (by decide) (Nat.zero_le _) (Nat.zero_le _) (Nat.le_of_ble_eq_true rfl) (c_X12_number hR 0 ((nI (rf_M (h 323))) - (nI 1)) hT (show 0 < 2147483648 from by omega)) ?_
  exact am_ireti T dX12_memoryTold_11 rfl (Nat.le_refl _) (Nat.le_refl _) rfl rfl rfl

set_option maxHeartbeats 400000 in
set_option maxRecDepth 100000 in
theorem c_X12_soldierTold {ad : Nat → Nat} {r : am_R} (hR : am_rs r) {h : am_H}  (hT : rf_To (h 322)) (hC : rf_Cn (h 323))  : am_CM mX12_soldierTold 3 0 0 [.ref 322] (am_VV ad) r h (am_po (some (.int (am_oi (rf_rS (h 328) (h 322) (h 323))))) r (am_row h 322 (rf_oNum (h 328) (h 322)))) := by
  refine am_CM.of (by decide +kernel) (Nat.le_of_ble_eq_true rfl) (fun X C T => ?_)
  show am_G X (am_VV ad) (0, 0) 0 [(0, .ref 322)] [] r h
  refine am_aload_n (pc := 0) C dX12_soldierTold_0 rfl ?_
  refine am_iconstN (pc := 1) (k := 0) C dX12_soldierTold_1 ?_
  refine am_aload_n (pc := 2) C dX12_soldierTold_2 rfl ?_
  refine am_callVi (Y := mX12_soldiers) (pc := 3) (st := [.int (nI 0), .ref 322]) (As := []) (x := (nI (rf_S (h 323)))) (h2 := h) C dX12_soldierTold_3 k12_75 v_X12_soldiers rfl rfl bn_322 sh_322 ⟨by decide, rfl⟩ (by decide) (Nat.zero_le _) (Nat.zero_le _) (Nat.le_of_ble_eq_true rfl) (c_X12_soldiers hR hC) ?_
  refine am_iconstN (pc := 6) (k := 1) C dX12_soldierTold_6 ?_
  refine am_isub (pc := 7) C dX12_soldierTold_7 ?_
  refine am_callVi (Y := mX12_number) (pc := 8) (st := []) (As := [.int (nI 0), .int ((nI (rf_S (h 323))) - (nI 1))]) (x := (am_oi (rf_rNum (h 328) (h 322) 0 ((nI (rf_S (h 323))) - (nI 1))))) (h2 := (am_row h 322 (rf_oNum (h 328) (h 322)))) C dX12_soldierTold_8 k12_130 v_X12_number rfl rfl bn_322 sh_322 ⟨by decide, rfl⟩ (by decide) (Nat.zero_le _) (Nat.zero_le _) (Nat.le_of_ble_eq_true rfl) (c_X12_number hR 0 ((nI (rf_S (h 323))) - (nI 1)) hT (show 0 < 2147483648 from by omega)) ?_
  exact am_ireti T dX12_soldierTold_11 rfl (Nat.le_refl _) (Nat.le_refl _) rfl rfl rfl

set_option maxHeartbeats 400000 in
set_option maxRecDepth 100000 in
theorem c_X12_memoriesTold {ad : Nat → Nat} {r : am_R} (hR : am_rs r) {h : am_H}  (hT : rf_To (h 322)) (hC : rf_Cn (h 323))  : am_CM mX12_memoriesTold 4 0 0 [.ref 322] (am_VV ad) r h (am_po (some (.int ((rf_mt (h 328) (h 322) (h 323)).1))) r (am_row h 322 ((rf_mt (h 328) (h 322) (h 323)).2))) := by
  refine am_CM.of (by decide +kernel) (Nat.le_of_ble_eq_true rfl) (fun X C T => ?_)
  show am_G X (am_VV ad) (0, 0) 0 [(0, .ref 322)] [] r h
  have hp4 : rf_p (h 322) ≤ rf_e (h 322) := hT.2.2.1
  have he4 : rf_e (h 322) < 401 := hT.2.1.2
  have hTn := rf_Tm_num (t := h 328) hT
  have hM9 : rf_M (h 323) < 17 := hC.1.2
  have hS9 : rf_S (h 323) < 11 := hC.2.1.2
  have hO9 : rf_O (h 323) < 11 := hC.2.2.2
  refine am_iconstN (pc := 0) (k := 0) C dX12_memoriesTold_0 ?_
  refine am_istore_n (pc := 1) (ls' := [(0, .ref 322), (1, .int (nI 0))]) C dX12_memoriesTold_1 (by decide) rfl ?_
  have L2 : ∀ (j2 : Nat) (o : rf_W) (x : Int32), (hTo : rf_To o) → (hfu : rf_e o - rf_p o < j2) → (hms : rf_ms (h 328) (h 323) j2 x o = rf_ms (h 328) (h 323) 402 (nI 0) (h 322)) → am_G X (am_VV ad) (0, 0) 2 [(0, .ref 322), (1, .int x)] [] r (am_row h 322 o) := by
    intro j2
    induction j2 with
    | zero =>
      intro o x hTo hfu hms
      exact absurd hfu (by omega)
    | succ j2 ih2 =>
      intro o x hTo hfu hms
      have hTn2 := rf_Tm_num (t := h 328) hTo
      have hTb2 := rf_Tm_bl (t := h 328) hTn2.1
      have hle9 : rf_rM (h 328) o (h 323) ≤ rf_M (h 323) := rf_rM_le hM9
      refine am_aload_n (pc := 2) C dX12_memoriesTold_2 rfl ?_
      refine am_callVi (Y := mX12_memoryTold) (pc := 3) (st := []) (As := []) (x := (am_oi (rf_rM (h 328) o (h 323)))) (h2 := (am_row (am_row h 322 o) 322 (rf_oNum (h 328) o))) C dX12_memoriesTold_3 k12_133 v_X12_memoryTold rfl rfl bn_322 sh_322 ⟨by decide, rfl⟩ (by decide) (Nat.zero_le _) (Nat.zero_le _) (Nat.le_of_ble_eq_true rfl) (c_X12_memoryTold hR (show rf_To o from hTo) (show rf_Cn (h 323) from hC)) ?_
      refine am_hp (show (am_row (am_row h 322 o) 322 (rf_oNum (h 328) o)) = (am_row h 322 (rf_oNum (h 328) o)) from am_row_s0) ?_
      refine am_istore_n (pc := 6) (ls' := [(0, .ref 322), (1, .int x), (2, .int (am_oi (rf_rM (h 328) o (h 323))))]) C dX12_memoriesTold_6 (by decide) rfl ?_
      refine am_iload_n (pc := 7) C dX12_memoriesTold_7 rfl ?_
      refine am_if_geO (pc := 8) (tgt := 13) C dX12_memoriesTold_8 (by decide) (by omega) (fun q8 => ?_) (fun q8 => ?_)
      · skip
        refine am_lsv (ls' := [(0, .ref 322), (1, .int x), (2, .int (nI (rf_rM (h 328) o (h 323) - 1)))]) (by rw [show (am_oi (rf_rM (h 328) o (h 323))) = (nI (rf_rM (h 328) o (h 323) - 1)) from am_oi_p q8]) ?_
        refine am_iload_n (pc := 13) C dX12_memoriesTold_13 rfl ?_
        refine am_iconstN (pc := 14) (k := 1) C dX12_memoriesTold_14 ?_
        refine am_iload_n (pc := 15) C dX12_memoriesTold_15 rfl ?_
        refine am_ishl (pc := 16) C dX12_memoriesTold_16 ?_
        refine am_ior (pc := 17) C dX12_memoriesTold_17 ?_
        refine am_istore_n (pc := 18) (ls' := [(0, .ref 322), (1, .int (x ||| ((nI 1) <<< ((nI (rf_rM (h 328) o (h 323) - 1)) &&& 31)))), (2, .int (nI (rf_rM (h 328) o (h 323) - 1)))]) C dX12_memoriesTold_18 (by decide) rfl ?_
        refine am_aload_n (pc := 19) C dX12_memoriesTold_19 rfl ?_
        refine am_callVi (Y := mX12_isFigure) (pc := 20) (st := []) (As := []) (x := (am_b (rf_rFig (h 328) (rf_oNum (h 328) o)))) (h2 := (am_row (am_row h 322 (rf_oNum (h 328) o)) 322 (rf_oBl (h 328) (rf_oNum (h 328) o)))) C dX12_memoriesTold_20 k12_136 v_X12_isFigure rfl rfl bn_322 sh_322 ⟨by decide, rfl⟩ (by decide) (Nat.zero_le _) (Nat.zero_le _) (Nat.le_of_ble_eq_true rfl) (c_X12_isFigure hR (show rf_To (rf_oNum (h 328) o) from hTn2.1)) ?_
        refine am_hp (show (am_row (am_row h 322 (rf_oNum (h 328) o)) 322 (rf_oBl (h 328) (rf_oNum (h 328) o))) = (am_row h 322 (rf_oBl (h 328) (rf_oNum (h 328) o))) from am_row_s0) ?_
        refine am_if_neB (pc := 23) (tgt := 2) C dX12_memoriesTold_23 (by decide) (fun q23 => ?_) (fun q23 => ?_)
        · skip
          refine am_sub (ls' := [(0, .ref 322), (1, .int (x ||| ((nI 1) <<< ((nI (rf_rM (h 328) o (h 323) - 1)) &&& 31))))]) (by intro q hq; simp only [List.mem_cons, List.not_mem_nil, or_false] at hq ⊢; rcases hq with rfl | rfl <;> simp) ?_
          refine am_lsv (ls' := [(0, .ref 322), (1, .int (x ||| rf_bit (rf_rM (h 328) o (h 323) - 1)))]) (by rw [show (x ||| ((nI 1) <<< ((nI (rf_rM (h 328) o (h 323) - 1)) &&& 31))) = (x ||| rf_bit (rf_rM (h 328) o (h 323) - 1)) from rfl]) ?_
          exact ih2 (rf_oBl (h 328) (rf_oNum (h 328) o)) (x ||| rf_bit (rf_rM (h 328) o (h 323) - 1)) hTb2.1 (by have a9 := rf_num_s hTo (show rf_rNum (h 328) o 0 (nI (rf_M (h 323)) - nI 1) ≠ 0 from by have := q8; unfold rf_rM at this; omega); have b9 := hTb2.2.1; rw [(hTn2.tr hTb2).e]; have c9 : rf_p o ≤ rf_e o := hTo.2.2.1; have d9 : rf_p (rf_oBl (h 328) (rf_oNum (h 328) o)) ≤ rf_e (rf_oBl (h 328) (rf_oNum (h 328) o)) := hTb2.1.2.2.1; rw [(hTn2.tr hTb2).e] at d9; omega) (by rw [← hms, rf_ms, if_neg (show ¬ rf_rM (h 328) o (h 323) = 0 by omega), q23]; rfl)
        · skip
          refine am_iload_n (pc := 26) C dX12_memoriesTold_26 rfl ?_
          have E9 : rf_mt (h 328) (h 322) (h 323) = ((x ||| ((nI 1) <<< ((nI (rf_rM (h 328) o (h 323) - 1)) &&& 31))), rf_oBl (h 328) (rf_oNum (h 328) o)) := (by rw [rf_mt, ← hms, rf_ms, if_neg (by omega), q23]; rfl)
          exact am_ireti T dX12_memoriesTold_27 rfl (Nat.le_refl _) (Nat.le_refl _) (by rw [E9] <;> rfl) rfl (by rw [E9] <;> exact rfl)
      · skip
        refine am_iconst (pc := 11) (v := -1) C dX12_memoriesTold_11 rfl ?_
        have E9 : rf_mt (h 328) (h 322) (h 323) = ((-1), rf_oNum (h 328) o) := (by rw [rf_mt, ← hms, rf_ms, if_pos q8])
        exact am_ireti T dX12_memoriesTold_12 rfl (Nat.le_refl _) (Nat.le_refl _) (by rw [E9] <;> rfl) rfl (by rw [E9] <;> exact rfl)
  refine am_hp (show h = (am_row h 322 (h 322)) from (am_row_id _ _).symm) ?_
  exact L2 402 (h 322) (nI 0) hT (by omega) rfl

set_option maxHeartbeats 400000 in
set_option maxRecDepth 100000 in
theorem c_X12_emits {ad : Nat → Nat} {r : am_R} (hR : am_rs r) {h : am_H} (a : Int32) (b : Int32) (hn : rf_n ((h 322) 16) 400)  : am_CM mX12_emits 0 0 0 [.ref 322, .int a, .int b] (am_VV ad) r h (am_po none r (am_row (am_row h 322 (rf_oEm (h 322))) 323 (rf_wEm (h 322) (h 323) a b))) := by
  refine am_CM.of (by decide +kernel) (Nat.le_of_ble_eq_true rfl) (fun X C T => ?_)
  show am_G X (am_VV ad) (0, 0) 0 [(0, .ref 322), (1, .int a), (2, .int b)] [] r h
  have hn4 : rf_ems (h 322) < 400 := hn.2
  refine am_aload_n (pc := 0) C dX12_emits_0 rfl ?_
  refine am_getR (pc := 1) (j := 323) C dX12_emits_1 f12_13 bn_322 sh_322 (rf_322_1 hR) ?_
  refine am_sipush (pc := 4) (v := nI 1629) C dX12_emits_4 (by decide) ?_
  refine am_iconstN (pc := 7) (k := 2) C dX12_emits_7 ?_
  refine am_aload_n (pc := 8) C dX12_emits_8 rfl ?_
  refine am_getI (pc := 9) C dX12_emits_9 f12_197 bn_322 sh_322 ?_
  refine am_top (show ((h 322) 16) = (nI (rf_ems (h 322))) from hn.1) ?_
  refine am_imulN (pc := 12) C dX12_emits_12 ?_
  refine am_iaddN (pc := 13) C dX12_emits_13 ?_
  refine am_iload_n (pc := 14) C dX12_emits_14 rfl ?_
  refine am_iastore (pc := 15) C dX12_emits_15 bn_323 sh_323 (vp_in_nI (by omega) (by decide)) ?_
  refine am_hp (show am_up h 323 (nI (1629 + (2 * (rf_ems (h 322))))).toNatClampNeg a = am_row h 323 (upd (h 323) (1629 + (2 * (rf_ems (h 322)))) a) from by rw [nI_clamp (by omega)]; exact am_up_rw _ _ _ _) ?_
  refine am_aload_n (pc := 16) C dX12_emits_16 rfl ?_
  refine am_getR (pc := 17) (j := 323) C dX12_emits_17 f12_13 bn_322 sh_322 (rf_322_1 hR) ?_
  refine am_sipush (pc := 20) (v := nI 1629) C dX12_emits_20 (by decide) ?_
  refine am_iconstN (pc := 23) (k := 2) C dX12_emits_23 ?_
  refine am_aload_n (pc := 24) C dX12_emits_24 rfl ?_
  refine am_getI (pc := 25) C dX12_emits_25 f12_197 bn_322 sh_322 ?_
  refine am_top (show ((h 322) 16) = (nI (rf_ems (h 322))) from hn.1) ?_
  refine am_imulN (pc := 28) C dX12_emits_28 ?_
  refine am_iaddN (pc := 29) C dX12_emits_29 ?_
  refine am_iconstN (pc := 30) (k := 1) C dX12_emits_30 ?_
  refine am_iaddN (pc := 31) C dX12_emits_31 ?_
  refine am_iload_n (pc := 32) C dX12_emits_32 rfl ?_
  refine am_iastore (pc := 33) C dX12_emits_33 bn_323 sh_323 (vp_in_nI (by omega) (by decide)) ?_
  refine am_hp (show am_up (am_row h 323 (upd (h 323) (1629 + (2 * (rf_ems (h 322)))) a)) 323 (nI ((1629 + (2 * (rf_ems (h 322)))) + 1)).toNatClampNeg b = am_row (am_row h 323 (upd (h 323) (1629 + (2 * (rf_ems (h 322)))) a)) 323 (upd (upd (h 323) (1629 + (2 * (rf_ems (h 322)))) a) ((1629 + (2 * (rf_ems (h 322)))) + 1) b) from by rw [nI_clamp (by omega)]; exact am_up_rw _ _ _ _) ?_
  refine am_hp (show am_row (am_row h 323 (upd (h 323) (1629 + (2 * (rf_ems (h 322)))) a)) 323 (upd (upd (h 323) (1629 + (2 * (rf_ems (h 322)))) a) ((1629 + (2 * (rf_ems (h 322)))) + 1) b) = (am_row h 323 (upd (upd (h 323) (1629 + (2 * (rf_ems (h 322)))) a) ((1629 + (2 * (rf_ems (h 322)))) + 1) b)) from am_row_s0) ?_
  refine am_aload_n (pc := 34) C dX12_emits_34 rfl ?_
  refine am_dup (pc := 35) C dX12_emits_35 rfl ?_
  refine am_getI (pc := 36) C dX12_emits_36 f12_197 bn_322 sh_322 ?_
  refine am_top (show ((h 322) 16) = (nI (rf_ems (h 322))) from hn.1) ?_
  refine am_iconstN (pc := 39) (k := 1) C dX12_emits_39 ?_
  refine am_iaddN (pc := 40) C dX12_emits_40 ?_
  refine am_putI (pc := 41) C dX12_emits_41 f12_197 bn_322 sh_322 rfl rfl ?_
  refine am_hp (show am_up (am_row h 323 (upd (upd (h 323) (1629 + (2 * (rf_ems (h 322)))) a) ((1629 + (2 * (rf_ems (h 322)))) + 1) b)) 322 16 (nI ((rf_ems (h 322)) + 1)) = am_row (am_row h 323 (upd (upd (h 323) (1629 + (2 * (rf_ems (h 322)))) a) ((1629 + (2 * (rf_ems (h 322)))) + 1) b)) 322 (upd (h 322) 16 (nI ((rf_ems (h 322)) + 1))) from am_up_rw _ _ _ _) ?_
  exact am_vretv T dX12_emits_44 rfl (Nat.le_refl _) (Nat.le_refl _) rfl (am_row_c (by decide))

set_option maxHeartbeats 400000 in
set_option maxRecDepth 100000 in
theorem c_X12_readMemory {ad : Nat → Nat} {r : am_R} (hR : am_rs r) {h : am_H}  (hT : rf_To (h 322)) (hC : rf_Cn (h 323))  : am_CM mX12_readMemory 9 0 0 [.ref 322] (am_VV ad) r h (am_po (some (.int (am_b ((rf_lnM (h 328) (h 322) (h 323)).1)))) r (am_row (am_row h 322 ((rf_lnM (h 328) (h 322) (h 323)).2.1)) 323 ((rf_lnM (h 328) (h 322) (h 323)).2.2))) := by
  refine am_CM.of (by decide +kernel) (Nat.le_of_ble_eq_true rfl) (fun X C T => ?_)
  show am_G X (am_VV ad) (0, 0) 0 [(0, .ref 322)] [] r h
  have hp4 : rf_p (h 322) ≤ rf_e (h 322) := hT.2.2.1
  have he4 : rf_e (h 322) < 401 := hT.2.1.2
  have hTn := rf_Tm_num (t := h 328) hT
  have hM9 : rf_M (h 323) < 17 := hC.1.2
  have hS9 : rf_S (h 323) < 11 := hC.2.1.2
  have hO9 : rf_O (h 323) < 11 := hC.2.2.2
  have hTp := rf_Tm_pas (t := h 328) (k := 1) hTn.1
  have hnb15 := rf_num_b (t := h 328) (o := h 322) (low := 1) (high := nI 99)
  refine am_aload_n (pc := 0) C dX12_readMemory_0 rfl ?_
  refine am_callVi (Y := mX12_memories) (pc := 1) (st := []) (As := []) (x := (nI (rf_M (h 323)))) (h2 := h) C dX12_readMemory_1 k12_67 v_X12_memories rfl rfl bn_322 sh_322 ⟨by decide, rfl⟩ (by decide) (Nat.zero_le _) (Nat.zero_le _) (Nat.le_of_ble_eq_true rfl) (c_X12_memories hR hC) ?_
  refine am_istore_n (pc := 4) (ls' := [(0, .ref 322), (1, .int (nI (rf_M (h 323))))]) C dX12_readMemory_4 (by decide) rfl ?_
  refine am_iload_n (pc := 5) C dX12_readMemory_5 rfl ?_
  refine am_bipush (pc := 6) (v := nI 16) C dX12_readMemory_6 (by decide) ?_
  refine am_icmp_neN (pc := 8) (tgt := 13) C dX12_readMemory_8 (by decide) (by omega) (by omega) (fun q8 => ?_) (fun q8 => ?_)
  · skip
    refine am_aload_n (pc := 13) C dX12_readMemory_13 rfl ?_
    refine am_iconstN (pc := 14) (k := 1) C dX12_readMemory_14 ?_
    refine am_bipush (pc := 15) (v := nI 99) C dX12_readMemory_15 (by decide) ?_
    refine am_callVi (Y := mX12_number) (pc := 17) (st := []) (As := [.int (nI 1), .int (nI 99)]) (x := (am_oi (rf_rNum (h 328) (h 322) 1 (nI 99)))) (h2 := (am_row h 322 (rf_oNum (h 328) (h 322)))) C dX12_readMemory_17 k12_130 v_X12_number rfl rfl bn_322 sh_322 ⟨by decide, rfl⟩ (by decide) (Nat.zero_le _) (Nat.zero_le _) (Nat.le_of_ble_eq_true rfl) (c_X12_number hR 1 (nI 99) (show rf_To (h 322) from hT) (show 1 < 2147483648 from (by decide))) ?_
    refine am_istore_n (pc := 20) (ls' := [(0, .ref 322), (1, .int (nI (rf_M (h 323)))), (2, .int (am_oi (rf_rNum (h 328) (h 322) 1 (nI 99))))]) C dX12_readMemory_20 (by decide) rfl ?_
    refine am_iload_n (pc := 21) C dX12_readMemory_21 rfl ?_
    refine am_if_geO (pc := 22) (tgt := 27) C dX12_readMemory_22 (by decide) (by omega) (fun q22 => ?_) (fun q22 => ?_)
    · skip
      refine am_lsv (ls' := [(0, .ref 322), (1, .int (nI (rf_M (h 323)))), (2, .int (nI (rf_rNum (h 328) (h 322) 1 (nI 99) - 1)))]) (by rw [show (am_oi (rf_rNum (h 328) (h 322) 1 (nI 99))) = (nI (rf_rNum (h 328) (h 322) 1 (nI 99) - 1)) from am_oi_p q22]) ?_
      refine am_aload_n (pc := 27) C dX12_readMemory_27 rfl ?_
      refine am_ldcs (pc := 28) (k := 1) (t := "needs") C dX12_readMemory_28 (by decide) (List.mem_of_getElem? (i := 48) rfl) ?_
      refine am_callVi (Y := mX12_passes) (pc := 30) (st := []) (As := [.ref (am_SB + 1)]) (x := (am_b (rf_rPas (h 328) (rf_oNum (h 328) (h 322)) 1))) (h2 := (am_row (am_row h 322 (rf_oNum (h 328) (h 322))) 322 (rf_oPas (h 328) (rf_oNum (h 328) (h 322)) 1))) C dX12_readMemory_30 k12_142 v_X12_passes rfl rfl bn_322 sh_322 ⟨by decide, rfl⟩ (by decide) (Nat.zero_le _) (Nat.zero_le _) (Nat.le_of_ble_eq_true rfl) (c_X12_passes hR 1 (show rf_To (rf_oNum (h 328) (h 322)) from hTn.1) (show 1 < am_TX.length from (by decide))) ?_
      refine am_hp (show (am_row (am_row h 322 (rf_oNum (h 328) (h 322))) 322 (rf_oPas (h 328) (rf_oNum (h 328) (h 322)) 1)) = (am_row h 322 (rf_oPas (h 328) (rf_oNum (h 328) (h 322)) 1)) from am_row_s0) ?_
      refine am_if_eqB (pc := 33) (tgt := 43) C dX12_readMemory_33 (by decide) (fun q33 => ?_) (fun q33 => ?_)
      · skip
        refine am_iconstN (pc := 43) (k := 0) C dX12_readMemory_43 ?_
        refine am_istore_n (pc := 44) (ls' := [(0, .ref 322), (1, .int (nI (rf_M (h 323)))), (2, .int (nI (rf_rNum (h 328) (h 322) 1 (nI 99) - 1))), (3, .int (nI 0))]) C dX12_readMemory_44 (by decide) rfl ?_
        refine am_iload_n (pc := 45) C dX12_readMemory_45 rfl ?_
        refine am_if_geN (pc := 46) (tgt := 51) C dX12_readMemory_46 (by decide) (by omega) ?_
        refine am_aload_n (pc := 51) C dX12_readMemory_51 rfl ?_
        refine am_getR (pc := 52) (j := 323) C dX12_readMemory_52 f12_13 bn_322 sh_322 (rf_322_1 hR) ?_
        refine am_bipush (pc := 55) (v := nI 13) C dX12_readMemory_55 (by decide) ?_
        refine am_iconstN (pc := 57) (k := 3) C dX12_readMemory_57 ?_
        refine am_iload_n (pc := 58) C dX12_readMemory_58 rfl ?_
        refine am_imulN (pc := 59) C dX12_readMemory_59 ?_
        refine am_iaddN (pc := 60) C dX12_readMemory_60 ?_
        refine am_iload_n (pc := 61) C dX12_readMemory_61 rfl ?_
        refine am_iastore (pc := 62) C dX12_readMemory_62 bn_323 sh_323 (vp_in_nI (by omega) (by decide)) ?_
        refine am_hp (show am_up (am_row h 322 (rf_oPas (h 328) (rf_oNum (h 328) (h 322)) 1)) 323 (nI (13 + (3 * (rf_M (h 323))))).toNatClampNeg (nI (rf_rNum (h 328) (h 322) 1 (nI 99) - 1)) = am_row (am_row h 322 (rf_oPas (h 328) (rf_oNum (h 328) (h 322)) 1)) 323 (upd (h 323) (13 + (3 * (rf_M (h 323)))) (nI (rf_rNum (h 328) (h 322) 1 (nI 99) - 1))) from by rw [nI_clamp (by omega)]; exact am_up_rw _ _ _ _) ?_
        refine am_aload_n (pc := 63) C dX12_readMemory_63 rfl ?_
        refine am_getR (pc := 64) (j := 323) C dX12_readMemory_64 f12_13 bn_322 sh_322 (rf_322_1 hR) ?_
        refine am_bipush (pc := 67) (v := nI 13) C dX12_readMemory_67 (by decide) ?_
        refine am_iconstN (pc := 69) (k := 3) C dX12_readMemory_69 ?_
        refine am_iload_n (pc := 70) C dX12_readMemory_70 rfl ?_
        refine am_imulN (pc := 71) C dX12_readMemory_71 ?_
        refine am_iaddN (pc := 72) C dX12_readMemory_72 ?_
        refine am_iconstN (pc := 73) (k := 1) C dX12_readMemory_73 ?_
        refine am_iaddN (pc := 74) C dX12_readMemory_74 ?_
        refine am_iload_n (pc := 75) C dX12_readMemory_75 rfl ?_
        refine am_iastore (pc := 76) C dX12_readMemory_76 bn_323 sh_323 (vp_in_nI (by omega) (by decide)) ?_
        refine am_hp (show am_up (am_row (am_row h 322 (rf_oPas (h 328) (rf_oNum (h 328) (h 322)) 1)) 323 (upd (h 323) (13 + (3 * (rf_M (h 323)))) (nI (rf_rNum (h 328) (h 322) 1 (nI 99) - 1)))) 323 (nI ((13 + (3 * (rf_M (h 323)))) + 1)).toNatClampNeg (nI 0) = am_row (am_row (am_row h 322 (rf_oPas (h 328) (rf_oNum (h 328) (h 322)) 1)) 323 (upd (h 323) (13 + (3 * (rf_M (h 323)))) (nI (rf_rNum (h 328) (h 322) 1 (nI 99) - 1)))) 323 (upd (upd (h 323) (13 + (3 * (rf_M (h 323)))) (nI (rf_rNum (h 328) (h 322) 1 (nI 99) - 1))) ((13 + (3 * (rf_M (h 323)))) + 1) (nI 0)) from by rw [nI_clamp (by omega)]; exact am_up_rw _ _ _ _) ?_
        refine am_hp (show am_row (am_row (am_row h 322 (rf_oPas (h 328) (rf_oNum (h 328) (h 322)) 1)) 323 (upd (h 323) (13 + (3 * (rf_M (h 323)))) (nI (rf_rNum (h 328) (h 322) 1 (nI 99) - 1)))) 323 (upd (upd (h 323) (13 + (3 * (rf_M (h 323)))) (nI (rf_rNum (h 328) (h 322) 1 (nI 99) - 1))) ((13 + (3 * (rf_M (h 323)))) + 1) (nI 0)) = (am_row (am_row h 322 (rf_oPas (h 328) (rf_oNum (h 328) (h 322)) 1)) 323 (upd (upd (h 323) (13 + (3 * (rf_M (h 323)))) (nI (rf_rNum (h 328) (h 322) 1 (nI 99) - 1))) ((13 + (3 * (rf_M (h 323)))) + 1) (nI 0))) from am_row_s0) ?_
        refine am_aload_n (pc := 77) C dX12_readMemory_77 rfl ?_
        refine am_getR (pc := 78) (j := 323) C dX12_readMemory_78 f12_13 bn_322 sh_322 (rf_322_1 hR) ?_
        refine am_bipush (pc := 81) (v := nI 13) C dX12_readMemory_81 (by decide) ?_
        refine am_iconstN (pc := 83) (k := 3) C dX12_readMemory_83 ?_
        refine am_iload_n (pc := 84) C dX12_readMemory_84 rfl ?_
        refine am_imulN (pc := 85) C dX12_readMemory_85 ?_
        refine am_iaddN (pc := 86) C dX12_readMemory_86 ?_
        refine am_iconstN (pc := 87) (k := 2) C dX12_readMemory_87 ?_
        refine am_iaddN (pc := 88) C dX12_readMemory_88 ?_
        refine am_iconstN (pc := 89) (k := 0) C dX12_readMemory_89 ?_
        refine am_iastore (pc := 90) C dX12_readMemory_90 bn_323 sh_323 (vp_in_nI (by omega) (by decide)) ?_
        refine am_hp (show am_up (am_row (am_row h 322 (rf_oPas (h 328) (rf_oNum (h 328) (h 322)) 1)) 323 (upd (upd (h 323) (13 + (3 * (rf_M (h 323)))) (nI (rf_rNum (h 328) (h 322) 1 (nI 99) - 1))) ((13 + (3 * (rf_M (h 323)))) + 1) (nI 0))) 323 (nI ((13 + (3 * (rf_M (h 323)))) + 2)).toNatClampNeg (nI 0) = am_row (am_row (am_row h 322 (rf_oPas (h 328) (rf_oNum (h 328) (h 322)) 1)) 323 (upd (upd (h 323) (13 + (3 * (rf_M (h 323)))) (nI (rf_rNum (h 328) (h 322) 1 (nI 99) - 1))) ((13 + (3 * (rf_M (h 323)))) + 1) (nI 0))) 323 (upd (upd (upd (h 323) (13 + (3 * (rf_M (h 323)))) (nI (rf_rNum (h 328) (h 322) 1 (nI 99) - 1))) ((13 + (3 * (rf_M (h 323)))) + 1) (nI 0)) ((13 + (3 * (rf_M (h 323)))) + 2) (nI 0)) from by rw [nI_clamp (by omega)]; exact am_up_rw _ _ _ _) ?_
        refine am_hp (show am_row (am_row (am_row h 322 (rf_oPas (h 328) (rf_oNum (h 328) (h 322)) 1)) 323 (upd (upd (h 323) (13 + (3 * (rf_M (h 323)))) (nI (rf_rNum (h 328) (h 322) 1 (nI 99) - 1))) ((13 + (3 * (rf_M (h 323)))) + 1) (nI 0))) 323 (upd (upd (upd (h 323) (13 + (3 * (rf_M (h 323)))) (nI (rf_rNum (h 328) (h 322) 1 (nI 99) - 1))) ((13 + (3 * (rf_M (h 323)))) + 1) (nI 0)) ((13 + (3 * (rf_M (h 323)))) + 2) (nI 0)) = (am_row (am_row h 322 (rf_oPas (h 328) (rf_oNum (h 328) (h 322)) 1)) 323 (upd (upd (upd (h 323) (13 + (3 * (rf_M (h 323)))) (nI (rf_rNum (h 328) (h 322) 1 (nI 99) - 1))) ((13 + (3 * (rf_M (h 323)))) + 1) (nI 0)) ((13 + (3 * (rf_M (h 323)))) + 2) (nI 0))) from am_row_s0) ?_
        refine am_aload_n (pc := 91) C dX12_readMemory_91 rfl ?_
        refine am_getR (pc := 92) (j := 323) C dX12_readMemory_92 f12_13 bn_322 sh_322 (rf_322_1 hR) ?_
        refine am_iconstN (pc := 95) (k := 0) C dX12_readMemory_95 ?_
        refine am_dup2 (pc := 96) C dX12_readMemory_96 rfl rfl ?_
        refine am_iaload (pc := 97) C dX12_readMemory_97 bn_323 sh_323 (vp_in_nI (by omega) (by decide)) ?_
        refine am_top (show (upd (upd (upd (h 323) (13 + (3 * (rf_M (h 323)))) (nI (rf_rNum (h 328) (h 322) 1 (nI 99) - 1))) ((13 + (3 * (rf_M (h 323)))) + 1) (nI 0)) ((13 + (3 * (rf_M (h 323)))) + 2) (nI 0)) (nI 0).toNatClampNeg = (upd (upd (upd (h 323) (13 + (3 * (rf_M (h 323)))) (nI (rf_rNum (h 328) (h 322) 1 (nI 99) - 1))) ((13 + (3 * (rf_M (h 323)))) + 1) (nI 0)) ((13 + (3 * (rf_M (h 323)))) + 2) (nI 0)) 0 from by rw [nI_clamp (by omega)]) ?_
        refine am_top (show ((upd (upd (upd (h 323) (13 + (3 * (rf_M (h 323)))) (nI (rf_rNum (h 328) (h 322) 1 (nI 99) - 1))) ((13 + (3 * (rf_M (h 323)))) + 1) (nI 0)) ((13 + (3 * (rf_M (h 323)))) + 2) (nI 0)) 0) = (nI (rf_M (h 323))) from (by rw [rf_upd_ne (by omega), rf_upd_ne (by omega), rf_upd_ne (by omega)]; exact hC.1.1)) ?_
        refine am_iconstN (pc := 98) (k := 1) C dX12_readMemory_98 ?_
        refine am_iaddN (pc := 99) C dX12_readMemory_99 ?_
        refine am_iastore (pc := 100) C dX12_readMemory_100 bn_323 sh_323 (vp_in_nI (by omega) (by decide)) ?_
        refine am_hp (show am_up (am_row (am_row h 322 (rf_oPas (h 328) (rf_oNum (h 328) (h 322)) 1)) 323 (upd (upd (upd (h 323) (13 + (3 * (rf_M (h 323)))) (nI (rf_rNum (h 328) (h 322) 1 (nI 99) - 1))) ((13 + (3 * (rf_M (h 323)))) + 1) (nI 0)) ((13 + (3 * (rf_M (h 323)))) + 2) (nI 0))) 323 (nI 0).toNatClampNeg (nI ((rf_M (h 323)) + 1)) = am_row (am_row (am_row h 322 (rf_oPas (h 328) (rf_oNum (h 328) (h 322)) 1)) 323 (upd (upd (upd (h 323) (13 + (3 * (rf_M (h 323)))) (nI (rf_rNum (h 328) (h 322) 1 (nI 99) - 1))) ((13 + (3 * (rf_M (h 323)))) + 1) (nI 0)) ((13 + (3 * (rf_M (h 323)))) + 2) (nI 0))) 323 (upd (upd (upd (upd (h 323) (13 + (3 * (rf_M (h 323)))) (nI (rf_rNum (h 328) (h 322) 1 (nI 99) - 1))) ((13 + (3 * (rf_M (h 323)))) + 1) (nI 0)) ((13 + (3 * (rf_M (h 323)))) + 2) (nI 0)) 0 (nI ((rf_M (h 323)) + 1))) from by rw [nI_clamp (by omega)]; exact am_up_rw _ _ _ _) ?_
        refine am_hp (show am_row (am_row (am_row h 322 (rf_oPas (h 328) (rf_oNum (h 328) (h 322)) 1)) 323 (upd (upd (upd (h 323) (13 + (3 * (rf_M (h 323)))) (nI (rf_rNum (h 328) (h 322) 1 (nI 99) - 1))) ((13 + (3 * (rf_M (h 323)))) + 1) (nI 0)) ((13 + (3 * (rf_M (h 323)))) + 2) (nI 0))) 323 (upd (upd (upd (upd (h 323) (13 + (3 * (rf_M (h 323)))) (nI (rf_rNum (h 328) (h 322) 1 (nI 99) - 1))) ((13 + (3 * (rf_M (h 323)))) + 1) (nI 0)) ((13 + (3 * (rf_M (h 323)))) + 2) (nI 0)) 0 (nI ((rf_M (h 323)) + 1))) = (am_row (am_row h 322 (rf_oPas (h 328) (rf_oNum (h 328) (h 322)) 1)) 323 (upd (upd (upd (upd (h 323) (13 + (3 * (rf_M (h 323)))) (nI (rf_rNum (h 328) (h 322) 1 (nI 99) - 1))) ((13 + (3 * (rf_M (h 323)))) + 1) (nI 0)) ((13 + (3 * (rf_M (h 323)))) + 2) (nI 0)) 0 (nI ((rf_M (h 323)) + 1)))) from am_row_s0) ?_
        refine am_iconstN (pc := 101) (k := 1) C dX12_readMemory_101 ?_
        have E9 : rf_lnM (h 328) (h 322) (h 323) = (true, rf_oPas (h 328) (rf_oNum (h 328) (h 322)) 1, upd (upd (upd (upd (h 323) (13 + (3 * (rf_M (h 323)))) (nI (rf_rNum (h 328) (h 322) 1 (nI 99) - 1))) ((13 + (3 * (rf_M (h 323)))) + 1) (nI 0)) ((13 + (3 * (rf_M (h 323)))) + 2) (nI 0)) 0 (nI ((rf_M (h 323)) + 1))) := (by rw [rf_lnM, if_neg q8, if_neg (by omega), rf_needs_f q33, if_neg (show ¬ (nI 0 : Int32) < 0 by decide), rf_addM])
        exact am_iretb T dX12_readMemory_102 rfl (Nat.le_refl _) (Nat.le_refl _) (by rw [E9] <;> rfl) rfl (by rw [E9] <;> exact rfl)
      · skip
        refine am_aload_n (pc := 36) C dX12_readMemory_36 rfl ?_
        refine am_callVi (Y := mX12_memoriesTold) (pc := 37) (st := []) (As := []) (x := ((rf_mt (h 328) (rf_oPas (h 328) (rf_oNum (h 328) (h 322)) 1) (h 323)).1)) (h2 := (am_row (am_row h 322 (rf_oPas (h 328) (rf_oNum (h 328) (h 322)) 1)) 322 ((rf_mt (h 328) (rf_oPas (h 328) (rf_oNum (h 328) (h 322)) 1) (h 323)).2))) C dX12_readMemory_37 k12_145 v_X12_memoriesTold rfl rfl bn_322 sh_322 ⟨by decide, rfl⟩ (by decide) (Nat.zero_le _) (Nat.zero_le _) (Nat.le_of_ble_eq_true rfl) (c_X12_memoriesTold hR (show rf_To (rf_oPas (h 328) (rf_oNum (h 328) (h 322)) 1) from hTp.1) (show rf_Cn (h 323) from hC)) ?_
        refine am_hp (show (am_row (am_row h 322 (rf_oPas (h 328) (rf_oNum (h 328) (h 322)) 1)) 322 ((rf_mt (h 328) (rf_oPas (h 328) (rf_oNum (h 328) (h 322)) 1) (h 323)).2)) = (am_row h 322 ((rf_mt (h 328) (rf_oPas (h 328) (rf_oNum (h 328) (h 322)) 1) (h 323)).2)) from am_row_s0) ?_
        refine am_goto (pc := 40) (tgt := 44) C dX12_readMemory_40 (by decide) ?_
        refine am_istore_n (pc := 44) (ls' := [(0, .ref 322), (1, .int (nI (rf_M (h 323)))), (2, .int (nI (rf_rNum (h 328) (h 322) 1 (nI 99) - 1))), (3, .int ((rf_mt (h 328) (rf_oPas (h 328) (rf_oNum (h 328) (h 322)) 1) (h 323)).1))]) C dX12_readMemory_44 (by decide) rfl ?_
        refine am_iload_n (pc := 45) C dX12_readMemory_45 rfl ?_
        refine am_if_ge (pc := 46) (tgt := 51) C dX12_readMemory_46 (by decide) (fun q46 => ?_) (fun q46 => ?_)
        · skip
          refine am_aload_n (pc := 51) C dX12_readMemory_51 rfl ?_
          refine am_getR (pc := 52) (j := 323) C dX12_readMemory_52 f12_13 bn_322 sh_322 (rf_322_1 hR) ?_
          refine am_bipush (pc := 55) (v := nI 13) C dX12_readMemory_55 (by decide) ?_
          refine am_iconstN (pc := 57) (k := 3) C dX12_readMemory_57 ?_
          refine am_iload_n (pc := 58) C dX12_readMemory_58 rfl ?_
          refine am_imulN (pc := 59) C dX12_readMemory_59 ?_
          refine am_iaddN (pc := 60) C dX12_readMemory_60 ?_
          refine am_iload_n (pc := 61) C dX12_readMemory_61 rfl ?_
          refine am_iastore (pc := 62) C dX12_readMemory_62 bn_323 sh_323 (vp_in_nI (by omega) (by decide)) ?_
          refine am_hp (show am_up (am_row h 322 ((rf_mt (h 328) (rf_oPas (h 328) (rf_oNum (h 328) (h 322)) 1) (h 323)).2)) 323 (nI (13 + (3 * (rf_M (h 323))))).toNatClampNeg (nI (rf_rNum (h 328) (h 322) 1 (nI 99) - 1)) = am_row (am_row h 322 ((rf_mt (h 328) (rf_oPas (h 328) (rf_oNum (h 328) (h 322)) 1) (h 323)).2)) 323 (upd (h 323) (13 + (3 * (rf_M (h 323)))) (nI (rf_rNum (h 328) (h 322) 1 (nI 99) - 1))) from by rw [nI_clamp (by omega)]; exact am_up_rw _ _ _ _) ?_
          refine am_aload_n (pc := 63) C dX12_readMemory_63 rfl ?_
          refine am_getR (pc := 64) (j := 323) C dX12_readMemory_64 f12_13 bn_322 sh_322 (rf_322_1 hR) ?_
          refine am_bipush (pc := 67) (v := nI 13) C dX12_readMemory_67 (by decide) ?_
          refine am_iconstN (pc := 69) (k := 3) C dX12_readMemory_69 ?_
          refine am_iload_n (pc := 70) C dX12_readMemory_70 rfl ?_
          refine am_imulN (pc := 71) C dX12_readMemory_71 ?_
          refine am_iaddN (pc := 72) C dX12_readMemory_72 ?_
          refine am_iconstN (pc := 73) (k := 1) C dX12_readMemory_73 ?_
          refine am_iaddN (pc := 74) C dX12_readMemory_74 ?_
          refine am_iload_n (pc := 75) C dX12_readMemory_75 rfl ?_
          refine am_iastore (pc := 76) C dX12_readMemory_76 bn_323 sh_323 (vp_in_nI (by omega) (by decide)) ?_
          refine am_hp (show am_up (am_row (am_row h 322 ((rf_mt (h 328) (rf_oPas (h 328) (rf_oNum (h 328) (h 322)) 1) (h 323)).2)) 323 (upd (h 323) (13 + (3 * (rf_M (h 323)))) (nI (rf_rNum (h 328) (h 322) 1 (nI 99) - 1)))) 323 (nI ((13 + (3 * (rf_M (h 323)))) + 1)).toNatClampNeg ((rf_mt (h 328) (rf_oPas (h 328) (rf_oNum (h 328) (h 322)) 1) (h 323)).1) = am_row (am_row (am_row h 322 ((rf_mt (h 328) (rf_oPas (h 328) (rf_oNum (h 328) (h 322)) 1) (h 323)).2)) 323 (upd (h 323) (13 + (3 * (rf_M (h 323)))) (nI (rf_rNum (h 328) (h 322) 1 (nI 99) - 1)))) 323 (upd (upd (h 323) (13 + (3 * (rf_M (h 323)))) (nI (rf_rNum (h 328) (h 322) 1 (nI 99) - 1))) ((13 + (3 * (rf_M (h 323)))) + 1) ((rf_mt (h 328) (rf_oPas (h 328) (rf_oNum (h 328) (h 322)) 1) (h 323)).1)) from by rw [nI_clamp (by omega)]; exact am_up_rw _ _ _ _) ?_
          refine am_hp (show am_row (am_row (am_row h 322 ((rf_mt (h 328) (rf_oPas (h 328) (rf_oNum (h 328) (h 322)) 1) (h 323)).2)) 323 (upd (h 323) (13 + (3 * (rf_M (h 323)))) (nI (rf_rNum (h 328) (h 322) 1 (nI 99) - 1)))) 323 (upd (upd (h 323) (13 + (3 * (rf_M (h 323)))) (nI (rf_rNum (h 328) (h 322) 1 (nI 99) - 1))) ((13 + (3 * (rf_M (h 323)))) + 1) ((rf_mt (h 328) (rf_oPas (h 328) (rf_oNum (h 328) (h 322)) 1) (h 323)).1)) = (am_row (am_row h 322 ((rf_mt (h 328) (rf_oPas (h 328) (rf_oNum (h 328) (h 322)) 1) (h 323)).2)) 323 (upd (upd (h 323) (13 + (3 * (rf_M (h 323)))) (nI (rf_rNum (h 328) (h 322) 1 (nI 99) - 1))) ((13 + (3 * (rf_M (h 323)))) + 1) ((rf_mt (h 328) (rf_oPas (h 328) (rf_oNum (h 328) (h 322)) 1) (h 323)).1))) from am_row_s0) ?_
          refine am_aload_n (pc := 77) C dX12_readMemory_77 rfl ?_
          refine am_getR (pc := 78) (j := 323) C dX12_readMemory_78 f12_13 bn_322 sh_322 (rf_322_1 hR) ?_
          refine am_bipush (pc := 81) (v := nI 13) C dX12_readMemory_81 (by decide) ?_
          refine am_iconstN (pc := 83) (k := 3) C dX12_readMemory_83 ?_
          refine am_iload_n (pc := 84) C dX12_readMemory_84 rfl ?_
          refine am_imulN (pc := 85) C dX12_readMemory_85 ?_
          refine am_iaddN (pc := 86) C dX12_readMemory_86 ?_
          refine am_iconstN (pc := 87) (k := 2) C dX12_readMemory_87 ?_
          refine am_iaddN (pc := 88) C dX12_readMemory_88 ?_
          refine am_iconstN (pc := 89) (k := 0) C dX12_readMemory_89 ?_
          refine am_iastore (pc := 90) C dX12_readMemory_90 bn_323 sh_323 (vp_in_nI (by omega) (by decide)) ?_
          refine am_hp (show am_up (am_row (am_row h 322 ((rf_mt (h 328) (rf_oPas (h 328) (rf_oNum (h 328) (h 322)) 1) (h 323)).2)) 323 (upd (upd (h 323) (13 + (3 * (rf_M (h 323)))) (nI (rf_rNum (h 328) (h 322) 1 (nI 99) - 1))) ((13 + (3 * (rf_M (h 323)))) + 1) ((rf_mt (h 328) (rf_oPas (h 328) (rf_oNum (h 328) (h 322)) 1) (h 323)).1))) 323 (nI ((13 + (3 * (rf_M (h 323)))) + 2)).toNatClampNeg (nI 0) = am_row (am_row (am_row h 322 ((rf_mt (h 328) (rf_oPas (h 328) (rf_oNum (h 328) (h 322)) 1) (h 323)).2)) 323 (upd (upd (h 323) (13 + (3 * (rf_M (h 323)))) (nI (rf_rNum (h 328) (h 322) 1 (nI 99) - 1))) ((13 + (3 * (rf_M (h 323)))) + 1) ((rf_mt (h 328) (rf_oPas (h 328) (rf_oNum (h 328) (h 322)) 1) (h 323)).1))) 323 (upd (upd (upd (h 323) (13 + (3 * (rf_M (h 323)))) (nI (rf_rNum (h 328) (h 322) 1 (nI 99) - 1))) ((13 + (3 * (rf_M (h 323)))) + 1) ((rf_mt (h 328) (rf_oPas (h 328) (rf_oNum (h 328) (h 322)) 1) (h 323)).1)) ((13 + (3 * (rf_M (h 323)))) + 2) (nI 0)) from by rw [nI_clamp (by omega)]; exact am_up_rw _ _ _ _) ?_
          refine am_hp (show am_row (am_row (am_row h 322 ((rf_mt (h 328) (rf_oPas (h 328) (rf_oNum (h 328) (h 322)) 1) (h 323)).2)) 323 (upd (upd (h 323) (13 + (3 * (rf_M (h 323)))) (nI (rf_rNum (h 328) (h 322) 1 (nI 99) - 1))) ((13 + (3 * (rf_M (h 323)))) + 1) ((rf_mt (h 328) (rf_oPas (h 328) (rf_oNum (h 328) (h 322)) 1) (h 323)).1))) 323 (upd (upd (upd (h 323) (13 + (3 * (rf_M (h 323)))) (nI (rf_rNum (h 328) (h 322) 1 (nI 99) - 1))) ((13 + (3 * (rf_M (h 323)))) + 1) ((rf_mt (h 328) (rf_oPas (h 328) (rf_oNum (h 328) (h 322)) 1) (h 323)).1)) ((13 + (3 * (rf_M (h 323)))) + 2) (nI 0)) = (am_row (am_row h 322 ((rf_mt (h 328) (rf_oPas (h 328) (rf_oNum (h 328) (h 322)) 1) (h 323)).2)) 323 (upd (upd (upd (h 323) (13 + (3 * (rf_M (h 323)))) (nI (rf_rNum (h 328) (h 322) 1 (nI 99) - 1))) ((13 + (3 * (rf_M (h 323)))) + 1) ((rf_mt (h 328) (rf_oPas (h 328) (rf_oNum (h 328) (h 322)) 1) (h 323)).1)) ((13 + (3 * (rf_M (h 323)))) + 2) (nI 0))) from am_row_s0) ?_
          refine am_aload_n (pc := 91) C dX12_readMemory_91 rfl ?_
          refine am_getR (pc := 92) (j := 323) C dX12_readMemory_92 f12_13 bn_322 sh_322 (rf_322_1 hR) ?_
          refine am_iconstN (pc := 95) (k := 0) C dX12_readMemory_95 ?_
          refine am_dup2 (pc := 96) C dX12_readMemory_96 rfl rfl ?_
          refine am_iaload (pc := 97) C dX12_readMemory_97 bn_323 sh_323 (vp_in_nI (by omega) (by decide)) ?_
          refine am_top (show (upd (upd (upd (h 323) (13 + (3 * (rf_M (h 323)))) (nI (rf_rNum (h 328) (h 322) 1 (nI 99) - 1))) ((13 + (3 * (rf_M (h 323)))) + 1) ((rf_mt (h 328) (rf_oPas (h 328) (rf_oNum (h 328) (h 322)) 1) (h 323)).1)) ((13 + (3 * (rf_M (h 323)))) + 2) (nI 0)) (nI 0).toNatClampNeg = (upd (upd (upd (h 323) (13 + (3 * (rf_M (h 323)))) (nI (rf_rNum (h 328) (h 322) 1 (nI 99) - 1))) ((13 + (3 * (rf_M (h 323)))) + 1) ((rf_mt (h 328) (rf_oPas (h 328) (rf_oNum (h 328) (h 322)) 1) (h 323)).1)) ((13 + (3 * (rf_M (h 323)))) + 2) (nI 0)) 0 from by rw [nI_clamp (by omega)]) ?_
          refine am_top (show ((upd (upd (upd (h 323) (13 + (3 * (rf_M (h 323)))) (nI (rf_rNum (h 328) (h 322) 1 (nI 99) - 1))) ((13 + (3 * (rf_M (h 323)))) + 1) ((rf_mt (h 328) (rf_oPas (h 328) (rf_oNum (h 328) (h 322)) 1) (h 323)).1)) ((13 + (3 * (rf_M (h 323)))) + 2) (nI 0)) 0) = (nI (rf_M (h 323))) from (by rw [rf_upd_ne (by omega), rf_upd_ne (by omega), rf_upd_ne (by omega)]; exact hC.1.1)) ?_
          refine am_iconstN (pc := 98) (k := 1) C dX12_readMemory_98 ?_
          refine am_iaddN (pc := 99) C dX12_readMemory_99 ?_
          refine am_iastore (pc := 100) C dX12_readMemory_100 bn_323 sh_323 (vp_in_nI (by omega) (by decide)) ?_
          refine am_hp (show am_up (am_row (am_row h 322 ((rf_mt (h 328) (rf_oPas (h 328) (rf_oNum (h 328) (h 322)) 1) (h 323)).2)) 323 (upd (upd (upd (h 323) (13 + (3 * (rf_M (h 323)))) (nI (rf_rNum (h 328) (h 322) 1 (nI 99) - 1))) ((13 + (3 * (rf_M (h 323)))) + 1) ((rf_mt (h 328) (rf_oPas (h 328) (rf_oNum (h 328) (h 322)) 1) (h 323)).1)) ((13 + (3 * (rf_M (h 323)))) + 2) (nI 0))) 323 (nI 0).toNatClampNeg (nI ((rf_M (h 323)) + 1)) = am_row (am_row (am_row h 322 ((rf_mt (h 328) (rf_oPas (h 328) (rf_oNum (h 328) (h 322)) 1) (h 323)).2)) 323 (upd (upd (upd (h 323) (13 + (3 * (rf_M (h 323)))) (nI (rf_rNum (h 328) (h 322) 1 (nI 99) - 1))) ((13 + (3 * (rf_M (h 323)))) + 1) ((rf_mt (h 328) (rf_oPas (h 328) (rf_oNum (h 328) (h 322)) 1) (h 323)).1)) ((13 + (3 * (rf_M (h 323)))) + 2) (nI 0))) 323 (upd (upd (upd (upd (h 323) (13 + (3 * (rf_M (h 323)))) (nI (rf_rNum (h 328) (h 322) 1 (nI 99) - 1))) ((13 + (3 * (rf_M (h 323)))) + 1) ((rf_mt (h 328) (rf_oPas (h 328) (rf_oNum (h 328) (h 322)) 1) (h 323)).1)) ((13 + (3 * (rf_M (h 323)))) + 2) (nI 0)) 0 (nI ((rf_M (h 323)) + 1))) from by rw [nI_clamp (by omega)]; exact am_up_rw _ _ _ _) ?_
          refine am_hp (show am_row (am_row (am_row h 322 ((rf_mt (h 328) (rf_oPas (h 328) (rf_oNum (h 328) (h 322)) 1) (h 323)).2)) 323 (upd (upd (upd (h 323) (13 + (3 * (rf_M (h 323)))) (nI (rf_rNum (h 328) (h 322) 1 (nI 99) - 1))) ((13 + (3 * (rf_M (h 323)))) + 1) ((rf_mt (h 328) (rf_oPas (h 328) (rf_oNum (h 328) (h 322)) 1) (h 323)).1)) ((13 + (3 * (rf_M (h 323)))) + 2) (nI 0))) 323 (upd (upd (upd (upd (h 323) (13 + (3 * (rf_M (h 323)))) (nI (rf_rNum (h 328) (h 322) 1 (nI 99) - 1))) ((13 + (3 * (rf_M (h 323)))) + 1) ((rf_mt (h 328) (rf_oPas (h 328) (rf_oNum (h 328) (h 322)) 1) (h 323)).1)) ((13 + (3 * (rf_M (h 323)))) + 2) (nI 0)) 0 (nI ((rf_M (h 323)) + 1))) = (am_row (am_row h 322 ((rf_mt (h 328) (rf_oPas (h 328) (rf_oNum (h 328) (h 322)) 1) (h 323)).2)) 323 (upd (upd (upd (upd (h 323) (13 + (3 * (rf_M (h 323)))) (nI (rf_rNum (h 328) (h 322) 1 (nI 99) - 1))) ((13 + (3 * (rf_M (h 323)))) + 1) ((rf_mt (h 328) (rf_oPas (h 328) (rf_oNum (h 328) (h 322)) 1) (h 323)).1)) ((13 + (3 * (rf_M (h 323)))) + 2) (nI 0)) 0 (nI ((rf_M (h 323)) + 1)))) from am_row_s0) ?_
          refine am_iconstN (pc := 101) (k := 1) C dX12_readMemory_101 ?_
          have E9 : rf_lnM (h 328) (h 322) (h 323) = (true, (rf_mt (h 328) (rf_oPas (h 328) (rf_oNum (h 328) (h 322)) 1) (h 323)).2, upd (upd (upd (upd (h 323) (13 + (3 * (rf_M (h 323)))) (nI (rf_rNum (h 328) (h 322) 1 (nI 99) - 1))) ((13 + (3 * (rf_M (h 323)))) + 1) ((rf_mt (h 328) (rf_oPas (h 328) (rf_oNum (h 328) (h 322)) 1) (h 323)).1)) ((13 + (3 * (rf_M (h 323)))) + 2) (nI 0)) 0 (nI ((rf_M (h 323)) + 1))) := (by rw [rf_lnM, if_neg q8, if_neg (by omega), rf_needs_t q33, if_neg (Int32.not_lt.mpr q46), rf_addM])
          exact am_iretb T dX12_readMemory_102 rfl (Nat.le_refl _) (Nat.le_refl _) (by rw [E9] <;> rfl) rfl (by rw [E9] <;> exact rfl)
        · skip
          refine am_iconstN (pc := 49) (k := 0) C dX12_readMemory_49 ?_
          have E9 : rf_lnM (h 328) (h 322) (h 323) = (false, (rf_mt (h 328) (rf_oPas (h 328) (rf_oNum (h 328) (h 322)) 1) (h 323)).2, h 323) := (by rw [rf_lnM, if_neg q8, if_neg (by omega), rf_needs_t q33, if_pos (Int32.not_le.mp q46)])
          exact am_iretb T dX12_readMemory_50 rfl (Nat.le_refl _) (Nat.le_refl _) (by rw [E9] <;> rfl) rfl (by rw [E9] <;> exact (show (am_row h 322 ((rf_mt (h 328) (rf_oPas (h 328) (rf_oNum (h 328) (h 322)) 1) (h 323)).2)) = (am_row (am_row h 322 ((rf_mt (h 328) (rf_oPas (h 328) (rf_oNum (h 328) (h 322)) 1) (h 323)).2)) 323 (h 323)) from (am_hA (f := h) (i := 322) (j := 323) (by decide)).symm))
    · skip
      refine am_iconstN (pc := 25) (k := 0) C dX12_readMemory_25 ?_
      have E9 : rf_lnM (h 328) (h 322) (h 323) = (false, rf_oNum (h 328) (h 322), h 323) := (by rw [rf_lnM, if_neg q8, if_pos q22])
      exact am_iretb T dX12_readMemory_26 rfl (Nat.le_refl _) (Nat.le_refl _) (by rw [E9] <;> rfl) rfl (by rw [E9] <;> exact (show (am_row h 322 (rf_oNum (h 328) (h 322))) = (am_row (am_row h 322 (rf_oNum (h 328) (h 322))) 323 (h 323)) from (am_hA (f := h) (i := 322) (j := 323) (by decide)).symm))
  · skip
    refine am_iconstN (pc := 11) (k := 0) C dX12_readMemory_11 ?_
    have E9 : rf_lnM (h 328) (h 322) (h 323) = (false, h 322, h 323) := (by rw [rf_lnM, if_pos q8])
    exact am_iretb T dX12_readMemory_12 rfl (Nat.le_refl _) (Nat.le_refl _) (by rw [E9] <;> rfl) rfl (by rw [E9] <;> exact (show h = (am_row (am_row h 322 (h 322)) 323 (h 323)) from (am_hB h 322 323).symm))

set_option maxHeartbeats 400000 in
set_option maxRecDepth 100000 in
theorem c_X12_readSoldier {ad : Nat → Nat} {r : am_R} (hR : am_rs r) {h : am_H}  (hT : rf_To (h 322)) (hC : rf_Cn (h 323))  : am_CM mX12_readSoldier 3 0 0 [.ref 322] (am_VV ad) r h (am_po (some (.int (am_b ((rf_lnS (h 328) (h 322) (h 323)).1)))) r (am_row (am_row h 322 ((rf_lnS (h 328) (h 322) (h 323)).2.1)) 323 ((rf_lnS (h 328) (h 322) (h 323)).2.2))) := by
  refine am_CM.of (by decide +kernel) (Nat.le_of_ble_eq_true rfl) (fun X C T => ?_)
  show am_G X (am_VV ad) (0, 0) 0 [(0, .ref 322)] [] r h
  have hp4 : rf_p (h 322) ≤ rf_e (h 322) := hT.2.2.1
  have he4 : rf_e (h 322) < 401 := hT.2.1.2
  have hTn := rf_Tm_num (t := h 328) hT
  have hM9 : rf_M (h 323) < 17 := hC.1.2
  have hS9 : rf_S (h 323) < 11 := hC.2.1.2
  have hO9 : rf_O (h 323) < 11 := hC.2.2.2
  have hTb1 := rf_Tm_bl (t := h 328) hTn.1
  have hnb05 := rf_num_b (t := h 328) (o := h 322) (low := 0) (high := nI 1)
  refine am_aload_n (pc := 0) C dX12_readSoldier_0 rfl ?_
  refine am_callVi (Y := mX12_soldiers) (pc := 1) (st := []) (As := []) (x := (nI (rf_S (h 323)))) (h2 := h) C dX12_readSoldier_1 k12_75 v_X12_soldiers rfl rfl bn_322 sh_322 ⟨by decide, rfl⟩ (by decide) (Nat.zero_le _) (Nat.zero_le _) (Nat.le_of_ble_eq_true rfl) (c_X12_soldiers hR hC) ?_
  refine am_istore_n (pc := 4) (ls' := [(0, .ref 322), (1, .int (nI (rf_S (h 323))))]) C dX12_readSoldier_4 (by decide) rfl ?_
  refine am_iload_n (pc := 5) C dX12_readSoldier_5 rfl ?_
  refine am_bipush (pc := 6) (v := nI 10) C dX12_readSoldier_6 (by decide) ?_
  refine am_icmp_neN (pc := 8) (tgt := 13) C dX12_readSoldier_8 (by decide) (by omega) (by omega) (fun q8 => ?_) (fun q8 => ?_)
  · skip
    refine am_iconstN (pc := 13) (k := 0) C dX12_readSoldier_13 ?_
    refine am_istore_n (pc := 14) (ls' := [(0, .ref 322), (1, .int (nI (rf_S (h 323)))), (2, .int (nI 0))]) C dX12_readSoldier_14 (by decide) rfl ?_
    have L15 : ∀ (j15 i15 : Nat), i15 + j15 = 23 → am_G X (am_VV ad) (0, 0) 15 [(0, .ref 322), (1, .int (nI (rf_S (h 323)))), (2, .int (nI i15))] [] r (am_row h 323 (rf_zs (h 323) (rf_S (h 323)) i15)) := by
      intro j15
      induction j15 with
      | zero =>
        intro i15 hi15 
        obtain rfl : i15 = 23 := by omega
        refine am_iload_n (pc := 15) C dX12_readSoldier_15 rfl ?_
        refine am_bipush (pc := 16) (v := nI 23) C dX12_readSoldier_16 (by decide) ?_
        refine am_icmp_geN (pc := 18) (tgt := 34) C dX12_readSoldier_18 (by decide) (by omega) (by omega) (fun q18 => ?_) (fun q18 => ?_)
        · skip
          refine am_aload_n (pc := 34) C dX12_readSoldier_34 rfl ?_
          refine am_iconstN (pc := 35) (k := 0) C dX12_readSoldier_35 ?_
          refine am_iconstN (pc := 36) (k := 1) C dX12_readSoldier_36 ?_
          refine am_callVi (Y := mX12_number) (pc := 37) (st := []) (As := [.int (nI 0), .int (nI 1)]) (x := (am_oi (rf_rNum (h 328) (h 322) 0 (nI 1)))) (h2 := (am_row (am_row h 323 (rf_zs (h 323) (rf_S (h 323)) 23)) 322 (rf_oNum (h 328) (h 322)))) C dX12_readSoldier_37 k12_130 v_X12_number rfl rfl bn_322 sh_322 ⟨by decide, rfl⟩ (by decide) (Nat.zero_le _) (Nat.zero_le _) (Nat.le_of_ble_eq_true rfl) (c_X12_number hR 0 (nI 1) (show rf_To (h 322) from hT) (show 0 < 2147483648 from (by decide))) ?_
          refine am_istore_n (pc := 40) (ls' := [(0, .ref 322), (1, .int (nI (rf_S (h 323)))), (2, .int (am_oi (rf_rNum (h 328) (h 322) 0 (nI 1))))]) C dX12_readSoldier_40 (by decide) rfl ?_
          refine am_iload_n (pc := 41) C dX12_readSoldier_41 rfl ?_
          refine am_if_geO (pc := 42) (tgt := 47) C dX12_readSoldier_42 (by decide) (by omega) (fun q42 => ?_) (fun q42 => ?_)
          · skip
            refine am_lsv (ls' := [(0, .ref 322), (1, .int (nI (rf_S (h 323)))), (2, .int (nI (rf_rNum (h 328) (h 322) 0 (nI 1) - 1)))]) (by rw [show (am_oi (rf_rNum (h 328) (h 322) 0 (nI 1))) = (nI (rf_rNum (h 328) (h 322) 0 (nI 1) - 1)) from am_oi_p q42]) ?_
            refine am_aload_n (pc := 47) C dX12_readSoldier_47 rfl ?_
            refine am_iload_n (pc := 48) C dX12_readSoldier_48 rfl ?_
            refine am_iconstN (pc := 49) (k := 0) C dX12_readSoldier_49 ?_
            refine am_iload_n (pc := 50) C dX12_readSoldier_50 rfl ?_
            refine am_callVv (Y := mX12_sets) (pc := 51) (st := []) (As := [.int (nI (rf_S (h 323))), .int (nI 0), .int (nI (rf_rNum (h 328) (h 322) 0 (nI 1) - 1))]) (h2 := (am_row (am_row (am_row h 323 (rf_zs (h 323) (rf_S (h 323)) 23)) 322 (rf_oNum (h 328) (h 322))) 323 (upd (rf_zs (h 323) (rf_S (h 323)) 23) (61 + 23 * (rf_S (h 323)) + 0) (nI (rf_rNum (h 328) (h 322) 0 (nI 1) - 1))))) C dX12_readSoldier_51 k12_148 v_X12_sets rfl rfl bn_322 sh_322 ⟨by decide, rfl⟩ (by decide) (Nat.zero_le _) (Nat.zero_le _) (Nat.le_of_ble_eq_true rfl) (c_X12_sets hR (rf_S (h 323)) 0 (nI (rf_rNum (h 328) (h 322) 0 (nI 1) - 1)) (show (rf_S (h 323)) < 11 from (by omega)) (show 0 < 23 from (by omega))) ?_
            refine am_hp (show (am_row (am_row (am_row h 323 (rf_zs (h 323) (rf_S (h 323)) 23)) 322 (rf_oNum (h 328) (h 322))) 323 (upd (rf_zs (h 323) (rf_S (h 323)) 23) (61 + 23 * (rf_S (h 323)) + 0) (nI (rf_rNum (h 328) (h 322) 0 (nI 1) - 1)))) = (am_row (am_row h 323 (upd (rf_zs (h 323) (rf_S (h 323)) 23) (61 + 23 * (rf_S (h 323)) + 0) (nI (rf_rNum (h 328) (h 322) 0 (nI 1) - 1)))) 322 (rf_oNum (h 328) (h 322))) from am_row_s1 (by decide)) ?_
            refine am_iconstN (pc := 54) (k := 0) C dX12_readSoldier_54 ?_
            refine am_istore_n (pc := 55) (ls' := [(0, .ref 322), (1, .int (nI (rf_S (h 323)))), (2, .int (nI (rf_rNum (h 328) (h 322) 0 (nI 1) - 1))), (3, .int (nI 0))]) C dX12_readSoldier_55 (by decide) rfl ?_
            have L56 : ∀ (j56 : Nat) (n : Nat) (o : rf_W) (w : rf_W), (hnj : n + j56 = 7) → (hn6 : n ≤ 6) → (hTo : rf_To o) → (hw1 : w 1 = nI (rf_S (h 323))) → (hms : rf_way (h 328) (rf_S (h 323)) j56 n o w = rf_lnS (h 328) (h 322) (h 323)) → am_G X (am_VV ad) (0, 0) 56 [(0, .ref 322), (1, .int (nI (rf_S (h 323)))), (2, .int (nI (rf_rNum (h 328) (h 322) 0 (nI 1) - 1))), (3, .int (nI n))] [] r (am_row (am_row h 323 w) 322 o) := by
              intro j56
              induction j56 with
              | zero =>
                intro n o w hnj hn6 hTo hw1 hms
                exact absurd hnj (by omega)
              | succ j56 ih56 =>
                intro n o w hnj hn6 hTo hw1 hms
                have hnb9 := rf_num_b (t := h 328) (o := o) (low := 0) (high := nI 7)
                have hTn2 := rf_Tm_num (t := h 328) hTo
                have hTb2 := rf_Tm_bl (t := h 328) hTn2.1
                refine am_aload_n (pc := 56) C dX12_readSoldier_56 rfl ?_
                refine am_iconstN (pc := 57) (k := 0) C dX12_readSoldier_57 ?_
                refine am_bipush (pc := 58) (v := nI 7) C dX12_readSoldier_58 (by decide) ?_
                refine am_callVi (Y := mX12_number) (pc := 60) (st := []) (As := [.int (nI 0), .int (nI 7)]) (x := (am_oi (rf_rNum (h 328) o 0 (nI 7)))) (h2 := (am_row (am_row (am_row h 323 w) 322 o) 322 (rf_oNum (h 328) o))) C dX12_readSoldier_60 k12_130 v_X12_number rfl rfl bn_322 sh_322 ⟨by decide, rfl⟩ (by decide) (Nat.zero_le _) (Nat.zero_le _) (Nat.le_of_ble_eq_true rfl) (c_X12_number hR 0 (nI 7) (show rf_To o from hTo) (show 0 < 2147483648 from (by decide))) ?_
                refine am_hp (show (am_row (am_row (am_row h 323 w) 322 o) 322 (rf_oNum (h 328) o)) = (am_row (am_row h 323 w) 322 (rf_oNum (h 328) o)) from am_row_s0) ?_
                refine am_istore (pc := 63) (ls' := [(0, .ref 322), (1, .int (nI (rf_S (h 323)))), (2, .int (nI (rf_rNum (h 328) (h 322) 0 (nI 1) - 1))), (3, .int (nI n)), (4, .int (am_oi (rf_rNum (h 328) o 0 (nI 7))))]) C dX12_readSoldier_63 (by decide) rfl ?_
                refine am_iload (pc := 65) C dX12_readSoldier_65 rfl ?_
                refine am_if_ltO (pc := 67) (tgt := 76) C dX12_readSoldier_67 (by decide) (by omega) (fun q67 => ?_) (fun q67 => ?_)
                · skip
                  refine am_iconstN (pc := 76) (k := 0) C dX12_readSoldier_76 ?_
                  have E9 : rf_lnS (h 328) (h 322) (h 323) = (false, rf_oNum (h 328) o, w) := (by rw [← hms, rf_way, if_pos (Or.inl q67)])
                  exact am_iretb T dX12_readSoldier_77 rfl (Nat.le_refl _) (Nat.le_refl _) (by rw [E9] <;> rfl) rfl (by rw [E9] <;> exact (am_row_c (by decide)))
                · skip
                  refine am_iload_n (pc := 70) C dX12_readSoldier_70 rfl ?_
                  refine am_bipush (pc := 71) (v := nI 6) C dX12_readSoldier_71 (by decide) ?_
                  refine am_icmp_neN (pc := 73) (tgt := 78) C dX12_readSoldier_73 (by decide) (by omega) (by omega) (fun q73 => ?_) (fun q73 => ?_)
                  · skip
                    refine am_lsv (ls' := [(0, .ref 322), (1, .int (nI (rf_S (h 323)))), (2, .int (nI (rf_rNum (h 328) (h 322) 0 (nI 1) - 1))), (3, .int (nI n)), (4, .int (nI (rf_rNum (h 328) o 0 (nI 7) - 1)))]) (by rw [show (am_oi (rf_rNum (h 328) o 0 (nI 7))) = (nI (rf_rNum (h 328) o 0 (nI 7) - 1)) from am_oi_p (by omega)]) ?_
                    refine am_aload_n (pc := 78) C dX12_readSoldier_78 rfl ?_
                    refine am_iload_n (pc := 79) C dX12_readSoldier_79 rfl ?_
                    refine am_iconstN (pc := 80) (k := 3) C dX12_readSoldier_80 ?_
                    refine am_iload_n (pc := 81) C dX12_readSoldier_81 rfl ?_
                    refine am_iaddN (pc := 82) C dX12_readSoldier_82 ?_
                    refine am_iload (pc := 83) C dX12_readSoldier_83 rfl ?_
                    refine am_callVv (Y := mX12_sets) (pc := 85) (st := []) (As := [.int (nI (rf_S (h 323))), .int (nI (3 + n)), .int (nI (rf_rNum (h 328) o 0 (nI 7) - 1))]) (h2 := (am_row (am_row (am_row h 323 w) 322 (rf_oNum (h 328) o)) 323 (upd w (61 + 23 * (rf_S (h 323)) + (3 + n)) (nI (rf_rNum (h 328) o 0 (nI 7) - 1))))) C dX12_readSoldier_85 k12_148 v_X12_sets rfl rfl bn_322 sh_322 ⟨by decide, rfl⟩ (by decide) (Nat.zero_le _) (Nat.zero_le _) (Nat.le_of_ble_eq_true rfl) (c_X12_sets hR (rf_S (h 323)) (3 + n) (nI (rf_rNum (h 328) o 0 (nI 7) - 1)) (show (rf_S (h 323)) < 11 from (by omega)) (show (3 + n) < 23 from (by omega))) ?_
                    refine am_hp (show (am_row (am_row (am_row h 323 w) 322 (rf_oNum (h 328) o)) 323 (upd w (61 + 23 * (rf_S (h 323)) + (3 + n)) (nI (rf_rNum (h 328) o 0 (nI 7) - 1)))) = (am_row (am_row h 323 (upd w (61 + 23 * (rf_S (h 323)) + (3 + n)) (nI (rf_rNum (h 328) o 0 (nI 7) - 1)))) 322 (rf_oNum (h 328) o)) from am_row_s1 (by decide)) ?_
                    refine am_iincN (pc := 88) (ls' := [(0, .ref 322), (1, .int (nI (rf_S (h 323)))), (2, .int (nI (rf_rNum (h 328) (h 322) 0 (nI 1) - 1))), (3, .int (nI (n + 1))), (4, .int (nI (rf_rNum (h 328) o 0 (nI 7) - 1)))]) C dX12_readSoldier_88 rfl (am_up1 _) (by decide) rfl ?_
                    refine am_aload_n (pc := 91) C dX12_readSoldier_91 rfl ?_
                    refine am_callVi (Y := mX12_isFigure) (pc := 92) (st := []) (As := []) (x := (am_b (rf_rFig (h 328) (rf_oNum (h 328) o)))) (h2 := (am_row (am_row (am_row h 323 (upd w (61 + 23 * (rf_S (h 323)) + (3 + n)) (nI (rf_rNum (h 328) o 0 (nI 7) - 1)))) 322 (rf_oNum (h 328) o)) 322 (rf_oBl (h 328) (rf_oNum (h 328) o)))) C dX12_readSoldier_92 k12_136 v_X12_isFigure rfl rfl bn_322 sh_322 ⟨by decide, rfl⟩ (by decide) (Nat.zero_le _) (Nat.zero_le _) (Nat.le_of_ble_eq_true rfl) (c_X12_isFigure hR (show rf_To (rf_oNum (h 328) o) from hTn2.1)) ?_
                    refine am_hp (show (am_row (am_row (am_row h 323 (upd w (61 + 23 * (rf_S (h 323)) + (3 + n)) (nI (rf_rNum (h 328) o 0 (nI 7) - 1)))) 322 (rf_oNum (h 328) o)) 322 (rf_oBl (h 328) (rf_oNum (h 328) o))) = (am_row (am_row h 323 (upd w (61 + 23 * (rf_S (h 323)) + (3 + n)) (nI (rf_rNum (h 328) o 0 (nI 7) - 1)))) 322 (rf_oBl (h 328) (rf_oNum (h 328) o))) from am_row_s0) ?_
                    refine am_if_neB (pc := 95) (tgt := 56) C dX12_readSoldier_95 (by decide) (fun q95 => ?_) (fun q95 => ?_)
                    · skip
                      refine am_sub (ls' := [(0, .ref 322), (1, .int (nI (rf_S (h 323)))), (2, .int (nI (rf_rNum (h 328) (h 322) 0 (nI 1) - 1))), (3, .int (nI (n + 1)))]) (by intro q hq; simp only [List.mem_cons, List.not_mem_nil, or_false] at hq ⊢; rcases hq with rfl | rfl | rfl | rfl <;> simp) ?_
                      refine am_hp (show (am_row (am_row h 323 (upd w (61 + 23 * (rf_S (h 323)) + (3 + n)) (nI (rf_rNum (h 328) o 0 (nI 7) - 1)))) 322 (rf_oBl (h 328) (rf_oNum (h 328) o))) = (am_row (am_row h 323 (upd w (61 + 23 * rf_S (h 323) + (3 + n)) (nI (rf_rNum (h 328) o 0 (nI 7) - 1)))) 322 (rf_oBl (h 328) (rf_oNum (h 328) o))) from rfl) ?_
                      exact ih56 (n + 1) (rf_oBl (h 328) (rf_oNum (h 328) o)) (upd w (61 + 23 * rf_S (h 323) + (3 + n)) (nI (rf_rNum (h 328) o 0 (nI 7) - 1))) (by omega) (by omega) hTb2.1 (by rw [rf_upd_ne (by omega)]; exact hw1) (by rw [← hms, rf_way, if_neg (fun z => z.elim (by omega) q73), q95]; rfl)
                    · skip
                      refine am_aload_n (pc := 98) C dX12_readSoldier_98 rfl ?_
                      refine am_iload_n (pc := 99) C dX12_readSoldier_99 rfl ?_
                      refine am_iconstN (pc := 100) (k := 2) C dX12_readSoldier_100 ?_
                      refine am_iload_n (pc := 101) C dX12_readSoldier_101 rfl ?_
                      refine am_callVv (Y := mX12_sets) (pc := 102) (st := []) (As := [.int (nI (rf_S (h 323))), .int (nI 2), .int (nI (n + 1))]) (h2 := (am_row (am_row (am_row h 323 (upd w (61 + 23 * (rf_S (h 323)) + (3 + n)) (nI (rf_rNum (h 328) o 0 (nI 7) - 1)))) 322 (rf_oBl (h 328) (rf_oNum (h 328) o))) 323 (upd (upd w (61 + 23 * (rf_S (h 323)) + (3 + n)) (nI (rf_rNum (h 328) o 0 (nI 7) - 1))) (61 + 23 * (rf_S (h 323)) + 2) (nI (n + 1))))) C dX12_readSoldier_102 k12_148 v_X12_sets rfl rfl bn_322 sh_322 ⟨by decide, rfl⟩ (by decide) (Nat.zero_le _) (Nat.zero_le _) (Nat.le_of_ble_eq_true rfl) (c_X12_sets hR (rf_S (h 323)) 2 (nI (n + 1)) (show (rf_S (h 323)) < 11 from (by omega)) (show 2 < 23 from (by omega))) ?_
                      refine am_hp (show (am_row (am_row (am_row h 323 (upd w (61 + 23 * (rf_S (h 323)) + (3 + n)) (nI (rf_rNum (h 328) o 0 (nI 7) - 1)))) 322 (rf_oBl (h 328) (rf_oNum (h 328) o))) 323 (upd (upd w (61 + 23 * (rf_S (h 323)) + (3 + n)) (nI (rf_rNum (h 328) o 0 (nI 7) - 1))) (61 + 23 * (rf_S (h 323)) + 2) (nI (n + 1)))) = (am_row (am_row h 323 (upd (upd w (61 + 23 * (rf_S (h 323)) + (3 + n)) (nI (rf_rNum (h 328) o 0 (nI 7) - 1))) (61 + 23 * (rf_S (h 323)) + 2) (nI (n + 1)))) 322 (rf_oBl (h 328) (rf_oNum (h 328) o))) from am_row_s1 (by decide)) ?_
                      refine am_aload_n (pc := 105) C dX12_readSoldier_105 rfl ?_
                      refine am_getR (pc := 106) (j := 323) C dX12_readSoldier_106 f12_13 bn_322 sh_322 (rf_322_1 hR) ?_
                      refine am_iconstN (pc := 109) (k := 1) C dX12_readSoldier_109 ?_
                      refine am_dup2 (pc := 110) C dX12_readSoldier_110 rfl rfl ?_
                      refine am_iaload (pc := 111) C dX12_readSoldier_111 bn_323 sh_323 (vp_in_nI (by omega) (by decide)) ?_
                      refine am_top (show (upd (upd w (61 + 23 * (rf_S (h 323)) + (3 + n)) (nI (rf_rNum (h 328) o 0 (nI 7) - 1))) (61 + 23 * (rf_S (h 323)) + 2) (nI (n + 1))) (nI 1).toNatClampNeg = (upd (upd w (61 + 23 * (rf_S (h 323)) + (3 + n)) (nI (rf_rNum (h 328) o 0 (nI 7) - 1))) (61 + 23 * (rf_S (h 323)) + 2) (nI (n + 1))) 1 from by rw [nI_clamp (by omega)]) ?_
                      refine am_top (show ((upd (upd w (61 + 23 * (rf_S (h 323)) + (3 + n)) (nI (rf_rNum (h 328) o 0 (nI 7) - 1))) (61 + 23 * (rf_S (h 323)) + 2) (nI (n + 1))) 1) = (nI (rf_S (h 323))) from (by rw [rf_upd_ne (by omega), rf_upd_ne (by omega)]; exact hw1)) ?_
                      refine am_iconstN (pc := 112) (k := 1) C dX12_readSoldier_112 ?_
                      refine am_iaddN (pc := 113) C dX12_readSoldier_113 ?_
                      refine am_iastore (pc := 114) C dX12_readSoldier_114 bn_323 sh_323 (vp_in_nI (by omega) (by decide)) ?_
                      refine am_hp (show am_up (am_row (am_row h 323 (upd (upd w (61 + 23 * (rf_S (h 323)) + (3 + n)) (nI (rf_rNum (h 328) o 0 (nI 7) - 1))) (61 + 23 * (rf_S (h 323)) + 2) (nI (n + 1)))) 322 (rf_oBl (h 328) (rf_oNum (h 328) o))) 323 (nI 1).toNatClampNeg (nI ((rf_S (h 323)) + 1)) = am_row (am_row (am_row h 323 (upd (upd w (61 + 23 * (rf_S (h 323)) + (3 + n)) (nI (rf_rNum (h 328) o 0 (nI 7) - 1))) (61 + 23 * (rf_S (h 323)) + 2) (nI (n + 1)))) 322 (rf_oBl (h 328) (rf_oNum (h 328) o))) 323 (upd (upd (upd w (61 + 23 * (rf_S (h 323)) + (3 + n)) (nI (rf_rNum (h 328) o 0 (nI 7) - 1))) (61 + 23 * (rf_S (h 323)) + 2) (nI (n + 1))) 1 (nI ((rf_S (h 323)) + 1))) from by rw [nI_clamp (by omega)]; exact am_up_rw _ _ _ _) ?_
                      refine am_hp (show am_row (am_row (am_row h 323 (upd (upd w (61 + 23 * (rf_S (h 323)) + (3 + n)) (nI (rf_rNum (h 328) o 0 (nI 7) - 1))) (61 + 23 * (rf_S (h 323)) + 2) (nI (n + 1)))) 322 (rf_oBl (h 328) (rf_oNum (h 328) o))) 323 (upd (upd (upd w (61 + 23 * (rf_S (h 323)) + (3 + n)) (nI (rf_rNum (h 328) o 0 (nI 7) - 1))) (61 + 23 * (rf_S (h 323)) + 2) (nI (n + 1))) 1 (nI ((rf_S (h 323)) + 1))) = (am_row (am_row h 323 (upd (upd (upd w (61 + 23 * (rf_S (h 323)) + (3 + n)) (nI (rf_rNum (h 328) o 0 (nI 7) - 1))) (61 + 23 * (rf_S (h 323)) + 2) (nI (n + 1))) 1 (nI ((rf_S (h 323)) + 1)))) 322 (rf_oBl (h 328) (rf_oNum (h 328) o))) from am_row_s1 (by decide)) ?_
                      refine am_iconstN (pc := 115) (k := 1) C dX12_readSoldier_115 ?_
                      have E9 : rf_lnS (h 328) (h 322) (h 323) = (true, rf_oBl (h 328) (rf_oNum (h 328) o), upd (upd (upd w (61 + 23 * (rf_S (h 323)) + (3 + n)) (nI (rf_rNum (h 328) o 0 (nI 7) - 1))) (61 + 23 * (rf_S (h 323)) + 2) (nI (n + 1))) 1 (nI ((rf_S (h 323)) + 1))) := (by rw [← hms, rf_way, if_neg (fun z => z.elim (by omega) q73), q95]; rfl)
                      exact am_iretb T dX12_readSoldier_116 rfl (Nat.le_refl _) (Nat.le_refl _) (by rw [E9] <;> rfl) rfl (by rw [E9] <;> exact (am_row_c (by decide)))
                  · skip
                    refine am_iconstN (pc := 76) (k := 0) C dX12_readSoldier_76 ?_
                    have E9 : rf_lnS (h 328) (h 322) (h 323) = (false, rf_oNum (h 328) o, w) := (by rw [← hms, rf_way, if_pos (Or.inr q73)])
                    exact am_iretb T dX12_readSoldier_77 rfl (Nat.le_refl _) (Nat.le_refl _) (by rw [E9] <;> rfl) rfl (by rw [E9] <;> exact (am_row_c (by decide)))
            refine am_hp (show (am_row (am_row h 323 (upd (rf_zs (h 323) (rf_S (h 323)) 23) (61 + 23 * (rf_S (h 323)) + 0) (nI (rf_rNum (h 328) (h 322) 0 (nI 1) - 1)))) 322 (rf_oNum (h 328) (h 322))) = (am_row (am_row h 323 (upd (rf_zs (h 323) (rf_S (h 323)) 23) (61 + 23 * rf_S (h 323) + 0) (nI (rf_rNum (h 328) (h 322) 0 (nI 1) - 1)))) 322 (rf_oNum (h 328) (h 322))) from rfl) ?_
            exact L56 7 0 (rf_oNum (h 328) (h 322)) (upd (rf_zs (h 323) (rf_S (h 323)) 23) (61 + 23 * rf_S (h 323) + 0) (nI (rf_rNum (h 328) (h 322) 0 (nI 1) - 1))) (by omega) (by omega) hTn.1 (by rw [rf_upd_ne (by omega), rf_zs_out 23 (by omega)]; exact hC.2.1.1) (by rw [rf_lnS, if_neg q8, if_neg (by omega)])
          · skip
            refine am_iconstN (pc := 45) (k := 0) C dX12_readSoldier_45 ?_
            have E9 : rf_lnS (h 328) (h 322) (h 323) = (false, rf_oNum (h 328) (h 322), (rf_zs (h 323) (rf_S (h 323)) 23)) := (by rw [rf_lnS, if_neg q8, if_pos q42])
            exact am_iretb T dX12_readSoldier_46 rfl (Nat.le_refl _) (Nat.le_refl _) (by rw [E9] <;> rfl) rfl (by rw [E9] <;> exact (am_row_c (by decide)))
        · skip
          exact absurd q18 (by omega)
      | succ j15 ih15 =>
        intro i15 hi15 
        have hl15 : i15 < 23 := by omega
        refine am_iload_n (pc := 15) C dX12_readSoldier_15 rfl ?_
        refine am_bipush (pc := 16) (v := nI 23) C dX12_readSoldier_16 (by decide) ?_
        refine am_icmp_geN (pc := 18) (tgt := 34) C dX12_readSoldier_18 (by decide) (by omega) (by omega) (fun q18 => ?_) (fun q18 => ?_)
        · skip
          exact absurd q18 (by omega)
        · skip
          refine am_aload_n (pc := 21) C dX12_readSoldier_21 rfl ?_
          refine am_iload_n (pc := 22) C dX12_readSoldier_22 rfl ?_
          refine am_iload_n (pc := 23) C dX12_readSoldier_23 rfl ?_
          refine am_iconstN (pc := 24) (k := 0) C dX12_readSoldier_24 ?_
          refine am_callVv (Y := mX12_sets) (pc := 25) (st := []) (As := [.int (nI (rf_S (h 323))), .int (nI i15), .int (nI 0)]) (h2 := (am_row (am_row h 323 (rf_zs (h 323) (rf_S (h 323)) i15)) 323 (upd (rf_zs (h 323) (rf_S (h 323)) i15) (61 + 23 * (rf_S (h 323)) + i15) (nI 0)))) C dX12_readSoldier_25 k12_148 v_X12_sets rfl rfl bn_322 sh_322 ⟨by decide, rfl⟩ (by decide) (Nat.zero_le _) (Nat.zero_le _) (Nat.le_of_ble_eq_true rfl) (c_X12_sets hR (rf_S (h 323)) i15 (nI 0) (show (rf_S (h 323)) < 11 from (by omega)) (show i15 < 23 from (by omega))) ?_
          refine am_hp (show (am_row (am_row h 323 (rf_zs (h 323) (rf_S (h 323)) i15)) 323 (upd (rf_zs (h 323) (rf_S (h 323)) i15) (61 + 23 * (rf_S (h 323)) + i15) (nI 0))) = (am_row h 323 (upd (rf_zs (h 323) (rf_S (h 323)) i15) (61 + 23 * (rf_S (h 323)) + i15) (nI 0))) from am_row_s0) ?_
          refine am_iincN (pc := 28) (ls' := [(0, .ref 322), (1, .int (nI (rf_S (h 323)))), (2, .int (nI (i15 + 1)))]) C dX12_readSoldier_28 rfl (am_up1 _) (by decide) rfl ?_
          refine am_goto (pc := 31) (tgt := 15) C dX12_readSoldier_31 (by decide) ?_
          refine am_hp (show (am_row h 323 (upd (rf_zs (h 323) (rf_S (h 323)) i15) (61 + 23 * (rf_S (h 323)) + i15) (nI 0))) = (am_row h 323 (rf_zs (h 323) (rf_S (h 323)) (i15 + 1))) from rfl) ?_
          exact ih15 (i15 + 1) (by omega) 
    refine am_hp (show h = (am_row h 323 (rf_zs (h 323) (rf_S (h 323)) 0)) from (am_row_id _ _).symm) ?_
    exact L15 23 0 (by omega) 
  · skip
    refine am_iconstN (pc := 11) (k := 0) C dX12_readSoldier_11 ?_
    have E9 : rf_lnS (h 328) (h 322) (h 323) = (false, h 322, h 323) := (by rw [rf_lnS, if_pos q8])
    exact am_iretb T dX12_readSoldier_12 rfl (Nat.le_refl _) (Nat.le_refl _) (by rw [E9] <;> rfl) rfl (by rw [E9] <;> exact (show h = (am_row (am_row h 322 (h 322)) 323 (h 323)) from (am_hB h 322 323).symm))

set_option maxHeartbeats 400000 in
set_option maxRecDepth 100000 in
theorem c_X12_readKnows {ad : Nat → Nat} {r : am_R} (hR : am_rs r) {h : am_H}  (hT : rf_To (h 322)) (hV : rf_I (h 323))  : am_CM mX12_readKnows 4 0 0 [.ref 322] (am_VV ad) r h (am_po (some (.int (am_b ((rf_lnK (h 328) (h 322) (h 323)).1)))) r (am_row (am_row h 322 ((rf_lnK (h 328) (h 322) (h 323)).2.1)) 323 ((rf_lnK (h 328) (h 322) (h 323)).2.2))) := by
  refine am_CM.of (by decide +kernel) (Nat.le_of_ble_eq_true rfl) (fun X C T => ?_)
  show am_G X (am_VV ad) (0, 0) 0 [(0, .ref 322)] [] r h
  have hp4 : rf_p (h 322) ≤ rf_e (h 322) := hT.2.2.1
  have he4 : rf_e (h 322) < 401 := hT.2.1.2
  have hTn := rf_Tm_num (t := h 328) hT
  have hC := hV.1
  have hM9 : rf_M (h 323) < 17 := hC.1.2
  have hS9 : rf_S (h 323) < 11 := hC.2.1.2
  have hO9 : rf_O (h 323) < 11 := hC.2.2.2
  have hle1 : rf_rS (h 328) (h 322) (h 323) ≤ rf_S (h 323) := rf_rS_le hS9
  refine am_aload_n (pc := 0) C dX12_readKnows_0 rfl ?_
  refine am_callVi (Y := mX12_soldierTold) (pc := 1) (st := []) (As := []) (x := (am_oi (rf_rS (h 328) (h 322) (h 323)))) (h2 := (am_row h 322 (rf_oNum (h 328) (h 322)))) C dX12_readKnows_1 k12_152 v_X12_soldierTold rfl rfl bn_322 sh_322 ⟨by decide, rfl⟩ (by decide) (Nat.zero_le _) (Nat.zero_le _) (Nat.le_of_ble_eq_true rfl) (c_X12_soldierTold hR (show rf_To (h 322) from hT) (show rf_Cn (h 323) from hC)) ?_
  refine am_istore_n (pc := 4) (ls' := [(0, .ref 322), (1, .int (am_oi (rf_rS (h 328) (h 322) (h 323))))]) C dX12_readKnows_4 (by decide) rfl ?_
  refine am_iload_n (pc := 5) C dX12_readKnows_5 rfl ?_
  refine am_if_geO (pc := 6) (tgt := 11) C dX12_readKnows_6 (by decide) (by omega) (fun q6 => ?_) (fun q6 => ?_)
  · skip
    have L11 : ∀ (j11 : Nat) (o : rf_W) (w : rf_W), (hTo : rf_To o) → (hfu : rf_e o - rf_p o < j11) → (hIw : rf_I w) → (hSw : rf_S w = rf_S (h 323)) → (hms : rf_kns (h 328) (rf_rS (h 328) (h 322) (h 323) - 1) j11 o w = rf_lnK (h 328) (h 322) (h 323)) → am_G X (am_VV ad) (0, 0) 11 [(0, .ref 322), (1, .int (am_oi (rf_rS (h 328) (h 322) (h 323))))] [] r (am_row (am_row h 322 o) 323 w) := by
      intro j11
      induction j11 with
      | zero =>
        intro o w hTo hfu hIw hSw hms
        exact absurd hfu (by omega)
      | succ j11 ih11 =>
        intro o w hTo hfu hIw hSw hms
        have hTn2 := rf_Tm_num (t := h 328) hTo
        have hTb2 := rf_Tm_bl (t := h 328) hTn2.1
        have hMw : rf_M w < 17 := hIw.1.1.2
        have hle9 : rf_rM (h 328) o w ≤ rf_M w := rf_rM_le hMw
        have hsw : rf_rS (h 328) (h 322) (h 323) - 1 < rf_S w := by omega
        have hIs := hIw.2.1 _ hsw
        have hkn : rf_kn w (rf_rS (h 328) (h 322) (h 323) - 1) < 13 := hIs.2.2.2.2.1.2
        refine am_lsv (ls' := [(0, .ref 322), (1, .int (nI (rf_rS (h 328) (h 322) (h 323) - 1)))]) (by rw [show (am_oi (rf_rS (h 328) (h 322) (h 323))) = (nI (rf_rS (h 328) (h 322) (h 323) - 1)) from am_oi_p q6]) ?_
        refine am_aload_n (pc := 11) C dX12_readKnows_11 rfl ?_
        refine am_callVi (Y := mX12_memoryTold) (pc := 12) (st := []) (As := []) (x := (am_oi (rf_rM (h 328) o w))) (h2 := (am_row (am_row (am_row h 322 o) 323 w) 322 (rf_oNum (h 328) o))) C dX12_readKnows_12 k12_133 v_X12_memoryTold rfl rfl bn_322 sh_322 ⟨by decide, rfl⟩ (by decide) (Nat.zero_le _) (Nat.zero_le _) (Nat.le_of_ble_eq_true rfl) (c_X12_memoryTold hR (show rf_To o from hTo) (show rf_Cn w from hIw.1)) ?_
        refine am_hp (show (am_row (am_row (am_row h 322 o) 323 w) 322 (rf_oNum (h 328) o)) = (am_row (am_row h 322 (rf_oNum (h 328) o)) 323 w) from am_row_s1 (by decide)) ?_
        refine am_istore_n (pc := 15) (ls' := [(0, .ref 322), (1, .int (nI (rf_rS (h 328) (h 322) (h 323) - 1))), (2, .int (am_oi (rf_rM (h 328) o w)))]) C dX12_readKnows_15 (by decide) rfl ?_
        refine am_iload_n (pc := 16) C dX12_readKnows_16 rfl ?_
        refine am_if_ltO (pc := 17) (tgt := 44) C dX12_readKnows_17 (by decide) (by omega) (fun q17 => ?_) (fun q17 => ?_)
        · skip
          refine am_iconstN (pc := 44) (k := 0) C dX12_readKnows_44 ?_
          have E9 : rf_lnK (h 328) (h 322) (h 323) = (false, rf_oNum (h 328) o, w) := (by rw [← hms, rf_kns, if_pos (Or.inl q17)])
          exact am_iretb T dX12_readKnows_45 rfl (Nat.le_refl _) (Nat.le_refl _) (by rw [E9] <;> rfl) rfl (by rw [E9] <;> exact rfl)
        · skip
          refine am_lsv (ls' := [(0, .ref 322), (1, .int (nI (rf_rS (h 328) (h 322) (h 323) - 1))), (2, .int (nI (rf_rM (h 328) o w - 1)))]) (by rw [show (am_oi (rf_rM (h 328) o w)) = (nI (rf_rM (h 328) o w - 1)) from am_oi_p (by omega)]) ?_
          refine am_aload_n (pc := 20) C dX12_readKnows_20 rfl ?_
          refine am_iload_n (pc := 21) C dX12_readKnows_21 rfl ?_
          refine am_callVi (Y := mX12_knownOf) (pc := 22) (st := []) (As := [.int (nI (rf_rS (h 328) (h 322) (h 323) - 1))]) (x := (rf_known w (rf_rS (h 328) (h 322) (h 323) - 1))) (h2 := (am_row (am_row h 322 (rf_oNum (h 328) o)) 323 w)) C dX12_readKnows_22 k12_88 v_X12_knownOf rfl rfl bn_322 sh_322 ⟨by decide, rfl⟩ (by decide) (Nat.zero_le _) (Nat.zero_le _) (Nat.le_of_ble_eq_true rfl) (c_X12_knownOf hR (rf_rS (h 328) (h 322) (h 323) - 1) (show (rf_rS (h 328) (h 322) (h 323) - 1) < rf_S w from hsw) (show rf_Is w (rf_rS (h 328) (h 322) (h 323) - 1) from hIs) (show rf_Cn w from hIw.1)) ?_
          refine am_iload_n (pc := 25) C dX12_readKnows_25 rfl ?_
          refine am_callSi (Y := mX12_has) (pc := 26) (st := []) (As := [.int (rf_known w (rf_rS (h 328) (h 322) (h 323) - 1)), .int (nI (rf_rM (h 328) o w - 1))]) (x := (am_b (am_bt (rf_known w (rf_rS (h 328) (h 322) (h 323) - 1)) (rf_rM (h 328) o w - 1)))) (h2 := (am_row (am_row h 322 (rf_oNum (h 328) o)) 323 w)) C dX12_readKnows_26 k12_81 v_X12_has rfl rfl (by decide) (Nat.zero_le _) (Nat.zero_le _) (Nat.le_of_ble_eq_true rfl) (c_X12_has hR (rf_known w (rf_rS (h 328) (h 322) (h 323) - 1)) (rf_rM (h 328) o w - 1) (show (rf_rM (h 328) o w - 1) < 32 from (by omega))) ?_
          refine am_if_neB (pc := 29) (tgt := 44) C dX12_readKnows_29 (by decide) (fun q29 => ?_) (fun q29 => ?_)
          · skip
            refine am_iconstN (pc := 44) (k := 0) C dX12_readKnows_44 ?_
            have E9 : rf_lnK (h 328) (h 322) (h 323) = (false, rf_oNum (h 328) o, w) := (by rw [← hms, rf_kns, if_pos (Or.inr (Or.inl q29))])
            exact am_iretb T dX12_readKnows_45 rfl (Nat.le_refl _) (Nat.le_refl _) (by rw [E9] <;> rfl) rfl (by rw [E9] <;> exact rfl)
          · skip
            refine am_aload_n (pc := 32) C dX12_readKnows_32 rfl ?_
            refine am_iload_n (pc := 33) C dX12_readKnows_33 rfl ?_
            refine am_bipush (pc := 34) (v := nI 9) C dX12_readKnows_34 (by decide) ?_
            refine am_callVi (Y := mX12_of) (pc := 36) (st := []) (As := [.int (nI (rf_rS (h 328) (h 322) (h 323) - 1)), .int (nI 9)]) (x := (rf_of w (rf_rS (h 328) (h 322) (h 323) - 1) 9)) (h2 := (am_row (am_row h 322 (rf_oNum (h 328) o)) 323 w)) C dX12_readKnows_36 k12_63 v_X12_of rfl rfl bn_322 sh_322 ⟨by decide, rfl⟩ (by decide) (Nat.zero_le _) (Nat.zero_le _) (Nat.le_of_ble_eq_true rfl) (c_X12_of hR (rf_rS (h 328) (h 322) (h 323) - 1) 9 (show (rf_rS (h 328) (h 322) (h 323) - 1) < 11 from (by omega)) (show 9 < 23 from (by decide))) ?_
            refine am_top (show (rf_of w (rf_rS (h 328) (h 322) (h 323) - 1) 9) = (nI (rf_kn w (rf_rS (h 328) (h 322) (h 323) - 1))) from hIs.2.2.2.2.1.1) ?_
            refine am_bipush (pc := 39) (v := nI 12) C dX12_readKnows_39 (by decide) ?_
            refine am_icmp_neN (pc := 41) (tgt := 46) C dX12_readKnows_41 (by decide) (by omega) (by omega) (fun q41 => ?_) (fun q41 => ?_)
            · skip
              refine am_aload_n (pc := 46) C dX12_readKnows_46 rfl ?_
              refine am_iload_n (pc := 47) C dX12_readKnows_47 rfl ?_
              refine am_iload_n (pc := 48) C dX12_readKnows_48 rfl ?_
              refine am_callVv (Y := mX12_appends) (pc := 49) (st := []) (As := [.int (nI (rf_rS (h 328) (h 322) (h 323) - 1)), .int (nI (rf_rM (h 328) o w - 1))]) (h2 := (am_row (am_row (am_row h 322 (rf_oNum (h 328) o)) 323 w) 323 (rf_app w (rf_rS (h 328) (h 322) (h 323) - 1) (rf_rM (h 328) o w - 1)))) C dX12_readKnows_49 k12_155 v_X12_appends rfl rfl bn_322 sh_322 ⟨by decide, rfl⟩ (by decide) (Nat.zero_le _) (Nat.zero_le _) (Nat.le_of_ble_eq_true rfl) (c_X12_appends hR (rf_rS (h 328) (h 322) (h 323) - 1) (rf_rM (h 328) o w - 1) (show (rf_rS (h 328) (h 322) (h 323) - 1) < rf_S w from hsw) (show rf_Is w (rf_rS (h 328) (h 322) (h 323) - 1) from hIs) (show rf_Cn w from hIw.1) (show rf_kn w (rf_rS (h 328) (h 322) (h 323) - 1) < 12 from (by omega))) ?_
              refine am_hp (show (am_row (am_row (am_row h 322 (rf_oNum (h 328) o)) 323 w) 323 (rf_app w (rf_rS (h 328) (h 322) (h 323) - 1) (rf_rM (h 328) o w - 1))) = (am_row (am_row h 322 (rf_oNum (h 328) o)) 323 (rf_app w (rf_rS (h 328) (h 322) (h 323) - 1) (rf_rM (h 328) o w - 1))) from am_row_s0) ?_
              refine am_aload_n (pc := 52) C dX12_readKnows_52 rfl ?_
              refine am_callVi (Y := mX12_isFigure) (pc := 53) (st := []) (As := []) (x := (am_b (rf_rFig (h 328) (rf_oNum (h 328) o)))) (h2 := (am_row (am_row (am_row h 322 (rf_oNum (h 328) o)) 323 (rf_app w (rf_rS (h 328) (h 322) (h 323) - 1) (rf_rM (h 328) o w - 1))) 322 (rf_oBl (h 328) (rf_oNum (h 328) o)))) C dX12_readKnows_53 k12_136 v_X12_isFigure rfl rfl bn_322 sh_322 ⟨by decide, rfl⟩ (by decide) (Nat.zero_le _) (Nat.zero_le _) (Nat.le_of_ble_eq_true rfl) (c_X12_isFigure hR (show rf_To (rf_oNum (h 328) o) from hTn2.1)) ?_
              refine am_hp (show (am_row (am_row (am_row h 322 (rf_oNum (h 328) o)) 323 (rf_app w (rf_rS (h 328) (h 322) (h 323) - 1) (rf_rM (h 328) o w - 1))) 322 (rf_oBl (h 328) (rf_oNum (h 328) o))) = (am_row (am_row h 322 (rf_oBl (h 328) (rf_oNum (h 328) o))) 323 (rf_app w (rf_rS (h 328) (h 322) (h 323) - 1) (rf_rM (h 328) o w - 1))) from am_row_s1 (by decide)) ?_
              refine am_if_neB (pc := 56) (tgt := 11) C dX12_readKnows_56 (by decide) (fun q56 => ?_) (fun q56 => ?_)
              · skip
                refine am_sub (ls' := [(0, .ref 322), (1, .int (nI (rf_rS (h 328) (h 322) (h 323) - 1)))]) (by intro q hq; simp only [List.mem_cons, List.not_mem_nil, or_false] at hq ⊢; rcases hq with rfl | rfl <;> simp) ?_
                refine am_lsv (ls' := [(0, .ref 322), (1, .int (am_oi (rf_rS (h 328) (h 322) (h 323))))]) (by rw [show (nI (rf_rS (h 328) (h 322) (h 323) - 1)) = (am_oi (rf_rS (h 328) (h 322) (h 323))) from (am_oi_p q6).symm]) ?_
                exact ih11 (rf_oBl (h 328) (rf_oNum (h 328) o)) (rf_app w (rf_rS (h 328) (h 322) (h 323) - 1) (rf_rM (h 328) o w - 1)) hTb2.1 (by have a9 := rf_num_s hTo (show rf_rNum (h 328) o 0 (nI (rf_M w) - nI 1) ≠ 0 from by have := q17; unfold rf_rM at this; omega); have b9 := hTb2.2.1; rw [(hTn2.tr hTb2).e]; have c9 : rf_p o ≤ rf_e o := hTo.2.2.1; have d9 : rf_p (rf_oBl (h 328) (rf_oNum (h 328) o)) ≤ rf_e (rf_oBl (h 328) (rf_oNum (h 328) o)) := hTb2.1.2.2.1; rw [(hTn2.tr hTb2).e] at d9; omega) (rf_I_app hIw hsw (by omega) (by omega) q29) (by rw [rf_S_app]; exact hSw) (by rw [← hms, rf_kns, if_neg (fun z => z.elim (by omega) (fun z => z.elim (fun z => Bool.false_ne_true (q29.symm.trans z)) q41)), q56]; rfl)
              · skip
                refine am_iconstN (pc := 59) (k := 1) C dX12_readKnows_59 ?_
                have E9 : rf_lnK (h 328) (h 322) (h 323) = (true, rf_oBl (h 328) (rf_oNum (h 328) o), rf_app w (rf_rS (h 328) (h 322) (h 323) - 1) (rf_rM (h 328) o w - 1)) := (by rw [← hms, rf_kns, if_neg (fun z => z.elim (by omega) (fun z => z.elim (fun z => Bool.false_ne_true (q29.symm.trans z)) q41)), q56]; rfl)
                exact am_iretb T dX12_readKnows_60 rfl (Nat.le_refl _) (Nat.le_refl _) (by rw [E9] <;> rfl) rfl (by rw [E9] <;> exact rfl)
            · skip
              refine am_iconstN (pc := 44) (k := 0) C dX12_readKnows_44 ?_
              have E9 : rf_lnK (h 328) (h 322) (h 323) = (false, rf_oNum (h 328) o, w) := (by rw [← hms, rf_kns, if_pos (Or.inr (Or.inr q41))])
              exact am_iretb T dX12_readKnows_45 rfl (Nat.le_refl _) (Nat.le_refl _) (by rw [E9] <;> rfl) rfl (by rw [E9] <;> exact rfl)
    refine am_hp (show (am_row h 322 (rf_oNum (h 328) (h 322))) = (am_row (am_row h 322 (rf_oNum (h 328) (h 322))) 323 (h 323)) from (am_hA (by decide)).symm) ?_
    exact L11 402 (rf_oNum (h 328) (h 322)) (h 323) hTn.1 (by have := hTn.1.2.1.2; unfold rf_e; omega) hV rfl (by rw [rf_lnK, if_neg (by omega)])
  · skip
    refine am_iconstN (pc := 9) (k := 0) C dX12_readKnows_9 ?_
    have E9 : rf_lnK (h 328) (h 322) (h 323) = (false, rf_oNum (h 328) (h 322), h 323) := (by rw [rf_lnK, if_pos q6])
    exact am_iretb T dX12_readKnows_10 rfl (Nat.le_refl _) (Nat.le_refl _) (by rw [E9] <;> rfl) rfl (by rw [E9] <;> exact (show (am_row h 322 (rf_oNum (h 328) (h 322))) = (am_row (am_row h 322 (rf_oNum (h 328) (h 322))) 323 (h 323)) from (am_hA (f := h) (i := 322) (j := 323) (by decide)).symm))

set_option maxHeartbeats 400000 in
set_option maxRecDepth 100000 in
theorem c_X12_readBook {ad : Nat → Nat} {r : am_R} (hR : am_rs r) {h : am_H}  (hT : rf_To (h 322)) (hC : rf_Cn (h 323))  : am_CM mX12_readBook 5 0 0 [.ref 322] (am_VV ad) r h (am_po (some (.int (am_b ((rf_lnB (h 328) (h 322) (h 323)).1)))) r (am_row (am_row h 322 ((rf_lnB (h 328) (h 322) (h 323)).2.1)) 323 ((rf_lnB (h 328) (h 322) (h 323)).2.2))) := by
  refine am_CM.of (by decide +kernel) (Nat.le_of_ble_eq_true rfl) (fun X C T => ?_)
  show am_G X (am_VV ad) (0, 0) 0 [(0, .ref 322)] [] r h
  have hp4 : rf_p (h 322) ≤ rf_e (h 322) := hT.2.2.1
  have he4 : rf_e (h 322) < 401 := hT.2.1.2
  have hTn := rf_Tm_num (t := h 328) hT
  have hM9 : rf_M (h 323) < 17 := hC.1.2
  have hS9 : rf_S (h 323) < 11 := hC.2.1.2
  have hO9 : rf_O (h 323) < 11 := hC.2.2.2
  have hle1 : rf_rS (h 328) (h 322) (h 323) ≤ rf_S (h 323) := rf_rS_le hS9
  refine am_aload_n (pc := 0) C dX12_readBook_0 rfl ?_
  refine am_callVi (Y := mX12_soldierTold) (pc := 1) (st := []) (As := []) (x := (am_oi (rf_rS (h 328) (h 322) (h 323)))) (h2 := (am_row h 322 (rf_oNum (h 328) (h 322)))) C dX12_readBook_1 k12_152 v_X12_soldierTold rfl rfl bn_322 sh_322 ⟨by decide, rfl⟩ (by decide) (Nat.zero_le _) (Nat.zero_le _) (Nat.le_of_ble_eq_true rfl) (c_X12_soldierTold hR (show rf_To (h 322) from hT) (show rf_Cn (h 323) from hC)) ?_
  refine am_istore_n (pc := 4) (ls' := [(0, .ref 322), (1, .int (am_oi (rf_rS (h 328) (h 322) (h 323))))]) C dX12_readBook_4 (by decide) rfl ?_
  refine am_iload_n (pc := 5) C dX12_readBook_5 rfl ?_
  refine am_if_geO (pc := 6) (tgt := 13) C dX12_readBook_6 (by decide) (by omega) (fun q6 => ?_) (fun q6 => ?_)
  · skip
    refine am_lsv (ls' := [(0, .ref 322), (1, .int (nI ((rf_rS (h 328) (h 322) (h 323)) - 1)))]) (by rw [show (am_oi (rf_rS (h 328) (h 322) (h 323))) = (nI ((rf_rS (h 328) (h 322) (h 323)) - 1)) from am_oi_p q6]) ?_
    refine am_aload_n (pc := 13) C dX12_readBook_13 rfl ?_
    refine am_callVi (Y := mX12_memoriesTold) (pc := 14) (st := []) (As := []) (x := ((rf_mt (h 328) (rf_oNum (h 328) (h 322)) (h 323)).1)) (h2 := (am_row (am_row h 322 (rf_oNum (h 328) (h 322))) 322 ((rf_mt (h 328) (rf_oNum (h 328) (h 322)) (h 323)).2))) C dX12_readBook_14 k12_145 v_X12_memoriesTold rfl rfl bn_322 sh_322 ⟨by decide, rfl⟩ (by decide) (Nat.zero_le _) (Nat.zero_le _) (Nat.le_of_ble_eq_true rfl) (c_X12_memoriesTold hR (show rf_To (rf_oNum (h 328) (h 322)) from hTn.1) (show rf_Cn (h 323) from hC)) ?_
    refine am_hp (show (am_row (am_row h 322 (rf_oNum (h 328) (h 322))) 322 ((rf_mt (h 328) (rf_oNum (h 328) (h 322)) (h 323)).2)) = (am_row h 322 ((rf_mt (h 328) (rf_oNum (h 328) (h 322)) (h 323)).2)) from am_row_s0) ?_
    refine am_istore_n (pc := 17) (ls' := [(0, .ref 322), (1, .int (nI ((rf_rS (h 328) (h 322) (h 323)) - 1))), (2, .int ((rf_mt (h 328) (rf_oNum (h 328) (h 322)) (h 323)).1))]) C dX12_readBook_17 (by decide) rfl ?_
    refine am_iload_n (pc := 18) C dX12_readBook_18 rfl ?_
    refine am_if_lt (pc := 19) (tgt := 38) C dX12_readBook_19 (by decide) (fun q19 => ?_) (fun q19 => ?_)
    · skip
      refine am_iload_n (pc := 38) C dX12_readBook_38 rfl ?_
      refine am_if_lt (pc := 39) (tgt := 46) C dX12_readBook_39 (by decide) (fun q39 => ?_) (fun q39 => ?_)
      · skip
        refine am_iconstN (pc := 46) (k := 0) C dX12_readBook_46 ?_
        have E9 : rf_lnB (h 328) (h 322) (h 323) = (false, (rf_mt (h 328) (rf_oNum (h 328) (h 322)) (h 323)).2, h 323) := (by rw [rf_lnB, if_neg (by omega), if_pos q19])
        exact am_iretb T dX12_readBook_47 rfl (Nat.le_refl _) (Nat.le_refl _) (by rw [E9] <;> rfl) rfl (by rw [E9] <;> exact (show (am_row h 322 ((rf_mt (h 328) (rf_oNum (h 328) (h 322)) (h 323)).2)) = (am_row (am_row h 322 ((rf_mt (h 328) (rf_oNum (h 328) (h 322)) (h 323)).2)) 323 (h 323)) from (am_hA (f := h) (i := 322) (j := 323) (by decide)).symm))
      · skip
        exact absurd q19 q39
    · skip
      refine am_aload_n (pc := 22) C dX12_readBook_22 rfl ?_
      refine am_iload_n (pc := 23) C dX12_readBook_23 rfl ?_
      refine am_bipush (pc := 24) (v := nI 22) C dX12_readBook_24 (by decide) ?_
      refine am_aload_n (pc := 26) C dX12_readBook_26 rfl ?_
      refine am_iload_n (pc := 27) C dX12_readBook_27 rfl ?_
      refine am_bipush (pc := 28) (v := nI 22) C dX12_readBook_28 (by decide) ?_
      refine am_callVi (Y := mX12_of) (pc := 30) (st := [.int (nI 22), .int (nI ((rf_rS (h 328) (h 322) (h 323)) - 1)), .ref 322]) (As := [.int (nI ((rf_rS (h 328) (h 322) (h 323)) - 1)), .int (nI 22)]) (x := (rf_of (h 323) ((rf_rS (h 328) (h 322) (h 323)) - 1) 22)) (h2 := (am_row h 322 ((rf_mt (h 328) (rf_oNum (h 328) (h 322)) (h 323)).2))) C dX12_readBook_30 k12_63 v_X12_of rfl rfl bn_322 sh_322 ⟨by decide, rfl⟩ (by decide) (Nat.zero_le _) (Nat.zero_le _) (Nat.le_of_ble_eq_true rfl) (c_X12_of hR ((rf_rS (h 328) (h 322) (h 323)) - 1) 22 (show ((rf_rS (h 328) (h 322) (h 323)) - 1) < 11 from (by omega)) (show 22 < 23 from (by decide))) ?_
      refine am_iload_n (pc := 33) C dX12_readBook_33 rfl ?_
      refine am_ior (pc := 34) C dX12_readBook_34 ?_
      refine am_callVv (Y := mX12_sets) (pc := 35) (st := []) (As := [.int (nI ((rf_rS (h 328) (h 322) (h 323)) - 1)), .int (nI 22), .int ((rf_of (h 323) ((rf_rS (h 328) (h 322) (h 323)) - 1) 22) ||| ((rf_mt (h 328) (rf_oNum (h 328) (h 322)) (h 323)).1))]) (h2 := (am_row (am_row h 322 ((rf_mt (h 328) (rf_oNum (h 328) (h 322)) (h 323)).2)) 323 (upd (h 323) (61 + 23 * ((rf_rS (h 328) (h 322) (h 323)) - 1) + 22) ((rf_of (h 323) ((rf_rS (h 328) (h 322) (h 323)) - 1) 22) ||| ((rf_mt (h 328) (rf_oNum (h 328) (h 322)) (h 323)).1))))) C dX12_readBook_35 k12_148 v_X12_sets rfl rfl bn_322 sh_322 ⟨by decide, rfl⟩ (by decide) (Nat.zero_le _) (Nat.zero_le _) (Nat.le_of_ble_eq_true rfl) (c_X12_sets hR ((rf_rS (h 328) (h 322) (h 323)) - 1) 22 ((rf_of (h 323) ((rf_rS (h 328) (h 322) (h 323)) - 1) 22) ||| ((rf_mt (h 328) (rf_oNum (h 328) (h 322)) (h 323)).1)) (show ((rf_rS (h 328) (h 322) (h 323)) - 1) < 11 from (by omega)) (show 22 < 23 from (by decide))) ?_
      refine am_iload_n (pc := 38) C dX12_readBook_38 rfl ?_
      refine am_if_lt (pc := 39) (tgt := 46) C dX12_readBook_39 (by decide) (fun q39 => ?_) (fun q39 => ?_)
      · skip
        exact absurd q39 q19
      · skip
        refine am_iconstN (pc := 42) (k := 1) C dX12_readBook_42 ?_
        refine am_goto (pc := 43) (tgt := 47) C dX12_readBook_43 (by decide) ?_
        have E9 : rf_lnB (h 328) (h 322) (h 323) = (true, (rf_mt (h 328) (rf_oNum (h 328) (h 322)) (h 323)).2, upd (h 323) (61 + 23 * ((rf_rS (h 328) (h 322) (h 323)) - 1) + 22) ((rf_of (h 323) ((rf_rS (h 328) (h 322) (h 323)) - 1) 22) ||| ((rf_mt (h 328) (rf_oNum (h 328) (h 322)) (h 323)).1))) := (by rw [rf_lnB, if_neg (by omega), if_neg q19])
        exact am_iretb T dX12_readBook_47 rfl (Nat.le_refl _) (Nat.le_refl _) (by rw [E9] <;> rfl) rfl (by rw [E9] <;> exact rfl)
  · skip
    refine am_iconst (pc := 9) (v := -1) C dX12_readBook_9 rfl ?_
    refine am_goto (pc := 10) (tgt := 17) C dX12_readBook_10 (by decide) ?_
    refine am_istore_n (pc := 17) (ls' := [(0, .ref 322), (1, .int (am_oi (rf_rS (h 328) (h 322) (h 323)))), (2, .int (-1))]) C dX12_readBook_17 (by decide) rfl ?_
    refine am_iload_n (pc := 18) C dX12_readBook_18 rfl ?_
    refine am_if_lt (pc := 19) (tgt := 38) C dX12_readBook_19 (by decide) (fun q19 => ?_) (fun q19 => ?_)
    · skip
      refine am_iload_n (pc := 38) C dX12_readBook_38 rfl ?_
      refine am_if_lt (pc := 39) (tgt := 46) C dX12_readBook_39 (by decide) (fun q39 => ?_) (fun q39 => ?_)
      · skip
        refine am_iconstN (pc := 46) (k := 0) C dX12_readBook_46 ?_
        have E9 : rf_lnB (h 328) (h 322) (h 323) = (false, rf_oNum (h 328) (h 322), h 323) := (by rw [rf_lnB, if_pos q6])
        exact am_iretb T dX12_readBook_47 rfl (Nat.le_refl _) (Nat.le_refl _) (by rw [E9] <;> rfl) rfl (by rw [E9] <;> exact (show (am_row h 322 (rf_oNum (h 328) (h 322))) = (am_row (am_row h 322 (rf_oNum (h 328) (h 322))) 323 (h 323)) from (am_hA (f := h) (i := 322) (j := 323) (by decide)).symm))
      · skip
        exact absurd (by decide) q39
    · skip
      exact absurd (by decide) q19

set_option maxHeartbeats 400000 in
set_option maxRecDepth 100000 in
theorem c_X12_readOrder {ad : Nat → Nat} {r : am_R} (hR : am_rs r) {h : am_H}  (hT : rf_To (h 322)) (hC : rf_Cn (h 323))  : am_CM mX12_readOrder 5 0 0 [.ref 322] (am_VV ad) r h (am_po (some (.int (am_b ((rf_lnO (h 328) (h 322) (h 323)).1)))) r (am_row (am_row h 322 ((rf_lnO (h 328) (h 322) (h 323)).2.1)) 323 ((rf_lnO (h 328) (h 322) (h 323)).2.2))) := by
  refine am_CM.of (by decide +kernel) (Nat.le_of_ble_eq_true rfl) (fun X C T => ?_)
  show am_G X (am_VV ad) (0, 0) 0 [(0, .ref 322)] [] r h
  have hp4 : rf_p (h 322) ≤ rf_e (h 322) := hT.2.2.1
  have he4 : rf_e (h 322) < 401 := hT.2.1.2
  have hTn := rf_Tm_num (t := h 328) hT
  have hM9 : rf_M (h 323) < 17 := hC.1.2
  have hS9 : rf_S (h 323) < 11 := hC.2.1.2
  have hO9 : rf_O (h 323) < 11 := hC.2.2.2
  have hle1 : rf_rS (h 328) (h 322) (h 323) ≤ rf_S (h 323) := rf_rS_le hS9
  refine am_aload_n (pc := 0) C dX12_readOrder_0 rfl ?_
  refine am_callVi (Y := mX12_orders) (pc := 1) (st := []) (As := []) (x := (nI (rf_O (h 323)))) (h2 := h) C dX12_readOrder_1 k12_159 v_X12_orders rfl rfl bn_322 sh_322 ⟨by decide, rfl⟩ (by decide) (Nat.zero_le _) (Nat.zero_le _) (Nat.le_of_ble_eq_true rfl) (c_X12_orders hR hC) ?_
  refine am_bipush (pc := 4) (v := nI 10) C dX12_readOrder_4 (by decide) ?_
  refine am_icmp_neN (pc := 6) (tgt := 11) C dX12_readOrder_6 (by decide) (by omega) (by omega) (fun q6 => ?_) (fun q6 => ?_)
  · skip
    refine am_aload_n (pc := 11) C dX12_readOrder_11 rfl ?_
    refine am_callVi (Y := mX12_soldierTold) (pc := 12) (st := []) (As := []) (x := (am_oi (rf_rS (h 328) (h 322) (h 323)))) (h2 := (am_row h 322 (rf_oNum (h 328) (h 322)))) C dX12_readOrder_12 k12_152 v_X12_soldierTold rfl rfl bn_322 sh_322 ⟨by decide, rfl⟩ (by decide) (Nat.zero_le _) (Nat.zero_le _) (Nat.le_of_ble_eq_true rfl) (c_X12_soldierTold hR (show rf_To (h 322) from hT) (show rf_Cn (h 323) from hC)) ?_
    refine am_istore_n (pc := 15) (ls' := [(0, .ref 322), (1, .int (am_oi (rf_rS (h 328) (h 322) (h 323))))]) C dX12_readOrder_15 (by decide) rfl ?_
    refine am_iload_n (pc := 16) C dX12_readOrder_16 rfl ?_
    refine am_if_geO (pc := 17) (tgt := 24) C dX12_readOrder_17 (by decide) (by omega) (fun q17 => ?_) (fun q17 => ?_)
    · skip
      refine am_lsv (ls' := [(0, .ref 322), (1, .int (nI ((rf_rS (h 328) (h 322) (h 323)) - 1)))]) (by rw [show (am_oi (rf_rS (h 328) (h 322) (h 323))) = (nI ((rf_rS (h 328) (h 322) (h 323)) - 1)) from am_oi_p q17]) ?_
      refine am_aload_n (pc := 24) C dX12_readOrder_24 rfl ?_
      refine am_callVi (Y := mX12_memoriesTold) (pc := 25) (st := []) (As := []) (x := ((rf_mt (h 328) (rf_oNum (h 328) (h 322)) (h 323)).1)) (h2 := (am_row (am_row h 322 (rf_oNum (h 328) (h 322))) 322 ((rf_mt (h 328) (rf_oNum (h 328) (h 322)) (h 323)).2))) C dX12_readOrder_25 k12_145 v_X12_memoriesTold rfl rfl bn_322 sh_322 ⟨by decide, rfl⟩ (by decide) (Nat.zero_le _) (Nat.zero_le _) (Nat.le_of_ble_eq_true rfl) (c_X12_memoriesTold hR (show rf_To (rf_oNum (h 328) (h 322)) from hTn.1) (show rf_Cn (h 323) from hC)) ?_
      refine am_hp (show (am_row (am_row h 322 (rf_oNum (h 328) (h 322))) 322 ((rf_mt (h 328) (rf_oNum (h 328) (h 322)) (h 323)).2)) = (am_row h 322 ((rf_mt (h 328) (rf_oNum (h 328) (h 322)) (h 323)).2)) from am_row_s0) ?_
      refine am_istore_n (pc := 28) (ls' := [(0, .ref 322), (1, .int (nI ((rf_rS (h 328) (h 322) (h 323)) - 1))), (2, .int ((rf_mt (h 328) (rf_oNum (h 328) (h 322)) (h 323)).1))]) C dX12_readOrder_28 (by decide) rfl ?_
      refine am_iload_n (pc := 29) C dX12_readOrder_29 rfl ?_
      refine am_if_ge (pc := 30) (tgt := 35) C dX12_readOrder_30 (by decide) (fun q30 => ?_) (fun q30 => ?_)
      · skip
        refine am_aload_n (pc := 35) C dX12_readOrder_35 rfl ?_
        refine am_getR (pc := 36) (j := 323) C dX12_readOrder_36 f12_13 bn_322 sh_322 (rf_322_1 hR) ?_
        refine am_sipush (pc := 39) (v := nI 291) C dX12_readOrder_39 (by decide) ?_
        refine am_iconstN (pc := 42) (k := 2) C dX12_readOrder_42 ?_
        refine am_aload_n (pc := 43) C dX12_readOrder_43 rfl ?_
        refine am_callVi (Y := mX12_orders) (pc := 44) (st := [.int (nI 2), .int (nI 291), .ref 323]) (As := []) (x := (nI (rf_O (h 323)))) (h2 := (am_row h 322 ((rf_mt (h 328) (rf_oNum (h 328) (h 322)) (h 323)).2))) C dX12_readOrder_44 k12_159 v_X12_orders rfl rfl bn_322 sh_322 ⟨by decide, rfl⟩ (by decide) (Nat.zero_le _) (Nat.zero_le _) (Nat.le_of_ble_eq_true rfl) (c_X12_orders hR (show rf_Cn (h 323) from hC)) ?_
        refine am_imulN (pc := 47) C dX12_readOrder_47 ?_
        refine am_iaddN (pc := 48) C dX12_readOrder_48 ?_
        refine am_iload_n (pc := 49) C dX12_readOrder_49 rfl ?_
        refine am_iastore (pc := 50) C dX12_readOrder_50 bn_323 sh_323 (vp_in_nI (by omega) (by decide)) ?_
        refine am_hp (show am_up (am_row h 322 ((rf_mt (h 328) (rf_oNum (h 328) (h 322)) (h 323)).2)) 323 (nI (291 + (2 * (rf_O (h 323))))).toNatClampNeg (nI ((rf_rS (h 328) (h 322) (h 323)) - 1)) = am_row (am_row h 322 ((rf_mt (h 328) (rf_oNum (h 328) (h 322)) (h 323)).2)) 323 (upd (h 323) (291 + (2 * (rf_O (h 323)))) (nI ((rf_rS (h 328) (h 322) (h 323)) - 1))) from by rw [nI_clamp (by omega)]; exact am_up_rw _ _ _ _) ?_
        refine am_aload_n (pc := 51) C dX12_readOrder_51 rfl ?_
        refine am_getR (pc := 52) (j := 323) C dX12_readOrder_52 f12_13 bn_322 sh_322 (rf_322_1 hR) ?_
        refine am_sipush (pc := 55) (v := nI 291) C dX12_readOrder_55 (by decide) ?_
        refine am_iconstN (pc := 58) (k := 2) C dX12_readOrder_58 ?_
        refine am_aload_n (pc := 59) C dX12_readOrder_59 rfl ?_
        refine am_callVi (Y := mX12_orders) (pc := 60) (st := [.int (nI 2), .int (nI 291), .ref 323]) (As := []) (x := (nI (rf_O (upd (h 323) (291 + (2 * (rf_O (h 323)))) (nI ((rf_rS (h 328) (h 322) (h 323)) - 1)))))) (h2 := (am_row (am_row h 322 ((rf_mt (h 328) (rf_oNum (h 328) (h 322)) (h 323)).2)) 323 (upd (h 323) (291 + (2 * (rf_O (h 323)))) (nI ((rf_rS (h 328) (h 322) (h 323)) - 1))))) C dX12_readOrder_60 k12_159 v_X12_orders rfl rfl bn_322 sh_322 ⟨by decide, rfl⟩ (by decide) (Nat.zero_le _) (Nat.zero_le _) (Nat.le_of_ble_eq_true rfl) (c_X12_orders hR (show rf_Cn (upd (h 323) (291 + (2 * (rf_O (h 323)))) (nI ((rf_rS (h 328) (h 322) (h 323)) - 1))) from (rf_Cn_congr (fun a ha => rf_upd_ne (by omega)) hC))) ?_
        refine am_top (show (nI (rf_O (upd (h 323) (291 + (2 * (rf_O (h 323)))) (nI ((rf_rS (h 328) (h 322) (h 323)) - 1))))) = (nI (rf_O (h 323))) from (congrArg nI (show rf_nat (upd _ _ _ 2) = _ from by rw [rf_upd_ne (by omega)]; rfl))) ?_
        refine am_imulN (pc := 63) C dX12_readOrder_63 ?_
        refine am_iaddN (pc := 64) C dX12_readOrder_64 ?_
        refine am_iconstN (pc := 65) (k := 1) C dX12_readOrder_65 ?_
        refine am_iaddN (pc := 66) C dX12_readOrder_66 ?_
        refine am_iload_n (pc := 67) C dX12_readOrder_67 rfl ?_
        refine am_iastore (pc := 68) C dX12_readOrder_68 bn_323 sh_323 (vp_in_nI (by omega) (by decide)) ?_
        refine am_hp (show am_up (am_row (am_row h 322 ((rf_mt (h 328) (rf_oNum (h 328) (h 322)) (h 323)).2)) 323 (upd (h 323) (291 + (2 * (rf_O (h 323)))) (nI ((rf_rS (h 328) (h 322) (h 323)) - 1)))) 323 (nI ((291 + (2 * (rf_O (h 323)))) + 1)).toNatClampNeg ((rf_mt (h 328) (rf_oNum (h 328) (h 322)) (h 323)).1) = am_row (am_row (am_row h 322 ((rf_mt (h 328) (rf_oNum (h 328) (h 322)) (h 323)).2)) 323 (upd (h 323) (291 + (2 * (rf_O (h 323)))) (nI ((rf_rS (h 328) (h 322) (h 323)) - 1)))) 323 (upd (upd (h 323) (291 + (2 * (rf_O (h 323)))) (nI ((rf_rS (h 328) (h 322) (h 323)) - 1))) ((291 + (2 * (rf_O (h 323)))) + 1) ((rf_mt (h 328) (rf_oNum (h 328) (h 322)) (h 323)).1)) from by rw [nI_clamp (by omega)]; exact am_up_rw _ _ _ _) ?_
        refine am_hp (show am_row (am_row (am_row h 322 ((rf_mt (h 328) (rf_oNum (h 328) (h 322)) (h 323)).2)) 323 (upd (h 323) (291 + (2 * (rf_O (h 323)))) (nI ((rf_rS (h 328) (h 322) (h 323)) - 1)))) 323 (upd (upd (h 323) (291 + (2 * (rf_O (h 323)))) (nI ((rf_rS (h 328) (h 322) (h 323)) - 1))) ((291 + (2 * (rf_O (h 323)))) + 1) ((rf_mt (h 328) (rf_oNum (h 328) (h 322)) (h 323)).1)) = (am_row (am_row h 322 ((rf_mt (h 328) (rf_oNum (h 328) (h 322)) (h 323)).2)) 323 (upd (upd (h 323) (291 + (2 * (rf_O (h 323)))) (nI ((rf_rS (h 328) (h 322) (h 323)) - 1))) ((291 + (2 * (rf_O (h 323)))) + 1) ((rf_mt (h 328) (rf_oNum (h 328) (h 322)) (h 323)).1))) from am_row_s0) ?_
        refine am_aload_n (pc := 69) C dX12_readOrder_69 rfl ?_
        refine am_getR (pc := 70) (j := 323) C dX12_readOrder_70 f12_13 bn_322 sh_322 (rf_322_1 hR) ?_
        refine am_iconstN (pc := 73) (k := 2) C dX12_readOrder_73 ?_
        refine am_dup2 (pc := 74) C dX12_readOrder_74 rfl rfl ?_
        refine am_iaload (pc := 75) C dX12_readOrder_75 bn_323 sh_323 (vp_in_nI (by omega) (by decide)) ?_
        refine am_top (show (upd (upd (h 323) (291 + (2 * (rf_O (h 323)))) (nI ((rf_rS (h 328) (h 322) (h 323)) - 1))) ((291 + (2 * (rf_O (h 323)))) + 1) ((rf_mt (h 328) (rf_oNum (h 328) (h 322)) (h 323)).1)) (nI 2).toNatClampNeg = (upd (upd (h 323) (291 + (2 * (rf_O (h 323)))) (nI ((rf_rS (h 328) (h 322) (h 323)) - 1))) ((291 + (2 * (rf_O (h 323)))) + 1) ((rf_mt (h 328) (rf_oNum (h 328) (h 322)) (h 323)).1)) 2 from by rw [nI_clamp (by omega)]) ?_
        refine am_top (show ((upd (upd (h 323) (291 + (2 * (rf_O (h 323)))) (nI ((rf_rS (h 328) (h 322) (h 323)) - 1))) ((291 + (2 * (rf_O (h 323)))) + 1) ((rf_mt (h 328) (rf_oNum (h 328) (h 322)) (h 323)).1)) 2) = (nI (rf_O (h 323))) from (by rw [rf_upd_ne (by omega), rf_upd_ne (by omega)]; exact hC.2.2.1)) ?_
        refine am_iconstN (pc := 76) (k := 1) C dX12_readOrder_76 ?_
        refine am_iaddN (pc := 77) C dX12_readOrder_77 ?_
        refine am_iastore (pc := 78) C dX12_readOrder_78 bn_323 sh_323 (vp_in_nI (by omega) (by decide)) ?_
        refine am_hp (show am_up (am_row (am_row h 322 ((rf_mt (h 328) (rf_oNum (h 328) (h 322)) (h 323)).2)) 323 (upd (upd (h 323) (291 + (2 * (rf_O (h 323)))) (nI ((rf_rS (h 328) (h 322) (h 323)) - 1))) ((291 + (2 * (rf_O (h 323)))) + 1) ((rf_mt (h 328) (rf_oNum (h 328) (h 322)) (h 323)).1))) 323 (nI 2).toNatClampNeg (nI ((rf_O (h 323)) + 1)) = am_row (am_row (am_row h 322 ((rf_mt (h 328) (rf_oNum (h 328) (h 322)) (h 323)).2)) 323 (upd (upd (h 323) (291 + (2 * (rf_O (h 323)))) (nI ((rf_rS (h 328) (h 322) (h 323)) - 1))) ((291 + (2 * (rf_O (h 323)))) + 1) ((rf_mt (h 328) (rf_oNum (h 328) (h 322)) (h 323)).1))) 323 (upd (upd (upd (h 323) (291 + (2 * (rf_O (h 323)))) (nI ((rf_rS (h 328) (h 322) (h 323)) - 1))) ((291 + (2 * (rf_O (h 323)))) + 1) ((rf_mt (h 328) (rf_oNum (h 328) (h 322)) (h 323)).1)) 2 (nI ((rf_O (h 323)) + 1))) from by rw [nI_clamp (by omega)]; exact am_up_rw _ _ _ _) ?_
        refine am_hp (show am_row (am_row (am_row h 322 ((rf_mt (h 328) (rf_oNum (h 328) (h 322)) (h 323)).2)) 323 (upd (upd (h 323) (291 + (2 * (rf_O (h 323)))) (nI ((rf_rS (h 328) (h 322) (h 323)) - 1))) ((291 + (2 * (rf_O (h 323)))) + 1) ((rf_mt (h 328) (rf_oNum (h 328) (h 322)) (h 323)).1))) 323 (upd (upd (upd (h 323) (291 + (2 * (rf_O (h 323)))) (nI ((rf_rS (h 328) (h 322) (h 323)) - 1))) ((291 + (2 * (rf_O (h 323)))) + 1) ((rf_mt (h 328) (rf_oNum (h 328) (h 322)) (h 323)).1)) 2 (nI ((rf_O (h 323)) + 1))) = (am_row (am_row h 322 ((rf_mt (h 328) (rf_oNum (h 328) (h 322)) (h 323)).2)) 323 (upd (upd (upd (h 323) (291 + (2 * (rf_O (h 323)))) (nI ((rf_rS (h 328) (h 322) (h 323)) - 1))) ((291 + (2 * (rf_O (h 323)))) + 1) ((rf_mt (h 328) (rf_oNum (h 328) (h 322)) (h 323)).1)) 2 (nI ((rf_O (h 323)) + 1)))) from am_row_s0) ?_
        refine am_iconstN (pc := 79) (k := 1) C dX12_readOrder_79 ?_
        have E9 : rf_lnO (h 328) (h 322) (h 323) = (true, (rf_mt (h 328) (rf_oNum (h 328) (h 322)) (h 323)).2, upd (upd (upd (h 323) (291 + (2 * (rf_O (h 323)))) (nI ((rf_rS (h 328) (h 322) (h 323)) - 1))) ((291 + (2 * (rf_O (h 323)))) + 1) ((rf_mt (h 328) (rf_oNum (h 328) (h 322)) (h 323)).1)) 2 (nI ((rf_O (h 323)) + 1))) := (by rw [rf_lnO, if_neg q6, if_neg (by omega), if_neg (Int32.not_lt.mpr q30)])
        exact am_iretb T dX12_readOrder_80 rfl (Nat.le_refl _) (Nat.le_refl _) (by rw [E9] <;> rfl) rfl (by rw [E9] <;> exact rfl)
      · skip
        refine am_iconstN (pc := 33) (k := 0) C dX12_readOrder_33 ?_
        have E9 : rf_lnO (h 328) (h 322) (h 323) = (false, (rf_mt (h 328) (rf_oNum (h 328) (h 322)) (h 323)).2, h 323) := (by rw [rf_lnO, if_neg q6, if_neg (by omega), if_pos (Int32.not_le.mp q30)])
        exact am_iretb T dX12_readOrder_34 rfl (Nat.le_refl _) (Nat.le_refl _) (by rw [E9] <;> rfl) rfl (by rw [E9] <;> exact (show (am_row h 322 ((rf_mt (h 328) (rf_oNum (h 328) (h 322)) (h 323)).2)) = (am_row (am_row h 322 ((rf_mt (h 328) (rf_oNum (h 328) (h 322)) (h 323)).2)) 323 (h 323)) from (am_hA (f := h) (i := 322) (j := 323) (by decide)).symm))
    · skip
      refine am_iconst (pc := 20) (v := -1) C dX12_readOrder_20 rfl ?_
      refine am_goto (pc := 21) (tgt := 28) C dX12_readOrder_21 (by decide) ?_
      refine am_istore_n (pc := 28) (ls' := [(0, .ref 322), (1, .int (am_oi (rf_rS (h 328) (h 322) (h 323)))), (2, .int (-1))]) C dX12_readOrder_28 (by decide) rfl ?_
      refine am_iload_n (pc := 29) C dX12_readOrder_29 rfl ?_
      refine am_if_ge (pc := 30) (tgt := 35) C dX12_readOrder_30 (by decide) (fun q30 => ?_) (fun q30 => ?_)
      · skip
        exact absurd q30 (by decide)
      · skip
        refine am_iconstN (pc := 33) (k := 0) C dX12_readOrder_33 ?_
        have E9 : rf_lnO (h 328) (h 322) (h 323) = (false, rf_oNum (h 328) (h 322), h 323) := (by rw [rf_lnO, if_neg q6, if_pos q17])
        exact am_iretb T dX12_readOrder_34 rfl (Nat.le_refl _) (Nat.le_refl _) (by rw [E9] <;> rfl) rfl (by rw [E9] <;> exact (show (am_row h 322 (rf_oNum (h 328) (h 322))) = (am_row (am_row h 322 (rf_oNum (h 328) (h 322))) 323 (h 323)) from (am_hA (f := h) (i := 322) (j := 323) (by decide)).symm))
  · skip
    refine am_iconstN (pc := 9) (k := 0) C dX12_readOrder_9 ?_
    have E9 : rf_lnO (h 328) (h 322) (h 323) = (false, h 322, h 323) := (by rw [rf_lnO, if_pos q6])
    exact am_iretb T dX12_readOrder_10 rfl (Nat.le_refl _) (Nat.le_refl _) (by rw [E9] <;> rfl) rfl (by rw [E9] <;> exact (show h = (am_row (am_row h 322 (h 322)) 323 (h 323)) from (am_hB h 322 323).symm))

set_option maxHeartbeats 400000 in
set_option maxRecDepth 100000 in
theorem c_X12_readPlan {ad : Nat → Nat} {r : am_R} (hR : am_rs r) {h : am_H}  (hT : rf_To (h 322)) (hC : rf_Cn (h 323))  : am_CM mX12_readPlan 5 0 0 [.ref 322] (am_VV ad) r h (am_po (some (.int (am_b ((rf_lnP (h 328) (h 322) (h 323)).1)))) r (am_row (am_row h 322 ((rf_lnP (h 328) (h 322) (h 323)).2.1)) 323 ((rf_lnP (h 328) (h 322) (h 323)).2.2))) := by
  refine am_CM.of (by decide +kernel) (Nat.le_of_ble_eq_true rfl) (fun X C T => ?_)
  show am_G X (am_VV ad) (0, 0) 0 [(0, .ref 322)] [] r h
  have hp4 : rf_p (h 322) ≤ rf_e (h 322) := hT.2.2.1
  have he4 : rf_e (h 322) < 401 := hT.2.1.2
  have hTn := rf_Tm_num (t := h 328) hT
  have hM9 : rf_M (h 323) < 17 := hC.1.2
  have hS9 : rf_S (h 323) < 11 := hC.2.1.2
  have hO9 : rf_O (h 323) < 11 := hC.2.2.2
  have hnb05 := rf_num_b (t := h 328) (o := h 322) (low := 0) (high := nI 1)
  refine am_aload_n (pc := 0) C dX12_readPlan_0 rfl ?_
  refine am_iconstN (pc := 1) (k := 0) C dX12_readPlan_1 ?_
  refine am_iconstN (pc := 2) (k := 1) C dX12_readPlan_2 ?_
  refine am_callVi (Y := mX12_number) (pc := 3) (st := []) (As := [.int (nI 0), .int (nI 1)]) (x := (am_oi (rf_rNum (h 328) (h 322) 0 (nI 1)))) (h2 := (am_row h 322 (rf_oNum (h 328) (h 322)))) C dX12_readPlan_3 k12_130 v_X12_number rfl rfl bn_322 sh_322 ⟨by decide, rfl⟩ (by decide) (Nat.zero_le _) (Nat.zero_le _) (Nat.le_of_ble_eq_true rfl) (c_X12_number hR 0 (nI 1) (show rf_To (h 322) from hT) (show 0 < 2147483648 from (by decide))) ?_
  refine am_istore_n (pc := 6) (ls' := [(0, .ref 322), (1, .int (am_oi (rf_rNum (h 328) (h 322) 0 (nI 1))))]) C dX12_readPlan_6 (by decide) rfl ?_
  refine am_iload_n (pc := 7) C dX12_readPlan_7 rfl ?_
  refine am_if_geO (pc := 8) (tgt := 15) C dX12_readPlan_8 (by decide) (by omega) (fun q8 => ?_) (fun q8 => ?_)
  · skip
    refine am_lsv (ls' := [(0, .ref 322), (1, .int (nI ((rf_rNum (h 328) (h 322) 0 (nI 1)) - 1)))]) (by rw [show (am_oi (rf_rNum (h 328) (h 322) 0 (nI 1))) = (nI ((rf_rNum (h 328) (h 322) 0 (nI 1)) - 1)) from am_oi_p q8]) ?_
    have hrp := (rf_num_le (t := h 328) (o := h 322) (low := 0) (n := 1) (by decide) (show (rf_rNum (h 328) (h 322) 0 (nI 1)) ≠ 0 by omega)).1
    refine am_aload_n (pc := 15) C dX12_readPlan_15 rfl ?_
    refine am_callVi (Y := mX12_memoriesTold) (pc := 16) (st := []) (As := []) (x := ((rf_mt (h 328) (rf_oNum (h 328) (h 322)) (h 323)).1)) (h2 := (am_row (am_row h 322 (rf_oNum (h 328) (h 322))) 322 ((rf_mt (h 328) (rf_oNum (h 328) (h 322)) (h 323)).2))) C dX12_readPlan_16 k12_145 v_X12_memoriesTold rfl rfl bn_322 sh_322 ⟨by decide, rfl⟩ (by decide) (Nat.zero_le _) (Nat.zero_le _) (Nat.le_of_ble_eq_true rfl) (c_X12_memoriesTold hR (show rf_To (rf_oNum (h 328) (h 322)) from hTn.1) (show rf_Cn (h 323) from hC)) ?_
    refine am_hp (show (am_row (am_row h 322 (rf_oNum (h 328) (h 322))) 322 ((rf_mt (h 328) (rf_oNum (h 328) (h 322)) (h 323)).2)) = (am_row h 322 ((rf_mt (h 328) (rf_oNum (h 328) (h 322)) (h 323)).2)) from am_row_s0) ?_
    refine am_istore_n (pc := 19) (ls' := [(0, .ref 322), (1, .int (nI ((rf_rNum (h 328) (h 322) 0 (nI 1)) - 1))), (2, .int ((rf_mt (h 328) (rf_oNum (h 328) (h 322)) (h 323)).1))]) C dX12_readPlan_19 (by decide) rfl ?_
    refine am_iload_n (pc := 20) C dX12_readPlan_20 rfl ?_
    refine am_if_lt (pc := 21) (tgt := 37) C dX12_readPlan_21 (by decide) (fun q21 => ?_) (fun q21 => ?_)
    · skip
      refine am_iload_n (pc := 37) C dX12_readPlan_37 rfl ?_
      refine am_if_lt (pc := 38) (tgt := 45) C dX12_readPlan_38 (by decide) (fun q38 => ?_) (fun q38 => ?_)
      · skip
        refine am_iconstN (pc := 45) (k := 0) C dX12_readPlan_45 ?_
        have E9 : rf_lnP (h 328) (h 322) (h 323) = (false, (rf_mt (h 328) (rf_oNum (h 328) (h 322)) (h 323)).2, h 323) := (by rw [rf_lnP, if_neg (by omega), if_pos q21])
        exact am_iretb T dX12_readPlan_46 rfl (Nat.le_refl _) (Nat.le_refl _) (by rw [E9] <;> rfl) rfl (by rw [E9] <;> exact (show (am_row h 322 ((rf_mt (h 328) (rf_oNum (h 328) (h 322)) (h 323)).2)) = (am_row (am_row h 322 ((rf_mt (h 328) (rf_oNum (h 328) (h 322)) (h 323)).2)) 323 (h 323)) from (am_hA (f := h) (i := 322) (j := 323) (by decide)).symm))
      · skip
        exact absurd q21 q38
    · skip
      refine am_aload_n (pc := 24) C dX12_readPlan_24 rfl ?_
      refine am_getR (pc := 25) (j := 323) C dX12_readPlan_25 f12_13 bn_322 sh_322 (rf_322_1 hR) ?_
      refine am_bipush (pc := 28) (v := nI 11) C dX12_readPlan_28 (by decide) ?_
      refine am_iload_n (pc := 30) C dX12_readPlan_30 rfl ?_
      refine am_iaddN (pc := 31) C dX12_readPlan_31 ?_
      refine am_dup2 (pc := 32) C dX12_readPlan_32 rfl rfl ?_
      refine am_iaload (pc := 33) C dX12_readPlan_33 bn_323 sh_323 (vp_in_nI (by omega) (by decide)) ?_
      refine am_top (show (h 323) (nI (11 + ((rf_rNum (h 328) (h 322) 0 (nI 1)) - 1))).toNatClampNeg = (h 323) (11 + ((rf_rNum (h 328) (h 322) 0 (nI 1)) - 1)) from by rw [nI_clamp (by omega)]) ?_
      refine am_iload_n (pc := 34) C dX12_readPlan_34 rfl ?_
      refine am_ior (pc := 35) C dX12_readPlan_35 ?_
      refine am_iastore (pc := 36) C dX12_readPlan_36 bn_323 sh_323 (vp_in_nI (by omega) (by decide)) ?_
      refine am_hp (show am_up (am_row h 322 ((rf_mt (h 328) (rf_oNum (h 328) (h 322)) (h 323)).2)) 323 (nI (11 + ((rf_rNum (h 328) (h 322) 0 (nI 1)) - 1))).toNatClampNeg (((h 323) (11 + ((rf_rNum (h 328) (h 322) 0 (nI 1)) - 1))) ||| ((rf_mt (h 328) (rf_oNum (h 328) (h 322)) (h 323)).1)) = am_row (am_row h 322 ((rf_mt (h 328) (rf_oNum (h 328) (h 322)) (h 323)).2)) 323 (upd (h 323) (11 + ((rf_rNum (h 328) (h 322) 0 (nI 1)) - 1)) (((h 323) (11 + ((rf_rNum (h 328) (h 322) 0 (nI 1)) - 1))) ||| ((rf_mt (h 328) (rf_oNum (h 328) (h 322)) (h 323)).1))) from by rw [nI_clamp (by omega)]; exact am_up_rw _ _ _ _) ?_
      refine am_iload_n (pc := 37) C dX12_readPlan_37 rfl ?_
      refine am_if_lt (pc := 38) (tgt := 45) C dX12_readPlan_38 (by decide) (fun q38 => ?_) (fun q38 => ?_)
      · skip
        exact absurd q38 q21
      · skip
        refine am_iconstN (pc := 41) (k := 1) C dX12_readPlan_41 ?_
        refine am_goto (pc := 42) (tgt := 46) C dX12_readPlan_42 (by decide) ?_
        have E9 : rf_lnP (h 328) (h 322) (h 323) = (true, (rf_mt (h 328) (rf_oNum (h 328) (h 322)) (h 323)).2, upd (h 323) (11 + ((rf_rNum (h 328) (h 322) 0 (nI 1)) - 1)) (((h 323) (11 + ((rf_rNum (h 328) (h 322) 0 (nI 1)) - 1))) ||| ((rf_mt (h 328) (rf_oNum (h 328) (h 322)) (h 323)).1))) := (by rw [rf_lnP, if_neg (by omega), if_neg q21])
        exact am_iretb T dX12_readPlan_46 rfl (Nat.le_refl _) (Nat.le_refl _) (by rw [E9] <;> rfl) rfl (by rw [E9] <;> exact rfl)
  · skip
    refine am_iconst (pc := 11) (v := -1) C dX12_readPlan_11 rfl ?_
    refine am_goto (pc := 12) (tgt := 19) C dX12_readPlan_12 (by decide) ?_
    refine am_istore_n (pc := 19) (ls' := [(0, .ref 322), (1, .int (am_oi (rf_rNum (h 328) (h 322) 0 (nI 1)))), (2, .int (-1))]) C dX12_readPlan_19 (by decide) rfl ?_
    refine am_iload_n (pc := 20) C dX12_readPlan_20 rfl ?_
    refine am_if_lt (pc := 21) (tgt := 37) C dX12_readPlan_21 (by decide) (fun q21 => ?_) (fun q21 => ?_)
    · skip
      refine am_iload_n (pc := 37) C dX12_readPlan_37 rfl ?_
      refine am_if_lt (pc := 38) (tgt := 45) C dX12_readPlan_38 (by decide) (fun q38 => ?_) (fun q38 => ?_)
      · skip
        refine am_iconstN (pc := 45) (k := 0) C dX12_readPlan_45 ?_
        have E9 : rf_lnP (h 328) (h 322) (h 323) = (false, rf_oNum (h 328) (h 322), h 323) := (by rw [rf_lnP, if_pos q8])
        exact am_iretb T dX12_readPlan_46 rfl (Nat.le_refl _) (Nat.le_refl _) (by rw [E9] <;> rfl) rfl (by rw [E9] <;> exact (show (am_row h 322 (rf_oNum (h 328) (h 322))) = (am_row (am_row h 322 (rf_oNum (h 328) (h 322))) 323 (h 323)) from (am_hA (f := h) (i := 322) (j := 323) (by decide)).symm))
      · skip
        exact absurd (by decide) q38
    · skip
      exact absurd (by decide) q21

set_option maxHeartbeats 400000 in
set_option maxRecDepth 100000 in
theorem c_X12_readClash {ad : Nat → Nat} {r : am_R} (hR : am_rs r) {h : am_H}  (hT : rf_To (h 322)) (hC : rf_Cn (h 323))  : am_CM mX12_readClash 4 0 0 [.ref 322] (am_VV ad) r h (am_po (some (.int (am_b ((rf_lnC (h 328) (h 322) (h 323)).1)))) r (am_row (am_row h 322 ((rf_lnC (h 328) (h 322) (h 323)).2.1)) 323 ((rf_lnC (h 328) (h 322) (h 323)).2.2))) := by
  refine am_CM.of (by decide +kernel) (Nat.le_of_ble_eq_true rfl) (fun X C T => ?_)
  show am_G X (am_VV ad) (0, 0) 0 [(0, .ref 322)] [] r h
  have hp4 : rf_p (h 322) ≤ rf_e (h 322) := hT.2.2.1
  have he4 : rf_e (h 322) < 401 := hT.2.1.2
  have hTn := rf_Tm_num (t := h 328) hT
  have hM9 : rf_M (h 323) < 17 := hC.1.2
  have hS9 : rf_S (h 323) < 11 := hC.2.1.2
  have hO9 : rf_O (h 323) < 11 := hC.2.2.2
  have hle1 : (rf_rM (h 328) (h 322) (h 323)) ≤ rf_M (h 323) := rf_rM_le hM9
  have hle2 : (rf_rM (h 328) (rf_oNum (h 328) (h 322)) (h 323)) ≤ rf_M (h 323) := rf_rM_le hM9
  refine am_aload_n (pc := 0) C dX12_readClash_0 rfl ?_
  refine am_callVi (Y := mX12_memoryTold) (pc := 1) (st := []) (As := []) (x := (am_oi (rf_rM (h 328) (h 322) (h 323)))) (h2 := (am_row h 322 (rf_oNum (h 328) (h 322)))) C dX12_readClash_1 k12_133 v_X12_memoryTold rfl rfl bn_322 sh_322 ⟨by decide, rfl⟩ (by decide) (Nat.zero_le _) (Nat.zero_le _) (Nat.le_of_ble_eq_true rfl) (c_X12_memoryTold hR (show rf_To (h 322) from hT) (show rf_Cn (h 323) from hC)) ?_
  refine am_istore_n (pc := 4) (ls' := [(0, .ref 322), (1, .int (am_oi (rf_rM (h 328) (h 322) (h 323))))]) C dX12_readClash_4 (by decide) rfl ?_
  refine am_iload_n (pc := 5) C dX12_readClash_5 rfl ?_
  refine am_if_geO (pc := 6) (tgt := 13) C dX12_readClash_6 (by decide) (by omega) (fun q6 => ?_) (fun q6 => ?_)
  · skip
    refine am_lsv (ls' := [(0, .ref 322), (1, .int (nI ((rf_rM (h 328) (h 322) (h 323)) - 1)))]) (by rw [show (am_oi (rf_rM (h 328) (h 322) (h 323))) = (nI ((rf_rM (h 328) (h 322) (h 323)) - 1)) from am_oi_p q6]) ?_
    refine am_aload_n (pc := 13) C dX12_readClash_13 rfl ?_
    refine am_callVi (Y := mX12_memoryTold) (pc := 14) (st := []) (As := []) (x := (am_oi (rf_rM (h 328) (rf_oNum (h 328) (h 322)) (h 323)))) (h2 := (am_row (am_row h 322 (rf_oNum (h 328) (h 322))) 322 (rf_oNum (h 328) (rf_oNum (h 328) (h 322))))) C dX12_readClash_14 k12_133 v_X12_memoryTold rfl rfl bn_322 sh_322 ⟨by decide, rfl⟩ (by decide) (Nat.zero_le _) (Nat.zero_le _) (Nat.le_of_ble_eq_true rfl) (c_X12_memoryTold hR (show rf_To (rf_oNum (h 328) (h 322)) from hTn.1) (show rf_Cn (h 323) from hC)) ?_
    refine am_hp (show (am_row (am_row h 322 (rf_oNum (h 328) (h 322))) 322 (rf_oNum (h 328) (rf_oNum (h 328) (h 322)))) = (am_row h 322 (rf_oNum (h 328) (rf_oNum (h 328) (h 322)))) from am_row_s0) ?_
    refine am_istore_n (pc := 17) (ls' := [(0, .ref 322), (1, .int (nI ((rf_rM (h 328) (h 322) (h 323)) - 1))), (2, .int (am_oi (rf_rM (h 328) (rf_oNum (h 328) (h 322)) (h 323))))]) C dX12_readClash_17 (by decide) rfl ?_
    refine am_iload_n (pc := 18) C dX12_readClash_18 rfl ?_
    refine am_if_ltO (pc := 19) (tgt := 27) C dX12_readClash_19 (by decide) (by omega) (fun q19 => ?_) (fun q19 => ?_)
    · skip
      refine am_iconstN (pc := 27) (k := 0) C dX12_readClash_27 ?_
      have E9 : rf_lnC (h 328) (h 322) (h 323) = (false, rf_oNum (h 328) (rf_oNum (h 328) (h 322)), h 323) := (by rw [rf_lnC, if_neg (by omega), if_pos (Or.inl q19)])
      exact am_iretb T dX12_readClash_28 rfl (Nat.le_refl _) (Nat.le_refl _) (by rw [E9] <;> rfl) rfl (by rw [E9] <;> exact (show (am_row h 322 (rf_oNum (h 328) (rf_oNum (h 328) (h 322)))) = (am_row (am_row h 322 (rf_oNum (h 328) (rf_oNum (h 328) (h 322)))) 323 (h 323)) from (am_hA (f := h) (i := 322) (j := 323) (by decide)).symm))
    · skip
      refine am_lsv (ls' := [(0, .ref 322), (1, .int (nI ((rf_rM (h 328) (h 322) (h 323)) - 1))), (2, .int (nI ((rf_rM (h 328) (rf_oNum (h 328) (h 322)) (h 323)) - 1)))]) (by rw [show (am_oi (rf_rM (h 328) (rf_oNum (h 328) (h 322)) (h 323))) = (nI ((rf_rM (h 328) (rf_oNum (h 328) (h 322)) (h 323)) - 1)) from am_oi_p (by omega)]) ?_
      refine am_iload_n (pc := 22) C dX12_readClash_22 rfl ?_
      refine am_iload_n (pc := 23) C dX12_readClash_23 rfl ?_
      refine am_icmp_neN (pc := 24) (tgt := 29) C dX12_readClash_24 (by decide) (by omega) (by omega) (fun q24 => ?_) (fun q24 => ?_)
      · skip
        refine am_aload_n (pc := 29) C dX12_readClash_29 rfl ?_
        refine am_getR (pc := 30) (j := 323) C dX12_readClash_30 f12_13 bn_322 sh_322 (rf_322_1 hR) ?_
        refine am_bipush (pc := 33) (v := nI 13) C dX12_readClash_33 (by decide) ?_
        refine am_iconstN (pc := 35) (k := 3) C dX12_readClash_35 ?_
        refine am_iload_n (pc := 36) C dX12_readClash_36 rfl ?_
        refine am_imulN (pc := 37) C dX12_readClash_37 ?_
        refine am_iaddN (pc := 38) C dX12_readClash_38 ?_
        refine am_iconstN (pc := 39) (k := 2) C dX12_readClash_39 ?_
        refine am_iaddN (pc := 40) C dX12_readClash_40 ?_
        refine am_dup2 (pc := 41) C dX12_readClash_41 rfl rfl ?_
        refine am_iaload (pc := 42) C dX12_readClash_42 bn_323 sh_323 (vp_in_nI (by omega) (by decide)) ?_
        refine am_top (show (h 323) (nI ((13 + (3 * ((rf_rM (h 328) (h 322) (h 323)) - 1))) + 2)).toNatClampNeg = (h 323) ((13 + (3 * ((rf_rM (h 328) (h 322) (h 323)) - 1))) + 2) from by rw [nI_clamp (by omega)]) ?_
        refine am_iconstN (pc := 43) (k := 1) C dX12_readClash_43 ?_
        refine am_iload_n (pc := 44) C dX12_readClash_44 rfl ?_
        refine am_ishl (pc := 45) C dX12_readClash_45 ?_
        refine am_ior (pc := 46) C dX12_readClash_46 ?_
        refine am_iastore (pc := 47) C dX12_readClash_47 bn_323 sh_323 (vp_in_nI (by omega) (by decide)) ?_
        refine am_hp (show am_up (am_row h 322 (rf_oNum (h 328) (rf_oNum (h 328) (h 322)))) 323 (nI ((13 + (3 * ((rf_rM (h 328) (h 322) (h 323)) - 1))) + 2)).toNatClampNeg (((h 323) ((13 + (3 * ((rf_rM (h 328) (h 322) (h 323)) - 1))) + 2)) ||| ((nI 1) <<< ((nI ((rf_rM (h 328) (rf_oNum (h 328) (h 322)) (h 323)) - 1)) &&& 31))) = am_row (am_row h 322 (rf_oNum (h 328) (rf_oNum (h 328) (h 322)))) 323 (upd (h 323) ((13 + (3 * ((rf_rM (h 328) (h 322) (h 323)) - 1))) + 2) (((h 323) ((13 + (3 * ((rf_rM (h 328) (h 322) (h 323)) - 1))) + 2)) ||| ((nI 1) <<< ((nI ((rf_rM (h 328) (rf_oNum (h 328) (h 322)) (h 323)) - 1)) &&& 31)))) from by rw [nI_clamp (by omega)]; exact am_up_rw _ _ _ _) ?_
        refine am_aload_n (pc := 48) C dX12_readClash_48 rfl ?_
        refine am_getR (pc := 49) (j := 323) C dX12_readClash_49 f12_13 bn_322 sh_322 (rf_322_1 hR) ?_
        refine am_bipush (pc := 52) (v := nI 13) C dX12_readClash_52 (by decide) ?_
        refine am_iconstN (pc := 54) (k := 3) C dX12_readClash_54 ?_
        refine am_iload_n (pc := 55) C dX12_readClash_55 rfl ?_
        refine am_imulN (pc := 56) C dX12_readClash_56 ?_
        refine am_iaddN (pc := 57) C dX12_readClash_57 ?_
        refine am_iconstN (pc := 58) (k := 2) C dX12_readClash_58 ?_
        refine am_iaddN (pc := 59) C dX12_readClash_59 ?_
        refine am_dup2 (pc := 60) C dX12_readClash_60 rfl rfl ?_
        refine am_iaload (pc := 61) C dX12_readClash_61 bn_323 sh_323 (vp_in_nI (by omega) (by decide)) ?_
        refine am_top (show (upd (h 323) ((13 + (3 * ((rf_rM (h 328) (h 322) (h 323)) - 1))) + 2) (((h 323) ((13 + (3 * ((rf_rM (h 328) (h 322) (h 323)) - 1))) + 2)) ||| ((nI 1) <<< ((nI ((rf_rM (h 328) (rf_oNum (h 328) (h 322)) (h 323)) - 1)) &&& 31)))) (nI ((13 + (3 * ((rf_rM (h 328) (rf_oNum (h 328) (h 322)) (h 323)) - 1))) + 2)).toNatClampNeg = (upd (h 323) ((13 + (3 * ((rf_rM (h 328) (h 322) (h 323)) - 1))) + 2) (((h 323) ((13 + (3 * ((rf_rM (h 328) (h 322) (h 323)) - 1))) + 2)) ||| ((nI 1) <<< ((nI ((rf_rM (h 328) (rf_oNum (h 328) (h 322)) (h 323)) - 1)) &&& 31)))) ((13 + (3 * ((rf_rM (h 328) (rf_oNum (h 328) (h 322)) (h 323)) - 1))) + 2) from by rw [nI_clamp (by omega)]) ?_
        refine am_iconstN (pc := 62) (k := 1) C dX12_readClash_62 ?_
        refine am_iload_n (pc := 63) C dX12_readClash_63 rfl ?_
        refine am_ishl (pc := 64) C dX12_readClash_64 ?_
        refine am_ior (pc := 65) C dX12_readClash_65 ?_
        refine am_iastore (pc := 66) C dX12_readClash_66 bn_323 sh_323 (vp_in_nI (by omega) (by decide)) ?_
        refine am_hp (show am_up (am_row (am_row h 322 (rf_oNum (h 328) (rf_oNum (h 328) (h 322)))) 323 (upd (h 323) ((13 + (3 * ((rf_rM (h 328) (h 322) (h 323)) - 1))) + 2) (((h 323) ((13 + (3 * ((rf_rM (h 328) (h 322) (h 323)) - 1))) + 2)) ||| ((nI 1) <<< ((nI ((rf_rM (h 328) (rf_oNum (h 328) (h 322)) (h 323)) - 1)) &&& 31))))) 323 (nI ((13 + (3 * ((rf_rM (h 328) (rf_oNum (h 328) (h 322)) (h 323)) - 1))) + 2)).toNatClampNeg (((upd (h 323) ((13 + (3 * ((rf_rM (h 328) (h 322) (h 323)) - 1))) + 2) (((h 323) ((13 + (3 * ((rf_rM (h 328) (h 322) (h 323)) - 1))) + 2)) ||| ((nI 1) <<< ((nI ((rf_rM (h 328) (rf_oNum (h 328) (h 322)) (h 323)) - 1)) &&& 31)))) ((13 + (3 * ((rf_rM (h 328) (rf_oNum (h 328) (h 322)) (h 323)) - 1))) + 2)) ||| ((nI 1) <<< ((nI ((rf_rM (h 328) (h 322) (h 323)) - 1)) &&& 31))) = am_row (am_row (am_row h 322 (rf_oNum (h 328) (rf_oNum (h 328) (h 322)))) 323 (upd (h 323) ((13 + (3 * ((rf_rM (h 328) (h 322) (h 323)) - 1))) + 2) (((h 323) ((13 + (3 * ((rf_rM (h 328) (h 322) (h 323)) - 1))) + 2)) ||| ((nI 1) <<< ((nI ((rf_rM (h 328) (rf_oNum (h 328) (h 322)) (h 323)) - 1)) &&& 31))))) 323 (upd (upd (h 323) ((13 + (3 * ((rf_rM (h 328) (h 322) (h 323)) - 1))) + 2) (((h 323) ((13 + (3 * ((rf_rM (h 328) (h 322) (h 323)) - 1))) + 2)) ||| ((nI 1) <<< ((nI ((rf_rM (h 328) (rf_oNum (h 328) (h 322)) (h 323)) - 1)) &&& 31)))) ((13 + (3 * ((rf_rM (h 328) (rf_oNum (h 328) (h 322)) (h 323)) - 1))) + 2) (((upd (h 323) ((13 + (3 * ((rf_rM (h 328) (h 322) (h 323)) - 1))) + 2) (((h 323) ((13 + (3 * ((rf_rM (h 328) (h 322) (h 323)) - 1))) + 2)) ||| ((nI 1) <<< ((nI ((rf_rM (h 328) (rf_oNum (h 328) (h 322)) (h 323)) - 1)) &&& 31)))) ((13 + (3 * ((rf_rM (h 328) (rf_oNum (h 328) (h 322)) (h 323)) - 1))) + 2)) ||| ((nI 1) <<< ((nI ((rf_rM (h 328) (h 322) (h 323)) - 1)) &&& 31)))) from by rw [nI_clamp (by omega)]; exact am_up_rw _ _ _ _) ?_
        refine am_hp (show am_row (am_row (am_row h 322 (rf_oNum (h 328) (rf_oNum (h 328) (h 322)))) 323 (upd (h 323) ((13 + (3 * ((rf_rM (h 328) (h 322) (h 323)) - 1))) + 2) (((h 323) ((13 + (3 * ((rf_rM (h 328) (h 322) (h 323)) - 1))) + 2)) ||| ((nI 1) <<< ((nI ((rf_rM (h 328) (rf_oNum (h 328) (h 322)) (h 323)) - 1)) &&& 31))))) 323 (upd (upd (h 323) ((13 + (3 * ((rf_rM (h 328) (h 322) (h 323)) - 1))) + 2) (((h 323) ((13 + (3 * ((rf_rM (h 328) (h 322) (h 323)) - 1))) + 2)) ||| ((nI 1) <<< ((nI ((rf_rM (h 328) (rf_oNum (h 328) (h 322)) (h 323)) - 1)) &&& 31)))) ((13 + (3 * ((rf_rM (h 328) (rf_oNum (h 328) (h 322)) (h 323)) - 1))) + 2) (((upd (h 323) ((13 + (3 * ((rf_rM (h 328) (h 322) (h 323)) - 1))) + 2) (((h 323) ((13 + (3 * ((rf_rM (h 328) (h 322) (h 323)) - 1))) + 2)) ||| ((nI 1) <<< ((nI ((rf_rM (h 328) (rf_oNum (h 328) (h 322)) (h 323)) - 1)) &&& 31)))) ((13 + (3 * ((rf_rM (h 328) (rf_oNum (h 328) (h 322)) (h 323)) - 1))) + 2)) ||| ((nI 1) <<< ((nI ((rf_rM (h 328) (h 322) (h 323)) - 1)) &&& 31)))) = (am_row (am_row h 322 (rf_oNum (h 328) (rf_oNum (h 328) (h 322)))) 323 (upd (upd (h 323) ((13 + (3 * ((rf_rM (h 328) (h 322) (h 323)) - 1))) + 2) (((h 323) ((13 + (3 * ((rf_rM (h 328) (h 322) (h 323)) - 1))) + 2)) ||| ((nI 1) <<< ((nI ((rf_rM (h 328) (rf_oNum (h 328) (h 322)) (h 323)) - 1)) &&& 31)))) ((13 + (3 * ((rf_rM (h 328) (rf_oNum (h 328) (h 322)) (h 323)) - 1))) + 2) (((upd (h 323) ((13 + (3 * ((rf_rM (h 328) (h 322) (h 323)) - 1))) + 2) (((h 323) ((13 + (3 * ((rf_rM (h 328) (h 322) (h 323)) - 1))) + 2)) ||| ((nI 1) <<< ((nI ((rf_rM (h 328) (rf_oNum (h 328) (h 322)) (h 323)) - 1)) &&& 31)))) ((13 + (3 * ((rf_rM (h 328) (rf_oNum (h 328) (h 322)) (h 323)) - 1))) + 2)) ||| ((nI 1) <<< ((nI ((rf_rM (h 328) (h 322) (h 323)) - 1)) &&& 31))))) from am_row_s0) ?_
        refine am_iconstN (pc := 67) (k := 1) C dX12_readClash_67 ?_
        have E9 : rf_lnC (h 328) (h 322) (h 323) = (true, rf_oNum (h 328) (rf_oNum (h 328) (h 322)), upd (upd (h 323) ((13 + (3 * ((rf_rM (h 328) (h 322) (h 323)) - 1))) + 2) (((h 323) ((13 + (3 * ((rf_rM (h 328) (h 322) (h 323)) - 1))) + 2)) ||| ((nI 1) <<< ((nI ((rf_rM (h 328) (rf_oNum (h 328) (h 322)) (h 323)) - 1)) &&& 31)))) ((13 + (3 * ((rf_rM (h 328) (rf_oNum (h 328) (h 322)) (h 323)) - 1))) + 2) (((upd (h 323) ((13 + (3 * ((rf_rM (h 328) (h 322) (h 323)) - 1))) + 2) (((h 323) ((13 + (3 * ((rf_rM (h 328) (h 322) (h 323)) - 1))) + 2)) ||| ((nI 1) <<< ((nI ((rf_rM (h 328) (rf_oNum (h 328) (h 322)) (h 323)) - 1)) &&& 31)))) ((13 + (3 * ((rf_rM (h 328) (rf_oNum (h 328) (h 322)) (h 323)) - 1))) + 2)) ||| ((nI 1) <<< ((nI ((rf_rM (h 328) (h 322) (h 323)) - 1)) &&& 31)))) := (by rw [rf_lnC, if_neg (by omega), if_neg (by omega)]; rfl)
        exact am_iretb T dX12_readClash_68 rfl (Nat.le_refl _) (Nat.le_refl _) (by rw [E9] <;> rfl) rfl (by rw [E9] <;> exact rfl)
      · skip
        refine am_iconstN (pc := 27) (k := 0) C dX12_readClash_27 ?_
        have E9 : rf_lnC (h 328) (h 322) (h 323) = (false, rf_oNum (h 328) (rf_oNum (h 328) (h 322)), h 323) := (by rw [rf_lnC, if_neg (by omega), if_pos (Or.inr (by omega))])
        exact am_iretb T dX12_readClash_28 rfl (Nat.le_refl _) (Nat.le_refl _) (by rw [E9] <;> rfl) rfl (by rw [E9] <;> exact (show (am_row h 322 (rf_oNum (h 328) (rf_oNum (h 328) (h 322)))) = (am_row (am_row h 322 (rf_oNum (h 328) (rf_oNum (h 328) (h 322)))) 323 (h 323)) from (am_hA (f := h) (i := 322) (j := 323) (by decide)).symm))
  · skip
    refine am_iconst (pc := 9) (v := -1) C dX12_readClash_9 rfl ?_
    refine am_goto (pc := 10) (tgt := 17) C dX12_readClash_10 (by decide) ?_
    refine am_istore_n (pc := 17) (ls' := [(0, .ref 322), (1, .int (am_oi (rf_rM (h 328) (h 322) (h 323)))), (2, .int (-1))]) C dX12_readClash_17 (by decide) rfl ?_
    refine am_iload_n (pc := 18) C dX12_readClash_18 rfl ?_
    refine am_if_lt (pc := 19) (tgt := 27) C dX12_readClash_19 (by decide) (fun q19 => ?_) (fun q19 => ?_)
    · skip
      refine am_iconstN (pc := 27) (k := 0) C dX12_readClash_27 ?_
      have E9 : rf_lnC (h 328) (h 322) (h 323) = (false, rf_oNum (h 328) (h 322), h 323) := (by rw [rf_lnC, if_pos q6])
      exact am_iretb T dX12_readClash_28 rfl (Nat.le_refl _) (Nat.le_refl _) (by rw [E9] <;> rfl) rfl (by rw [E9] <;> exact (show (am_row h 322 (rf_oNum (h 328) (h 322))) = (am_row (am_row h 322 (rf_oNum (h 328) (h 322))) 323 (h 323)) from (am_hA (f := h) (i := 322) (j := 323) (by decide)).symm))
    · skip
      exact absurd (by decide) q19

set_option maxHeartbeats 400000 in
set_option maxRecDepth 100000 in
theorem c_X12_readWarLine {ad : Nat → Nat} {r : am_R} (hR : am_rs r) {h : am_H}  (hT : rf_To (h 322)) (hV : rf_I (h 323)) (hbp : rf_b (h 322) ≤ rf_p (h 322))  : am_CM mX12_readWarLine 10 0 0 [.ref 322] (am_VV ad) r h (am_po (some (.int (am_b ((rf_lnW (h 328) (h 322) (h 323)).1)))) r (am_row (am_row h 322 ((rf_lnW (h 328) (h 322) (h 323)).2.1)) 323 ((rf_lnW (h 328) (h 322) (h 323)).2.2))) := by
  refine am_CM.of (by decide +kernel) (Nat.le_of_ble_eq_true rfl) (fun X C T => ?_)
  show am_G X (am_VV ad) (0, 0) 0 [(0, .ref 322)] [] r h
  have hC := hV.1
  refine am_aload_n (pc := 0) C dX12_readWarLine_0 rfl ?_
  refine am_ldcs (pc := 1) (k := 0) (t := "memory") C dX12_readWarLine_1 (by decide) (List.mem_of_getElem? (i := 47) rfl) ?_
  refine am_callVi (Y := mX12_isWord) (pc := 3) (st := []) (As := [.ref (am_SB + 0)]) (x := (am_b (rf_isW (h 328) (h 322) 0))) (h2 := h) C dX12_readWarLine_3 k12_126 v_X12_isWord rfl rfl bn_322 sh_322 ⟨by decide, rfl⟩ (by decide) (Nat.zero_le _) (Nat.zero_le _) (Nat.le_of_ble_eq_true rfl) (c_X12_isWord hR 0 (show rf_To (h 322) from hT) (show rf_b (h 322) ≤ rf_p (h 322) from hbp) (show 0 < am_TX.length from (by decide))) ?_
  refine am_if_eqB (pc := 6) (tgt := 14) C dX12_readWarLine_6 (by decide) (fun q6 => ?_) (fun q6 => ?_)
  · skip
    refine am_aload_n (pc := 14) C dX12_readWarLine_14 rfl ?_
    refine am_ldcs (pc := 15) (k := 2) (t := "soldier") C dX12_readWarLine_15 (by decide) (List.mem_of_getElem? (i := 49) rfl) ?_
    refine am_callVi (Y := mX12_isWord) (pc := 17) (st := []) (As := [.ref (am_SB + 2)]) (x := (am_b (rf_isW (h 328) (h 322) 2))) (h2 := h) C dX12_readWarLine_17 k12_126 v_X12_isWord rfl rfl bn_322 sh_322 ⟨by decide, rfl⟩ (by decide) (Nat.zero_le _) (Nat.zero_le _) (Nat.le_of_ble_eq_true rfl) (c_X12_isWord hR 2 (show rf_To (h 322) from hT) (show rf_b (h 322) ≤ rf_p (h 322) from hbp) (show 2 < am_TX.length from (by decide))) ?_
    refine am_if_eqB (pc := 20) (tgt := 28) C dX12_readWarLine_20 (by decide) (fun q20 => ?_) (fun q20 => ?_)
    · skip
      refine am_aload_n (pc := 28) C dX12_readWarLine_28 rfl ?_
      refine am_ldcs (pc := 29) (k := 3) (t := "knows") C dX12_readWarLine_29 (by decide) (List.mem_of_getElem? (i := 50) rfl) ?_
      refine am_callVi (Y := mX12_isWord) (pc := 31) (st := []) (As := [.ref (am_SB + 3)]) (x := (am_b (rf_isW (h 328) (h 322) 3))) (h2 := h) C dX12_readWarLine_31 k12_126 v_X12_isWord rfl rfl bn_322 sh_322 ⟨by decide, rfl⟩ (by decide) (Nat.zero_le _) (Nat.zero_le _) (Nat.le_of_ble_eq_true rfl) (c_X12_isWord hR 3 (show rf_To (h 322) from hT) (show rf_b (h 322) ≤ rf_p (h 322) from hbp) (show 3 < am_TX.length from (by decide))) ?_
      refine am_if_eqB (pc := 34) (tgt := 42) C dX12_readWarLine_34 (by decide) (fun q34 => ?_) (fun q34 => ?_)
      · skip
        refine am_aload_n (pc := 42) C dX12_readWarLine_42 rfl ?_
        refine am_ldcs (pc := 43) (k := 4) (t := "book") C dX12_readWarLine_43 (by decide) (List.mem_of_getElem? (i := 51) rfl) ?_
        refine am_callVi (Y := mX12_isWord) (pc := 45) (st := []) (As := [.ref (am_SB + 4)]) (x := (am_b (rf_isW (h 328) (h 322) 4))) (h2 := h) C dX12_readWarLine_45 k12_126 v_X12_isWord rfl rfl bn_322 sh_322 ⟨by decide, rfl⟩ (by decide) (Nat.zero_le _) (Nat.zero_le _) (Nat.le_of_ble_eq_true rfl) (c_X12_isWord hR 4 (show rf_To (h 322) from hT) (show rf_b (h 322) ≤ rf_p (h 322) from hbp) (show 4 < am_TX.length from (by decide))) ?_
        refine am_if_eqB (pc := 48) (tgt := 56) C dX12_readWarLine_48 (by decide) (fun q48 => ?_) (fun q48 => ?_)
        · skip
          refine am_aload_n (pc := 56) C dX12_readWarLine_56 rfl ?_
          refine am_ldcs (pc := 57) (k := 5) (t := "order") C dX12_readWarLine_57 (by decide) (List.mem_of_getElem? (i := 52) rfl) ?_
          refine am_callVi (Y := mX12_isWord) (pc := 59) (st := []) (As := [.ref (am_SB + 5)]) (x := (am_b (rf_isW (h 328) (h 322) 5))) (h2 := h) C dX12_readWarLine_59 k12_126 v_X12_isWord rfl rfl bn_322 sh_322 ⟨by decide, rfl⟩ (by decide) (Nat.zero_le _) (Nat.zero_le _) (Nat.le_of_ble_eq_true rfl) (c_X12_isWord hR 5 (show rf_To (h 322) from hT) (show rf_b (h 322) ≤ rf_p (h 322) from hbp) (show 5 < am_TX.length from (by decide))) ?_
          refine am_if_eqB (pc := 62) (tgt := 70) C dX12_readWarLine_62 (by decide) (fun q62 => ?_) (fun q62 => ?_)
          · skip
            refine am_aload_n (pc := 70) C dX12_readWarLine_70 rfl ?_
            refine am_ldcs (pc := 71) (k := 6) (t := "plan") C dX12_readWarLine_71 (by decide) (List.mem_of_getElem? (i := 53) rfl) ?_
            refine am_callVi (Y := mX12_isWord) (pc := 73) (st := []) (As := [.ref (am_SB + 6)]) (x := (am_b (rf_isW (h 328) (h 322) 6))) (h2 := h) C dX12_readWarLine_73 k12_126 v_X12_isWord rfl rfl bn_322 sh_322 ⟨by decide, rfl⟩ (by decide) (Nat.zero_le _) (Nat.zero_le _) (Nat.le_of_ble_eq_true rfl) (c_X12_isWord hR 6 (show rf_To (h 322) from hT) (show rf_b (h 322) ≤ rf_p (h 322) from hbp) (show 6 < am_TX.length from (by decide))) ?_
            refine am_if_eqB (pc := 76) (tgt := 84) C dX12_readWarLine_76 (by decide) (fun q76 => ?_) (fun q76 => ?_)
            · skip
              refine am_aload_n (pc := 84) C dX12_readWarLine_84 rfl ?_
              refine am_ldcs (pc := 85) (k := 7) (t := "clash") C dX12_readWarLine_85 (by decide) (List.mem_of_getElem? (i := 54) rfl) ?_
              refine am_callVi (Y := mX12_isWord) (pc := 87) (st := []) (As := [.ref (am_SB + 7)]) (x := (am_b (rf_isW (h 328) (h 322) 7))) (h2 := h) C dX12_readWarLine_87 k12_126 v_X12_isWord rfl rfl bn_322 sh_322 ⟨by decide, rfl⟩ (by decide) (Nat.zero_le _) (Nat.zero_le _) (Nat.le_of_ble_eq_true rfl) (c_X12_isWord hR 7 (show rf_To (h 322) from hT) (show rf_b (h 322) ≤ rf_p (h 322) from hbp) (show 7 < am_TX.length from (by decide))) ?_
              refine am_if_eqB (pc := 90) (tgt := 104) C dX12_readWarLine_90 (by decide) (fun q90 => ?_) (fun q90 => ?_)
              · skip
                refine am_iconstN (pc := 104) (k := 0) C dX12_readWarLine_104 ?_
                have E9 : rf_lnW (h 328) (h 322) (h 323) = (false, h 322, h 323) := (by rw [rf_lnW, q6, q20, q34, q48, q62, q76, q90]; rfl)
                exact am_iretb T dX12_readWarLine_105 rfl (Nat.le_refl _) (Nat.le_refl _) (by rw [E9] <;> rfl) rfl (by rw [E9] <;> exact (show h = (am_row (am_row h 322 (h 322)) 323 (h 323)) from (am_hB h 322 323).symm))
              · skip
                refine am_aload_n (pc := 93) C dX12_readWarLine_93 rfl ?_
                refine am_callVi (Y := mX12_readClash) (pc := 94) (st := []) (As := []) (x := (am_b ((rf_lnC (h 328) (h 322) (h 323)).1))) (h2 := (am_row (am_row h 322 ((rf_lnC (h 328) (h 322) (h 323)).2.1)) 323 ((rf_lnC (h 328) (h 322) (h 323)).2.2))) C dX12_readWarLine_94 k12_194 v_X12_readClash rfl rfl bn_322 sh_322 ⟨by decide, rfl⟩ (by decide) (Nat.zero_le _) (Nat.zero_le _) (Nat.le_of_ble_eq_true rfl) (c_X12_readClash hR (show rf_To (h 322) from hT) (show rf_Cn (h 323) from hC)) ?_
                refine am_if_eqB (pc := 97) (tgt := 104) C dX12_readWarLine_97 (by decide) (fun q97 => ?_) (fun q97 => ?_)
                · skip
                  refine am_iconstN (pc := 104) (k := 0) C dX12_readWarLine_104 ?_
                  have E9 : rf_lnW (h 328) (h 322) (h 323) = (false, (rf_lnC (h 328) (h 322) (h 323)).2.1, (rf_lnC (h 328) (h 322) (h 323)).2.2) := (by rw [rf_lnW, q6, q20, q34, q48, q62, q76, q90]; exact Prod.ext q97 rfl)
                  exact am_iretb T dX12_readWarLine_105 rfl (Nat.le_refl _) (Nat.le_refl _) (by rw [E9] <;> rfl) rfl (by rw [E9] <;> exact rfl)
                · skip
                  refine am_iconstN (pc := 100) (k := 1) C dX12_readWarLine_100 ?_
                  refine am_goto (pc := 101) (tgt := 105) C dX12_readWarLine_101 (by decide) ?_
                  have E9 : rf_lnW (h 328) (h 322) (h 323) = (true, (rf_lnC (h 328) (h 322) (h 323)).2.1, (rf_lnC (h 328) (h 322) (h 323)).2.2) := (by rw [rf_lnW, q6, q20, q34, q48, q62, q76, q90]; exact Prod.ext q97 rfl)
                  exact am_iretb T dX12_readWarLine_105 rfl (Nat.le_refl _) (Nat.le_refl _) (by rw [E9] <;> rfl) rfl (by rw [E9] <;> exact rfl)
            · skip
              refine am_aload_n (pc := 79) C dX12_readWarLine_79 rfl ?_
              refine am_callVi (Y := mX12_readPlan) (pc := 80) (st := []) (As := []) (x := (am_b ((rf_lnP (h 328) (h 322) (h 323)).1))) (h2 := (am_row (am_row h 322 ((rf_lnP (h 328) (h 322) (h 323)).2.1)) 323 ((rf_lnP (h 328) (h 322) (h 323)).2.2))) C dX12_readWarLine_80 k12_189 v_X12_readPlan rfl rfl bn_322 sh_322 ⟨by decide, rfl⟩ (by decide) (Nat.zero_le _) (Nat.zero_le _) (Nat.le_of_ble_eq_true rfl) (c_X12_readPlan hR (show rf_To (h 322) from hT) (show rf_Cn (h 323) from hC)) ?_
              have E9 : rf_lnW (h 328) (h 322) (h 323) = ((rf_lnP (h 328) (h 322) (h 323)).1, (rf_lnP (h 328) (h 322) (h 323)).2.1, (rf_lnP (h 328) (h 322) (h 323)).2.2) := (by rw [rf_lnW, q6, q20, q34, q48, q62, q76]; rfl)
              exact am_iretb T dX12_readWarLine_83 rfl (Nat.le_refl _) (Nat.le_refl _) (by rw [E9] <;> rfl) rfl (by rw [E9] <;> exact rfl)
          · skip
            refine am_aload_n (pc := 65) C dX12_readWarLine_65 rfl ?_
            refine am_callVi (Y := mX12_readOrder) (pc := 66) (st := []) (As := []) (x := (am_b ((rf_lnO (h 328) (h 322) (h 323)).1))) (h2 := (am_row (am_row h 322 ((rf_lnO (h 328) (h 322) (h 323)).2.1)) 323 ((rf_lnO (h 328) (h 322) (h 323)).2.2))) C dX12_readWarLine_66 k12_184 v_X12_readOrder rfl rfl bn_322 sh_322 ⟨by decide, rfl⟩ (by decide) (Nat.zero_le _) (Nat.zero_le _) (Nat.le_of_ble_eq_true rfl) (c_X12_readOrder hR (show rf_To (h 322) from hT) (show rf_Cn (h 323) from hC)) ?_
            have E9 : rf_lnW (h 328) (h 322) (h 323) = ((rf_lnO (h 328) (h 322) (h 323)).1, (rf_lnO (h 328) (h 322) (h 323)).2.1, (rf_lnO (h 328) (h 322) (h 323)).2.2) := (by rw [rf_lnW, q6, q20, q34, q48, q62]; rfl)
            exact am_iretb T dX12_readWarLine_69 rfl (Nat.le_refl _) (Nat.le_refl _) (by rw [E9] <;> rfl) rfl (by rw [E9] <;> exact rfl)
        · skip
          refine am_aload_n (pc := 51) C dX12_readWarLine_51 rfl ?_
          refine am_callVi (Y := mX12_readBook) (pc := 52) (st := []) (As := []) (x := (am_b ((rf_lnB (h 328) (h 322) (h 323)).1))) (h2 := (am_row (am_row h 322 ((rf_lnB (h 328) (h 322) (h 323)).2.1)) 323 ((rf_lnB (h 328) (h 322) (h 323)).2.2))) C dX12_readWarLine_52 k12_179 v_X12_readBook rfl rfl bn_322 sh_322 ⟨by decide, rfl⟩ (by decide) (Nat.zero_le _) (Nat.zero_le _) (Nat.le_of_ble_eq_true rfl) (c_X12_readBook hR (show rf_To (h 322) from hT) (show rf_Cn (h 323) from hC)) ?_
          have E9 : rf_lnW (h 328) (h 322) (h 323) = ((rf_lnB (h 328) (h 322) (h 323)).1, (rf_lnB (h 328) (h 322) (h 323)).2.1, (rf_lnB (h 328) (h 322) (h 323)).2.2) := (by rw [rf_lnW, q6, q20, q34, q48]; rfl)
          exact am_iretb T dX12_readWarLine_55 rfl (Nat.le_refl _) (Nat.le_refl _) (by rw [E9] <;> rfl) rfl (by rw [E9] <;> exact rfl)
      · skip
        refine am_aload_n (pc := 37) C dX12_readWarLine_37 rfl ?_
        refine am_callVi (Y := mX12_readKnows) (pc := 38) (st := []) (As := []) (x := (am_b ((rf_lnK (h 328) (h 322) (h 323)).1))) (h2 := (am_row (am_row h 322 ((rf_lnK (h 328) (h 322) (h 323)).2.1)) 323 ((rf_lnK (h 328) (h 322) (h 323)).2.2))) C dX12_readWarLine_38 k12_174 v_X12_readKnows rfl rfl bn_322 sh_322 ⟨by decide, rfl⟩ (by decide) (Nat.zero_le _) (Nat.zero_le _) (Nat.le_of_ble_eq_true rfl) (c_X12_readKnows hR (show rf_To (h 322) from hT) (show rf_I (h 323) from hV)) ?_
        have E9 : rf_lnW (h 328) (h 322) (h 323) = ((rf_lnK (h 328) (h 322) (h 323)).1, (rf_lnK (h 328) (h 322) (h 323)).2.1, (rf_lnK (h 328) (h 322) (h 323)).2.2) := (by rw [rf_lnW, q6, q20, q34]; rfl)
        exact am_iretb T dX12_readWarLine_41 rfl (Nat.le_refl _) (Nat.le_refl _) (by rw [E9] <;> rfl) rfl (by rw [E9] <;> exact rfl)
    · skip
      refine am_aload_n (pc := 23) C dX12_readWarLine_23 rfl ?_
      refine am_callVi (Y := mX12_readSoldier) (pc := 24) (st := []) (As := []) (x := (am_b ((rf_lnS (h 328) (h 322) (h 323)).1))) (h2 := (am_row (am_row h 322 ((rf_lnS (h 328) (h 322) (h 323)).2.1)) 323 ((rf_lnS (h 328) (h 322) (h 323)).2.2))) C dX12_readWarLine_24 k12_169 v_X12_readSoldier rfl rfl bn_322 sh_322 ⟨by decide, rfl⟩ (by decide) (Nat.zero_le _) (Nat.zero_le _) (Nat.le_of_ble_eq_true rfl) (c_X12_readSoldier hR (show rf_To (h 322) from hT) (show rf_Cn (h 323) from hC)) ?_
      have E9 : rf_lnW (h 328) (h 322) (h 323) = ((rf_lnS (h 328) (h 322) (h 323)).1, (rf_lnS (h 328) (h 322) (h 323)).2.1, (rf_lnS (h 328) (h 322) (h 323)).2.2) := (by rw [rf_lnW, q6, q20]; rfl)
      exact am_iretb T dX12_readWarLine_27 rfl (Nat.le_refl _) (Nat.le_refl _) (by rw [E9] <;> rfl) rfl (by rw [E9] <;> exact rfl)
  · skip
    refine am_aload_n (pc := 9) C dX12_readWarLine_9 rfl ?_
    refine am_callVi (Y := mX12_readMemory) (pc := 10) (st := []) (As := []) (x := (am_b ((rf_lnM (h 328) (h 322) (h 323)).1))) (h2 := (am_row (am_row h 322 ((rf_lnM (h 328) (h 322) (h 323)).2.1)) 323 ((rf_lnM (h 328) (h 322) (h 323)).2.2))) C dX12_readWarLine_10 k12_164 v_X12_readMemory rfl rfl bn_322 sh_322 ⟨by decide, rfl⟩ (by decide) (Nat.zero_le _) (Nat.zero_le _) (Nat.le_of_ble_eq_true rfl) (c_X12_readMemory hR (show rf_To (h 322) from hT) (show rf_Cn (h 323) from hC)) ?_
    have E9 : rf_lnW (h 328) (h 322) (h 323) = ((rf_lnM (h 328) (h 322) (h 323)).1, (rf_lnM (h 328) (h 322) (h 323)).2.1, (rf_lnM (h 328) (h 322) (h 323)).2.2) := (by rw [rf_lnW, q6]; rfl)
    exact am_iretb T dX12_readWarLine_13 rfl (Nat.le_refl _) (Nat.le_refl _) (by rw [E9] <;> rfl) rfl (by rw [E9] <;> exact rfl)

