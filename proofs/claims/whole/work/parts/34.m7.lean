set_option maxHeartbeats 400000 in
set_option maxRecDepth 100000 in
theorem c_X12_isAt {ad : Nat → Nat} {r : am_R} (hR : am_rs r) {h : am_H} (lo : Nat) (hi : Nat) (hT : rf_To (h 322))  : am_CM mX12_isAt 0 0 0 [.ref 322, .int (nI lo), .int (nI hi)] (am_VV ad) r h (am_po (some (.int (am_b (rf_isAt (h 328) (h 322) lo hi)))) r h) := by
  refine am_CM.of (by decide +kernel) (Nat.le_of_ble_eq_true rfl) (fun X C T => ?_)
  show am_G X (am_VV ad) (0, 0) 0 [(0, .ref 322), (1, .int (nI lo)), (2, .int (nI hi))] [] r h
  have hp4 : rf_p (h 322) ≤ rf_e (h 322) := hT.2.2.1
  have he4 : rf_e (h 322) < 401 := hT.2.1.2
  have hb4 : rf_b (h 322) < 401 := hT.2.2.2.2
  obtain ⟨hs1, hs2⟩ := rf_sb_le (t := h 328) hp4
  refine am_aload_n (pc := 0) C dX12_isAt_0 rfl ?_
  refine am_getI (pc := 1) C dX12_isAt_1 f12_99 bn_322 sh_322 ?_
  refine am_top (show ((h 322) 10) = (nI (rf_p (h 322))) from hT.1.1) ?_
  refine am_aload_n (pc := 4) C dX12_isAt_4 rfl ?_
  refine am_getI (pc := 5) C dX12_isAt_5 f12_102 bn_322 sh_322 ?_
  refine am_top (show ((h 322) 11) = (nI (rf_e (h 322))) from hT.2.1.1) ?_
  refine am_icmp_geN (pc := 8) (tgt := 41) C dX12_isAt_8 (by decide) (by omega) (by omega) (fun q8 => ?_) (fun q8 => ?_)
  · skip
    refine am_iconstN (pc := 41) (k := 0) C dX12_isAt_41 ?_
    exact am_iretb T dX12_isAt_42 rfl (Nat.le_refl _) (Nat.le_refl _) (by rw [rf_isAt, rf_at_ge q8]; rfl) rfl rfl
  · skip
    refine am_aload_n (pc := 11) C dX12_isAt_11 rfl ?_
    refine am_getR (pc := 12) (j := 328) C dX12_isAt_12 f12_29 bn_322 sh_322 (rf_322_8 hR) ?_
    refine am_aload_n (pc := 15) C dX12_isAt_15 rfl ?_
    refine am_getI (pc := 16) C dX12_isAt_16 f12_99 bn_322 sh_322 ?_
    refine am_top (show ((h 322) 10) = (nI (rf_p (h 322))) from hT.1.1) ?_
    refine am_baload (pc := 19) C dX12_isAt_19 bn_328 sh_328 (vp_in_nI (by omega) (by decide)) ?_
    refine am_top (show (h 328) (nI (rf_p (h 322))).toNatClampNeg = (h 328) (rf_p (h 322)) from by rw [nI_clamp (by omega)]) ?_
    refine am_iload_n (pc := 20) C dX12_isAt_20 rfl ?_
    refine am_icmp_lt (pc := 21) (tgt := 41) C dX12_isAt_21 (by decide) (fun q21 => ?_) (fun q21 => ?_)
    · skip
      refine am_iconstN (pc := 41) (k := 0) C dX12_isAt_41 ?_
      exact am_iretb T dX12_isAt_42 rfl (Nat.le_refl _) (Nat.le_refl _) (by simp only [rf_isAt, rf_at, decide_eq_true q8, decide_eq_false (Int32.not_le.mpr q21)]; rfl) rfl rfl
    · skip
      refine am_aload_n (pc := 24) C dX12_isAt_24 rfl ?_
      refine am_getR (pc := 25) (j := 328) C dX12_isAt_25 f12_29 bn_322 sh_322 (rf_322_8 hR) ?_
      refine am_aload_n (pc := 28) C dX12_isAt_28 rfl ?_
      refine am_getI (pc := 29) C dX12_isAt_29 f12_99 bn_322 sh_322 ?_
      refine am_top (show ((h 322) 10) = (nI (rf_p (h 322))) from hT.1.1) ?_
      refine am_baload (pc := 32) C dX12_isAt_32 bn_328 sh_328 (vp_in_nI (by omega) (by decide)) ?_
      refine am_top (show (h 328) (nI (rf_p (h 322))).toNatClampNeg = (h 328) (rf_p (h 322)) from by rw [nI_clamp (by omega)]) ?_
      refine am_iload_n (pc := 33) C dX12_isAt_33 rfl ?_
      refine am_icmp_gt (pc := 34) (tgt := 41) C dX12_isAt_34 (by decide) (fun q34 => ?_) (fun q34 => ?_)
      · skip
        refine am_iconstN (pc := 41) (k := 0) C dX12_isAt_41 ?_
        exact am_iretb T dX12_isAt_42 rfl (Nat.le_refl _) (Nat.le_refl _) (by simp only [rf_isAt, rf_at, decide_eq_true q8, decide_eq_true (Int32.not_lt.mp q21), decide_eq_false (Int32.not_le.mpr q34)]; rfl) rfl rfl
      · skip
        refine am_iconstN (pc := 37) (k := 1) C dX12_isAt_37 ?_
        refine am_goto (pc := 38) (tgt := 42) C dX12_isAt_38 (by decide) ?_
        exact am_iretb T dX12_isAt_42 rfl (Nat.le_refl _) (Nat.le_refl _) (by simp only [rf_isAt, rf_at, decide_eq_true q8, decide_eq_true (Int32.not_lt.mp q21), decide_eq_true (Int32.not_lt.mp q34)]; rfl) rfl rfl

set_option maxHeartbeats 400000 in
set_option maxRecDepth 100000 in
theorem c_X12_blanks {ad : Nat → Nat} {r : am_R} (hR : am_rs r) {h : am_H}  (hT : rf_To (h 322))  : am_CM mX12_blanks 1 0 0 [.ref 322] (am_VV ad) r h (am_po none r (am_row h 322 (rf_oBl (h 328) (h 322)))) := by
  refine am_CM.of (by decide +kernel) (Nat.le_of_ble_eq_true rfl) (fun X C T => ?_)
  show am_G X (am_VV ad) (0, 0) 0 [(0, .ref 322)] [] r h
  have hp4 : rf_p (h 322) ≤ rf_e (h 322) := hT.2.2.1
  have he4 : rf_e (h 322) < 401 := hT.2.1.2
  have hb4 : rf_b (h 322) < 401 := hT.2.2.2.2
  obtain ⟨hs1, hs2⟩ := rf_sb_le (t := h 328) hp4
  have L0 : ∀ (j0 : Nat) (p : Nat), (hpj : p + j0 = rf_e (h 322)) → (hpp : rf_p (h 322) ≤ p) → (hrun : rf_run (h 328) (rf_e (h 322)) 32 32 p = (rf_sb (h 328) (rf_e (h 322)) (rf_p (h 322)))) → am_G X (am_VV ad) (0, 0) 0 [(0, .ref 322)] [] r (am_row h 322 (rf_pb (h 322) p (rf_b (h 322)))) := by
    intro j0
    induction j0 with
    | zero =>
      intro p hpj hpp hrun
      refine am_aload_n (pc := 0) C dX12_blanks_0 rfl ?_
      refine am_bipush (pc := 1) (v := nI 32) C dX12_blanks_1 (by decide) ?_
      refine am_bipush (pc := 3) (v := nI 32) C dX12_blanks_3 (by decide) ?_
      refine am_callVi (Y := mX12_isAt) (pc := 5) (st := []) (As := [.int (nI 32), .int (nI 32)]) (x := (am_b (rf_isAt (h 328) (rf_pb (h 322) p (rf_b (h 322))) 32 32))) (h2 := (am_row h 322 (rf_pb (h 322) p (rf_b (h 322))))) C dX12_blanks_5 k12_105 v_X12_isAt rfl rfl bn_322 sh_322 ⟨by decide, rfl⟩ (by decide) (Nat.zero_le _) (Nat.zero_le _) (Nat.le_of_ble_eq_true rfl) (c_X12_isAt hR 32 32 (show rf_To (rf_pb (h 322) p (rf_b (h 322))) from (rf_To_pb hT (by omega) (by omega)))) ?_
      refine am_top (show (am_b (rf_isAt (h 328) (rf_pb (h 322) p (rf_b (h 322))) 32 32)) = (am_b (rf_at (h 328) (rf_e (h 322)) p 32 32)) from by rw [rf_isAt, rf_e_pb, rf_p_pb (by omega)]) ?_
      refine am_if_eqB (pc := 8) (tgt := 24) C dX12_blanks_8 (by decide) (fun q8 => ?_) (fun q8 => ?_)
      · skip
        refine am_aload_n (pc := 24) C dX12_blanks_24 rfl ?_
        refine am_aload_n (pc := 25) C dX12_blanks_25 rfl ?_
        refine am_getI (pc := 26) C dX12_blanks_26 f12_99 bn_322 sh_322 ?_
        refine am_top (show ((rf_pb (h 322) p (rf_b (h 322))) 10) = (nI p) from rf_pb_10) ?_
        refine am_putI (pc := 29) C dX12_blanks_29 f12_108 bn_322 sh_322 rfl rfl ?_
        refine am_hp (show am_up (am_row h 322 (rf_pb (h 322) p (rf_b (h 322)))) 322 12 (nI p) = am_row (am_row h 322 (rf_pb (h 322) p (rf_b (h 322)))) 322 (upd (rf_pb (h 322) p (rf_b (h 322))) 12 (nI p)) from am_up_rw _ _ _ _) ?_
        refine am_hp (show am_row (am_row h 322 (rf_pb (h 322) p (rf_b (h 322)))) 322 (upd (rf_pb (h 322) p (rf_b (h 322))) 12 (nI p)) = (am_row h 322 (upd (rf_pb (h 322) p (rf_b (h 322))) 12 (nI p))) from am_row_s0) ?_
        refine am_hp (show (am_row h 322 (upd (rf_pb (h 322) p (rf_b (h 322))) 12 (nI p))) = (am_row h 322 (rf_pb (h 322) p p)) from by rw [rf_pb_b]) ?_
        exact am_vretv T dX12_blanks_32 rfl (Nat.le_refl _) (Nat.le_refl _) rfl (by rw [show rf_oBl (h 328) (h 322) = rf_pb (h 322) (rf_sb (h 328) (rf_e (h 322)) (rf_p (h 322))) (rf_sb (h 328) (rf_e (h 322)) (rf_p (h 322))) from rfl, ← hrun, rf_run_f q8])
      · skip
        exact absurd (rf_at_lt q8) (by omega)
    | succ j0 ih0 =>
      intro p hpj hpp hrun
      refine am_aload_n (pc := 0) C dX12_blanks_0 rfl ?_
      refine am_bipush (pc := 1) (v := nI 32) C dX12_blanks_1 (by decide) ?_
      refine am_bipush (pc := 3) (v := nI 32) C dX12_blanks_3 (by decide) ?_
      refine am_callVi (Y := mX12_isAt) (pc := 5) (st := []) (As := [.int (nI 32), .int (nI 32)]) (x := (am_b (rf_isAt (h 328) (rf_pb (h 322) p (rf_b (h 322))) 32 32))) (h2 := (am_row h 322 (rf_pb (h 322) p (rf_b (h 322))))) C dX12_blanks_5 k12_105 v_X12_isAt rfl rfl bn_322 sh_322 ⟨by decide, rfl⟩ (by decide) (Nat.zero_le _) (Nat.zero_le _) (Nat.le_of_ble_eq_true rfl) (c_X12_isAt hR 32 32 (show rf_To (rf_pb (h 322) p (rf_b (h 322))) from (rf_To_pb hT (by omega) (by omega)))) ?_
      refine am_top (show (am_b (rf_isAt (h 328) (rf_pb (h 322) p (rf_b (h 322))) 32 32)) = (am_b (rf_at (h 328) (rf_e (h 322)) p 32 32)) from by rw [rf_isAt, rf_e_pb, rf_p_pb (by omega)]) ?_
      refine am_if_eqB (pc := 8) (tgt := 24) C dX12_blanks_8 (by decide) (fun q8 => ?_) (fun q8 => ?_)
      · skip
        refine am_aload_n (pc := 24) C dX12_blanks_24 rfl ?_
        refine am_aload_n (pc := 25) C dX12_blanks_25 rfl ?_
        refine am_getI (pc := 26) C dX12_blanks_26 f12_99 bn_322 sh_322 ?_
        refine am_top (show ((rf_pb (h 322) p (rf_b (h 322))) 10) = (nI p) from rf_pb_10) ?_
        refine am_putI (pc := 29) C dX12_blanks_29 f12_108 bn_322 sh_322 rfl rfl ?_
        refine am_hp (show am_up (am_row h 322 (rf_pb (h 322) p (rf_b (h 322)))) 322 12 (nI p) = am_row (am_row h 322 (rf_pb (h 322) p (rf_b (h 322)))) 322 (upd (rf_pb (h 322) p (rf_b (h 322))) 12 (nI p)) from am_up_rw _ _ _ _) ?_
        refine am_hp (show am_row (am_row h 322 (rf_pb (h 322) p (rf_b (h 322)))) 322 (upd (rf_pb (h 322) p (rf_b (h 322))) 12 (nI p)) = (am_row h 322 (upd (rf_pb (h 322) p (rf_b (h 322))) 12 (nI p))) from am_row_s0) ?_
        refine am_hp (show (am_row h 322 (upd (rf_pb (h 322) p (rf_b (h 322))) 12 (nI p))) = (am_row h 322 (rf_pb (h 322) p p)) from by rw [rf_pb_b]) ?_
        exact am_vretv T dX12_blanks_32 rfl (Nat.le_refl _) (Nat.le_refl _) rfl (by rw [show rf_oBl (h 328) (h 322) = rf_pb (h 322) (rf_sb (h 328) (rf_e (h 322)) (rf_p (h 322))) (rf_sb (h 328) (rf_e (h 322)) (rf_p (h 322))) from rfl, ← hrun, rf_run_f q8])
      · skip
        refine am_aload_n (pc := 11) C dX12_blanks_11 rfl ?_
        refine am_dup (pc := 12) C dX12_blanks_12 rfl ?_
        refine am_getI (pc := 13) C dX12_blanks_13 f12_99 bn_322 sh_322 ?_
        refine am_top (show ((rf_pb (h 322) p (rf_b (h 322))) 10) = (nI p) from rf_pb_10) ?_
        refine am_iconstN (pc := 16) (k := 1) C dX12_blanks_16 ?_
        refine am_iaddN (pc := 17) C dX12_blanks_17 ?_
        refine am_putI (pc := 18) C dX12_blanks_18 f12_99 bn_322 sh_322 rfl rfl ?_
        refine am_hp (show am_up (am_row h 322 (rf_pb (h 322) p (rf_b (h 322)))) 322 10 (nI (p + 1)) = am_row (am_row h 322 (rf_pb (h 322) p (rf_b (h 322)))) 322 (upd (rf_pb (h 322) p (rf_b (h 322))) 10 (nI (p + 1))) from am_up_rw _ _ _ _) ?_
        refine am_hp (show am_row (am_row h 322 (rf_pb (h 322) p (rf_b (h 322)))) 322 (upd (rf_pb (h 322) p (rf_b (h 322))) 10 (nI (p + 1))) = (am_row h 322 (upd (rf_pb (h 322) p (rf_b (h 322))) 10 (nI (p + 1)))) from am_row_s0) ?_
        refine am_hp (show (am_row h 322 (upd (rf_pb (h 322) p (rf_b (h 322))) 10 (nI (p + 1)))) = (am_row h 322 (rf_pb (h 322) (p + 1) (rf_b (h 322)))) from by rw [rf_pb_p]) ?_
        refine am_goto (pc := 21) (tgt := 0) C dX12_blanks_21 (by decide) ?_
        exact ih0 (p + 1) (by omega) (by omega) (by rw [← rf_run_t q8]; exact hrun)
  refine am_hp (show h = (am_row h 322 (rf_pb (h 322) (rf_p (h 322)) (rf_b (h 322)))) from (by rw [show rf_pb (h 322) (rf_p (h 322)) (rf_b (h 322)) = h 322 from rf_pb_id hT.1.1 hT.2.2.2.1]; exact (am_row_id _ _).symm)) ?_
  exact L0 (rf_e (h 322) - rf_p (h 322)) (rf_p (h 322)) (by omega) (by omega) rfl

set_option maxHeartbeats 400000 in
set_option maxRecDepth 100000 in
theorem c_X12_letters {ad : Nat → Nat} {r : am_R} (hR : am_rs r) {h : am_H}  (hT : rf_To (h 322))  : am_CM mX12_letters 2 0 0 [.ref 322] (am_VV ad) r h (am_po none r (am_row h 322 (rf_oLe (h 328) (h 322)))) := by
  refine am_CM.of (by decide +kernel) (Nat.le_of_ble_eq_true rfl) (fun X C T => ?_)
  show am_G X (am_VV ad) (0, 0) 0 [(0, .ref 322)] [] r h
  have hp4 : rf_p (h 322) ≤ rf_e (h 322) := hT.2.2.1
  have he4 : rf_e (h 322) < 401 := hT.2.1.2
  have hb4 : rf_b (h 322) < 401 := hT.2.2.2.2
  obtain ⟨hs1, hs2⟩ := rf_sb_le (t := h 328) hp4
  obtain ⟨hs3, hs4⟩ := rf_sl_le (t := h 328) hp4
  refine am_aload_n (pc := 0) C dX12_letters_0 rfl ?_
  refine am_callVv (Y := mX12_blanks) (pc := 1) (st := []) (As := []) (h2 := (am_row h 322 (rf_oBl (h 328) (h 322)))) C dX12_letters_1 k12_111 v_X12_blanks rfl rfl bn_322 sh_322 ⟨by decide, rfl⟩ (by decide) (Nat.zero_le _) (Nat.zero_le _) (Nat.le_of_ble_eq_true rfl) (c_X12_blanks hR hT) ?_
  refine am_hp (show (am_row h 322 (rf_oBl (h 328) (h 322))) = (am_row h 322 (rf_pb (h 322) (rf_sb (h 328) (rf_e (h 322)) (rf_p (h 322))) (rf_sb (h 328) (rf_e (h 322)) (rf_p (h 322))))) from rfl) ?_
  have L4 : ∀ (j4 : Nat) (p : Nat), (hpj : p + j4 = rf_e (h 322)) → (hpp : (rf_sb (h 328) (rf_e (h 322)) (rf_p (h 322))) ≤ p) → (hrun : rf_run (h 328) (rf_e (h 322)) 97 122 p = (rf_sl (h 328) (rf_e (h 322)) (rf_p (h 322)))) → am_G X (am_VV ad) (0, 0) 4 [(0, .ref 322)] [] r (am_row h 322 (rf_pb (h 322) p (rf_sb (h 328) (rf_e (h 322)) (rf_p (h 322))))) := by
    intro j4
    induction j4 with
    | zero =>
      intro p hpj hpp hrun
      refine am_aload_n (pc := 4) C dX12_letters_4 rfl ?_
      refine am_bipush (pc := 5) (v := nI 97) C dX12_letters_5 (by decide) ?_
      refine am_bipush (pc := 7) (v := nI 122) C dX12_letters_7 (by decide) ?_
      refine am_callVi (Y := mX12_isAt) (pc := 9) (st := []) (As := [.int (nI 97), .int (nI 122)]) (x := (am_b (rf_isAt (h 328) (rf_pb (h 322) p (rf_sb (h 328) (rf_e (h 322)) (rf_p (h 322)))) 97 122))) (h2 := (am_row h 322 (rf_pb (h 322) p (rf_sb (h 328) (rf_e (h 322)) (rf_p (h 322)))))) C dX12_letters_9 k12_105 v_X12_isAt rfl rfl bn_322 sh_322 ⟨by decide, rfl⟩ (by decide) (Nat.zero_le _) (Nat.zero_le _) (Nat.le_of_ble_eq_true rfl) (c_X12_isAt hR 97 122 (show rf_To (rf_pb (h 322) p (rf_sb (h 328) (rf_e (h 322)) (rf_p (h 322)))) from (rf_To_pb hT (by omega) (by omega)))) ?_
      refine am_top (show (am_b (rf_isAt (h 328) (rf_pb (h 322) p (rf_sb (h 328) (rf_e (h 322)) (rf_p (h 322)))) 97 122)) = (am_b (rf_at (h 328) (rf_e (h 322)) p 97 122)) from by rw [rf_isAt, rf_e_pb, rf_p_pb (by omega)]) ?_
      refine am_if_eqB (pc := 12) (tgt := 28) C dX12_letters_12 (by decide) (fun q12 => ?_) (fun q12 => ?_)
      · skip
        exact am_vretv T dX12_letters_28 rfl (Nat.le_refl _) (Nat.le_refl _) rfl (by rw [show rf_oLe (h 328) (h 322) = rf_pb (h 322) (rf_sl (h 328) (rf_e (h 322)) (rf_p (h 322))) (rf_sb (h 328) (rf_e (h 322)) (rf_p (h 322))) from rfl, ← hrun, rf_run_f q12])
      · skip
        exact absurd (rf_at_lt q12) (by omega)
    | succ j4 ih4 =>
      intro p hpj hpp hrun
      refine am_aload_n (pc := 4) C dX12_letters_4 rfl ?_
      refine am_bipush (pc := 5) (v := nI 97) C dX12_letters_5 (by decide) ?_
      refine am_bipush (pc := 7) (v := nI 122) C dX12_letters_7 (by decide) ?_
      refine am_callVi (Y := mX12_isAt) (pc := 9) (st := []) (As := [.int (nI 97), .int (nI 122)]) (x := (am_b (rf_isAt (h 328) (rf_pb (h 322) p (rf_sb (h 328) (rf_e (h 322)) (rf_p (h 322)))) 97 122))) (h2 := (am_row h 322 (rf_pb (h 322) p (rf_sb (h 328) (rf_e (h 322)) (rf_p (h 322)))))) C dX12_letters_9 k12_105 v_X12_isAt rfl rfl bn_322 sh_322 ⟨by decide, rfl⟩ (by decide) (Nat.zero_le _) (Nat.zero_le _) (Nat.le_of_ble_eq_true rfl) (c_X12_isAt hR 97 122 (show rf_To (rf_pb (h 322) p (rf_sb (h 328) (rf_e (h 322)) (rf_p (h 322)))) from (rf_To_pb hT (by omega) (by omega)))) ?_
      refine am_top (show (am_b (rf_isAt (h 328) (rf_pb (h 322) p (rf_sb (h 328) (rf_e (h 322)) (rf_p (h 322)))) 97 122)) = (am_b (rf_at (h 328) (rf_e (h 322)) p 97 122)) from by rw [rf_isAt, rf_e_pb, rf_p_pb (by omega)]) ?_
      refine am_if_eqB (pc := 12) (tgt := 28) C dX12_letters_12 (by decide) (fun q12 => ?_) (fun q12 => ?_)
      · skip
        exact am_vretv T dX12_letters_28 rfl (Nat.le_refl _) (Nat.le_refl _) rfl (by rw [show rf_oLe (h 328) (h 322) = rf_pb (h 322) (rf_sl (h 328) (rf_e (h 322)) (rf_p (h 322))) (rf_sb (h 328) (rf_e (h 322)) (rf_p (h 322))) from rfl, ← hrun, rf_run_f q12])
      · skip
        refine am_aload_n (pc := 15) C dX12_letters_15 rfl ?_
        refine am_dup (pc := 16) C dX12_letters_16 rfl ?_
        refine am_getI (pc := 17) C dX12_letters_17 f12_99 bn_322 sh_322 ?_
        refine am_top (show ((rf_pb (h 322) p (rf_sb (h 328) (rf_e (h 322)) (rf_p (h 322)))) 10) = (nI p) from rf_pb_10) ?_
        refine am_iconstN (pc := 20) (k := 1) C dX12_letters_20 ?_
        refine am_iaddN (pc := 21) C dX12_letters_21 ?_
        refine am_putI (pc := 22) C dX12_letters_22 f12_99 bn_322 sh_322 rfl rfl ?_
        refine am_hp (show am_up (am_row h 322 (rf_pb (h 322) p (rf_sb (h 328) (rf_e (h 322)) (rf_p (h 322))))) 322 10 (nI (p + 1)) = am_row (am_row h 322 (rf_pb (h 322) p (rf_sb (h 328) (rf_e (h 322)) (rf_p (h 322))))) 322 (upd (rf_pb (h 322) p (rf_sb (h 328) (rf_e (h 322)) (rf_p (h 322)))) 10 (nI (p + 1))) from am_up_rw _ _ _ _) ?_
        refine am_hp (show am_row (am_row h 322 (rf_pb (h 322) p (rf_sb (h 328) (rf_e (h 322)) (rf_p (h 322))))) 322 (upd (rf_pb (h 322) p (rf_sb (h 328) (rf_e (h 322)) (rf_p (h 322)))) 10 (nI (p + 1))) = (am_row h 322 (upd (rf_pb (h 322) p (rf_sb (h 328) (rf_e (h 322)) (rf_p (h 322)))) 10 (nI (p + 1)))) from am_row_s0) ?_
        refine am_hp (show (am_row h 322 (upd (rf_pb (h 322) p (rf_sb (h 328) (rf_e (h 322)) (rf_p (h 322)))) 10 (nI (p + 1)))) = (am_row h 322 (rf_pb (h 322) (p + 1) (rf_sb (h 328) (rf_e (h 322)) (rf_p (h 322))))) from by rw [rf_pb_p]) ?_
        refine am_goto (pc := 25) (tgt := 4) C dX12_letters_25 (by decide) ?_
        exact ih4 (p + 1) (by omega) (by omega) (by rw [← rf_run_t q12]; exact hrun)
  exact L4 (rf_e (h 322) - (rf_sb (h 328) (rf_e (h 322)) (rf_p (h 322)))) (rf_sb (h 328) (rf_e (h 322)) (rf_p (h 322))) (by omega) (by omega) rfl

set_option maxHeartbeats 400000 in
set_option maxRecDepth 100000 in
theorem c_X12_isWord {ad : Nat → Nat} {r : am_R} (hR : am_rs r) {h : am_H} (k : Nat) (hT : rf_To (h 322)) (hbp : rf_b (h 322) ≤ rf_p (h 322)) (hk : k < am_TX.length)  : am_CM mX12_isWord 7 0 0 [.ref 322, .ref (am_SB + k)] (am_VV ad) r h (am_po (some (.int (am_b (rf_isW (h 328) (h 322) k)))) r h) := by
  refine am_CM.of (by decide +kernel) (Nat.le_of_ble_eq_true rfl) (fun X C T => ?_)
  show am_G X (am_VV ad) (0, 0) 0 [(0, .ref 322), (1, .ref (am_SB + k))] [] r h
  have hp4 : rf_p (h 322) ≤ rf_e (h 322) := hT.2.2.1
  have he4 : rf_e (h 322) < 401 := hT.2.1.2
  have hb4 : rf_b (h 322) < 401 := hT.2.2.2.2
  obtain ⟨hs1, hs2⟩ := rf_sb_le (t := h 328) hp4
  have hl9 := am_len_lt hk
  refine am_aload_n (pc := 0) C dX12_isWord_0 rfl ?_
  refine am_getI (pc := 1) C dX12_isWord_1 f12_99 bn_322 sh_322 ?_
  refine am_top (show ((h 322) 10) = (nI (rf_p (h 322))) from hT.1.1) ?_
  refine am_aload_n (pc := 4) C dX12_isWord_4 rfl ?_
  refine am_getI (pc := 5) C dX12_isWord_5 f12_108 bn_322 sh_322 ?_
  refine am_top (show ((h 322) 12) = (nI (rf_b (h 322))) from hT.2.2.2.1) ?_
  refine am_isubN (pc := 8) C dX12_isWord_8 (by omega) ?_
  refine am_aload_n (pc := 9) C dX12_isWord_9 rfl ?_
  refine am_callVsi (Y := mJ0_length_8abf5) (pc := 10) (st := [.int (nI ((rf_p (h 322)) - (rf_b (h 322))))]) (As := []) (x := (nI (am_len k))) hk C dX12_isWord_10 k12_114 v_J0_length_8abf5 rfl rfl rfl (by decide) (Nat.zero_le _) (Nat.zero_le _) (Nat.le_of_ble_eq_true rfl) (c_J0_length hk) ?_
  refine am_icmp_neN (pc := 13) (tgt := 20) C dX12_isWord_13 (by decide) (by omega) (by omega) (fun q13 => ?_) (fun q13 => ?_)
  · skip
    refine am_iconstN (pc := 20) (k := 0) C dX12_isWord_20 ?_
    refine am_istore_n (pc := 21) (ls' := [(0, .ref 322), (1, .ref (am_SB + k)), (2, .int (nI 0))]) C dX12_isWord_21 (by decide) rfl ?_
    refine am_iconstN (pc := 22) (k := 0) C dX12_isWord_22 ?_
    refine am_istore_n (pc := 23) (ls' := [(0, .ref 322), (1, .ref (am_SB + k)), (2, .int (nI 0)), (3, .int (nI 0))]) C dX12_isWord_23 (by decide) rfl ?_
    have L24 : ∀ (j24 i24 : Nat), i24 + j24 = am_len k → am_G X (am_VV ad) (0, 0) 24 [(0, .ref 322), (1, .ref (am_SB + k)), (2, .int (am_b (decide (rf_p (h 322) - rf_b (h 322) = am_len k) && rf_wn (h 328) (rf_b (h 322)) k i24))), (3, .int (nI i24))] [] r h := by
      intro j24
      induction j24 with
      | zero =>
        intro i24 hi24 
        obtain rfl : i24 = am_len k := by omega
        refine am_iload_n (pc := 24) C dX12_isWord_24 rfl ?_
        refine am_if_eqB (pc := 25) (tgt := 67) C dX12_isWord_25 (by decide) (fun q25 => ?_) (fun q25 => ?_)
        · skip
          refine am_iload_n (pc := 67) C dX12_isWord_67 rfl ?_
          exact am_iretb T dX12_isWord_68 rfl (Nat.le_refl _) (Nat.le_refl _) (by first | (rw [q25, rf_isW, rf_word_f (by omega) q25]) | rfl) rfl rfl
        · skip
          have hpb : rf_p (h 322) - rf_b (h 322) = am_len k := of_decide_eq_true ((Bool.and_eq_true _ _).mp q25).1
          refine am_iload_n (pc := 28) C dX12_isWord_28 rfl ?_
          refine am_aload_n (pc := 29) C dX12_isWord_29 rfl ?_
          refine am_callVsi (Y := mJ0_length_8abf5) (pc := 30) (st := [.int (nI (am_len k))]) (As := []) (x := (nI (am_len k))) hk C dX12_isWord_30 k12_114 v_J0_length_8abf5 rfl rfl rfl (by decide) (Nat.zero_le _) (Nat.zero_le _) (Nat.le_of_ble_eq_true rfl) (c_J0_length hk) ?_
          refine am_icmp_geN (pc := 33) (tgt := 67) C dX12_isWord_33 (by decide) (by omega) (by omega) (fun q33 => ?_) (fun q33 => ?_)
          · skip
            refine am_iload_n (pc := 67) C dX12_isWord_67 rfl ?_
            exact am_iretb T dX12_isWord_68 rfl (Nat.le_refl _) (Nat.le_refl _) (by first | (rw [q25, rf_isW, rf_word_f (by omega) q25]) | rfl) rfl rfl
          · skip
            exact absurd q33 (by omega)
      | succ j24 ih24 =>
        intro i24 hi24 
        have hl24 : i24 < am_len k := by omega
        refine am_iload_n (pc := 24) C dX12_isWord_24 rfl ?_
        refine am_if_eqB (pc := 25) (tgt := 67) C dX12_isWord_25 (by decide) (fun q25 => ?_) (fun q25 => ?_)
        · skip
          refine am_iload_n (pc := 67) C dX12_isWord_67 rfl ?_
          exact am_iretb T dX12_isWord_68 rfl (Nat.le_refl _) (Nat.le_refl _) (by first | (rw [q25, rf_isW, rf_word_f (by omega) q25]) | rfl) rfl rfl
        · skip
          have hpb : rf_p (h 322) - rf_b (h 322) = am_len k := of_decide_eq_true ((Bool.and_eq_true _ _).mp q25).1
          refine am_iload_n (pc := 28) C dX12_isWord_28 rfl ?_
          refine am_aload_n (pc := 29) C dX12_isWord_29 rfl ?_
          refine am_callVsi (Y := mJ0_length_8abf5) (pc := 30) (st := [.int (nI i24)]) (As := []) (x := (nI (am_len k))) hk C dX12_isWord_30 k12_114 v_J0_length_8abf5 rfl rfl rfl (by decide) (Nat.zero_le _) (Nat.zero_le _) (Nat.le_of_ble_eq_true rfl) (c_J0_length hk) ?_
          refine am_icmp_geN (pc := 33) (tgt := 67) C dX12_isWord_33 (by decide) (by omega) (by omega) (fun q33 => ?_) (fun q33 => ?_)
          · skip
            exact absurd q33 (by omega)
          · skip
            refine am_aload_n (pc := 36) C dX12_isWord_36 rfl ?_
            refine am_getR (pc := 37) (j := 328) C dX12_isWord_37 f12_29 bn_322 sh_322 (rf_322_8 hR) ?_
            refine am_aload_n (pc := 40) C dX12_isWord_40 rfl ?_
            refine am_getI (pc := 41) C dX12_isWord_41 f12_108 bn_322 sh_322 ?_
            refine am_top (show ((h 322) 12) = (nI (rf_b (h 322))) from hT.2.2.2.1) ?_
            refine am_iload_n (pc := 44) C dX12_isWord_44 rfl ?_
            refine am_iaddN (pc := 45) C dX12_isWord_45 ?_
            refine am_baload (pc := 46) C dX12_isWord_46 bn_328 sh_328 (vp_in_nI (by omega) (by decide)) ?_
            refine am_top (show (h 328) (nI ((rf_b (h 322)) + i24)).toNatClampNeg = (h 328) ((rf_b (h 322)) + i24) from by rw [nI_clamp (by omega)]) ?_
            refine am_aload_n (pc := 47) C dX12_isWord_47 rfl ?_
            refine am_iload_n (pc := 48) C dX12_isWord_48 rfl ?_
            refine am_callVsi (Y := mJ0_charAt_5068e) (pc := 49) (st := [.int ((h 328) ((rf_b (h 322)) + i24))]) (As := [.int (nI i24)]) (x := (am_chr k i24)) hk C dX12_isWord_49 k12_119 v_J0_charAt_5068e rfl rfl rfl (by decide) (Nat.zero_le _) (Nat.zero_le _) (Nat.le_of_ble_eq_true rfl) (c_J0_charAt hk (by omega)) ?_
            refine am_icmp_ne (pc := 52) (tgt := 59) C dX12_isWord_52 (by decide) (fun q52 => ?_) (fun q52 => ?_)
            · skip
              refine am_iconstN (pc := 59) (k := 0) C dX12_isWord_59 ?_
              refine am_istore_n (pc := 60) (ls' := [(0, .ref 322), (1, .ref (am_SB + k)), (2, .int (nI 0)), (3, .int (nI i24))]) C dX12_isWord_60 (by decide) rfl ?_
              refine am_iincN (pc := 61) (ls' := [(0, .ref 322), (1, .ref (am_SB + k)), (2, .int (nI 0)), (3, .int (nI (i24 + 1)))]) C dX12_isWord_61 rfl (am_up1 _) (by decide) rfl ?_
              refine am_goto (pc := 64) (tgt := 24) C dX12_isWord_64 (by decide) ?_
              refine am_lsv (ls' := [(0, .ref 322), (1, .ref (am_SB + k)), (2, .int (am_b (decide (rf_p (h 322) - rf_b (h 322) = am_len k) && rf_wn (h 328) (rf_b (h 322)) k (i24 + 1)))), (3, .int (nI (i24 + 1)))]) (by rw [show (nI 0) = (am_b (decide (rf_p (h 322) - rf_b (h 322) = am_len k) && rf_wn (h 328) (rf_b (h 322)) k (i24 + 1))) from (by rw [rf_wn_s q25 (decide_eq_false q52)]; rfl)]) ?_
              exact ih24 (i24 + 1) (by omega) 
            · skip
              refine am_iconstN (pc := 55) (k := 1) C dX12_isWord_55 ?_
              refine am_goto (pc := 56) (tgt := 60) C dX12_isWord_56 (by decide) ?_
              refine am_istore_n (pc := 60) (ls' := [(0, .ref 322), (1, .ref (am_SB + k)), (2, .int (nI 1)), (3, .int (nI i24))]) C dX12_isWord_60 (by decide) rfl ?_
              refine am_iincN (pc := 61) (ls' := [(0, .ref 322), (1, .ref (am_SB + k)), (2, .int (nI 1)), (3, .int (nI (i24 + 1)))]) C dX12_isWord_61 rfl (am_up1 _) (by decide) rfl ?_
              refine am_goto (pc := 64) (tgt := 24) C dX12_isWord_64 (by decide) ?_
              refine am_lsv (ls' := [(0, .ref 322), (1, .ref (am_SB + k)), (2, .int (am_b (decide (rf_p (h 322) - rf_b (h 322) = am_len k) && rf_wn (h 328) (rf_b (h 322)) k (i24 + 1)))), (3, .int (nI (i24 + 1)))]) (by rw [show (nI 1) = (am_b (decide (rf_p (h 322) - rf_b (h 322) = am_len k) && rf_wn (h 328) (rf_b (h 322)) k (i24 + 1))) from (by rw [rf_wn_s q25 (decide_eq_true q52)]; rfl)]) ?_
              exact ih24 (i24 + 1) (by omega) 
    refine am_lsv (ls' := [(0, .ref 322), (1, .ref (am_SB + k)), (2, .int (am_b (decide (rf_p (h 322) - rf_b (h 322) = am_len k) && rf_wn (h 328) (rf_b (h 322)) k 0))), (3, .int (nI 0))]) (by rw [show (nI 0) = (am_b (decide (rf_p (h 322) - rf_b (h 322) = am_len k) && rf_wn (h 328) (rf_b (h 322)) k 0)) from (by first | (rw [decide_eq_true q13]; rfl) | (rw [decide_eq_false q13]; rfl))]) ?_
    exact L24 (am_len k) 0 (by omega) 
  · skip
    refine am_iconstN (pc := 16) (k := 1) C dX12_isWord_16 ?_
    refine am_goto (pc := 17) (tgt := 21) C dX12_isWord_17 (by decide) ?_
    refine am_istore_n (pc := 21) (ls' := [(0, .ref 322), (1, .ref (am_SB + k)), (2, .int (nI 1))]) C dX12_isWord_21 (by decide) rfl ?_
    refine am_iconstN (pc := 22) (k := 0) C dX12_isWord_22 ?_
    refine am_istore_n (pc := 23) (ls' := [(0, .ref 322), (1, .ref (am_SB + k)), (2, .int (nI 1)), (3, .int (nI 0))]) C dX12_isWord_23 (by decide) rfl ?_
    have L24 : ∀ (j24 i24 : Nat), i24 + j24 = am_len k → am_G X (am_VV ad) (0, 0) 24 [(0, .ref 322), (1, .ref (am_SB + k)), (2, .int (am_b (decide (rf_p (h 322) - rf_b (h 322) = am_len k) && rf_wn (h 328) (rf_b (h 322)) k i24))), (3, .int (nI i24))] [] r h := by
      intro j24
      induction j24 with
      | zero =>
        intro i24 hi24 
        obtain rfl : i24 = am_len k := by omega
        refine am_iload_n (pc := 24) C dX12_isWord_24 rfl ?_
        refine am_if_eqB (pc := 25) (tgt := 67) C dX12_isWord_25 (by decide) (fun q25 => ?_) (fun q25 => ?_)
        · skip
          refine am_iload_n (pc := 67) C dX12_isWord_67 rfl ?_
          exact am_iretb T dX12_isWord_68 rfl (Nat.le_refl _) (Nat.le_refl _) (by first | (rw [q25, rf_isW, rf_word_f (by omega) q25]) | rfl) rfl rfl
        · skip
          have hpb : rf_p (h 322) - rf_b (h 322) = am_len k := of_decide_eq_true ((Bool.and_eq_true _ _).mp q25).1
          refine am_iload_n (pc := 28) C dX12_isWord_28 rfl ?_
          refine am_aload_n (pc := 29) C dX12_isWord_29 rfl ?_
          refine am_callVsi (Y := mJ0_length_8abf5) (pc := 30) (st := [.int (nI (am_len k))]) (As := []) (x := (nI (am_len k))) hk C dX12_isWord_30 k12_114 v_J0_length_8abf5 rfl rfl rfl (by decide) (Nat.zero_le _) (Nat.zero_le _) (Nat.le_of_ble_eq_true rfl) (c_J0_length hk) ?_
          refine am_icmp_geN (pc := 33) (tgt := 67) C dX12_isWord_33 (by decide) (by omega) (by omega) (fun q33 => ?_) (fun q33 => ?_)
          · skip
            refine am_iload_n (pc := 67) C dX12_isWord_67 rfl ?_
            exact am_iretb T dX12_isWord_68 rfl (Nat.le_refl _) (Nat.le_refl _) (by first | (rw [q25, rf_isW, rf_word_f (by omega) q25]) | rfl) rfl rfl
          · skip
            exact absurd q33 (by omega)
      | succ j24 ih24 =>
        intro i24 hi24 
        have hl24 : i24 < am_len k := by omega
        refine am_iload_n (pc := 24) C dX12_isWord_24 rfl ?_
        refine am_if_eqB (pc := 25) (tgt := 67) C dX12_isWord_25 (by decide) (fun q25 => ?_) (fun q25 => ?_)
        · skip
          refine am_iload_n (pc := 67) C dX12_isWord_67 rfl ?_
          exact am_iretb T dX12_isWord_68 rfl (Nat.le_refl _) (Nat.le_refl _) (by first | (rw [q25, rf_isW, rf_word_f (by omega) q25]) | rfl) rfl rfl
        · skip
          have hpb : rf_p (h 322) - rf_b (h 322) = am_len k := of_decide_eq_true ((Bool.and_eq_true _ _).mp q25).1
          refine am_iload_n (pc := 28) C dX12_isWord_28 rfl ?_
          refine am_aload_n (pc := 29) C dX12_isWord_29 rfl ?_
          refine am_callVsi (Y := mJ0_length_8abf5) (pc := 30) (st := [.int (nI i24)]) (As := []) (x := (nI (am_len k))) hk C dX12_isWord_30 k12_114 v_J0_length_8abf5 rfl rfl rfl (by decide) (Nat.zero_le _) (Nat.zero_le _) (Nat.le_of_ble_eq_true rfl) (c_J0_length hk) ?_
          refine am_icmp_geN (pc := 33) (tgt := 67) C dX12_isWord_33 (by decide) (by omega) (by omega) (fun q33 => ?_) (fun q33 => ?_)
          · skip
            exact absurd q33 (by omega)
          · skip
            refine am_aload_n (pc := 36) C dX12_isWord_36 rfl ?_
            refine am_getR (pc := 37) (j := 328) C dX12_isWord_37 f12_29 bn_322 sh_322 (rf_322_8 hR) ?_
            refine am_aload_n (pc := 40) C dX12_isWord_40 rfl ?_
            refine am_getI (pc := 41) C dX12_isWord_41 f12_108 bn_322 sh_322 ?_
            refine am_top (show ((h 322) 12) = (nI (rf_b (h 322))) from hT.2.2.2.1) ?_
            refine am_iload_n (pc := 44) C dX12_isWord_44 rfl ?_
            refine am_iaddN (pc := 45) C dX12_isWord_45 ?_
            refine am_baload (pc := 46) C dX12_isWord_46 bn_328 sh_328 (vp_in_nI (by omega) (by decide)) ?_
            refine am_top (show (h 328) (nI ((rf_b (h 322)) + i24)).toNatClampNeg = (h 328) ((rf_b (h 322)) + i24) from by rw [nI_clamp (by omega)]) ?_
            refine am_aload_n (pc := 47) C dX12_isWord_47 rfl ?_
            refine am_iload_n (pc := 48) C dX12_isWord_48 rfl ?_
            refine am_callVsi (Y := mJ0_charAt_5068e) (pc := 49) (st := [.int ((h 328) ((rf_b (h 322)) + i24))]) (As := [.int (nI i24)]) (x := (am_chr k i24)) hk C dX12_isWord_49 k12_119 v_J0_charAt_5068e rfl rfl rfl (by decide) (Nat.zero_le _) (Nat.zero_le _) (Nat.le_of_ble_eq_true rfl) (c_J0_charAt hk (by omega)) ?_
            refine am_icmp_ne (pc := 52) (tgt := 59) C dX12_isWord_52 (by decide) (fun q52 => ?_) (fun q52 => ?_)
            · skip
              refine am_iconstN (pc := 59) (k := 0) C dX12_isWord_59 ?_
              refine am_istore_n (pc := 60) (ls' := [(0, .ref 322), (1, .ref (am_SB + k)), (2, .int (nI 0)), (3, .int (nI i24))]) C dX12_isWord_60 (by decide) rfl ?_
              refine am_iincN (pc := 61) (ls' := [(0, .ref 322), (1, .ref (am_SB + k)), (2, .int (nI 0)), (3, .int (nI (i24 + 1)))]) C dX12_isWord_61 rfl (am_up1 _) (by decide) rfl ?_
              refine am_goto (pc := 64) (tgt := 24) C dX12_isWord_64 (by decide) ?_
              refine am_lsv (ls' := [(0, .ref 322), (1, .ref (am_SB + k)), (2, .int (am_b (decide (rf_p (h 322) - rf_b (h 322) = am_len k) && rf_wn (h 328) (rf_b (h 322)) k (i24 + 1)))), (3, .int (nI (i24 + 1)))]) (by rw [show (nI 0) = (am_b (decide (rf_p (h 322) - rf_b (h 322) = am_len k) && rf_wn (h 328) (rf_b (h 322)) k (i24 + 1))) from (by rw [rf_wn_s q25 (decide_eq_false q52)]; rfl)]) ?_
              exact ih24 (i24 + 1) (by omega) 
            · skip
              refine am_iconstN (pc := 55) (k := 1) C dX12_isWord_55 ?_
              refine am_goto (pc := 56) (tgt := 60) C dX12_isWord_56 (by decide) ?_
              refine am_istore_n (pc := 60) (ls' := [(0, .ref 322), (1, .ref (am_SB + k)), (2, .int (nI 1)), (3, .int (nI i24))]) C dX12_isWord_60 (by decide) rfl ?_
              refine am_iincN (pc := 61) (ls' := [(0, .ref 322), (1, .ref (am_SB + k)), (2, .int (nI 1)), (3, .int (nI (i24 + 1)))]) C dX12_isWord_61 rfl (am_up1 _) (by decide) rfl ?_
              refine am_goto (pc := 64) (tgt := 24) C dX12_isWord_64 (by decide) ?_
              refine am_lsv (ls' := [(0, .ref 322), (1, .ref (am_SB + k)), (2, .int (am_b (decide (rf_p (h 322) - rf_b (h 322) = am_len k) && rf_wn (h 328) (rf_b (h 322)) k (i24 + 1)))), (3, .int (nI (i24 + 1)))]) (by rw [show (nI 1) = (am_b (decide (rf_p (h 322) - rf_b (h 322) = am_len k) && rf_wn (h 328) (rf_b (h 322)) k (i24 + 1))) from (by rw [rf_wn_s q25 (decide_eq_true q52)]; rfl)]) ?_
              exact ih24 (i24 + 1) (by omega) 
    refine am_lsv (ls' := [(0, .ref 322), (1, .ref (am_SB + k)), (2, .int (am_b (decide (rf_p (h 322) - rf_b (h 322) = am_len k) && rf_wn (h 328) (rf_b (h 322)) k 0))), (3, .int (nI 0))]) (by rw [show (nI 1) = (am_b (decide (rf_p (h 322) - rf_b (h 322) = am_len k) && rf_wn (h 328) (rf_b (h 322)) k 0)) from (by first | (rw [decide_eq_true q13]; rfl) | (rw [decide_eq_false q13]; rfl))]) ?_
    exact L24 (am_len k) 0 (by omega) 

set_option maxHeartbeats 400000 in
set_option maxRecDepth 100000 in
theorem c_X12_passes {ad : Nat → Nat} {r : am_R} (hR : am_rs r) {h : am_H} (k : Nat) (hT : rf_To (h 322)) (hk : k < am_TX.length)  : am_CM mX12_passes 8 0 0 [.ref 322, .ref (am_SB + k)] (am_VV ad) r h (am_po (some (.int (am_b (rf_rPas (h 328) (h 322) k)))) r (am_row h 322 (rf_oPas (h 328) (h 322) k))) := by
  refine am_CM.of (by decide +kernel) (Nat.le_of_ble_eq_true rfl) (fun X C T => ?_)
  show am_G X (am_VV ad) (0, 0) 0 [(0, .ref 322), (1, .ref (am_SB + k))] [] r h
  have hp4 : rf_p (h 322) ≤ rf_e (h 322) := hT.2.2.1
  have he4 : rf_e (h 322) < 401 := hT.2.1.2
  have hb4 : rf_b (h 322) < 401 := hT.2.2.2.2
  obtain ⟨hs1, hs2⟩ := rf_sb_le (t := h 328) hp4
  obtain ⟨hs3, hs4⟩ := rf_sl_le (t := h 328) hp4
  refine am_aload_n (pc := 0) C dX12_passes_0 rfl ?_
  refine am_callVv (Y := mX12_letters) (pc := 1) (st := []) (As := []) (h2 := (am_row h 322 (rf_oLe (h 328) (h 322)))) C dX12_passes_1 k12_123 v_X12_letters rfl rfl bn_322 sh_322 ⟨by decide, rfl⟩ (by decide) (Nat.zero_le _) (Nat.zero_le _) (Nat.le_of_ble_eq_true rfl) (c_X12_letters hR hT) ?_
  refine am_hp (show (am_row h 322 (rf_oLe (h 328) (h 322))) = (am_row h 322 (rf_pb (h 322) (rf_sl (h 328) (rf_e (h 322)) (rf_p (h 322))) (rf_sb (h 328) (rf_e (h 322)) (rf_p (h 322))))) from rfl) ?_
  refine am_aload_n (pc := 4) C dX12_passes_4 rfl ?_
  refine am_aload_n (pc := 5) C dX12_passes_5 rfl ?_
  refine am_callVi (Y := mX12_isWord) (pc := 6) (st := []) (As := [.ref (am_SB + k)]) (x := (am_b (rf_isW (h 328) (rf_pb (h 322) (rf_sl (h 328) (rf_e (h 322)) (rf_p (h 322))) (rf_sb (h 328) (rf_e (h 322)) (rf_p (h 322)))) k))) (h2 := (am_row h 322 (rf_pb (h 322) (rf_sl (h 328) (rf_e (h 322)) (rf_p (h 322))) (rf_sb (h 328) (rf_e (h 322)) (rf_p (h 322)))))) C dX12_passes_6 k12_126 v_X12_isWord rfl rfl bn_322 sh_322 ⟨by decide, rfl⟩ (by decide) (Nat.zero_le _) (Nat.zero_le _) (Nat.le_of_ble_eq_true rfl) (c_X12_isWord hR k (show rf_To (rf_pb (h 322) (rf_sl (h 328) (rf_e (h 322)) (rf_p (h 322))) (rf_sb (h 328) (rf_e (h 322)) (rf_p (h 322)))) from (rf_To_pb hT (by omega) (by omega))) (show rf_b (rf_pb (h 322) (rf_sl (h 328) (rf_e (h 322)) (rf_p (h 322))) (rf_sb (h 328) (rf_e (h 322)) (rf_p (h 322)))) ≤ rf_p (rf_pb (h 322) (rf_sl (h 328) (rf_e (h 322)) (rf_p (h 322))) (rf_sb (h 328) (rf_e (h 322)) (rf_p (h 322)))) from (by rw [rf_b_pb (by omega), rf_p_pb (by omega)]; omega)) (show k < am_TX.length from hk)) ?_
  refine am_top (show (am_b (rf_isW (h 328) (rf_pb (h 322) (rf_sl (h 328) (rf_e (h 322)) (rf_p (h 322))) (rf_sb (h 328) (rf_e (h 322)) (rf_p (h 322)))) k)) = (am_b (rf_word (h 328) (rf_sb (h 328) (rf_e (h 322)) (rf_p (h 322))) (rf_sl (h 328) (rf_e (h 322)) (rf_p (h 322))) k)) from by rw [rf_isW, rf_b_pb (by omega), rf_p_pb (by omega)]) ?_
  refine am_if_eqB (pc := 9) (tgt := 14) C dX12_passes_9 (by decide) (fun q9 => ?_) (fun q9 => ?_)
  · skip
    refine am_aload_n (pc := 14) C dX12_passes_14 rfl ?_
    refine am_aload_n (pc := 15) C dX12_passes_15 rfl ?_
    refine am_getI (pc := 16) C dX12_passes_16 f12_108 bn_322 sh_322 ?_
    refine am_top (show ((rf_pb (h 322) (rf_sl (h 328) (rf_e (h 322)) (rf_p (h 322))) (rf_sb (h 328) (rf_e (h 322)) (rf_p (h 322)))) 12) = (nI (rf_sb (h 328) (rf_e (h 322)) (rf_p (h 322)))) from rf_pb_12) ?_
    refine am_putI (pc := 19) C dX12_passes_19 f12_99 bn_322 sh_322 rfl rfl ?_
    refine am_hp (show am_up (am_row h 322 (rf_pb (h 322) (rf_sl (h 328) (rf_e (h 322)) (rf_p (h 322))) (rf_sb (h 328) (rf_e (h 322)) (rf_p (h 322))))) 322 10 (nI (rf_sb (h 328) (rf_e (h 322)) (rf_p (h 322)))) = am_row (am_row h 322 (rf_pb (h 322) (rf_sl (h 328) (rf_e (h 322)) (rf_p (h 322))) (rf_sb (h 328) (rf_e (h 322)) (rf_p (h 322))))) 322 (upd (rf_pb (h 322) (rf_sl (h 328) (rf_e (h 322)) (rf_p (h 322))) (rf_sb (h 328) (rf_e (h 322)) (rf_p (h 322)))) 10 (nI (rf_sb (h 328) (rf_e (h 322)) (rf_p (h 322))))) from am_up_rw _ _ _ _) ?_
    refine am_hp (show am_row (am_row h 322 (rf_pb (h 322) (rf_sl (h 328) (rf_e (h 322)) (rf_p (h 322))) (rf_sb (h 328) (rf_e (h 322)) (rf_p (h 322))))) 322 (upd (rf_pb (h 322) (rf_sl (h 328) (rf_e (h 322)) (rf_p (h 322))) (rf_sb (h 328) (rf_e (h 322)) (rf_p (h 322)))) 10 (nI (rf_sb (h 328) (rf_e (h 322)) (rf_p (h 322))))) = (am_row h 322 (upd (rf_pb (h 322) (rf_sl (h 328) (rf_e (h 322)) (rf_p (h 322))) (rf_sb (h 328) (rf_e (h 322)) (rf_p (h 322)))) 10 (nI (rf_sb (h 328) (rf_e (h 322)) (rf_p (h 322)))))) from am_row_s0) ?_
    refine am_hp (show (am_row h 322 (upd (rf_pb (h 322) (rf_sl (h 328) (rf_e (h 322)) (rf_p (h 322))) (rf_sb (h 328) (rf_e (h 322)) (rf_p (h 322)))) 10 (nI (rf_sb (h 328) (rf_e (h 322)) (rf_p (h 322)))))) = (am_row h 322 (rf_pb (h 322) (rf_sb (h 328) (rf_e (h 322)) (rf_p (h 322))) (rf_sb (h 328) (rf_e (h 322)) (rf_p (h 322))))) from by rw [rf_pb_p]) ?_
    refine am_iconstN (pc := 22) (k := 0) C dX12_passes_22 ?_
    exact am_iretb T dX12_passes_23 rfl (Nat.le_refl _) (Nat.le_refl _) (by rw [show rf_rPas (h 328) (h 322) k = _ from q9]; rfl) rfl (by rw [rf_oPas, show rf_rPas (h 328) (h 322) k = _ from q9]; rfl)
  · skip
    refine am_iconstN (pc := 12) (k := 1) C dX12_passes_12 ?_
    exact am_iretb T dX12_passes_13 rfl (Nat.le_refl _) (Nat.le_refl _) (by rw [show rf_rPas (h 328) (h 322) k = _ from q9]; rfl) rfl (by rw [rf_oPas, show rf_rPas (h 328) (h 322) k = _ from q9]; rfl)

set_option maxHeartbeats 400000 in
set_option maxRecDepth 100000 in
theorem c_X12_sign {ad : Nat → Nat} {r : am_R} (hR : am_rs r) {h : am_H} (c : Nat) (hT : rf_To (h 322))  : am_CM mX12_sign 2 0 0 [.ref 322, .int (nI c)] (am_VV ad) r h (am_po (some (.int (am_b (rf_rSig (h 328) (h 322) c)))) r (am_row h 322 (rf_oSig (h 328) (h 322) c))) := by
  refine am_CM.of (by decide +kernel) (Nat.le_of_ble_eq_true rfl) (fun X C T => ?_)
  show am_G X (am_VV ad) (0, 0) 0 [(0, .ref 322), (1, .int (nI c))] [] r h
  have hp4 : rf_p (h 322) ≤ rf_e (h 322) := hT.2.2.1
  have he4 : rf_e (h 322) < 401 := hT.2.1.2
  have hb4 : rf_b (h 322) < 401 := hT.2.2.2.2
  obtain ⟨hs1, hs2⟩ := rf_sb_le (t := h 328) hp4
  refine am_aload_n (pc := 0) C dX12_sign_0 rfl ?_
  refine am_callVv (Y := mX12_blanks) (pc := 1) (st := []) (As := []) (h2 := (am_row h 322 (rf_oBl (h 328) (h 322)))) C dX12_sign_1 k12_111 v_X12_blanks rfl rfl bn_322 sh_322 ⟨by decide, rfl⟩ (by decide) (Nat.zero_le _) (Nat.zero_le _) (Nat.le_of_ble_eq_true rfl) (c_X12_blanks hR hT) ?_
  refine am_hp (show (am_row h 322 (rf_oBl (h 328) (h 322))) = (am_row h 322 (rf_pb (h 322) (rf_sb (h 328) (rf_e (h 322)) (rf_p (h 322))) (rf_sb (h 328) (rf_e (h 322)) (rf_p (h 322))))) from rfl) ?_
  refine am_aload_n (pc := 4) C dX12_sign_4 rfl ?_
  refine am_iload_n (pc := 5) C dX12_sign_5 rfl ?_
  refine am_iload_n (pc := 6) C dX12_sign_6 rfl ?_
  refine am_callVi (Y := mX12_isAt) (pc := 7) (st := []) (As := [.int (nI c), .int (nI c)]) (x := (am_b (rf_isAt (h 328) (rf_pb (h 322) (rf_sb (h 328) (rf_e (h 322)) (rf_p (h 322))) (rf_sb (h 328) (rf_e (h 322)) (rf_p (h 322)))) c c))) (h2 := (am_row h 322 (rf_pb (h 322) (rf_sb (h 328) (rf_e (h 322)) (rf_p (h 322))) (rf_sb (h 328) (rf_e (h 322)) (rf_p (h 322)))))) C dX12_sign_7 k12_105 v_X12_isAt rfl rfl bn_322 sh_322 ⟨by decide, rfl⟩ (by decide) (Nat.zero_le _) (Nat.zero_le _) (Nat.le_of_ble_eq_true rfl) (c_X12_isAt hR c c (show rf_To (rf_pb (h 322) (rf_sb (h 328) (rf_e (h 322)) (rf_p (h 322))) (rf_sb (h 328) (rf_e (h 322)) (rf_p (h 322)))) from (rf_To_pb hT (by omega) (by omega)))) ?_
  refine am_top (show (am_b (rf_isAt (h 328) (rf_pb (h 322) (rf_sb (h 328) (rf_e (h 322)) (rf_p (h 322))) (rf_sb (h 328) (rf_e (h 322)) (rf_p (h 322)))) c c)) = (am_b (rf_at (h 328) (rf_e (h 322)) (rf_sb (h 328) (rf_e (h 322)) (rf_p (h 322))) c c)) from by rw [rf_isAt, rf_e_pb, rf_p_pb (by omega)]) ?_
  refine am_if_neB (pc := 10) (tgt := 15) C dX12_sign_10 (by decide) (fun q10 => ?_) (fun q10 => ?_)
  · skip
    have hlt := rf_at_lt q10
    refine am_aload_n (pc := 15) C dX12_sign_15 rfl ?_
    refine am_dup (pc := 16) C dX12_sign_16 rfl ?_
    refine am_getI (pc := 17) C dX12_sign_17 f12_99 bn_322 sh_322 ?_
    refine am_top (show ((rf_pb (h 322) (rf_sb (h 328) (rf_e (h 322)) (rf_p (h 322))) (rf_sb (h 328) (rf_e (h 322)) (rf_p (h 322)))) 10) = (nI (rf_sb (h 328) (rf_e (h 322)) (rf_p (h 322)))) from rf_pb_10) ?_
    refine am_iconstN (pc := 20) (k := 1) C dX12_sign_20 ?_
    refine am_iaddN (pc := 21) C dX12_sign_21 ?_
    refine am_putI (pc := 22) C dX12_sign_22 f12_99 bn_322 sh_322 rfl rfl ?_
    refine am_hp (show am_up (am_row h 322 (rf_pb (h 322) (rf_sb (h 328) (rf_e (h 322)) (rf_p (h 322))) (rf_sb (h 328) (rf_e (h 322)) (rf_p (h 322))))) 322 10 (nI ((rf_sb (h 328) (rf_e (h 322)) (rf_p (h 322))) + 1)) = am_row (am_row h 322 (rf_pb (h 322) (rf_sb (h 328) (rf_e (h 322)) (rf_p (h 322))) (rf_sb (h 328) (rf_e (h 322)) (rf_p (h 322))))) 322 (upd (rf_pb (h 322) (rf_sb (h 328) (rf_e (h 322)) (rf_p (h 322))) (rf_sb (h 328) (rf_e (h 322)) (rf_p (h 322)))) 10 (nI ((rf_sb (h 328) (rf_e (h 322)) (rf_p (h 322))) + 1))) from am_up_rw _ _ _ _) ?_
    refine am_hp (show am_row (am_row h 322 (rf_pb (h 322) (rf_sb (h 328) (rf_e (h 322)) (rf_p (h 322))) (rf_sb (h 328) (rf_e (h 322)) (rf_p (h 322))))) 322 (upd (rf_pb (h 322) (rf_sb (h 328) (rf_e (h 322)) (rf_p (h 322))) (rf_sb (h 328) (rf_e (h 322)) (rf_p (h 322)))) 10 (nI ((rf_sb (h 328) (rf_e (h 322)) (rf_p (h 322))) + 1))) = (am_row h 322 (upd (rf_pb (h 322) (rf_sb (h 328) (rf_e (h 322)) (rf_p (h 322))) (rf_sb (h 328) (rf_e (h 322)) (rf_p (h 322)))) 10 (nI ((rf_sb (h 328) (rf_e (h 322)) (rf_p (h 322))) + 1)))) from am_row_s0) ?_
    refine am_hp (show (am_row h 322 (upd (rf_pb (h 322) (rf_sb (h 328) (rf_e (h 322)) (rf_p (h 322))) (rf_sb (h 328) (rf_e (h 322)) (rf_p (h 322)))) 10 (nI ((rf_sb (h 328) (rf_e (h 322)) (rf_p (h 322))) + 1)))) = (am_row h 322 (rf_pb (h 322) ((rf_sb (h 328) (rf_e (h 322)) (rf_p (h 322))) + 1) (rf_sb (h 328) (rf_e (h 322)) (rf_p (h 322))))) from by rw [rf_pb_p]) ?_
    refine am_iconstN (pc := 25) (k := 1) C dX12_sign_25 ?_
    exact am_iretb T dX12_sign_26 rfl (Nat.le_refl _) (Nat.le_refl _) (by rw [show rf_rSig (h 328) (h 322) c = _ from q10]; rfl) rfl (by rw [rf_oSig, show rf_rSig (h 328) (h 322) c = _ from q10]; rfl)
  · skip
    refine am_iconstN (pc := 13) (k := 0) C dX12_sign_13 ?_
    exact am_iretb T dX12_sign_14 rfl (Nat.le_refl _) (Nat.le_refl _) (by rw [show rf_rSig (h 328) (h 322) c = _ from q10]; rfl) rfl (by rw [rf_oSig, show rf_rSig (h 328) (h 322) c = _ from q10]; rfl)

set_option maxHeartbeats 400000 in
set_option maxRecDepth 100000 in
theorem c_X12_isFigure {ad : Nat → Nat} {r : am_R} (hR : am_rs r) {h : am_H}  (hT : rf_To (h 322))  : am_CM mX12_isFigure 2 0 0 [.ref 322] (am_VV ad) r h (am_po (some (.int (am_b (rf_rFig (h 328) (h 322))))) r (am_row h 322 (rf_oBl (h 328) (h 322)))) := by
  refine am_CM.of (by decide +kernel) (Nat.le_of_ble_eq_true rfl) (fun X C T => ?_)
  show am_G X (am_VV ad) (0, 0) 0 [(0, .ref 322)] [] r h
  have hp4 : rf_p (h 322) ≤ rf_e (h 322) := hT.2.2.1
  have he4 : rf_e (h 322) < 401 := hT.2.1.2
  have hb4 : rf_b (h 322) < 401 := hT.2.2.2.2
  obtain ⟨hs1, hs2⟩ := rf_sb_le (t := h 328) hp4
  refine am_aload_n (pc := 0) C dX12_isFigure_0 rfl ?_
  refine am_callVv (Y := mX12_blanks) (pc := 1) (st := []) (As := []) (h2 := (am_row h 322 (rf_oBl (h 328) (h 322)))) C dX12_isFigure_1 k12_111 v_X12_blanks rfl rfl bn_322 sh_322 ⟨by decide, rfl⟩ (by decide) (Nat.zero_le _) (Nat.zero_le _) (Nat.le_of_ble_eq_true rfl) (c_X12_blanks hR hT) ?_
  refine am_hp (show (am_row h 322 (rf_oBl (h 328) (h 322))) = (am_row h 322 (rf_pb (h 322) (rf_sb (h 328) (rf_e (h 322)) (rf_p (h 322))) (rf_sb (h 328) (rf_e (h 322)) (rf_p (h 322))))) from rfl) ?_
  refine am_aload_n (pc := 4) C dX12_isFigure_4 rfl ?_
  refine am_bipush (pc := 5) (v := nI 48) C dX12_isFigure_5 (by decide) ?_
  refine am_bipush (pc := 7) (v := nI 57) C dX12_isFigure_7 (by decide) ?_
  refine am_callVi (Y := mX12_isAt) (pc := 9) (st := []) (As := [.int (nI 48), .int (nI 57)]) (x := (am_b (rf_isAt (h 328) (rf_pb (h 322) (rf_sb (h 328) (rf_e (h 322)) (rf_p (h 322))) (rf_sb (h 328) (rf_e (h 322)) (rf_p (h 322)))) 48 57))) (h2 := (am_row h 322 (rf_pb (h 322) (rf_sb (h 328) (rf_e (h 322)) (rf_p (h 322))) (rf_sb (h 328) (rf_e (h 322)) (rf_p (h 322)))))) C dX12_isFigure_9 k12_105 v_X12_isAt rfl rfl bn_322 sh_322 ⟨by decide, rfl⟩ (by decide) (Nat.zero_le _) (Nat.zero_le _) (Nat.le_of_ble_eq_true rfl) (c_X12_isAt hR 48 57 (show rf_To (rf_pb (h 322) (rf_sb (h 328) (rf_e (h 322)) (rf_p (h 322))) (rf_sb (h 328) (rf_e (h 322)) (rf_p (h 322)))) from (rf_To_pb hT (by omega) (by omega)))) ?_
  refine am_top (show (am_b (rf_isAt (h 328) (rf_pb (h 322) (rf_sb (h 328) (rf_e (h 322)) (rf_p (h 322))) (rf_sb (h 328) (rf_e (h 322)) (rf_p (h 322)))) 48 57)) = (am_b (rf_at (h 328) (rf_e (h 322)) (rf_sb (h 328) (rf_e (h 322)) (rf_p (h 322))) 48 57)) from by rw [rf_isAt, rf_e_pb, rf_p_pb (by omega)]) ?_
  exact am_iretb T dX12_isFigure_12 rfl (Nat.le_refl _) (Nat.le_refl _) rfl rfl rfl

set_option maxHeartbeats 400000 in
set_option maxRecDepth 100000 in
theorem c_X12_number {ad : Nat → Nat} {r : am_R} (hR : am_rs r) {h : am_H} (low : Nat) (high : Int32) (hT : rf_To (h 322)) (hlo : low < 2147483648)  : am_CM mX12_number 2 0 0 [.ref 322, .int (nI low), .int high] (am_VV ad) r h (am_po (some (.int (am_oi (rf_rNum (h 328) (h 322) low high)))) r (am_row h 322 (rf_oNum (h 328) (h 322)))) := by
  refine am_CM.of (by decide +kernel) (Nat.le_of_ble_eq_true rfl) (fun X C T => ?_)
  show am_G X (am_VV ad) (0, 0) 0 [(0, .ref 322), (1, .int (nI low)), (2, .int high)] [] r h
  have hp4 : rf_p (h 322) ≤ rf_e (h 322) := hT.2.2.1
  have he4 : rf_e (h 322) < 401 := hT.2.1.2
  have hb4 : rf_b (h 322) < 401 := hT.2.2.2.2
  obtain ⟨hs1, hs2⟩ := rf_sb_le (t := h 328) hp4
  obtain ⟨hs5, hs6⟩ := rf_sd_le (t := h 328) hp4
  have hv4 : rf_nv (h 328) (rf_sb (h 328) (rf_e (h 322)) (rf_p (h 322))) ((rf_sd (h 328) (rf_e (h 322)) (rf_p (h 322))) - (rf_sb (h 328) (rf_e (h 322)) (rf_p (h 322)))) < 1000 := rf_sd_1000
  refine am_aload_n (pc := 0) C dX12_number_0 rfl ?_
  refine am_callVv (Y := mX12_blanks) (pc := 1) (st := []) (As := []) (h2 := (am_row h 322 (rf_oBl (h 328) (h 322)))) C dX12_number_1 k12_111 v_X12_blanks rfl rfl bn_322 sh_322 ⟨by decide, rfl⟩ (by decide) (Nat.zero_le _) (Nat.zero_le _) (Nat.le_of_ble_eq_true rfl) (c_X12_blanks hR (show rf_To (h 322) from hT)) ?_
  refine am_hp (show (am_row h 322 (rf_oBl (h 328) (h 322))) = (am_row h 322 (rf_pb (h 322) (rf_sb (h 328) (rf_e (h 322)) (rf_p (h 322))) (rf_sb (h 328) (rf_e (h 322)) (rf_p (h 322))))) from rfl) ?_
  refine am_iconstN (pc := 4) (k := 0) C dX12_number_4 ?_
  refine am_istore_n (pc := 5) (ls' := [(0, .ref 322), (1, .int (nI low)), (2, .int high), (3, .int (nI 0))]) C dX12_number_5 (by decide) rfl ?_
  have L6 : ∀ (j6 : Nat) (p : Nat), (hpj : p + j6 = rf_e (h 322)) → (hpp : (rf_sb (h 328) (rf_e (h 322)) (rf_p (h 322))) ≤ p) → (hrun : rf_run (h 328) (rf_e (h 322)) 48 57 p = (rf_sd (h 328) (rf_e (h 322)) (rf_p (h 322)))) → (hall : ∀ k, (rf_sb (h 328) (rf_e (h 322)) (rf_p (h 322))) ≤ k → k < p → rf_at (h 328) (rf_e (h 322)) k 48 57 = true) → am_G X (am_VV ad) (0, 0) 6 [(0, .ref 322), (1, .int (nI low)), (2, .int high), (3, .int (nI (rf_nv (h 328) (rf_sb (h 328) (rf_e (h 322)) (rf_p (h 322))) (p - (rf_sb (h 328) (rf_e (h 322)) (rf_p (h 322)))))))] [] r (am_row h 322 (rf_pb (h 322) p (rf_sb (h 328) (rf_e (h 322)) (rf_p (h 322))))) := by
    intro j6
    induction j6 with
    | zero =>
      intro p hpj hpp hrun hall
      refine am_aload_n (pc := 6) C dX12_number_6 rfl ?_
      refine am_bipush (pc := 7) (v := nI 48) C dX12_number_7 (by decide) ?_
      refine am_bipush (pc := 9) (v := nI 57) C dX12_number_9 (by decide) ?_
      refine am_callVi (Y := mX12_isAt) (pc := 11) (st := []) (As := [.int (nI 48), .int (nI 57)]) (x := (am_b (rf_isAt (h 328) (rf_pb (h 322) p (rf_sb (h 328) (rf_e (h 322)) (rf_p (h 322)))) 48 57))) (h2 := (am_row h 322 (rf_pb (h 322) p (rf_sb (h 328) (rf_e (h 322)) (rf_p (h 322)))))) C dX12_number_11 k12_105 v_X12_isAt rfl rfl bn_322 sh_322 ⟨by decide, rfl⟩ (by decide) (Nat.zero_le _) (Nat.zero_le _) (Nat.le_of_ble_eq_true rfl) (c_X12_isAt hR 48 57 (show rf_To (rf_pb (h 322) p (rf_sb (h 328) (rf_e (h 322)) (rf_p (h 322)))) from (rf_To_pb hT (by omega) (by omega)))) ?_
      refine am_top (show (am_b (rf_isAt (h 328) (rf_pb (h 322) p (rf_sb (h 328) (rf_e (h 322)) (rf_p (h 322)))) 48 57)) = (am_b (rf_at (h 328) (rf_e (h 322)) p 48 57)) from by rw [rf_isAt, rf_e_pb, rf_p_pb (by omega)]) ?_
      refine am_if_eqB (pc := 14) (tgt := 65) C dX12_number_14 (by decide) (fun q14 => ?_) (fun q14 => ?_)
      · skip
        have hpS : (rf_sd (h 328) (rf_e (h 322)) (rf_p (h 322))) = p := hrun.symm.trans (rf_run_f q14)
        have hv5 : rf_nv (h 328) (rf_sb (h 328) (rf_e (h 322)) (rf_p (h 322))) (p - (rf_sb (h 328) (rf_e (h 322)) (rf_p (h 322)))) < 1000 := by rw [← hpS]; exact hv4
        refine am_aload_n (pc := 65) C dX12_number_65 rfl ?_
        refine am_getI (pc := 66) C dX12_number_66 f12_99 bn_322 sh_322 ?_
        refine am_top (show ((rf_pb (h 322) p (rf_sb (h 328) (rf_e (h 322)) (rf_p (h 322)))) 10) = (nI p) from rf_pb_10) ?_
        refine am_aload_n (pc := 69) C dX12_number_69 rfl ?_
        refine am_getI (pc := 70) C dX12_number_70 f12_108 bn_322 sh_322 ?_
        refine am_top (show ((rf_pb (h 322) p (rf_sb (h 328) (rf_e (h 322)) (rf_p (h 322)))) 12) = (nI (rf_sb (h 328) (rf_e (h 322)) (rf_p (h 322)))) from rf_pb_12) ?_
        refine am_icmp_eqN (pc := 73) (tgt := 99) C dX12_number_73 (by decide) (by omega) (by omega) (fun q73 => ?_) (fun q73 => ?_)
        · skip
          refine am_iconst (pc := 99) (v := -1) C dX12_number_99 rfl ?_
          refine am_goto (pc := 100) (tgt := 104) C dX12_number_100 (by decide) ?_
          exact am_ireti T dX12_number_104 rfl (Nat.le_refl _) (Nat.le_refl _) (by rw [show rf_rNum (h 328) (h 322) low high = rf_num (h 328) (rf_sb (h 328) (rf_e (h 322)) (rf_p (h 322))) p low high from (by rw [rf_rNum, show rf_SD (h 328) (h 322) = p from hpS]; rfl), rf_num, if_pos (Or.inl q73)]; exact am_oi_0.symm) rfl (by rw [rf_oNum, show rf_SD (h 328) (h 322) = p from hpS]; rfl)
        · skip
          refine am_aload_n (pc := 76) C dX12_number_76 rfl ?_
          refine am_getI (pc := 77) C dX12_number_77 f12_99 bn_322 sh_322 ?_
          refine am_top (show ((rf_pb (h 322) p (rf_sb (h 328) (rf_e (h 322)) (rf_p (h 322)))) 10) = (nI p) from rf_pb_10) ?_
          refine am_aload_n (pc := 80) C dX12_number_80 rfl ?_
          refine am_getI (pc := 81) C dX12_number_81 f12_108 bn_322 sh_322 ?_
          refine am_top (show ((rf_pb (h 322) p (rf_sb (h 328) (rf_e (h 322)) (rf_p (h 322)))) 12) = (nI (rf_sb (h 328) (rf_e (h 322)) (rf_p (h 322)))) from rf_pb_12) ?_
          refine am_isubN (pc := 84) C dX12_number_84 (by omega) ?_
          refine am_iconstN (pc := 85) (k := 3) C dX12_number_85 ?_
          refine am_icmp_gtN (pc := 86) (tgt := 99) C dX12_number_86 (by decide) (by omega) (by omega) (fun q86 => ?_) (fun q86 => ?_)
          · skip
            refine am_iconst (pc := 99) (v := -1) C dX12_number_99 rfl ?_
            refine am_goto (pc := 100) (tgt := 104) C dX12_number_100 (by decide) ?_
            exact am_ireti T dX12_number_104 rfl (Nat.le_refl _) (Nat.le_refl _) (by rw [show rf_rNum (h 328) (h 322) low high = rf_num (h 328) (rf_sb (h 328) (rf_e (h 322)) (rf_p (h 322))) p low high from (by rw [rf_rNum, show rf_SD (h 328) (h 322) = p from hpS]; rfl), rf_num, if_pos (Or.inr (Or.inl q86))]; exact am_oi_0.symm) rfl (by rw [rf_oNum, show rf_SD (h 328) (h 322) = p from hpS]; rfl)
          · skip
            refine am_iload_n (pc := 89) C dX12_number_89 rfl ?_
            refine am_iload_n (pc := 90) C dX12_number_90 rfl ?_
            refine am_icmp_ltN (pc := 91) (tgt := 99) C dX12_number_91 (by decide) (by omega) (by omega) (fun q91 => ?_) (fun q91 => ?_)
            · skip
              refine am_iconst (pc := 99) (v := -1) C dX12_number_99 rfl ?_
              refine am_goto (pc := 100) (tgt := 104) C dX12_number_100 (by decide) ?_
              exact am_ireti T dX12_number_104 rfl (Nat.le_refl _) (Nat.le_refl _) (by rw [show rf_rNum (h 328) (h 322) low high = rf_num (h 328) (rf_sb (h 328) (rf_e (h 322)) (rf_p (h 322))) p low high from (by rw [rf_rNum, show rf_SD (h 328) (h 322) = p from hpS]; rfl), rf_num, if_pos (Or.inr (Or.inr (Or.inl q91)))]; exact am_oi_0.symm) rfl (by rw [rf_oNum, show rf_SD (h 328) (h 322) = p from hpS]; rfl)
            · skip
              refine am_iload_n (pc := 94) C dX12_number_94 rfl ?_
              refine am_iload_n (pc := 95) C dX12_number_95 rfl ?_
              refine am_icmp_le (pc := 96) (tgt := 103) C dX12_number_96 (by decide) (fun q96 => ?_) (fun q96 => ?_)
              · skip
                refine am_iload_n (pc := 103) C dX12_number_103 rfl ?_
                exact am_ireti T dX12_number_104 rfl (Nat.le_refl _) (Nat.le_refl _) (by rw [show rf_rNum (h 328) (h 322) low high = rf_num (h 328) (rf_sb (h 328) (rf_e (h 322)) (rf_p (h 322))) p low high from (by rw [rf_rNum, show rf_SD (h 328) (h 322) = p from hpS]; rfl), rf_num, if_neg (fun z => z.elim (fun z => absurd z (by omega)) (fun z => z.elim (fun z => absurd z (by omega)) (fun z => z.elim (fun z => absurd z (by omega)) (fun z => absurd z (Int32.not_lt.mpr q96)))))]; exact (am_oi_s _).symm) rfl (by rw [rf_oNum, show rf_SD (h 328) (h 322) = p from hpS]; rfl)
              · skip
                refine am_iconst (pc := 99) (v := -1) C dX12_number_99 rfl ?_
                refine am_goto (pc := 100) (tgt := 104) C dX12_number_100 (by decide) ?_
                exact am_ireti T dX12_number_104 rfl (Nat.le_refl _) (Nat.le_refl _) (by rw [show rf_rNum (h 328) (h 322) low high = rf_num (h 328) (rf_sb (h 328) (rf_e (h 322)) (rf_p (h 322))) p low high from (by rw [rf_rNum, show rf_SD (h 328) (h 322) = p from hpS]; rfl), rf_num, if_pos (Or.inr (Or.inr (Or.inr (Int32.not_le.mp q96))))]; exact am_oi_0.symm) rfl (by rw [rf_oNum, show rf_SD (h 328) (h 322) = p from hpS]; rfl)
      · skip
        exact absurd (rf_at_lt q14) (by omega)
    | succ j6 ih6 =>
      intro p hpj hpp hrun hall
      refine am_aload_n (pc := 6) C dX12_number_6 rfl ?_
      refine am_bipush (pc := 7) (v := nI 48) C dX12_number_7 (by decide) ?_
      refine am_bipush (pc := 9) (v := nI 57) C dX12_number_9 (by decide) ?_
      refine am_callVi (Y := mX12_isAt) (pc := 11) (st := []) (As := [.int (nI 48), .int (nI 57)]) (x := (am_b (rf_isAt (h 328) (rf_pb (h 322) p (rf_sb (h 328) (rf_e (h 322)) (rf_p (h 322)))) 48 57))) (h2 := (am_row h 322 (rf_pb (h 322) p (rf_sb (h 328) (rf_e (h 322)) (rf_p (h 322)))))) C dX12_number_11 k12_105 v_X12_isAt rfl rfl bn_322 sh_322 ⟨by decide, rfl⟩ (by decide) (Nat.zero_le _) (Nat.zero_le _) (Nat.le_of_ble_eq_true rfl) (c_X12_isAt hR 48 57 (show rf_To (rf_pb (h 322) p (rf_sb (h 328) (rf_e (h 322)) (rf_p (h 322)))) from (rf_To_pb hT (by omega) (by omega)))) ?_
      refine am_top (show (am_b (rf_isAt (h 328) (rf_pb (h 322) p (rf_sb (h 328) (rf_e (h 322)) (rf_p (h 322)))) 48 57)) = (am_b (rf_at (h 328) (rf_e (h 322)) p 48 57)) from by rw [rf_isAt, rf_e_pb, rf_p_pb (by omega)]) ?_
      refine am_if_eqB (pc := 14) (tgt := 65) C dX12_number_14 (by decide) (fun q14 => ?_) (fun q14 => ?_)
      · skip
        have hpS : (rf_sd (h 328) (rf_e (h 322)) (rf_p (h 322))) = p := hrun.symm.trans (rf_run_f q14)
        have hv5 : rf_nv (h 328) (rf_sb (h 328) (rf_e (h 322)) (rf_p (h 322))) (p - (rf_sb (h 328) (rf_e (h 322)) (rf_p (h 322)))) < 1000 := by rw [← hpS]; exact hv4
        refine am_aload_n (pc := 65) C dX12_number_65 rfl ?_
        refine am_getI (pc := 66) C dX12_number_66 f12_99 bn_322 sh_322 ?_
        refine am_top (show ((rf_pb (h 322) p (rf_sb (h 328) (rf_e (h 322)) (rf_p (h 322)))) 10) = (nI p) from rf_pb_10) ?_
        refine am_aload_n (pc := 69) C dX12_number_69 rfl ?_
        refine am_getI (pc := 70) C dX12_number_70 f12_108 bn_322 sh_322 ?_
        refine am_top (show ((rf_pb (h 322) p (rf_sb (h 328) (rf_e (h 322)) (rf_p (h 322)))) 12) = (nI (rf_sb (h 328) (rf_e (h 322)) (rf_p (h 322)))) from rf_pb_12) ?_
        refine am_icmp_eqN (pc := 73) (tgt := 99) C dX12_number_73 (by decide) (by omega) (by omega) (fun q73 => ?_) (fun q73 => ?_)
        · skip
          refine am_iconst (pc := 99) (v := -1) C dX12_number_99 rfl ?_
          refine am_goto (pc := 100) (tgt := 104) C dX12_number_100 (by decide) ?_
          exact am_ireti T dX12_number_104 rfl (Nat.le_refl _) (Nat.le_refl _) (by rw [show rf_rNum (h 328) (h 322) low high = rf_num (h 328) (rf_sb (h 328) (rf_e (h 322)) (rf_p (h 322))) p low high from (by rw [rf_rNum, show rf_SD (h 328) (h 322) = p from hpS]; rfl), rf_num, if_pos (Or.inl q73)]; exact am_oi_0.symm) rfl (by rw [rf_oNum, show rf_SD (h 328) (h 322) = p from hpS]; rfl)
        · skip
          refine am_aload_n (pc := 76) C dX12_number_76 rfl ?_
          refine am_getI (pc := 77) C dX12_number_77 f12_99 bn_322 sh_322 ?_
          refine am_top (show ((rf_pb (h 322) p (rf_sb (h 328) (rf_e (h 322)) (rf_p (h 322)))) 10) = (nI p) from rf_pb_10) ?_
          refine am_aload_n (pc := 80) C dX12_number_80 rfl ?_
          refine am_getI (pc := 81) C dX12_number_81 f12_108 bn_322 sh_322 ?_
          refine am_top (show ((rf_pb (h 322) p (rf_sb (h 328) (rf_e (h 322)) (rf_p (h 322)))) 12) = (nI (rf_sb (h 328) (rf_e (h 322)) (rf_p (h 322)))) from rf_pb_12) ?_
          refine am_isubN (pc := 84) C dX12_number_84 (by omega) ?_
          refine am_iconstN (pc := 85) (k := 3) C dX12_number_85 ?_
          refine am_icmp_gtN (pc := 86) (tgt := 99) C dX12_number_86 (by decide) (by omega) (by omega) (fun q86 => ?_) (fun q86 => ?_)
          · skip
            refine am_iconst (pc := 99) (v := -1) C dX12_number_99 rfl ?_
            refine am_goto (pc := 100) (tgt := 104) C dX12_number_100 (by decide) ?_
            exact am_ireti T dX12_number_104 rfl (Nat.le_refl _) (Nat.le_refl _) (by rw [show rf_rNum (h 328) (h 322) low high = rf_num (h 328) (rf_sb (h 328) (rf_e (h 322)) (rf_p (h 322))) p low high from (by rw [rf_rNum, show rf_SD (h 328) (h 322) = p from hpS]; rfl), rf_num, if_pos (Or.inr (Or.inl q86))]; exact am_oi_0.symm) rfl (by rw [rf_oNum, show rf_SD (h 328) (h 322) = p from hpS]; rfl)
          · skip
            refine am_iload_n (pc := 89) C dX12_number_89 rfl ?_
            refine am_iload_n (pc := 90) C dX12_number_90 rfl ?_
            refine am_icmp_ltN (pc := 91) (tgt := 99) C dX12_number_91 (by decide) (by omega) (by omega) (fun q91 => ?_) (fun q91 => ?_)
            · skip
              refine am_iconst (pc := 99) (v := -1) C dX12_number_99 rfl ?_
              refine am_goto (pc := 100) (tgt := 104) C dX12_number_100 (by decide) ?_
              exact am_ireti T dX12_number_104 rfl (Nat.le_refl _) (Nat.le_refl _) (by rw [show rf_rNum (h 328) (h 322) low high = rf_num (h 328) (rf_sb (h 328) (rf_e (h 322)) (rf_p (h 322))) p low high from (by rw [rf_rNum, show rf_SD (h 328) (h 322) = p from hpS]; rfl), rf_num, if_pos (Or.inr (Or.inr (Or.inl q91)))]; exact am_oi_0.symm) rfl (by rw [rf_oNum, show rf_SD (h 328) (h 322) = p from hpS]; rfl)
            · skip
              refine am_iload_n (pc := 94) C dX12_number_94 rfl ?_
              refine am_iload_n (pc := 95) C dX12_number_95 rfl ?_
              refine am_icmp_le (pc := 96) (tgt := 103) C dX12_number_96 (by decide) (fun q96 => ?_) (fun q96 => ?_)
              · skip
                refine am_iload_n (pc := 103) C dX12_number_103 rfl ?_
                exact am_ireti T dX12_number_104 rfl (Nat.le_refl _) (Nat.le_refl _) (by rw [show rf_rNum (h 328) (h 322) low high = rf_num (h 328) (rf_sb (h 328) (rf_e (h 322)) (rf_p (h 322))) p low high from (by rw [rf_rNum, show rf_SD (h 328) (h 322) = p from hpS]; rfl), rf_num, if_neg (fun z => z.elim (fun z => absurd z (by omega)) (fun z => z.elim (fun z => absurd z (by omega)) (fun z => z.elim (fun z => absurd z (by omega)) (fun z => absurd z (Int32.not_lt.mpr q96)))))]; exact (am_oi_s _).symm) rfl (by rw [rf_oNum, show rf_SD (h 328) (h 322) = p from hpS]; rfl)
              · skip
                refine am_iconst (pc := 99) (v := -1) C dX12_number_99 rfl ?_
                refine am_goto (pc := 100) (tgt := 104) C dX12_number_100 (by decide) ?_
                exact am_ireti T dX12_number_104 rfl (Nat.le_refl _) (Nat.le_refl _) (by rw [show rf_rNum (h 328) (h 322) low high = rf_num (h 328) (rf_sb (h 328) (rf_e (h 322)) (rf_p (h 322))) p low high from (by rw [rf_rNum, show rf_SD (h 328) (h 322) = p from hpS]; rfl), rf_num, if_pos (Or.inr (Or.inr (Or.inr (Int32.not_le.mp q96))))]; exact am_oi_0.symm) rfl (by rw [rf_oNum, show rf_SD (h 328) (h 322) = p from hpS]; rfl)
      · skip
        have hat := rf_at_n q14
        have hpe := rf_at_lt q14
        refine am_aload_n (pc := 17) C dX12_number_17 rfl ?_
        refine am_getI (pc := 18) C dX12_number_18 f12_99 bn_322 sh_322 ?_
        refine am_top (show ((rf_pb (h 322) p (rf_sb (h 328) (rf_e (h 322)) (rf_p (h 322)))) 10) = (nI p) from rf_pb_10) ?_
        refine am_aload_n (pc := 21) C dX12_number_21 rfl ?_
        refine am_getI (pc := 22) C dX12_number_22 f12_108 bn_322 sh_322 ?_
        refine am_top (show ((rf_pb (h 322) p (rf_sb (h 328) (rf_e (h 322)) (rf_p (h 322)))) 12) = (nI (rf_sb (h 328) (rf_e (h 322)) (rf_p (h 322)))) from rf_pb_12) ?_
        refine am_isubN (pc := 25) C dX12_number_25 (by omega) ?_
        refine am_iconstN (pc := 26) (k := 3) C dX12_number_26 ?_
        refine am_icmp_geN (pc := 27) (tgt := 50) C dX12_number_27 (by decide) (by omega) (by omega) (fun q27 => ?_) (fun q27 => ?_)
        · skip
          refine am_iload_n (pc := 50) C dX12_number_50 rfl ?_
          refine am_istore_n (pc := 51) (ls' := [(0, .ref 322), (1, .int (nI low)), (2, .int high), (3, .int (nI (rf_nv (h 328) (rf_sb (h 328) (rf_e (h 322)) (rf_p (h 322))) (p - (rf_sb (h 328) (rf_e (h 322)) (rf_p (h 322)))))))]) C dX12_number_51 (by decide) rfl ?_
          refine am_aload_n (pc := 52) C dX12_number_52 rfl ?_
          refine am_dup (pc := 53) C dX12_number_53 rfl ?_
          refine am_getI (pc := 54) C dX12_number_54 f12_99 bn_322 sh_322 ?_
          refine am_top (show ((rf_pb (h 322) p (rf_sb (h 328) (rf_e (h 322)) (rf_p (h 322)))) 10) = (nI p) from rf_pb_10) ?_
          refine am_iconstN (pc := 57) (k := 1) C dX12_number_57 ?_
          refine am_iaddN (pc := 58) C dX12_number_58 ?_
          refine am_putI (pc := 59) C dX12_number_59 f12_99 bn_322 sh_322 rfl rfl ?_
          refine am_hp (show am_up (am_row h 322 (rf_pb (h 322) p (rf_sb (h 328) (rf_e (h 322)) (rf_p (h 322))))) 322 10 (nI (p + 1)) = am_row (am_row h 322 (rf_pb (h 322) p (rf_sb (h 328) (rf_e (h 322)) (rf_p (h 322))))) 322 (upd (rf_pb (h 322) p (rf_sb (h 328) (rf_e (h 322)) (rf_p (h 322)))) 10 (nI (p + 1))) from am_up_rw _ _ _ _) ?_
          refine am_hp (show am_row (am_row h 322 (rf_pb (h 322) p (rf_sb (h 328) (rf_e (h 322)) (rf_p (h 322))))) 322 (upd (rf_pb (h 322) p (rf_sb (h 328) (rf_e (h 322)) (rf_p (h 322)))) 10 (nI (p + 1))) = (am_row h 322 (upd (rf_pb (h 322) p (rf_sb (h 328) (rf_e (h 322)) (rf_p (h 322)))) 10 (nI (p + 1)))) from am_row_s0) ?_
          refine am_hp (show (am_row h 322 (upd (rf_pb (h 322) p (rf_sb (h 328) (rf_e (h 322)) (rf_p (h 322)))) 10 (nI (p + 1)))) = (am_row h 322 (rf_pb (h 322) (p + 1) (rf_sb (h 328) (rf_e (h 322)) (rf_p (h 322))))) from by rw [rf_pb_p]) ?_
          refine am_goto (pc := 62) (tgt := 6) C dX12_number_62 (by decide) ?_
          refine am_lsv (ls' := [(0, .ref 322), (1, .int (nI low)), (2, .int high), (3, .int (nI (rf_nv (h 328) (rf_sb (h 328) (rf_e (h 322)) (rf_p (h 322))) ((p + 1) - (rf_sb (h 328) (rf_e (h 322)) (rf_p (h 322)))))))]) (by rw [show (nI (rf_nv (h 328) (rf_sb (h 328) (rf_e (h 322)) (rf_p (h 322))) (p - (rf_sb (h 328) (rf_e (h 322)) (rf_p (h 322)))))) = (nI (rf_nv (h 328) (rf_sb (h 328) (rf_e (h 322)) (rf_p (h 322))) ((p + 1) - (rf_sb (h 328) (rf_e (h 322)) (rf_p (h 322)))))) from congrArg nI (by rw [show p + 1 - (rf_sb (h 328) (rf_e (h 322)) (rf_p (h 322))) = (p - (rf_sb (h 328) (rf_e (h 322)) (rf_p (h 322)))) + 1 by omega, rf_nv, if_neg (by omega)])]) ?_
          exact ih6 (p + 1) (by omega) (by omega) (by rw [← rf_run_t q14]; exact hrun) (fun k h1 h2 => if hk : k < p then hall k h1 hk else (by rw [show k = p by omega]; exact q14))
        · skip
          refine am_bipush (pc := 30) (v := nI 10) C dX12_number_30 (by decide) ?_
          refine am_iload_n (pc := 32) C dX12_number_32 rfl ?_
          refine am_imulN (pc := 33) C dX12_number_33 ?_
          refine am_aload_n (pc := 34) C dX12_number_34 rfl ?_
          refine am_getR (pc := 35) (j := 328) C dX12_number_35 f12_29 bn_322 sh_322 (rf_322_8 hR) ?_
          refine am_aload_n (pc := 38) C dX12_number_38 rfl ?_
          refine am_getI (pc := 39) C dX12_number_39 f12_99 bn_322 sh_322 ?_
          refine am_top (show ((rf_pb (h 322) p (rf_sb (h 328) (rf_e (h 322)) (rf_p (h 322)))) 10) = (nI p) from rf_pb_10) ?_
          refine am_baload (pc := 42) C dX12_number_42 bn_328 sh_328 (vp_in_nI (by omega) (by decide)) ?_
          refine am_top (show (h 328) (nI p).toNatClampNeg = (h 328) p from by rw [nI_clamp (by omega)]) ?_
          refine am_top (show ((h 328) p) = (nI (rf_nat ((h 328) p))) from (rf_at_n q14).1) ?_
          refine am_iaddN (pc := 43) C dX12_number_43 ?_
          refine am_bipush (pc := 44) (v := nI 48) C dX12_number_44 (by decide) ?_
          refine am_isubN (pc := 46) C dX12_number_46 (by omega) ?_
          refine am_goto (pc := 47) (tgt := 51) C dX12_number_47 (by decide) ?_
          refine am_istore_n (pc := 51) (ls' := [(0, .ref 322), (1, .int (nI low)), (2, .int high), (3, .int (nI (((10 * (rf_nv (h 328) (rf_sb (h 328) (rf_e (h 322)) (rf_p (h 322))) (p - (rf_sb (h 328) (rf_e (h 322)) (rf_p (h 322)))))) + (rf_nat ((h 328) p))) - 48)))]) C dX12_number_51 (by decide) rfl ?_
          refine am_aload_n (pc := 52) C dX12_number_52 rfl ?_
          refine am_dup (pc := 53) C dX12_number_53 rfl ?_
          refine am_getI (pc := 54) C dX12_number_54 f12_99 bn_322 sh_322 ?_
          refine am_top (show ((rf_pb (h 322) p (rf_sb (h 328) (rf_e (h 322)) (rf_p (h 322)))) 10) = (nI p) from rf_pb_10) ?_
          refine am_iconstN (pc := 57) (k := 1) C dX12_number_57 ?_
          refine am_iaddN (pc := 58) C dX12_number_58 ?_
          refine am_putI (pc := 59) C dX12_number_59 f12_99 bn_322 sh_322 rfl rfl ?_
          refine am_hp (show am_up (am_row h 322 (rf_pb (h 322) p (rf_sb (h 328) (rf_e (h 322)) (rf_p (h 322))))) 322 10 (nI (p + 1)) = am_row (am_row h 322 (rf_pb (h 322) p (rf_sb (h 328) (rf_e (h 322)) (rf_p (h 322))))) 322 (upd (rf_pb (h 322) p (rf_sb (h 328) (rf_e (h 322)) (rf_p (h 322)))) 10 (nI (p + 1))) from am_up_rw _ _ _ _) ?_
          refine am_hp (show am_row (am_row h 322 (rf_pb (h 322) p (rf_sb (h 328) (rf_e (h 322)) (rf_p (h 322))))) 322 (upd (rf_pb (h 322) p (rf_sb (h 328) (rf_e (h 322)) (rf_p (h 322)))) 10 (nI (p + 1))) = (am_row h 322 (upd (rf_pb (h 322) p (rf_sb (h 328) (rf_e (h 322)) (rf_p (h 322)))) 10 (nI (p + 1)))) from am_row_s0) ?_
          refine am_hp (show (am_row h 322 (upd (rf_pb (h 322) p (rf_sb (h 328) (rf_e (h 322)) (rf_p (h 322)))) 10 (nI (p + 1)))) = (am_row h 322 (rf_pb (h 322) (p + 1) (rf_sb (h 328) (rf_e (h 322)) (rf_p (h 322))))) from by rw [rf_pb_p]) ?_
          refine am_goto (pc := 62) (tgt := 6) C dX12_number_62 (by decide) ?_
          refine am_lsv (ls' := [(0, .ref 322), (1, .int (nI low)), (2, .int high), (3, .int (nI (rf_nv (h 328) (rf_sb (h 328) (rf_e (h 322)) (rf_p (h 322))) ((p + 1) - (rf_sb (h 328) (rf_e (h 322)) (rf_p (h 322)))))))]) (by rw [show (nI (((10 * (rf_nv (h 328) (rf_sb (h 328) (rf_e (h 322)) (rf_p (h 322))) (p - (rf_sb (h 328) (rf_e (h 322)) (rf_p (h 322)))))) + (rf_nat ((h 328) p))) - 48)) = (nI (rf_nv (h 328) (rf_sb (h 328) (rf_e (h 322)) (rf_p (h 322))) ((p + 1) - (rf_sb (h 328) (rf_e (h 322)) (rf_p (h 322)))))) from congrArg nI (by rw [show p + 1 - (rf_sb (h 328) (rf_e (h 322)) (rf_p (h 322))) = (p - (rf_sb (h 328) (rf_e (h 322)) (rf_p (h 322)))) + 1 by omega, rf_nv, if_pos (by omega), show (rf_sb (h 328) (rf_e (h 322)) (rf_p (h 322))) + (p - (rf_sb (h 328) (rf_e (h 322)) (rf_p (h 322)))) = p by omega]; omega)]) ?_
          exact ih6 (p + 1) (by omega) (by omega) (by rw [← rf_run_t q14]; exact hrun) (fun k h1 h2 => if hk : k < p then hall k h1 hk else (by rw [show k = p by omega]; exact q14))
  refine am_lsv (ls' := [(0, .ref 322), (1, .int (nI low)), (2, .int high), (3, .int (nI (rf_nv (h 328) (rf_sb (h 328) (rf_e (h 322)) (rf_p (h 322))) ((rf_sb (h 328) (rf_e (h 322)) (rf_p (h 322))) - (rf_sb (h 328) (rf_e (h 322)) (rf_p (h 322)))))))]) (by rw [show (nI 0) = (nI (rf_nv (h 328) (rf_sb (h 328) (rf_e (h 322)) (rf_p (h 322))) ((rf_sb (h 328) (rf_e (h 322)) (rf_p (h 322))) - (rf_sb (h 328) (rf_e (h 322)) (rf_p (h 322)))))) from (by rw [Nat.sub_self]; rfl)]) ?_
  exact L6 (rf_e (h 322) - (rf_sb (h 328) (rf_e (h 322)) (rf_p (h 322)))) (rf_sb (h 328) (rf_e (h 322)) (rf_p (h 322))) (by omega) (by omega) rfl (fun k h1 h2 => absurd h1 (by omega))

