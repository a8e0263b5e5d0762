/-! the reference's public calls with loops -/
theorem rf_ol_y1 {w : rf_W} {side m : Nat} {g : Bool} (h : am_bt (w (11 + side)) m = true ∧ ((rf_ol w side g m).1 = 0 ∨ rf_osum w (nI side) m g (rf_S w) + 1 < (rf_ol w side g m).2)) : nI m = am_oi (rf_ol w side g (m + 1)).1 := by rw [rf_ol_yes h]; exact (am_oi_s m).symm
theorem rf_ol_y2 {w : rf_W} {side m : Nat} {g : Bool} (h : am_bt (w (11 + side)) m = true ∧ ((rf_ol w side g m).1 = 0 ∨ rf_osum w (nI side) m g (rf_S w) + 1 < (rf_ol w side g m).2)) : nI (rf_osum w (nI side) m g (rf_S w)) = am_oi (rf_ol w side g (m + 1)).2 := by rw [rf_ol_yes h]; exact (am_oi_s _).symm
theorem rf_ol_n1 {w : rf_W} {side m : Nat} {g : Bool} (h : ¬ (am_bt (w (11 + side)) m = true ∧ ((rf_ol w side g m).1 = 0 ∨ rf_osum w (nI side) m g (rf_S w) + 1 < (rf_ol w side g m).2))) : am_oi (rf_ol w side g m).1 = am_oi (rf_ol w side g (m + 1)).1 := by rw [rf_ol_no h]
theorem rf_ol_n2 {w : rf_W} {side m : Nat} {g : Bool} (h : ¬ (am_bt (w (11 + side)) m = true ∧ ((rf_ol w side g m).1 = 0 ∨ rf_osum w (nI side) m g (rf_S w) + 1 < (rf_ol w side g m).2))) : am_oi (rf_ol w side g m).2 = am_oi (rf_ol w side g (m + 1)).2 := by rw [rf_ol_no h]
theorem rf_ol_n3 {w : rf_W} {side m : Nat} {g : Bool} (h : ¬ (am_bt (w (11 + side)) m = true ∧ ((rf_ol w side g m).1 = 0 ∨ rf_osum w (nI side) m g (rf_S w) + 1 < (rf_ol w side g m).2))) (h0 : 0 < (rf_ol w side g m).2) : nI ((rf_ol w side g m).2 - 1) = am_oi (rf_ol w side g (m + 1)).2 := by rw [rf_ol_no h]; exact (am_oi_p h0).symm
theorem rf_dl_y1 {w : rf_W} {o : Nat} (h : (rf_dl w o).1 = 0 ∨ rf_pc (rf_bearsAll w (rf_ord w o 1)) < (rf_dl w o).2) : nI o = am_oi (rf_dl w (o + 1)).1 := by rw [rf_dl_yes h]; exact (am_oi_s o).symm
theorem rf_dl_y2 {w : rf_W} {o : Nat} (h : (rf_dl w o).1 = 0 ∨ rf_pc (rf_bearsAll w (rf_ord w o 1)) < (rf_dl w o).2) : rf_pc (rf_bearsAll w (rf_ord w o 1)) = (rf_dl w (o + 1)).2 := by rw [rf_dl_yes h]
theorem rf_dl_n1 {w : rf_W} {o : Nat} (h : ¬ ((rf_dl w o).1 = 0 ∨ rf_pc (rf_bearsAll w (rf_ord w o 1)) < (rf_dl w o).2)) : am_oi (rf_dl w o).1 = am_oi (rf_dl w (o + 1)).1 := by rw [rf_dl_no h]
theorem rf_dl_n2 {w : rf_W} {o : Nat} (h : ¬ ((rf_dl w o).1 = 0 ∨ rf_pc (rf_bearsAll w (rf_ord w o 1)) < (rf_dl w o).2)) : (rf_dl w o).2 = (rf_dl w (o + 1)).2 := by rw [rf_dl_no h]

def rf_c_outlasts (w : rf_W) (d : Int32) (good : Bool) (which : Bool) : Nat := rf_cb (!rf_in d (nI 0) (nI 1)) 1 (0)
def rf_a_outlasts (w : rf_W) (d : Int32) (good : Bool) (which : Bool) : Int32 := bif which then am_oi (rf_ol w (rf_nat d) good (rf_M w)).1 else am_oi (rf_ol w (rf_nat d) good (rf_M w)).2
def rf_c_reserves (w : rf_W) (d : Int32) (k : Int32) : Nat := rf_cb (!rf_in d (nI 0) (nI 1)) 1 (rf_cb (!(rf_in k (nI 1) (nI 10))) 2 (0))
def rf_a_reserves (w : rf_W) (d : Int32) (k : Int32) : Int32 := rf_rv w (rf_nat d) (rf_nat k) (rf_M w) 0 (nI 0)
def rf_c_drill (w : rf_W) (many : Bool) : Nat := 0
def rf_a_drill (w : rf_W) (many : Bool) : Int32 := bif many then (rf_dl w (rf_O w)).2 else am_oi (rf_dl w (rf_O w)).1
def rf_c_spread (w : rf_W) (m : Int32) (d : Int32) (n : Int32) : Nat := rf_cb (!rf_okN m (rf_M w)) 1 (rf_cb (!rf_in d (nI 0) (nI 1)) 1 (rf_cb (!(rf_in n (nI 0) (nI 60))) 2 (0)))
def rf_a_spread (w : rf_W) (m : Int32) (d : Int32) (n : Int32) : Int32 := rf_hr w (rf_usersOf w (nI (rf_nat d)) (rf_nat m)) (nI (rf_nat d)) (nI 0) (rf_nat n + 1)
def rf_c_soonest (w : rf_W) (a : Int32) (b : Int32) : Nat := rf_cb (!rf_okN a (rf_S w)) 1 (rf_cb (!rf_okN b (rf_S w)) 1 (rf_cb (!decide (rf_of w (rf_nat a) 0 = rf_of w (rf_nat b) 0)) 2 (0)))
def rf_a_soonest (w : rf_W) (a : Int32) (b : Int32) : Int32 := rf_sea (fun n => am_bt (rf_hr w (nI 1 <<< (nI (rf_nat a) &&& 31)) (rf_of w (rf_nat a) 0) (nI 0) (n + 1)) (rf_nat b)) (fun n => nI n) 61 0
def rf_c_mute (w : rf_W) (m : Int32) (d : Int32) : Nat := rf_cb (!rf_okN m (rf_M w)) 1 (rf_cb (!rf_in d (nI 0) (nI 1)) 1 (0))
def rf_a_mute (w : rf_W) (m : Int32) (d : Int32) : Int32 := rf_mu w (rf_usersOf w (nI (rf_nat d)) (rf_nat m)) (nI (rf_nat d)) (rf_sideOf w (nI (rf_nat d))) (rf_nat (rf_sideOf w (nI (rf_nat d))) + 1)
def rf_c_amends (w : rf_W) (s : Int32) : Nat := rf_cb (!rf_okN s (rf_S w)) 1 (0)
def rf_a_amends (w : rf_W) (s : Int32) : Int32 := rf_am w (rf_known w (rf_nat s)) (rf_nat (rf_known w (rf_nat s)) + 1)
def rf_c_treaty (w : rf_W) (x : Int32) (undone : Bool) : Nat := 0
def rf_a_treaty (w : rf_W) (x : Int32) (undone : Bool) : Int32 := bif undone then (if x &&& ((nI 1 <<< (nI (rf_M w) &&& 31)) - nI 1) = 0 then -1 else bif decide ((x &&& ((nI 1 <<< (nI (rf_M w) &&& 31)) - nI 1)) &&& (rf_agrees w ^^^ (-1)) = 0) then rf_tr w (x &&& ((nI 1 <<< (nI (rf_M w) &&& 31)) - nI 1)) (rf_M w) else nI 0) else am_b (decide ((x &&& ((nI 1 <<< (nI (rf_M w) &&& 31)) - nI 1)) &&& (rf_agrees w ^^^ (-1)) = 0))
set_option maxHeartbeats 400000 in
set_option maxRecDepth 100000 in
theorem c_X12_outlasts {ad : Nat → Nat} {r : am_R} (hR : am_rs r) {h : am_H} (d : Int32) (good : Bool) (which : Bool) (hV : rf_I (h 323))  : am_CM mX12_outlasts 5 0 0 [.ref 322, .int d, .int (am_b good), .int (am_b which)] (am_VV ad) r h (am_po (some (.int (rf_ga (rf_c_outlasts (h 323) d good which) (rf_a_outlasts (h 323) d good which)))) r (am_row h 322 (rf_oc (h 322) (rf_c_outlasts (h 323) d good which)))) := by
  refine am_CM.of (by decide +kernel) (Nat.le_of_ble_eq_true rfl) (fun X C T => ?_)
  show am_G X (am_VV ad) (0, 0) 0 [(0, .ref 322), (1, .int d), (2, .int (am_b good)), (3, .int (am_b which))] [] r h
  have hM9 : rf_M (h 323) < 17 := hV.1.1.2
  have hS9 : rf_S (h 323) < 11 := hV.1.2.1.2
  have hO9 : rf_O (h 323) < 11 := hV.1.2.2.2
  refine am_aload_n (pc := 0) C dX12_outlasts_0 rfl ?_
  refine am_iconstN (pc := 1) (k := 0) C dX12_outlasts_1 ?_
  refine am_putI (pc := 2) C dX12_outlasts_2 f12_3 bn_322 sh_322 rfl rfl ?_
  refine am_hp (show am_up h 322 0 (nI 0) = am_row h 322 (upd (h 322) 0 (nI 0)) from am_up_rw _ _ _ _) ?_
  refine am_aload_n (pc := 5) C dX12_outlasts_5 rfl ?_
  refine am_iload_n (pc := 6) C dX12_outlasts_6 rfl ?_
  refine am_callSi (Y := mX12_noSide) (pc := 7) (st := [.ref 322]) (As := [.int d]) (x := (am_b (!rf_in d (nI 0) (nI 1)))) (h2 := (am_row h 322 (upd (h 322) 0 (nI 0)))) C dX12_outlasts_7 k12_393 v_X12_noSide rfl rfl (by decide) (Nat.zero_le _) (Nat.zero_le _) (Nat.le_of_ble_eq_true rfl) (c_X12_noSide hR d) ?_
  refine am_iconstN (pc := 10) (k := 1) C dX12_outlasts_10 ?_
  refine am_callVi (Y := mX12_throwsIf) (pc := 11) (st := []) (As := [.int (am_b (!rf_in d (nI 0) (nI 1))), .int (nI 1)]) (x := (am_b (!rf_in d (nI 0) (nI 1)))) (h2 := (am_row (am_row h 322 (upd (h 322) 0 (nI 0))) 322 (bif (!rf_in d (nI 0) (nI 1)) then upd (upd (h 322) 0 (nI 0)) 0 (nI 1) else (upd (h 322) 0 (nI 0))))) C dX12_outlasts_11 k12_269 v_X12_throwsIf rfl rfl bn_322 sh_322 ⟨by decide, rfl⟩ (by decide) (Nat.zero_le _) (Nat.zero_le _) (Nat.le_of_ble_eq_true rfl) (c_X12_throwsIf hR (!rf_in d (nI 0) (nI 1)) (nI 1)) ?_
  refine am_hp (show (am_row (am_row h 322 (upd (h 322) 0 (nI 0))) 322 (bif (!rf_in d (nI 0) (nI 1)) then upd (upd (h 322) 0 (nI 0)) 0 (nI 1) else (upd (h 322) 0 (nI 0)))) = (am_row h 322 (bif (!rf_in d (nI 0) (nI 1)) then upd (upd (h 322) 0 (nI 0)) 0 (nI 1) else (upd (h 322) 0 (nI 0)))) from am_row_s0) ?_
  refine am_if_eqB (pc := 14) (tgt := 19) C dX12_outlasts_14 (by decide) (fun q14 => ?_) (fun q14 => ?_)
  · skip
    refine am_hp (show (am_row h 322 (bif (!rf_in d (nI 0) (nI 1)) then upd (upd (h 322) 0 (nI 0)) 0 (nI 1) else (upd (h 322) 0 (nI 0)))) = (am_row h 322 (upd (h 322) 0 (nI 0))) from by rw [q14]; rfl) ?_
    have K9 : rf_c_outlasts (h 323) d good which = 0 := by unfold rf_c_outlasts; exact (rf_cb_f q14)
    have hd := rf_side_q q14
    have hd2 := hd.2
    refine am_lsv (ls' := [(0, .ref 322), (1, .int (nI (rf_nat d))), (2, .int (am_b good)), (3, .int (am_b which))]) (congrArg (fun z9 : Int32 => ([(0, .ref 322), (1, Value.int z9), (2, .int (am_b good)), (3, .int (am_b which))] : List (Nat × Value))) (show d = (nI (rf_nat d)) from hd.1)) ?_
    refine am_iconst (pc := 19) (v := -1) C dX12_outlasts_19 rfl ?_
    refine am_istore (pc := 20) (ls' := [(0, .ref 322), (1, .int (nI (rf_nat d))), (2, .int (am_b good)), (3, .int (am_b which)), (4, .int (-1))]) C dX12_outlasts_20 (by decide) rfl ?_
    refine am_iconst (pc := 22) (v := -1) C dX12_outlasts_22 rfl ?_
    refine am_istore (pc := 23) (ls' := [(0, .ref 322), (1, .int (nI (rf_nat d))), (2, .int (am_b good)), (3, .int (am_b which)), (4, .int (-1)), (5, .int (-1))]) C dX12_outlasts_23 (by decide) rfl ?_
    refine am_iconstN (pc := 25) (k := 0) C dX12_outlasts_25 ?_
    refine am_istore (pc := 26) (ls' := [(0, .ref 322), (1, .int (nI (rf_nat d))), (2, .int (am_b good)), (3, .int (am_b which)), (4, .int (-1)), (5, .int (-1)), (6, .int (nI 0))]) C dX12_outlasts_26 (by decide) rfl ?_
    have L28 : ∀ (j28 i28 : Nat), i28 + j28 = rf_M (h 323) → am_G X (am_VV ad) (0, 0) 28 [(0, .ref 322), (1, .int (nI (rf_nat d))), (2, .int (am_b good)), (3, .int (am_b which)), (4, .int (am_oi ((rf_ol (h 323) (rf_nat d) good i28).1))), (5, .int (am_oi ((rf_ol (h 323) (rf_nat d) good i28).2))), (6, .int (nI i28))] [] r (am_row h 322 (upd (h 322) 0 (nI 0))) := by
      intro j28
      induction j28 with
      | zero =>
        intro i28 hi28 
        obtain rfl : i28 = rf_M (h 323) := by omega
        refine am_iload (pc := 28) C dX12_outlasts_28 rfl ?_
        refine am_aload_n (pc := 30) C dX12_outlasts_30 rfl ?_
        refine am_callVi (Y := mX12_memories) (pc := 31) (st := [.int (nI (rf_M (h 323)))]) (As := []) (x := (nI (rf_M (h 323)))) (h2 := (am_row h 322 (upd (h 322) 0 (nI 0)))) C dX12_outlasts_31 k12_67 v_X12_memories rfl rfl bn_322 sh_322 ⟨by decide, rfl⟩ (by decide) (Nat.zero_le _) (Nat.zero_le _) (Nat.le_of_ble_eq_true rfl) (c_X12_memories hR (show rf_Cn (h 323) from hV.1)) ?_
        refine am_icmp_geN (pc := 34) (tgt := 136) C dX12_outlasts_34 (by decide) (by omega) (by omega) (fun q34 => ?_) (fun q34 => ?_)
        · skip
          refine am_iload_n (pc := 136) C dX12_outlasts_136 rfl ?_
          refine am_if_eqB (pc := 137) (tgt := 145) C dX12_outlasts_137 (by decide) (fun q137 => ?_) (fun q137 => ?_)
          · skip
            refine am_iload (pc := 145) C dX12_outlasts_145 rfl ?_
            have A9 : rf_a_outlasts (h 323) d good which = (am_oi ((rf_ol (h 323) (rf_nat d) good (rf_M (h 323))).2)) := (by rw [rf_a_outlasts, q137]; rfl)
            exact am_ireti T dX12_outlasts_147 rfl (Nat.le_refl _) (Nat.le_refl _) (by rw [K9]; exact A9.symm) rfl (by rw [K9]; exact rfl)
          · skip
            refine am_iload (pc := 140) C dX12_outlasts_140 rfl ?_
            refine am_goto (pc := 142) (tgt := 147) C dX12_outlasts_142 (by decide) ?_
            have A9 : rf_a_outlasts (h 323) d good which = (am_oi ((rf_ol (h 323) (rf_nat d) good (rf_M (h 323))).1)) := (by rw [rf_a_outlasts, q137]; rfl)
            exact am_ireti T dX12_outlasts_147 rfl (Nat.le_refl _) (Nat.le_refl _) (by rw [K9]; exact A9.symm) rfl (by rw [K9]; exact rfl)
        · skip
          exact absurd q34 (by omega)
      | succ j28 ih28 =>
        intro i28 hi28 
        have hl28 : i28 < rf_M (h 323) := by omega
        have ho9 := rf_ol_le (side := rf_nat d) (g := good) hV i28
        refine am_iload (pc := 28) C dX12_outlasts_28 rfl ?_
        refine am_aload_n (pc := 30) C dX12_outlasts_30 rfl ?_
        refine am_callVi (Y := mX12_memories) (pc := 31) (st := [.int (nI i28)]) (As := []) (x := (nI (rf_M (h 323)))) (h2 := (am_row h 322 (upd (h 322) 0 (nI 0)))) C dX12_outlasts_31 k12_67 v_X12_memories rfl rfl bn_322 sh_322 ⟨by decide, rfl⟩ (by decide) (Nat.zero_le _) (Nat.zero_le _) (Nat.le_of_ble_eq_true rfl) (c_X12_memories hR (show rf_Cn (h 323) from hV.1)) ?_
        refine am_icmp_geN (pc := 34) (tgt := 136) C dX12_outlasts_34 (by decide) (by omega) (by omega) (fun q34 => ?_) (fun q34 => ?_)
        · skip
          exact absurd q34 (by omega)
        · skip
          refine am_aload_n (pc := 37) C dX12_outlasts_37 rfl ?_
          refine am_getR (pc := 38) (j := 323) C dX12_outlasts_38 f12_13 bn_322 sh_322 (rf_322_1 hR) ?_
          refine am_bipush (pc := 41) (v := nI 11) C dX12_outlasts_41 (by decide) ?_
          refine am_iload_n (pc := 43) C dX12_outlasts_43 rfl ?_
          refine am_iaddN (pc := 44) C dX12_outlasts_44 ?_
          refine am_iaload (pc := 45) C dX12_outlasts_45 bn_323 sh_323 (vp_in_nI (by omega) (by decide)) ?_
          refine am_top (show (h 323) (nI (11 + (rf_nat d))).toNatClampNeg = (h 323) (11 + (rf_nat d)) from by rw [nI_clamp (by omega)]) ?_
          refine am_iload (pc := 46) C dX12_outlasts_46 rfl ?_
          refine am_callSi (Y := mX12_has) (pc := 48) (st := []) (As := [.int ((h 323) (11 + (rf_nat d))), .int (nI i28)]) (x := (am_b (am_bt ((h 323) (11 + (rf_nat d))) i28))) (h2 := (am_row h 322 (upd (h 322) 0 (nI 0)))) C dX12_outlasts_48 k12_81 v_X12_has rfl rfl (by decide) (Nat.zero_le _) (Nat.zero_le _) (Nat.le_of_ble_eq_true rfl) (c_X12_has hR ((h 323) (11 + (rf_nat d))) i28 (show i28 < 32 from by omega)) ?_
          refine am_if_neB (pc := 51) (tgt := 57) C dX12_outlasts_51 (by decide) (fun q51 => ?_) (fun q51 => ?_)
          · skip
            refine am_iconstN (pc := 57) (k := 0) C dX12_outlasts_57 ?_
            refine am_istore (pc := 58) (ls' := [(0, .ref 322), (1, .int (nI (rf_nat d))), (2, .int (am_b good)), (3, .int (am_b which)), (4, .int (am_oi ((rf_ol (h 323) (rf_nat d) good i28).1))), (5, .int (am_oi ((rf_ol (h 323) (rf_nat d) good i28).2))), (6, .int (nI i28)), (7, .int (nI 0))]) C dX12_outlasts_58 (by decide) rfl ?_
            refine am_iconstN (pc := 60) (k := 0) C dX12_outlasts_60 ?_
            refine am_istore (pc := 61) (ls' := [(0, .ref 322), (1, .int (nI (rf_nat d))), (2, .int (am_b good)), (3, .int (am_b which)), (4, .int (am_oi ((rf_ol (h 323) (rf_nat d) good i28).1))), (5, .int (am_oi ((rf_ol (h 323) (rf_nat d) good i28).2))), (6, .int (nI i28)), (7, .int (nI 0)), (8, .int (nI 0))]) C dX12_outlasts_61 (by decide) rfl ?_
            have L63 : ∀ (j63 i63 : Nat), i63 + j63 = rf_S (h 323) → am_G X (am_VV ad) (0, 0) 63 [(0, .ref 322), (1, .int (nI (rf_nat d))), (2, .int (am_b good)), (3, .int (am_b which)), (4, .int (am_oi ((rf_ol (h 323) (rf_nat d) good i28).1))), (5, .int (am_oi ((rf_ol (h 323) (rf_nat d) good i28).2))), (6, .int (nI i28)), (7, .int (nI (rf_osum (h 323) (nI (rf_nat d)) i28 good i63))), (8, .int (nI i63))] [] r (am_row h 322 (upd (h 322) 0 (nI 0))) := by
              intro j63
              induction j63 with
              | zero =>
                intro i63 hi63 
                obtain rfl : i63 = rf_S (h 323) := by omega
                refine am_iload (pc := 63) C dX12_outlasts_63 rfl ?_
                refine am_aload_n (pc := 65) C dX12_outlasts_65 rfl ?_
                refine am_callVi (Y := mX12_soldiers) (pc := 66) (st := [.int (nI (rf_S (h 323)))]) (As := []) (x := (nI (rf_S (h 323)))) (h2 := (am_row h 322 (upd (h 322) 0 (nI 0)))) C dX12_outlasts_66 k12_75 v_X12_soldiers rfl rfl bn_322 sh_322 ⟨by decide, rfl⟩ (by decide) (Nat.zero_le _) (Nat.zero_le _) (Nat.le_of_ble_eq_true rfl) (c_X12_soldiers hR (show rf_Cn (h 323) from hV.1)) ?_
                refine am_icmp_geN (pc := 69) (tgt := 107) C dX12_outlasts_69 (by decide) (by omega) (by omega) (fun q69 => ?_) (fun q69 => ?_)
                · skip
                  have hos9 := rf_osum_le (side := nI (rf_nat d)) (m := i28) (g := good) hV (rf_S (h 323)) (Nat.le_refl _)
                  refine am_iload (pc := 107) C dX12_outlasts_107 rfl ?_
                  refine am_if_ltO (pc := 109) (tgt := 122) C dX12_outlasts_109 (by decide) (by omega) (fun q109 => ?_) (fun q109 => ?_)
                  · skip
                    refine am_iload (pc := 122) C dX12_outlasts_122 rfl ?_
                    refine am_istore (pc := 124) (ls' := [(0, .ref 322), (1, .int (nI (rf_nat d))), (2, .int (am_b good)), (3, .int (am_b which)), (4, .int (nI i28)), (5, .int (am_oi ((rf_ol (h 323) (rf_nat d) good i28).2))), (6, .int (nI i28)), (7, .int (nI (rf_osum (h 323) (nI (rf_nat d)) i28 good (rf_S (h 323))))), (8, .int (nI (rf_S (h 323))))]) C dX12_outlasts_124 (by decide) rfl ?_
                    refine am_iload (pc := 126) C dX12_outlasts_126 rfl ?_
                    refine am_istore (pc := 128) (ls' := [(0, .ref 322), (1, .int (nI (rf_nat d))), (2, .int (am_b good)), (3, .int (am_b which)), (4, .int (nI i28)), (5, .int (nI (rf_osum (h 323) (nI (rf_nat d)) i28 good (rf_S (h 323))))), (6, .int (nI i28)), (7, .int (nI (rf_osum (h 323) (nI (rf_nat d)) i28 good (rf_S (h 323))))), (8, .int (nI (rf_S (h 323))))]) C dX12_outlasts_128 (by decide) rfl ?_
                    refine am_iincN (pc := 130) (ls' := [(0, .ref 322), (1, .int (nI (rf_nat d))), (2, .int (am_b good)), (3, .int (am_b which)), (4, .int (nI i28)), (5, .int (nI (rf_osum (h 323) (nI (rf_nat d)) i28 good (rf_S (h 323))))), (6, .int (nI (i28 + 1))), (7, .int (nI (rf_osum (h 323) (nI (rf_nat d)) i28 good (rf_S (h 323))))), (8, .int (nI (rf_S (h 323))))]) C dX12_outlasts_130 rfl (am_up1 _) (by decide) rfl ?_
                    refine am_goto (pc := 133) (tgt := 28) C dX12_outlasts_133 (by decide) ?_
                    refine am_sub (ls' := [(0, .ref 322), (1, .int (nI (rf_nat d))), (2, .int (am_b good)), (3, .int (am_b which)), (4, .int (nI i28)), (5, .int (nI (rf_osum (h 323) (nI (rf_nat d)) i28 good (rf_S (h 323))))), (6, .int (nI (i28 + 1)))]) (by intro q hq; simp only [List.mem_cons, List.not_mem_nil, or_false] at hq ⊢; rcases hq with rfl | rfl | rfl | rfl | rfl | rfl | rfl <;> simp) ?_
                    refine am_lsv (ls' := [(0, .ref 322), (1, .int (nI (rf_nat d))), (2, .int (am_b good)), (3, .int (am_b which)), (4, .int (am_oi ((rf_ol (h 323) (rf_nat d) good (i28 + 1)).1))), (5, .int (nI (rf_osum (h 323) (nI (rf_nat d)) i28 good (rf_S (h 323))))), (6, .int (nI (i28 + 1)))]) (congrArg (fun z9 : Int32 => ([(0, .ref 322), (1, .int (nI (rf_nat d))), (2, .int (am_b good)), (3, .int (am_b which)), (4, Value.int z9), (5, .int (nI (rf_osum (h 323) (nI (rf_nat d)) i28 good (rf_S (h 323))))), (6, .int (nI (i28 + 1)))] : List (Nat × Value))) (show (nI i28) = (am_oi ((rf_ol (h 323) (rf_nat d) good (i28 + 1)).1)) from rf_ol_y1 ⟨q51, Or.inl (by omega)⟩)) ?_
                    refine am_lsv (ls' := [(0, .ref 322), (1, .int (nI (rf_nat d))), (2, .int (am_b good)), (3, .int (am_b which)), (4, .int (am_oi ((rf_ol (h 323) (rf_nat d) good (i28 + 1)).1))), (5, .int (am_oi ((rf_ol (h 323) (rf_nat d) good (i28 + 1)).2))), (6, .int (nI (i28 + 1)))]) (congrArg (fun z9 : Int32 => ([(0, .ref 322), (1, .int (nI (rf_nat d))), (2, .int (am_b good)), (3, .int (am_b which)), (4, .int (am_oi ((rf_ol (h 323) (rf_nat d) good (i28 + 1)).1))), (5, Value.int z9), (6, .int (nI (i28 + 1)))] : List (Nat × Value))) (show (nI (rf_osum (h 323) (nI (rf_nat d)) i28 good (rf_S (h 323)))) = (am_oi ((rf_ol (h 323) (rf_nat d) good (i28 + 1)).2)) from rf_ol_y2 ⟨q51, Or.inl (by omega)⟩)) ?_
                    exact ih28 (i28 + 1) (by omega) 
                  · skip
                    refine am_iload (pc := 112) C dX12_outlasts_112 rfl ?_
                    refine am_iload (pc := 114) C dX12_outlasts_114 rfl ?_
                    refine am_top (show (am_oi ((rf_ol (h 323) (rf_nat d) good i28).2)) = (nI ((rf_ol (h 323) (rf_nat d) good i28).2 - 1)) from (am_oi_p (ho9.2.2 (by omega)))) ?_
                    refine am_icmp_ltN (pc := 116) (tgt := 122) C dX12_outlasts_116 (by decide) (by omega) (by omega) (fun q116 => ?_) (fun q116 => ?_)
                    · skip
                      refine am_iload (pc := 122) C dX12_outlasts_122 rfl ?_
                      refine am_istore (pc := 124) (ls' := [(0, .ref 322), (1, .int (nI (rf_nat d))), (2, .int (am_b good)), (3, .int (am_b which)), (4, .int (nI i28)), (5, .int (am_oi ((rf_ol (h 323) (rf_nat d) good i28).2))), (6, .int (nI i28)), (7, .int (nI (rf_osum (h 323) (nI (rf_nat d)) i28 good (rf_S (h 323))))), (8, .int (nI (rf_S (h 323))))]) C dX12_outlasts_124 (by decide) rfl ?_
                      refine am_iload (pc := 126) C dX12_outlasts_126 rfl ?_
                      refine am_istore (pc := 128) (ls' := [(0, .ref 322), (1, .int (nI (rf_nat d))), (2, .int (am_b good)), (3, .int (am_b which)), (4, .int (nI i28)), (5, .int (nI (rf_osum (h 323) (nI (rf_nat d)) i28 good (rf_S (h 323))))), (6, .int (nI i28)), (7, .int (nI (rf_osum (h 323) (nI (rf_nat d)) i28 good (rf_S (h 323))))), (8, .int (nI (rf_S (h 323))))]) C dX12_outlasts_128 (by decide) rfl ?_
                      refine am_iincN (pc := 130) (ls' := [(0, .ref 322), (1, .int (nI (rf_nat d))), (2, .int (am_b good)), (3, .int (am_b which)), (4, .int (nI i28)), (5, .int (nI (rf_osum (h 323) (nI (rf_nat d)) i28 good (rf_S (h 323))))), (6, .int (nI (i28 + 1))), (7, .int (nI (rf_osum (h 323) (nI (rf_nat d)) i28 good (rf_S (h 323))))), (8, .int (nI (rf_S (h 323))))]) C dX12_outlasts_130 rfl (am_up1 _) (by decide) rfl ?_
                      refine am_goto (pc := 133) (tgt := 28) C dX12_outlasts_133 (by decide) ?_
                      refine am_sub (ls' := [(0, .ref 322), (1, .int (nI (rf_nat d))), (2, .int (am_b good)), (3, .int (am_b which)), (4, .int (nI i28)), (5, .int (nI (rf_osum (h 323) (nI (rf_nat d)) i28 good (rf_S (h 323))))), (6, .int (nI (i28 + 1)))]) (by intro q hq; simp only [List.mem_cons, List.not_mem_nil, or_false] at hq ⊢; rcases hq with rfl | rfl | rfl | rfl | rfl | rfl | rfl <;> simp) ?_
                      refine am_lsv (ls' := [(0, .ref 322), (1, .int (nI (rf_nat d))), (2, .int (am_b good)), (3, .int (am_b which)), (4, .int (am_oi ((rf_ol (h 323) (rf_nat d) good (i28 + 1)).1))), (5, .int (nI (rf_osum (h 323) (nI (rf_nat d)) i28 good (rf_S (h 323))))), (6, .int (nI (i28 + 1)))]) (congrArg (fun z9 : Int32 => ([(0, .ref 322), (1, .int (nI (rf_nat d))), (2, .int (am_b good)), (3, .int (am_b which)), (4, Value.int z9), (5, .int (nI (rf_osum (h 323) (nI (rf_nat d)) i28 good (rf_S (h 323))))), (6, .int (nI (i28 + 1)))] : List (Nat × Value))) (show (nI i28) = (am_oi ((rf_ol (h 323) (rf_nat d) good (i28 + 1)).1)) from rf_ol_y1 ⟨q51, Or.inr (by omega)⟩)) ?_
                      refine am_lsv (ls' := [(0, .ref 322), (1, .int (nI (rf_nat d))), (2, .int (am_b good)), (3, .int (am_b which)), (4, .int (am_oi ((rf_ol (h 323) (rf_nat d) good (i28 + 1)).1))), (5, .int (am_oi ((rf_ol (h 323) (rf_nat d) good (i28 + 1)).2))), (6, .int (nI (i28 + 1)))]) (congrArg (fun z9 : Int32 => ([(0, .ref 322), (1, .int (nI (rf_nat d))), (2, .int (am_b good)), (3, .int (am_b which)), (4, .int (am_oi ((rf_ol (h 323) (rf_nat d) good (i28 + 1)).1))), (5, Value.int z9), (6, .int (nI (i28 + 1)))] : List (Nat × Value))) (show (nI (rf_osum (h 323) (nI (rf_nat d)) i28 good (rf_S (h 323)))) = (am_oi ((rf_ol (h 323) (rf_nat d) good (i28 + 1)).2)) from rf_ol_y2 ⟨q51, Or.inr (by omega)⟩)) ?_
                      exact ih28 (i28 + 1) (by omega) 
                    · skip
                      refine am_goto (pc := 119) (tgt := 130) C dX12_outlasts_119 (by decide) ?_
                      refine am_iincN (pc := 130) (ls' := [(0, .ref 322), (1, .int (nI (rf_nat d))), (2, .int (am_b good)), (3, .int (am_b which)), (4, .int (am_oi ((rf_ol (h 323) (rf_nat d) good i28).1))), (5, .int (am_oi ((rf_ol (h 323) (rf_nat d) good i28).2))), (6, .int (nI (i28 + 1))), (7, .int (nI (rf_osum (h 323) (nI (rf_nat d)) i28 good (rf_S (h 323))))), (8, .int (nI (rf_S (h 323))))]) C dX12_outlasts_130 rfl (am_up1 _) (by decide) rfl ?_
                      refine am_goto (pc := 133) (tgt := 28) C dX12_outlasts_133 (by decide) ?_
                      refine am_sub (ls' := [(0, .ref 322), (1, .int (nI (rf_nat d))), (2, .int (am_b good)), (3, .int (am_b which)), (4, .int (am_oi ((rf_ol (h 323) (rf_nat d) good i28).1))), (5, .int (am_oi ((rf_ol (h 323) (rf_nat d) good i28).2))), (6, .int (nI (i28 + 1)))]) (by intro q hq; simp only [List.mem_cons, List.not_mem_nil, or_false] at hq ⊢; rcases hq with rfl | rfl | rfl | rfl | rfl | rfl | rfl <;> simp) ?_
                      refine am_lsv (ls' := [(0, .ref 322), (1, .int (nI (rf_nat d))), (2, .int (am_b good)), (3, .int (am_b which)), (4, .int (am_oi ((rf_ol (h 323) (rf_nat d) good (i28 + 1)).1))), (5, .int (am_oi ((rf_ol (h 323) (rf_nat d) good i28).2))), (6, .int (nI (i28 + 1)))]) (congrArg (fun z9 : Int32 => ([(0, .ref 322), (1, .int (nI (rf_nat d))), (2, .int (am_b good)), (3, .int (am_b which)), (4, Value.int z9), (5, .int (am_oi ((rf_ol (h 323) (rf_nat d) good i28).2))), (6, .int (nI (i28 + 1)))] : List (Nat × Value))) (show (am_oi ((rf_ol (h 323) (rf_nat d) good i28).1)) = (am_oi ((rf_ol (h 323) (rf_nat d) good (i28 + 1)).1)) from rf_ol_n1 (fun z => z.2.elim (by omega) (by omega)))) ?_
                      refine am_lsv (ls' := [(0, .ref 322), (1, .int (nI (rf_nat d))), (2, .int (am_b good)), (3, .int (am_b which)), (4, .int (am_oi ((rf_ol (h 323) (rf_nat d) good (i28 + 1)).1))), (5, .int (am_oi ((rf_ol (h 323) (rf_nat d) good (i28 + 1)).2))), (6, .int (nI (i28 + 1)))]) (congrArg (fun z9 : Int32 => ([(0, .ref 322), (1, .int (nI (rf_nat d))), (2, .int (am_b good)), (3, .int (am_b which)), (4, .int (am_oi ((rf_ol (h 323) (rf_nat d) good (i28 + 1)).1))), (5, Value.int z9), (6, .int (nI (i28 + 1)))] : List (Nat × Value))) (show (am_oi ((rf_ol (h 323) (rf_nat d) good i28).2)) = (am_oi ((rf_ol (h 323) (rf_nat d) good (i28 + 1)).2)) from rf_ol_n2 (fun z => z.2.elim (by omega) (by omega)))) ?_
                      exact ih28 (i28 + 1) (by omega) 
                · skip
                  exact absurd q69 (by omega)
              | succ j63 ih63 =>
                intro i63 hi63 
                have hl63 : i63 < rf_S (h 323) := by omega
                refine am_iload (pc := 63) C dX12_outlasts_63 rfl ?_
                refine am_aload_n (pc := 65) C dX12_outlasts_65 rfl ?_
                refine am_callVi (Y := mX12_soldiers) (pc := 66) (st := [.int (nI i63)]) (As := []) (x := (nI (rf_S (h 323)))) (h2 := (am_row h 322 (upd (h 322) 0 (nI 0)))) C dX12_outlasts_66 k12_75 v_X12_soldiers rfl rfl bn_322 sh_322 ⟨by decide, rfl⟩ (by decide) (Nat.zero_le _) (Nat.zero_le _) (Nat.le_of_ble_eq_true rfl) (c_X12_soldiers hR (show rf_Cn (h 323) from hV.1)) ?_
                refine am_icmp_geN (pc := 69) (tgt := 107) C dX12_outlasts_69 (by decide) (by omega) (by omega) (fun q69 => ?_) (fun q69 => ?_)
                · skip
                  exact absurd q69 (by omega)
                · skip
                  refine am_iload (pc := 72) C dX12_outlasts_72 rfl ?_
                  refine am_aload_n (pc := 74) C dX12_outlasts_74 rfl ?_
                  refine am_iload (pc := 75) C dX12_outlasts_75 rfl ?_
                  refine am_iconstN (pc := 77) (k := 0) C dX12_outlasts_77 ?_
                  refine am_callVi (Y := mX12_of) (pc := 78) (st := [.int (nI (rf_osum (h 323) (nI (rf_nat d)) i28 good i63))]) (As := [.int (nI i63), .int (nI 0)]) (x := (rf_of (h 323) i63 0)) (h2 := (am_row h 322 (upd (h 322) 0 (nI 0)))) C dX12_outlasts_78 k12_63 v_X12_of rfl rfl bn_322 sh_322 ⟨by decide, rfl⟩ (by decide) (Nat.zero_le _) (Nat.zero_le _) (Nat.le_of_ble_eq_true rfl) (c_X12_of hR i63 0 (show i63 < 11 from by omega) (show 0 < 23 from by omega)) ?_
                  refine am_iload_n (pc := 81) C dX12_outlasts_81 rfl ?_
                  refine am_icmp_ne (pc := 82) (tgt := 97) C dX12_outlasts_82 (by decide) (fun q82 => ?_) (fun q82 => ?_)
                  · skip
                    refine am_iconstN (pc := 97) (k := 0) C dX12_outlasts_97 ?_
                    refine am_iaddN (pc := 98) C dX12_outlasts_98 ?_
                    refine am_istore (pc := 99) (ls' := [(0, .ref 322), (1, .int (nI (rf_nat d))), (2, .int (am_b good)), (3, .int (am_b which)), (4, .int (am_oi ((rf_ol (h 323) (rf_nat d) good i28).1))), (5, .int (am_oi ((rf_ol (h 323) (rf_nat d) good i28).2))), (6, .int (nI i28)), (7, .int (nI ((rf_osum (h 323) (nI (rf_nat d)) i28 good i63) + 0))), (8, .int (nI i63))]) C dX12_outlasts_99 (by decide) rfl ?_
                    refine am_iincN (pc := 101) (ls' := [(0, .ref 322), (1, .int (nI (rf_nat d))), (2, .int (am_b good)), (3, .int (am_b which)), (4, .int (am_oi ((rf_ol (h 323) (rf_nat d) good i28).1))), (5, .int (am_oi ((rf_ol (h 323) (rf_nat d) good i28).2))), (6, .int (nI i28)), (7, .int (nI ((rf_osum (h 323) (nI (rf_nat d)) i28 good i63) + 0))), (8, .int (nI (i63 + 1)))]) C dX12_outlasts_101 rfl (am_up1 _) (by decide) rfl ?_
                    refine am_goto (pc := 104) (tgt := 63) C dX12_outlasts_104 (by decide) ?_
                    refine am_lsv (ls' := [(0, .ref 322), (1, .int (nI (rf_nat d))), (2, .int (am_b good)), (3, .int (am_b which)), (4, .int (am_oi ((rf_ol (h 323) (rf_nat d) good i28).1))), (5, .int (am_oi ((rf_ol (h 323) (rf_nat d) good i28).2))), (6, .int (nI i28)), (7, .int (nI (rf_osum (h 323) (nI (rf_nat d)) i28 good (i63 + 1)))), (8, .int (nI (i63 + 1)))]) (by rw [show (nI ((rf_osum (h 323) (nI (rf_nat d)) i28 good i63) + 0)) = (nI (rf_osum (h 323) (nI (rf_nat d)) i28 good (i63 + 1))) from congrArg nI (by rw [rf_osum, if_neg q82])]) ?_
                    exact ih63 (i63 + 1) (by omega) 
                  · skip
                    refine am_aload_n (pc := 85) C dX12_outlasts_85 rfl ?_
                    refine am_iload (pc := 86) C dX12_outlasts_86 rfl ?_
                    refine am_iload (pc := 88) C dX12_outlasts_88 rfl ?_
                    refine am_iload_n (pc := 90) C dX12_outlasts_90 rfl ?_
                    refine am_callVi (Y := mX12_shotsAt) (pc := 91) (st := [.int (nI (rf_osum (h 323) (nI (rf_nat d)) i28 good i63))]) (As := [.int (nI i63), .int (nI i28), .int (am_b good)]) (x := (nI (rf_shots (h 323) i63 i28 good))) (h2 := (am_row h 322 (upd (h 322) 0 (nI 0)))) C dX12_outlasts_91 k12_399 v_X12_shotsAt rfl rfl bn_322 sh_322 ⟨by decide, rfl⟩ (by decide) (Nat.zero_le _) (Nat.zero_le _) (Nat.le_of_ble_eq_true rfl) (c_X12_shotsAt hR i63 i28 good hV (show i63 < rf_S (h 323) from by omega) (show i28 < 32 from by omega)) ?_
                    refine am_goto (pc := 94) (tgt := 98) C dX12_outlasts_94 (by decide) ?_
                    refine am_iaddN (pc := 98) C dX12_outlasts_98 ?_
                    refine am_istore (pc := 99) (ls' := [(0, .ref 322), (1, .int (nI (rf_nat d))), (2, .int (am_b good)), (3, .int (am_b which)), (4, .int (am_oi ((rf_ol (h 323) (rf_nat d) good i28).1))), (5, .int (am_oi ((rf_ol (h 323) (rf_nat d) good i28).2))), (6, .int (nI i28)), (7, .int (nI ((rf_osum (h 323) (nI (rf_nat d)) i28 good i63) + (rf_shots (h 323) i63 i28 good)))), (8, .int (nI i63))]) C dX12_outlasts_99 (by decide) rfl ?_
                    refine am_iincN (pc := 101) (ls' := [(0, .ref 322), (1, .int (nI (rf_nat d))), (2, .int (am_b good)), (3, .int (am_b which)), (4, .int (am_oi ((rf_ol (h 323) (rf_nat d) good i28).1))), (5, .int (am_oi ((rf_ol (h 323) (rf_nat d) good i28).2))), (6, .int (nI i28)), (7, .int (nI ((rf_osum (h 323) (nI (rf_nat d)) i28 good i63) + (rf_shots (h 323) i63 i28 good)))), (8, .int (nI (i63 + 1)))]) C dX12_outlasts_101 rfl (am_up1 _) (by decide) rfl ?_
                    refine am_goto (pc := 104) (tgt := 63) C dX12_outlasts_104 (by decide) ?_
                    refine am_lsv (ls' := [(0, .ref 322), (1, .int (nI (rf_nat d))), (2, .int (am_b good)), (3, .int (am_b which)), (4, .int (am_oi ((rf_ol (h 323) (rf_nat d) good i28).1))), (5, .int (am_oi ((rf_ol (h 323) (rf_nat d) good i28).2))), (6, .int (nI i28)), (7, .int (nI (rf_osum (h 323) (nI (rf_nat d)) i28 good (i63 + 1)))), (8, .int (nI (i63 + 1)))]) (by rw [show (nI ((rf_osum (h 323) (nI (rf_nat d)) i28 good i63) + (rf_shots (h 323) i63 i28 good))) = (nI (rf_osum (h 323) (nI (rf_nat d)) i28 good (i63 + 1))) from congrArg nI (by rw [rf_osum, if_pos q82])]) ?_
                    exact ih63 (i63 + 1) (by omega) 
            exact L63 (rf_S (h 323)) 0 (by omega) 
          · skip
            refine am_goto (pc := 54) (tgt := 130) C dX12_outlasts_54 (by decide) ?_
            refine am_iincN (pc := 130) (ls' := [(0, .ref 322), (1, .int (nI (rf_nat d))), (2, .int (am_b good)), (3, .int (am_b which)), (4, .int (am_oi ((rf_ol (h 323) (rf_nat d) good i28).1))), (5, .int (am_oi ((rf_ol (h 323) (rf_nat d) good i28).2))), (6, .int (nI (i28 + 1)))]) C dX12_outlasts_130 rfl (am_up1 _) (by decide) rfl ?_
            refine am_goto (pc := 133) (tgt := 28) C dX12_outlasts_133 (by decide) ?_
            refine am_lsv (ls' := [(0, .ref 322), (1, .int (nI (rf_nat d))), (2, .int (am_b good)), (3, .int (am_b which)), (4, .int (am_oi ((rf_ol (h 323) (rf_nat d) good (i28 + 1)).1))), (5, .int (am_oi ((rf_ol (h 323) (rf_nat d) good i28).2))), (6, .int (nI (i28 + 1)))]) (congrArg (fun z9 : Int32 => ([(0, .ref 322), (1, .int (nI (rf_nat d))), (2, .int (am_b good)), (3, .int (am_b which)), (4, Value.int z9), (5, .int (am_oi ((rf_ol (h 323) (rf_nat d) good i28).2))), (6, .int (nI (i28 + 1)))] : List (Nat × Value))) (show (am_oi ((rf_ol (h 323) (rf_nat d) good i28).1)) = (am_oi ((rf_ol (h 323) (rf_nat d) good (i28 + 1)).1)) from rf_ol_n1 (fun z => Bool.false_ne_true (q51.symm.trans z.1)))) ?_
            refine am_lsv (ls' := [(0, .ref 322), (1, .int (nI (rf_nat d))), (2, .int (am_b good)), (3, .int (am_b which)), (4, .int (am_oi ((rf_ol (h 323) (rf_nat d) good (i28 + 1)).1))), (5, .int (am_oi ((rf_ol (h 323) (rf_nat d) good (i28 + 1)).2))), (6, .int (nI (i28 + 1)))]) (congrArg (fun z9 : Int32 => ([(0, .ref 322), (1, .int (nI (rf_nat d))), (2, .int (am_b good)), (3, .int (am_b which)), (4, .int (am_oi ((rf_ol (h 323) (rf_nat d) good (i28 + 1)).1))), (5, Value.int z9), (6, .int (nI (i28 + 1)))] : List (Nat × Value))) (show (am_oi ((rf_ol (h 323) (rf_nat d) good i28).2)) = (am_oi ((rf_ol (h 323) (rf_nat d) good (i28 + 1)).2)) from rf_ol_n2 (fun z => Bool.false_ne_true (q51.symm.trans z.1)))) ?_
            exact ih28 (i28 + 1) (by omega) 
    refine am_sub (ls' := [(0, .ref 322), (1, .int (nI (rf_nat d))), (2, .int (am_b good)), (3, .int (am_b which)), (4, .int (-1)), (5, .int (-1)), (6, .int (nI 0))]) (by intro q hq; simp only [List.mem_cons, List.not_mem_nil, or_false] at hq ⊢; rcases hq with rfl | rfl | rfl | rfl | rfl | rfl | rfl <;> simp) ?_
    refine am_lsv (ls' := [(0, .ref 322), (1, .int (nI (rf_nat d))), (2, .int (am_b good)), (3, .int (am_b which)), (4, .int (am_oi ((rf_ol (h 323) (rf_nat d) good 0).1))), (5, .int (-1)), (6, .int (nI 0))]) (congrArg (fun z9 : Int32 => ([(0, .ref 322), (1, .int (nI (rf_nat d))), (2, .int (am_b good)), (3, .int (am_b which)), (4, Value.int z9), (5, .int (-1)), (6, .int (nI 0))] : List (Nat × Value))) (show (-1) = (am_oi ((rf_ol (h 323) (rf_nat d) good 0).1)) from (by first | rfl | exact am_oi_0.symm))) ?_
    refine am_lsv (ls' := [(0, .ref 322), (1, .int (nI (rf_nat d))), (2, .int (am_b good)), (3, .int (am_b which)), (4, .int (am_oi ((rf_ol (h 323) (rf_nat d) good 0).1))), (5, .int (am_oi ((rf_ol (h 323) (rf_nat d) good 0).2))), (6, .int (nI 0))]) (congrArg (fun z9 : Int32 => ([(0, .ref 322), (1, .int (nI (rf_nat d))), (2, .int (am_b good)), (3, .int (am_b which)), (4, .int (am_oi ((rf_ol (h 323) (rf_nat d) good 0).1))), (5, Value.int z9), (6, .int (nI 0))] : List (Nat × Value))) (show (-1) = (am_oi ((rf_ol (h 323) (rf_nat d) good 0).2)) from (by first | rfl | exact am_oi_0.symm))) ?_
    exact L28 (rf_M (h 323)) 0 (by omega) 
  · skip
    refine am_hp (show (am_row h 322 (bif (!rf_in d (nI 0) (nI 1)) then upd (upd (h 322) 0 (nI 0)) 0 (nI 1) else (upd (h 322) 0 (nI 0)))) = (am_row h 322 (upd (upd (h 322) 0 (nI 0)) 0 (nI 1))) from by rw [q14]; rfl) ?_
    refine am_iconstN (pc := 17) (k := 0) C dX12_outlasts_17 ?_
    have K9 : rf_c_outlasts (h 323) d good which = 1 := (by unfold rf_c_outlasts; exact (rf_cb_t q14))
    exact am_ireti T dX12_outlasts_18 rfl (Nat.le_refl _) (Nat.le_refl _) (by rw [K9]; rfl) rfl (by rw [K9]; exact congrArg (am_row _ 322) rf_upd_upd)

set_option maxHeartbeats 400000 in
set_option maxRecDepth 100000 in
theorem c_X12_reserves {ad : Nat → Nat} {r : am_R} (hR : am_rs r) {h : am_H} (d : Int32) (k : Int32) (hV : rf_I (h 323))  : am_CM mX12_reserves 6 0 0 [.ref 322, .int d, .int k] (am_VV ad) r h (am_po (some (.int (rf_ga (rf_c_reserves (h 323) d k) (rf_a_reserves (h 323) d k)))) r (am_row h 322 (rf_oc (h 322) (rf_c_reserves (h 323) d k)))) := by
  refine am_CM.of (by decide +kernel) (Nat.le_of_ble_eq_true rfl) (fun X C T => ?_)
  show am_G X (am_VV ad) (0, 0) 0 [(0, .ref 322), (1, .int d), (2, .int k)] [] r h
  have hM9 : rf_M (h 323) < 17 := hV.1.1.2
  have hS9 : rf_S (h 323) < 11 := hV.1.2.1.2
  have hO9 : rf_O (h 323) < 11 := hV.1.2.2.2
  refine am_aload_n (pc := 0) C dX12_reserves_0 rfl ?_
  refine am_iconstN (pc := 1) (k := 0) C dX12_reserves_1 ?_
  refine am_putI (pc := 2) C dX12_reserves_2 f12_3 bn_322 sh_322 rfl rfl ?_
  refine am_hp (show am_up h 322 0 (nI 0) = am_row h 322 (upd (h 322) 0 (nI 0)) from am_up_rw _ _ _ _) ?_
  refine am_aload_n (pc := 5) C dX12_reserves_5 rfl ?_
  refine am_iload_n (pc := 6) C dX12_reserves_6 rfl ?_
  refine am_callSi (Y := mX12_noSide) (pc := 7) (st := [.ref 322]) (As := [.int d]) (x := (am_b (!rf_in d (nI 0) (nI 1)))) (h2 := (am_row h 322 (upd (h 322) 0 (nI 0)))) C dX12_reserves_7 k12_393 v_X12_noSide rfl rfl (by decide) (Nat.zero_le _) (Nat.zero_le _) (Nat.le_of_ble_eq_true rfl) (c_X12_noSide hR d) ?_
  refine am_iconstN (pc := 10) (k := 1) C dX12_reserves_10 ?_
  refine am_callVi (Y := mX12_throwsIf) (pc := 11) (st := []) (As := [.int (am_b (!rf_in d (nI 0) (nI 1))), .int (nI 1)]) (x := (am_b (!rf_in d (nI 0) (nI 1)))) (h2 := (am_row (am_row h 322 (upd (h 322) 0 (nI 0))) 322 (bif (!rf_in d (nI 0) (nI 1)) then upd (upd (h 322) 0 (nI 0)) 0 (nI 1) else (upd (h 322) 0 (nI 0))))) C dX12_reserves_11 k12_269 v_X12_throwsIf rfl rfl bn_322 sh_322 ⟨by decide, rfl⟩ (by decide) (Nat.zero_le _) (Nat.zero_le _) (Nat.le_of_ble_eq_true rfl) (c_X12_throwsIf hR (!rf_in d (nI 0) (nI 1)) (nI 1)) ?_
  refine am_hp (show (am_row (am_row h 322 (upd (h 322) 0 (nI 0))) 322 (bif (!rf_in d (nI 0) (nI 1)) then upd (upd (h 322) 0 (nI 0)) 0 (nI 1) else (upd (h 322) 0 (nI 0)))) = (am_row h 322 (bif (!rf_in d (nI 0) (nI 1)) then upd (upd (h 322) 0 (nI 0)) 0 (nI 1) else (upd (h 322) 0 (nI 0)))) from am_row_s0) ?_
  refine am_if_neB (pc := 14) (tgt := 40) C dX12_reserves_14 (by decide) (fun q14 => ?_) (fun q14 => ?_)
  · skip
    refine am_hp (show (am_row h 322 (bif (!rf_in d (nI 0) (nI 1)) then upd (upd (h 322) 0 (nI 0)) 0 (nI 1) else (upd (h 322) 0 (nI 0)))) = (am_row h 322 (upd (upd (h 322) 0 (nI 0)) 0 (nI 1))) from by rw [q14]; rfl) ?_
    refine am_iconstN (pc := 40) (k := 0) C dX12_reserves_40 ?_
    have K9 : rf_c_reserves (h 323) d k = 1 := (by unfold rf_c_reserves; exact (rf_cb_t q14))
    exact am_ireti T dX12_reserves_41 rfl (Nat.le_refl _) (Nat.le_refl _) (by rw [K9]; rfl) rfl (by rw [K9]; exact congrArg (am_row _ 322) rf_upd_upd)
  · skip
    refine am_hp (show (am_row h 322 (bif (!rf_in d (nI 0) (nI 1)) then upd (upd (h 322) 0 (nI 0)) 0 (nI 1) else (upd (h 322) 0 (nI 0)))) = (am_row h 322 (upd (h 322) 0 (nI 0))) from by rw [q14]; rfl) ?_
    refine am_aload_n (pc := 17) C dX12_reserves_17 rfl ?_
    refine am_iload_n (pc := 18) C dX12_reserves_18 rfl ?_
    refine am_iconstN (pc := 19) (k := 1) C dX12_reserves_19 ?_
    refine am_bipush (pc := 20) (v := nI 10) C dX12_reserves_20 (by decide) ?_
    refine am_callSi (Y := mX12_in) (pc := 22) (st := [.ref 322]) (As := [.int k, .int (nI 1), .int (nI 10)]) (x := (am_b (rf_in k (nI 1) (nI 10)))) (h2 := (am_row h 322 (upd (h 322) 0 (nI 0)))) C dX12_reserves_22 k12_71 v_X12_in rfl rfl (by decide) (Nat.zero_le _) (Nat.zero_le _) (Nat.le_of_ble_eq_true rfl) (c_X12_in hR k (nI 1) (nI 10)) ?_
    refine am_if_neB (pc := 25) (tgt := 32) C dX12_reserves_25 (by decide) (fun q25 => ?_) (fun q25 => ?_)
    · skip
      refine am_iconstN (pc := 32) (k := 0) C dX12_reserves_32 ?_
      refine am_top (show (nI 0) = (am_b false) from rfl) ?_
      refine am_iconstN (pc := 33) (k := 2) C dX12_reserves_33 ?_
      refine am_callVi (Y := mX12_throwsIf) (pc := 34) (st := []) (As := [.int (am_b false), .int (nI 2)]) (x := (am_b false)) (h2 := (am_row (am_row h 322 (upd (h 322) 0 (nI 0))) 322 (bif false then upd (upd (h 322) 0 (nI 0)) 0 (nI 2) else (upd (h 322) 0 (nI 0))))) C dX12_reserves_34 k12_269 v_X12_throwsIf rfl rfl bn_322 sh_322 ⟨by decide, rfl⟩ (by decide) (Nat.zero_le _) (Nat.zero_le _) (Nat.le_of_ble_eq_true rfl) (c_X12_throwsIf hR false (nI 2)) ?_
      refine am_hp (show (am_row (am_row h 322 (upd (h 322) 0 (nI 0))) 322 (bif false then upd (upd (h 322) 0 (nI 0)) 0 (nI 2) else (upd (h 322) 0 (nI 0)))) = (am_row h 322 (bif false then upd (upd (h 322) 0 (nI 0)) 0 (nI 2) else (upd (h 322) 0 (nI 0)))) from am_row_s0) ?_
      refine am_hp (show (am_row h 322 (bif false then upd (upd (h 322) 0 (nI 0)) 0 (nI 2) else (upd (h 322) 0 (nI 0)))) = (am_row h 322 (upd (h 322) 0 (nI 0))) from rfl) ?_
      refine am_if_eqB (pc := 37) (tgt := 42) C dX12_reserves_37 (by decide) (fun q37 => ?_) (fun q37 => ?_)
      · skip
        have K9 : rf_c_reserves (h 323) d k = 0 := by unfold rf_c_reserves; exact ((rf_cb_f q14).trans (rf_cb_nf q25))
        have hd := rf_side_q q14
        have hd2 := hd.2
        have hk := (rf_in_n (by decide) (by decide) q25).1
        have hk2 := hk.2
        refine am_lsv (ls' := [(0, .ref 322), (1, .int (nI (rf_nat d))), (2, .int k)]) (congrArg (fun z9 : Int32 => ([(0, .ref 322), (1, Value.int z9), (2, .int k)] : List (Nat × Value))) (show d = (nI (rf_nat d)) from hd.1)) ?_
        refine am_lsv (ls' := [(0, .ref 322), (1, .int (nI (rf_nat d))), (2, .int (nI (rf_nat k)))]) (congrArg (fun z9 : Int32 => ([(0, .ref 322), (1, .int (nI (rf_nat d))), (2, Value.int z9)] : List (Nat × Value))) (show k = (nI (rf_nat k)) from hk.1)) ?_
        refine am_iconstN (pc := 42) (k := 0) C dX12_reserves_42 ?_
        refine am_istore_n (pc := 43) (ls' := [(0, .ref 322), (1, .int (nI (rf_nat d))), (2, .int (nI (rf_nat k))), (3, .int (nI 0))]) C dX12_reserves_43 (by decide) rfl ?_
        refine am_iconstN (pc := 44) (k := 0) C dX12_reserves_44 ?_
        refine am_istore (pc := 45) (ls' := [(0, .ref 322), (1, .int (nI (rf_nat d))), (2, .int (nI (rf_nat k))), (3, .int (nI 0)), (4, .int (nI 0))]) C dX12_reserves_45 (by decide) rfl ?_
        have L47 : ∀ (j47 : Nat) (m : Nat) (x : Int32), (hmj : m + j47 = rf_M (h 323)) → (hms : rf_rv (h 323) (rf_nat d) (rf_nat k) j47 m x = rf_rv (h 323) (rf_nat d) (rf_nat k) (rf_M (h 323)) 0 (nI 0)) → am_G X (am_VV ad) (0, 0) 47 [(0, .ref 322), (1, .int (nI (rf_nat d))), (2, .int (nI (rf_nat k))), (3, .int x), (4, .int (nI m))] [] r (am_row h 322 (upd (h 322) 0 (nI 0))) := by
          intro j47
          induction j47 with
          | zero =>
            intro m x hmj hms
            refine am_iload (pc := 47) C dX12_reserves_47 rfl ?_
            refine am_aload_n (pc := 49) C dX12_reserves_49 rfl ?_
            refine am_callVi (Y := mX12_memories) (pc := 50) (st := [.int (nI m)]) (As := []) (x := (nI (rf_M (h 323)))) (h2 := (am_row h 322 (upd (h 322) 0 (nI 0)))) C dX12_reserves_50 k12_67 v_X12_memories rfl rfl bn_322 sh_322 ⟨by decide, rfl⟩ (by decide) (Nat.zero_le _) (Nat.zero_le _) (Nat.le_of_ble_eq_true rfl) (c_X12_memories hR (show rf_Cn (h 323) from hV.1)) ?_
            refine am_icmp_geN (pc := 53) (tgt := 167) C dX12_reserves_53 (by decide) (by omega) (by omega) (fun q53 => ?_) (fun q53 => ?_)
            · skip
              refine am_iload_n (pc := 167) C dX12_reserves_167 rfl ?_
              have A9 : rf_a_reserves (h 323) d k = x := (by unfold rf_a_reserves; exact hms.symm)
              exact am_ireti T dX12_reserves_168 rfl (Nat.le_refl _) (Nat.le_refl _) (by rw [K9]; exact A9.symm) rfl (by rw [K9]; exact rfl)
            · skip
              exact absurd hmj (by omega)
          | succ j47 ih47 =>
            intro m x hmj hms
            refine am_iload (pc := 47) C dX12_reserves_47 rfl ?_
            refine am_aload_n (pc := 49) C dX12_reserves_49 rfl ?_
            refine am_callVi (Y := mX12_memories) (pc := 50) (st := [.int (nI m)]) (As := []) (x := (nI (rf_M (h 323)))) (h2 := (am_row h 322 (upd (h 322) 0 (nI 0)))) C dX12_reserves_50 k12_67 v_X12_memories rfl rfl bn_322 sh_322 ⟨by decide, rfl⟩ (by decide) (Nat.zero_le _) (Nat.zero_le _) (Nat.le_of_ble_eq_true rfl) (c_X12_memories hR (show rf_Cn (h 323) from hV.1)) ?_
            refine am_icmp_geN (pc := 53) (tgt := 167) C dX12_reserves_53 (by decide) (by omega) (by omega) (fun q53 => ?_) (fun q53 => ?_)
            · skip
              exact absurd q53 (by omega)
            · skip
              refine am_aload_n (pc := 56) C dX12_reserves_56 rfl ?_
              refine am_getR (pc := 57) (j := 323) C dX12_reserves_57 f12_13 bn_322 sh_322 (rf_322_1 hR) ?_
              refine am_bipush (pc := 60) (v := nI 11) C dX12_reserves_60 (by decide) ?_
              refine am_iload_n (pc := 62) C dX12_reserves_62 rfl ?_
              refine am_iaddN (pc := 63) C dX12_reserves_63 ?_
              refine am_iaload (pc := 64) C dX12_reserves_64 bn_323 sh_323 (vp_in_nI (by omega) (by decide)) ?_
              refine am_top (show (h 323) (nI (11 + (rf_nat d))).toNatClampNeg = (h 323) (11 + (rf_nat d)) from by rw [nI_clamp (by omega)]) ?_
              refine am_iload (pc := 65) C dX12_reserves_65 rfl ?_
              refine am_callSi (Y := mX12_has) (pc := 67) (st := []) (As := [.int ((h 323) (11 + (rf_nat d))), .int (nI m)]) (x := (am_b (am_bt ((h 323) (11 + (rf_nat d))) m))) (h2 := (am_row h 322 (upd (h 322) 0 (nI 0)))) C dX12_reserves_67 k12_81 v_X12_has rfl rfl (by decide) (Nat.zero_le _) (Nat.zero_le _) (Nat.le_of_ble_eq_true rfl) (c_X12_has hR ((h 323) (11 + (rf_nat d))) m (show m < 32 from by omega)) ?_
              refine am_if_neB (pc := 70) (tgt := 76) C dX12_reserves_70 (by decide) (fun q70 => ?_) (fun q70 => ?_)
              · skip
                refine am_iconstN (pc := 76) (k := 0) C dX12_reserves_76 ?_
                refine am_iload_n (pc := 77) C dX12_reserves_77 rfl ?_
                refine am_aload_n (pc := 78) C dX12_reserves_78 rfl ?_
                refine am_iload_n (pc := 79) C dX12_reserves_79 rfl ?_
                refine am_iload (pc := 80) C dX12_reserves_80 rfl ?_
                refine am_callVi (Y := mX12_usersOf) (pc := 82) (st := [.int (nI (rf_nat k)), .int (nI 0)]) (As := [.int (nI (rf_nat d)), .int (nI m)]) (x := (rf_usersOf (h 323) (nI (rf_nat d)) m)) (h2 := (am_row h 322 (upd (h 322) 0 (nI 0)))) C dX12_reserves_82 k12_390 v_X12_usersOf rfl rfl bn_322 sh_322 ⟨by decide, rfl⟩ (by decide) (Nat.zero_le _) (Nat.zero_le _) (Nat.le_of_ble_eq_true rfl) (c_X12_usersOf hR (nI (rf_nat d)) m hV (show m < 32 from by omega)) ?_
                refine am_callSi (Y := mJ6_bitCount_0f7a4) (pc := 85) (st := [.int (nI (rf_nat k)), .int (nI 0)]) (As := [.int (rf_usersOf (h 323) (nI (rf_nat d)) m)]) (x := (rf_pc (rf_usersOf (h 323) (nI (rf_nat d)) m))) (h2 := (am_row h 322 (upd (h 322) 0 (nI 0)))) C dX12_reserves_85 k12_278 v_J6_bitCount_0f7a4 rfl rfl (by decide) (Nat.zero_le _) (Nat.zero_le _) (Nat.le_of_ble_eq_true rfl) (c_J6_bitCount_0f7a4 hR (rf_usersOf (h 323) (nI (rf_nat d)) m)) ?_
                refine am_isub (pc := 88) C dX12_reserves_88 ?_
                refine am_callSi (Y := mJ9_max_7cf53) (pc := 89) (st := []) (As := [.int (nI 0), .int ((nI (rf_nat k)) - (rf_pc (rf_usersOf (h 323) (nI (rf_nat d)) m)))]) (x := (rf_max (nI 0) ((nI (rf_nat k)) - (rf_pc (rf_usersOf (h 323) (nI (rf_nat d)) m))))) (h2 := (am_row h 322 (upd (h 322) 0 (nI 0)))) C dX12_reserves_89 k12_402 v_J9_max_7cf53 rfl rfl (by decide) (Nat.zero_le _) (Nat.zero_le _) (Nat.le_of_ble_eq_true rfl) (c_J9_max_7cf53 hR (nI 0) ((nI (rf_nat k)) - (rf_pc (rf_usersOf (h 323) (nI (rf_nat d)) m)))) ?_
                refine am_top (show (rf_max (nI 0) ((nI (rf_nat k)) - (rf_pc (rf_usersOf (h 323) (nI (rf_nat d)) m)))) = (rf_lack (h 323) (rf_nat d) (rf_nat k) m) from rfl) ?_
                refine am_istore (pc := 92) (ls' := [(0, .ref 322), (1, .int (nI (rf_nat d))), (2, .int (nI (rf_nat k))), (3, .int x), (4, .int (nI m)), (5, .int (rf_lack (h 323) (rf_nat d) (rf_nat k) m))]) C dX12_reserves_92 (by decide) rfl ?_
                refine am_iconstN (pc := 94) (k := 0) C dX12_reserves_94 ?_
                refine am_istore (pc := 95) (ls' := [(0, .ref 322), (1, .int (nI (rf_nat d))), (2, .int (nI (rf_nat k))), (3, .int x), (4, .int (nI m)), (5, .int (rf_lack (h 323) (rf_nat d) (rf_nat k) m)), (6, .int (nI 0))]) C dX12_reserves_95 (by decide) rfl ?_
                refine am_iconstN (pc := 97) (k := 0) C dX12_reserves_97 ?_
                refine am_istore (pc := 98) (ls' := [(0, .ref 322), (1, .int (nI (rf_nat d))), (2, .int (nI (rf_nat k))), (3, .int x), (4, .int (nI m)), (5, .int (rf_lack (h 323) (rf_nat d) (rf_nat k) m)), (6, .int (nI 0)), (7, .int (nI 0))]) C dX12_reserves_98 (by decide) rfl ?_
                have L100 : ∀ (j100 i100 : Nat), i100 + j100 = rf_S (h 323) → am_G X (am_VV ad) (0, 0) 100 [(0, .ref 322), (1, .int (nI (rf_nat d))), (2, .int (nI (rf_nat k))), (3, .int x), (4, .int (nI m)), (5, .int (rf_lack (h 323) (rf_nat d) (rf_nat k) m)), (6, .int (nI (rf_cnt (fun s => decide (rf_of (h 323) s 0 = nI (rf_nat d)) && rf_can (h 323) s m) i100))), (7, .int (nI i100))] [] r (am_row h 322 (upd (h 322) 0 (nI 0))) := by
                  intro j100
                  induction j100 with
                  | zero =>
                    intro i100 hi100 
                    obtain rfl : i100 = rf_S (h 323) := by omega
                    refine am_iload (pc := 100) C dX12_reserves_100 rfl ?_
                    refine am_aload_n (pc := 102) C dX12_reserves_102 rfl ?_
                    refine am_callVi (Y := mX12_soldiers) (pc := 103) (st := [.int (nI (rf_S (h 323)))]) (As := []) (x := (nI (rf_S (h 323)))) (h2 := (am_row h 322 (upd (h 322) 0 (nI 0)))) C dX12_reserves_103 k12_75 v_X12_soldiers rfl rfl bn_322 sh_322 ⟨by decide, rfl⟩ (by decide) (Nat.zero_le _) (Nat.zero_le _) (Nat.le_of_ble_eq_true rfl) (c_X12_soldiers hR (show rf_Cn (h 323) from hV.1)) ?_
                    refine am_icmp_geN (pc := 106) (tgt := 147) C dX12_reserves_106 (by decide) (by omega) (by omega) (fun q106 => ?_) (fun q106 => ?_)
                    · skip
                      refine am_iload (pc := 147) C dX12_reserves_147 rfl ?_
                      refine am_iload (pc := 149) C dX12_reserves_149 rfl ?_
                      have hab := rf_cnt_le (fun s => decide (rf_of (h 323) s 0 = nI (rf_nat d)) && rf_can (h 323) s m) (rf_S (h 323))
                      refine am_top (show (nI (rf_cnt (fun s => decide (rf_of (h 323) s 0 = nI (rf_nat d)) && rf_can (h 323) s m) (rf_S (h 323)))) = (nI (rf_able (h 323) (nI (rf_nat d)) m)) from rfl) ?_
                      refine am_icmp_le (pc := 151) (tgt := 156) C dX12_reserves_151 (by decide) (fun q151 => ?_) (fun q151 => ?_)
                      · skip
                        refine am_iload_n (pc := 156) C dX12_reserves_156 rfl ?_
                        refine am_iload (pc := 157) C dX12_reserves_157 rfl ?_
                        refine am_iadd (pc := 159) C dX12_reserves_159 ?_
                        refine am_istore_n (pc := 160) (ls' := [(0, .ref 322), (1, .int (nI (rf_nat d))), (2, .int (nI (rf_nat k))), (3, .int (x + (rf_lack (h 323) (rf_nat d) (rf_nat k) m))), (4, .int (nI m)), (5, .int (rf_lack (h 323) (rf_nat d) (rf_nat k) m)), (6, .int (nI (rf_cnt (fun s => decide (rf_of (h 323) s 0 = nI (rf_nat d)) && rf_can (h 323) s m) (rf_S (h 323))))), (7, .int (nI (rf_S (h 323))))]) C dX12_reserves_160 (by decide) rfl ?_
                        refine am_iincN (pc := 161) (ls' := [(0, .ref 322), (1, .int (nI (rf_nat d))), (2, .int (nI (rf_nat k))), (3, .int (x + (rf_lack (h 323) (rf_nat d) (rf_nat k) m))), (4, .int (nI (m + 1))), (5, .int (rf_lack (h 323) (rf_nat d) (rf_nat k) m)), (6, .int (nI (rf_cnt (fun s => decide (rf_of (h 323) s 0 = nI (rf_nat d)) && rf_can (h 323) s m) (rf_S (h 323))))), (7, .int (nI (rf_S (h 323))))]) C dX12_reserves_161 rfl (am_up1 _) (by decide) rfl ?_
                        refine am_goto (pc := 164) (tgt := 47) C dX12_reserves_164 (by decide) ?_
                        refine am_sub (ls' := [(0, .ref 322), (1, .int (nI (rf_nat d))), (2, .int (nI (rf_nat k))), (3, .int (x + (rf_lack (h 323) (rf_nat d) (rf_nat k) m))), (4, .int (nI (m + 1)))]) (by intro q hq; simp only [List.mem_cons, List.not_mem_nil, or_false] at hq ⊢; rcases hq with rfl | rfl | rfl | rfl | rfl <;> simp) ?_
                        exact ih47 (m + 1) (x + (rf_lack (h 323) (rf_nat d) (rf_nat k) m)) (by omega) (by rw [← hms, rf_rv, if_neg (by rw [q70]; decide), if_pos q151])
                      · skip
                        refine am_iconst (pc := 154) (v := -1) C dX12_reserves_154 rfl ?_
                        have A9 : rf_a_reserves (h 323) d k = (-1) := (by rw [rf_a_reserves, ← hms, rf_rv, if_neg (by rw [q70]; decide), if_neg q151])
                        exact am_ireti T dX12_reserves_155 rfl (Nat.le_refl _) (Nat.le_refl _) (by rw [K9]; exact A9.symm) rfl (by rw [K9]; exact rfl)
                    · skip
                      exact absurd q106 (by omega)
                  | succ j100 ih100 =>
                    intro i100 hi100 
                    have hl100 : i100 < rf_S (h 323) := by omega
                    refine am_iload (pc := 100) C dX12_reserves_100 rfl ?_
                    refine am_aload_n (pc := 102) C dX12_reserves_102 rfl ?_
                    refine am_callVi (Y := mX12_soldiers) (pc := 103) (st := [.int (nI i100)]) (As := []) (x := (nI (rf_S (h 323)))) (h2 := (am_row h 322 (upd (h 322) 0 (nI 0)))) C dX12_reserves_103 k12_75 v_X12_soldiers rfl rfl bn_322 sh_322 ⟨by decide, rfl⟩ (by decide) (Nat.zero_le _) (Nat.zero_le _) (Nat.le_of_ble_eq_true rfl) (c_X12_soldiers hR (show rf_Cn (h 323) from hV.1)) ?_
                    refine am_icmp_geN (pc := 106) (tgt := 147) C dX12_reserves_106 (by decide) (by omega) (by omega) (fun q106 => ?_) (fun q106 => ?_)
                    · skip
                      exact absurd q106 (by omega)
                    · skip
                      refine am_iload (pc := 109) C dX12_reserves_109 rfl ?_
                      refine am_aload_n (pc := 111) C dX12_reserves_111 rfl ?_
                      refine am_iload (pc := 112) C dX12_reserves_112 rfl ?_
                      refine am_iconstN (pc := 114) (k := 0) C dX12_reserves_114 ?_
                      refine am_callVi (Y := mX12_of) (pc := 115) (st := [.int (nI (rf_cnt (fun s => decide (rf_of (h 323) s 0 = nI (rf_nat d)) && rf_can (h 323) s m) i100))]) (As := [.int (nI i100), .int (nI 0)]) (x := (rf_of (h 323) i100 0)) (h2 := (am_row h 322 (upd (h 322) 0 (nI 0)))) C dX12_reserves_115 k12_63 v_X12_of rfl rfl bn_322 sh_322 ⟨by decide, rfl⟩ (by decide) (Nat.zero_le _) (Nat.zero_le _) (Nat.le_of_ble_eq_true rfl) (c_X12_of hR i100 0 (show i100 < 11 from by omega) (show 0 < 23 from by omega)) ?_
                      refine am_iload_n (pc := 118) C dX12_reserves_118 rfl ?_
                      refine am_icmp_ne (pc := 119) (tgt := 137) C dX12_reserves_119 (by decide) (fun q119 => ?_) (fun q119 => ?_)
                      · skip
                        refine am_iconstN (pc := 137) (k := 0) C dX12_reserves_137 ?_
                        refine am_iaddN (pc := 138) C dX12_reserves_138 ?_
                        refine am_istore (pc := 139) (ls' := [(0, .ref 322), (1, .int (nI (rf_nat d))), (2, .int (nI (rf_nat k))), (3, .int x), (4, .int (nI m)), (5, .int (rf_lack (h 323) (rf_nat d) (rf_nat k) m)), (6, .int (nI ((rf_cnt (fun s => decide (rf_of (h 323) s 0 = nI (rf_nat d)) && rf_can (h 323) s m) i100) + 0))), (7, .int (nI i100))]) C dX12_reserves_139 (by decide) rfl ?_
                        refine am_iincN (pc := 141) (ls' := [(0, .ref 322), (1, .int (nI (rf_nat d))), (2, .int (nI (rf_nat k))), (3, .int x), (4, .int (nI m)), (5, .int (rf_lack (h 323) (rf_nat d) (rf_nat k) m)), (6, .int (nI ((rf_cnt (fun s => decide (rf_of (h 323) s 0 = nI (rf_nat d)) && rf_can (h 323) s m) i100) + 0))), (7, .int (nI (i100 + 1)))]) C dX12_reserves_141 rfl (am_up1 _) (by decide) rfl ?_
                        refine am_goto (pc := 144) (tgt := 100) C dX12_reserves_144 (by decide) ?_
                        refine am_lsv (ls' := [(0, .ref 322), (1, .int (nI (rf_nat d))), (2, .int (nI (rf_nat k))), (3, .int x), (4, .int (nI m)), (5, .int (rf_lack (h 323) (rf_nat d) (rf_nat k) m)), (6, .int (nI (rf_cnt (fun s => decide (rf_of (h 323) s 0 = nI (rf_nat d)) && rf_can (h 323) s m) (i100 + 1)))), (7, .int (nI (i100 + 1)))]) (by rw [show (nI ((rf_cnt (fun s => decide (rf_of (h 323) s 0 = nI (rf_nat d)) && rf_can (h 323) s m) i100) + 0)) = (nI (rf_cnt (fun s => decide (rf_of (h 323) s 0 = nI (rf_nat d)) && rf_can (h 323) s m) (i100 + 1))) from rf_cnt_f (by rw [decide_eq_false q119]; rfl)]) ?_
                        exact ih100 (i100 + 1) (by omega) 
                      · skip
                        refine am_aload_n (pc := 122) C dX12_reserves_122 rfl ?_
                        refine am_iload (pc := 123) C dX12_reserves_123 rfl ?_
                        refine am_iload (pc := 125) C dX12_reserves_125 rfl ?_
                        refine am_callVi (Y := mX12_canLearn) (pc := 127) (st := [.int (nI (rf_cnt (fun s => decide (rf_of (h 323) s 0 = nI (rf_nat d)) && rf_can (h 323) s m) i100))]) (As := [.int (nI i100), .int (nI m)]) (x := (am_b (rf_can (h 323) i100 m))) (h2 := (am_row h 322 (upd (h 322) 0 (nI 0)))) C dX12_reserves_127 k12_363 v_X12_canLearn rfl rfl bn_322 sh_322 ⟨by decide, rfl⟩ (by decide) (Nat.zero_le _) (Nat.zero_le _) (Nat.le_of_ble_eq_true rfl) (c_X12_canLearn hR i100 m hV (show i100 < rf_S (h 323) from by omega) (show m < 16 from by omega)) ?_
                        refine am_if_eqB (pc := 130) (tgt := 137) C dX12_reserves_130 (by decide) (fun q130 => ?_) (fun q130 => ?_)
                        · skip
                          refine am_iconstN (pc := 137) (k := 0) C dX12_reserves_137 ?_
                          refine am_iaddN (pc := 138) C dX12_reserves_138 ?_
                          refine am_istore (pc := 139) (ls' := [(0, .ref 322), (1, .int (nI (rf_nat d))), (2, .int (nI (rf_nat k))), (3, .int x), (4, .int (nI m)), (5, .int (rf_lack (h 323) (rf_nat d) (rf_nat k) m)), (6, .int (nI ((rf_cnt (fun s => decide (rf_of (h 323) s 0 = nI (rf_nat d)) && rf_can (h 323) s m) i100) + 0))), (7, .int (nI i100))]) C dX12_reserves_139 (by decide) rfl ?_
                          refine am_iincN (pc := 141) (ls' := [(0, .ref 322), (1, .int (nI (rf_nat d))), (2, .int (nI (rf_nat k))), (3, .int x), (4, .int (nI m)), (5, .int (rf_lack (h 323) (rf_nat d) (rf_nat k) m)), (6, .int (nI ((rf_cnt (fun s => decide (rf_of (h 323) s 0 = nI (rf_nat d)) && rf_can (h 323) s m) i100) + 0))), (7, .int (nI (i100 + 1)))]) C dX12_reserves_141 rfl (am_up1 _) (by decide) rfl ?_
                          refine am_goto (pc := 144) (tgt := 100) C dX12_reserves_144 (by decide) ?_
                          refine am_lsv (ls' := [(0, .ref 322), (1, .int (nI (rf_nat d))), (2, .int (nI (rf_nat k))), (3, .int x), (4, .int (nI m)), (5, .int (rf_lack (h 323) (rf_nat d) (rf_nat k) m)), (6, .int (nI (rf_cnt (fun s => decide (rf_of (h 323) s 0 = nI (rf_nat d)) && rf_can (h 323) s m) (i100 + 1)))), (7, .int (nI (i100 + 1)))]) (by rw [show (nI ((rf_cnt (fun s => decide (rf_of (h 323) s 0 = nI (rf_nat d)) && rf_can (h 323) s m) i100) + 0)) = (nI (rf_cnt (fun s => decide (rf_of (h 323) s 0 = nI (rf_nat d)) && rf_can (h 323) s m) (i100 + 1))) from rf_cnt_f (by rw [q130, Bool.and_false])]) ?_
                          exact ih100 (i100 + 1) (by omega) 
                        · skip
                          refine am_iconstN (pc := 133) (k := 1) C dX12_reserves_133 ?_
                          refine am_goto (pc := 134) (tgt := 138) C dX12_reserves_134 (by decide) ?_
                          refine am_iaddN (pc := 138) C dX12_reserves_138 ?_
                          refine am_istore (pc := 139) (ls' := [(0, .ref 322), (1, .int (nI (rf_nat d))), (2, .int (nI (rf_nat k))), (3, .int x), (4, .int (nI m)), (5, .int (rf_lack (h 323) (rf_nat d) (rf_nat k) m)), (6, .int (nI ((rf_cnt (fun s => decide (rf_of (h 323) s 0 = nI (rf_nat d)) && rf_can (h 323) s m) i100) + 1))), (7, .int (nI i100))]) C dX12_reserves_139 (by decide) rfl ?_
                          refine am_iincN (pc := 141) (ls' := [(0, .ref 322), (1, .int (nI (rf_nat d))), (2, .int (nI (rf_nat k))), (3, .int x), (4, .int (nI m)), (5, .int (rf_lack (h 323) (rf_nat d) (rf_nat k) m)), (6, .int (nI ((rf_cnt (fun s => decide (rf_of (h 323) s 0 = nI (rf_nat d)) && rf_can (h 323) s m) i100) + 1))), (7, .int (nI (i100 + 1)))]) C dX12_reserves_141 rfl (am_up1 _) (by decide) rfl ?_
                          refine am_goto (pc := 144) (tgt := 100) C dX12_reserves_144 (by decide) ?_
                          refine am_lsv (ls' := [(0, .ref 322), (1, .int (nI (rf_nat d))), (2, .int (nI (rf_nat k))), (3, .int x), (4, .int (nI m)), (5, .int (rf_lack (h 323) (rf_nat d) (rf_nat k) m)), (6, .int (nI (rf_cnt (fun s => decide (rf_of (h 323) s 0 = nI (rf_nat d)) && rf_can (h 323) s m) (i100 + 1)))), (7, .int (nI (i100 + 1)))]) (by rw [show (nI ((rf_cnt (fun s => decide (rf_of (h 323) s 0 = nI (rf_nat d)) && rf_can (h 323) s m) i100) + 1)) = (nI (rf_cnt (fun s => decide (rf_of (h 323) s 0 = nI (rf_nat d)) && rf_can (h 323) s m) (i100 + 1))) from rf_cnt_t (by rw [decide_eq_true q119, q130]; rfl)]) ?_
                          exact ih100 (i100 + 1) (by omega) 
                exact L100 (rf_S (h 323)) 0 (by omega) 
              · skip
                refine am_goto (pc := 73) (tgt := 161) C dX12_reserves_73 (by decide) ?_
                refine am_iincN (pc := 161) (ls' := [(0, .ref 322), (1, .int (nI (rf_nat d))), (2, .int (nI (rf_nat k))), (3, .int x), (4, .int (nI (m + 1)))]) C dX12_reserves_161 rfl (am_up1 _) (by decide) rfl ?_
                refine am_goto (pc := 164) (tgt := 47) C dX12_reserves_164 (by decide) ?_
                exact ih47 (m + 1) x (by omega) (by rw [← hms, rf_rv, if_pos q70])
        exact L47 (rf_M (h 323)) 0 (nI 0) (by omega) rfl
      · skip
        exact Bool.noConfusion q37
    · skip
      refine am_iconstN (pc := 28) (k := 1) C dX12_reserves_28 ?_
      refine am_goto (pc := 29) (tgt := 33) C dX12_reserves_29 (by decide) ?_
      refine am_top (show (nI 1) = (am_b true) from rfl) ?_
      refine am_iconstN (pc := 33) (k := 2) C dX12_reserves_33 ?_
      refine am_callVi (Y := mX12_throwsIf) (pc := 34) (st := []) (As := [.int (am_b true), .int (nI 2)]) (x := (am_b true)) (h2 := (am_row (am_row h 322 (upd (h 322) 0 (nI 0))) 322 (bif true then upd (upd (h 322) 0 (nI 0)) 0 (nI 2) else (upd (h 322) 0 (nI 0))))) C dX12_reserves_34 k12_269 v_X12_throwsIf rfl rfl bn_322 sh_322 ⟨by decide, rfl⟩ (by decide) (Nat.zero_le _) (Nat.zero_le _) (Nat.le_of_ble_eq_true rfl) (c_X12_throwsIf hR true (nI 2)) ?_
      refine am_hp (show (am_row (am_row h 322 (upd (h 322) 0 (nI 0))) 322 (bif true then upd (upd (h 322) 0 (nI 0)) 0 (nI 2) else (upd (h 322) 0 (nI 0)))) = (am_row h 322 (bif true then upd (upd (h 322) 0 (nI 0)) 0 (nI 2) else (upd (h 322) 0 (nI 0)))) from am_row_s0) ?_
      refine am_hp (show (am_row h 322 (bif true then upd (upd (h 322) 0 (nI 0)) 0 (nI 2) else (upd (h 322) 0 (nI 0)))) = (am_row h 322 (upd (upd (h 322) 0 (nI 0)) 0 (nI 2))) from rfl) ?_
      refine am_if_eqB (pc := 37) (tgt := 42) C dX12_reserves_37 (by decide) (fun q37 => ?_) (fun q37 => ?_)
      · skip
        exact Bool.noConfusion q37
      · skip
        refine am_iconstN (pc := 40) (k := 0) C dX12_reserves_40 ?_
        have K9 : rf_c_reserves (h 323) d k = 2 := (by unfold rf_c_reserves; exact ((rf_cb_f q14).trans (rf_cb_nt q25)))
        exact am_ireti T dX12_reserves_41 rfl (Nat.le_refl _) (Nat.le_refl _) (by rw [K9]; rfl) rfl (by rw [K9]; exact congrArg (am_row _ 322) rf_upd_upd)

set_option maxHeartbeats 400000 in
set_option maxRecDepth 100000 in
theorem c_X12_drill {ad : Nat → Nat} {r : am_R} (hR : am_rs r) {h : am_H} (many : Bool) (hV : rf_I (h 323))  : am_CM mX12_drill 3 0 0 [.ref 322, .int (am_b many)] (am_VV ad) r h (am_po (some (.int (rf_ga (rf_c_drill (h 323) many) (rf_a_drill (h 323) many)))) r (am_row h 322 (rf_oc (h 322) (rf_c_drill (h 323) many)))) := by
  refine am_CM.of (by decide +kernel) (Nat.le_of_ble_eq_true rfl) (fun X C T => ?_)
  show am_G X (am_VV ad) (0, 0) 0 [(0, .ref 322), (1, .int (am_b many))] [] r h
  have hM9 : rf_M (h 323) < 17 := hV.1.1.2
  have hS9 : rf_S (h 323) < 11 := hV.1.2.1.2
  have hO9 : rf_O (h 323) < 11 := hV.1.2.2.2
  refine am_aload_n (pc := 0) C dX12_drill_0 rfl ?_
  refine am_iconstN (pc := 1) (k := 0) C dX12_drill_1 ?_
  refine am_putI (pc := 2) C dX12_drill_2 f12_3 bn_322 sh_322 rfl rfl ?_
  refine am_hp (show am_up h 322 0 (nI 0) = am_row h 322 (upd (h 322) 0 (nI 0)) from am_up_rw _ _ _ _) ?_
  have K9 : rf_c_drill (h 323) many = 0 := rfl
  refine am_iconst (pc := 5) (v := -1) C dX12_drill_5 rfl ?_
  refine am_istore_n (pc := 6) (ls' := [(0, .ref 322), (1, .int (am_b many)), (2, .int (-1))]) C dX12_drill_6 (by decide) rfl ?_
  refine am_iconst (pc := 7) (v := -1) C dX12_drill_7 rfl ?_
  refine am_istore_n (pc := 8) (ls' := [(0, .ref 322), (1, .int (am_b many)), (2, .int (-1)), (3, .int (-1))]) C dX12_drill_8 (by decide) rfl ?_
  refine am_iconstN (pc := 9) (k := 0) C dX12_drill_9 ?_
  refine am_istore (pc := 10) (ls' := [(0, .ref 322), (1, .int (am_b many)), (2, .int (-1)), (3, .int (-1)), (4, .int (nI 0))]) C dX12_drill_10 (by decide) rfl ?_
  have L12 : ∀ (j12 i12 : Nat), i12 + j12 = rf_O (h 323) → am_G X (am_VV ad) (0, 0) 12 [(0, .ref 322), (1, .int (am_b many)), (2, .int (am_oi ((rf_dl (h 323) i12).1))), (3, .int ((rf_dl (h 323) i12).2)), (4, .int (nI i12))] [] r (am_row h 322 (upd (h 322) 0 (nI 0))) := by
    intro j12
    induction j12 with
    | zero =>
      intro i12 hi12 
      obtain rfl : i12 = rf_O (h 323) := by omega
      refine am_iload (pc := 12) C dX12_drill_12 rfl ?_
      refine am_aload_n (pc := 14) C dX12_drill_14 rfl ?_
      refine am_callVi (Y := mX12_orders) (pc := 15) (st := [.int (nI (rf_O (h 323)))]) (As := []) (x := (nI (rf_O (h 323)))) (h2 := (am_row h 322 (upd (h 322) 0 (nI 0)))) C dX12_drill_15 k12_159 v_X12_orders rfl rfl bn_322 sh_322 ⟨by decide, rfl⟩ (by decide) (Nat.zero_le _) (Nat.zero_le _) (Nat.le_of_ble_eq_true rfl) (c_X12_orders hR (show rf_Cn (h 323) from hV.1)) ?_
      refine am_icmp_geN (pc := 18) (tgt := 62) C dX12_drill_18 (by decide) (by omega) (by omega) (fun q18 => ?_) (fun q18 => ?_)
      · skip
        refine am_iload_n (pc := 62) C dX12_drill_62 rfl ?_
        refine am_if_eqB (pc := 63) (tgt := 70) C dX12_drill_63 (by decide) (fun q63 => ?_) (fun q63 => ?_)
        · skip
          refine am_iload_n (pc := 70) C dX12_drill_70 rfl ?_
          have A9 : rf_a_drill (h 323) many = (am_oi ((rf_dl (h 323) (rf_O (h 323))).1)) := (by rw [rf_a_drill, q63]; rfl)
          exact am_ireti T dX12_drill_71 rfl (Nat.le_refl _) (Nat.le_refl _) (by rw [K9]; exact A9.symm) rfl (by rw [K9]; exact rfl)
        · skip
          refine am_iload_n (pc := 66) C dX12_drill_66 rfl ?_
          refine am_goto (pc := 67) (tgt := 71) C dX12_drill_67 (by decide) ?_
          have A9 : rf_a_drill (h 323) many = ((rf_dl (h 323) (rf_O (h 323))).2) := (by rw [rf_a_drill, q63]; rfl)
          exact am_ireti T dX12_drill_71 rfl (Nat.le_refl _) (Nat.le_refl _) (by rw [K9]; exact A9.symm) rfl (by rw [K9]; exact rfl)
      · skip
        exact absurd q18 (by omega)
    | succ j12 ih12 =>
      intro i12 hi12 
      have hl12 : i12 < rf_O (h 323) := by omega
      have hd9 := rf_dl_le (w := h 323) i12
      refine am_iload (pc := 12) C dX12_drill_12 rfl ?_
      refine am_aload_n (pc := 14) C dX12_drill_14 rfl ?_
      refine am_callVi (Y := mX12_orders) (pc := 15) (st := [.int (nI i12)]) (As := []) (x := (nI (rf_O (h 323)))) (h2 := (am_row h 322 (upd (h 322) 0 (nI 0)))) C dX12_drill_15 k12_159 v_X12_orders rfl rfl bn_322 sh_322 ⟨by decide, rfl⟩ (by decide) (Nat.zero_le _) (Nat.zero_le _) (Nat.le_of_ble_eq_true rfl) (c_X12_orders hR (show rf_Cn (h 323) from hV.1)) ?_
      refine am_icmp_geN (pc := 18) (tgt := 62) C dX12_drill_18 (by decide) (by omega) (by omega) (fun q18 => ?_) (fun q18 => ?_)
      · skip
        exact absurd q18 (by omega)
      · skip
        refine am_aload_n (pc := 21) C dX12_drill_21 rfl ?_
        refine am_aload_n (pc := 22) C dX12_drill_22 rfl ?_
        refine am_iload (pc := 23) C dX12_drill_23 rfl ?_
        refine am_iconstN (pc := 25) (k := 1) C dX12_drill_25 ?_
        refine am_callVi (Y := mX12_ofOrder) (pc := 26) (st := [.ref 322]) (As := [.int (nI i12), .int (nI 1)]) (x := (rf_ord (h 323) i12 1)) (h2 := (am_row h 322 (upd (h 322) 0 (nI 0)))) C dX12_drill_26 k12_319 v_X12_ofOrder rfl rfl bn_322 sh_322 ⟨by decide, rfl⟩ (by decide) (Nat.zero_le _) (Nat.zero_le _) (Nat.le_of_ble_eq_true rfl) (c_X12_ofOrder hR i12 1 (show i12 < 10 from by omega) (show 1 < 2 from by omega)) ?_
        refine am_callVi (Y := mX12_bearsAll) (pc := 29) (st := []) (As := [.int (rf_ord (h 323) i12 1)]) (x := (rf_bearsAll (h 323) (rf_ord (h 323) i12 1))) (h2 := (am_row h 322 (upd (h 322) 0 (nI 0)))) C dX12_drill_29 k12_340 v_X12_bearsAll rfl rfl bn_322 sh_322 ⟨by decide, rfl⟩ (by decide) (Nat.zero_le _) (Nat.zero_le _) (Nat.le_of_ble_eq_true rfl) (c_X12_bearsAll hR (rf_ord (h 323) i12 1) (show rf_Cn (h 323) from hV.1)) ?_
        refine am_callSi (Y := mJ6_bitCount_0f7a4) (pc := 32) (st := []) (As := [.int (rf_bearsAll (h 323) (rf_ord (h 323) i12 1))]) (x := (rf_pc (rf_bearsAll (h 323) (rf_ord (h 323) i12 1)))) (h2 := (am_row h 322 (upd (h 322) 0 (nI 0)))) C dX12_drill_32 k12_278 v_J6_bitCount_0f7a4 rfl rfl (by decide) (Nat.zero_le _) (Nat.zero_le _) (Nat.le_of_ble_eq_true rfl) (c_J6_bitCount_0f7a4 hR (rf_bearsAll (h 323) (rf_ord (h 323) i12 1))) ?_
        refine am_istore (pc := 35) (ls' := [(0, .ref 322), (1, .int (am_b many)), (2, .int (am_oi ((rf_dl (h 323) i12).1))), (3, .int ((rf_dl (h 323) i12).2)), (4, .int (nI i12)), (5, .int (rf_pc (rf_bearsAll (h 323) (rf_ord (h 323) i12 1))))]) C dX12_drill_35 (by decide) rfl ?_
        refine am_iload_n (pc := 37) C dX12_drill_37 rfl ?_
        refine am_if_ltO (pc := 38) (tgt := 50) C dX12_drill_38 (by decide) (by omega) (fun q38 => ?_) (fun q38 => ?_)
        · skip
          refine am_iload (pc := 50) C dX12_drill_50 rfl ?_
          refine am_istore_n (pc := 52) (ls' := [(0, .ref 322), (1, .int (am_b many)), (2, .int (nI i12)), (3, .int ((rf_dl (h 323) i12).2)), (4, .int (nI i12)), (5, .int (rf_pc (rf_bearsAll (h 323) (rf_ord (h 323) i12 1))))]) C dX12_drill_52 (by decide) rfl ?_
          refine am_iload (pc := 53) C dX12_drill_53 rfl ?_
          refine am_istore_n (pc := 55) (ls' := [(0, .ref 322), (1, .int (am_b many)), (2, .int (nI i12)), (3, .int (rf_pc (rf_bearsAll (h 323) (rf_ord (h 323) i12 1)))), (4, .int (nI i12)), (5, .int (rf_pc (rf_bearsAll (h 323) (rf_ord (h 323) i12 1))))]) C dX12_drill_55 (by decide) rfl ?_
          refine am_iincN (pc := 56) (ls' := [(0, .ref 322), (1, .int (am_b many)), (2, .int (nI i12)), (3, .int (rf_pc (rf_bearsAll (h 323) (rf_ord (h 323) i12 1)))), (4, .int (nI (i12 + 1))), (5, .int (rf_pc (rf_bearsAll (h 323) (rf_ord (h 323) i12 1))))]) C dX12_drill_56 rfl (am_up1 _) (by decide) rfl ?_
          refine am_goto (pc := 59) (tgt := 12) C dX12_drill_59 (by decide) ?_
          refine am_sub (ls' := [(0, .ref 322), (1, .int (am_b many)), (2, .int (nI i12)), (3, .int (rf_pc (rf_bearsAll (h 323) (rf_ord (h 323) i12 1)))), (4, .int (nI (i12 + 1)))]) (by intro q hq; simp only [List.mem_cons, List.not_mem_nil, or_false] at hq ⊢; rcases hq with rfl | rfl | rfl | rfl | rfl <;> simp) ?_
          refine am_lsv (ls' := [(0, .ref 322), (1, .int (am_b many)), (2, .int (am_oi ((rf_dl (h 323) (i12 + 1)).1))), (3, .int (rf_pc (rf_bearsAll (h 323) (rf_ord (h 323) i12 1)))), (4, .int (nI (i12 + 1)))]) (congrArg (fun z9 : Int32 => ([(0, .ref 322), (1, .int (am_b many)), (2, Value.int z9), (3, .int (rf_pc (rf_bearsAll (h 323) (rf_ord (h 323) i12 1)))), (4, .int (nI (i12 + 1)))] : List (Nat × Value))) (show (nI i12) = (am_oi ((rf_dl (h 323) (i12 + 1)).1)) from rf_dl_y1 (Or.inl (by omega)))) ?_
          refine am_lsv (ls' := [(0, .ref 322), (1, .int (am_b many)), (2, .int (am_oi ((rf_dl (h 323) (i12 + 1)).1))), (3, .int ((rf_dl (h 323) (i12 + 1)).2)), (4, .int (nI (i12 + 1)))]) (congrArg (fun z9 : Int32 => ([(0, .ref 322), (1, .int (am_b many)), (2, .int (am_oi ((rf_dl (h 323) (i12 + 1)).1))), (3, Value.int z9), (4, .int (nI (i12 + 1)))] : List (Nat × Value))) (show (rf_pc (rf_bearsAll (h 323) (rf_ord (h 323) i12 1))) = ((rf_dl (h 323) (i12 + 1)).2) from rf_dl_y2 (Or.inl (by omega)))) ?_
          exact ih12 (i12 + 1) (by omega) 
        · skip
          refine am_iload (pc := 41) C dX12_drill_41 rfl ?_
          refine am_iload_n (pc := 43) C dX12_drill_43 rfl ?_
          refine am_icmp_lt (pc := 44) (tgt := 50) C dX12_drill_44 (by decide) (fun q44 => ?_) (fun q44 => ?_)
          · skip
            refine am_iload (pc := 50) C dX12_drill_50 rfl ?_
            refine am_istore_n (pc := 52) (ls' := [(0, .ref 322), (1, .int (am_b many)), (2, .int (nI i12)), (3, .int ((rf_dl (h 323) i12).2)), (4, .int (nI i12)), (5, .int (rf_pc (rf_bearsAll (h 323) (rf_ord (h 323) i12 1))))]) C dX12_drill_52 (by decide) rfl ?_
            refine am_iload (pc := 53) C dX12_drill_53 rfl ?_
            refine am_istore_n (pc := 55) (ls' := [(0, .ref 322), (1, .int (am_b many)), (2, .int (nI i12)), (3, .int (rf_pc (rf_bearsAll (h 323) (rf_ord (h 323) i12 1)))), (4, .int (nI i12)), (5, .int (rf_pc (rf_bearsAll (h 323) (rf_ord (h 323) i12 1))))]) C dX12_drill_55 (by decide) rfl ?_
            refine am_iincN (pc := 56) (ls' := [(0, .ref 322), (1, .int (am_b many)), (2, .int (nI i12)), (3, .int (rf_pc (rf_bearsAll (h 323) (rf_ord (h 323) i12 1)))), (4, .int (nI (i12 + 1))), (5, .int (rf_pc (rf_bearsAll (h 323) (rf_ord (h 323) i12 1))))]) C dX12_drill_56 rfl (am_up1 _) (by decide) rfl ?_
            refine am_goto (pc := 59) (tgt := 12) C dX12_drill_59 (by decide) ?_
            refine am_sub (ls' := [(0, .ref 322), (1, .int (am_b many)), (2, .int (nI i12)), (3, .int (rf_pc (rf_bearsAll (h 323) (rf_ord (h 323) i12 1)))), (4, .int (nI (i12 + 1)))]) (by intro q hq; simp only [List.mem_cons, List.not_mem_nil, or_false] at hq ⊢; rcases hq with rfl | rfl | rfl | rfl | rfl <;> simp) ?_
            refine am_lsv (ls' := [(0, .ref 322), (1, .int (am_b many)), (2, .int (am_oi ((rf_dl (h 323) (i12 + 1)).1))), (3, .int (rf_pc (rf_bearsAll (h 323) (rf_ord (h 323) i12 1)))), (4, .int (nI (i12 + 1)))]) (congrArg (fun z9 : Int32 => ([(0, .ref 322), (1, .int (am_b many)), (2, Value.int z9), (3, .int (rf_pc (rf_bearsAll (h 323) (rf_ord (h 323) i12 1)))), (4, .int (nI (i12 + 1)))] : List (Nat × Value))) (show (nI i12) = (am_oi ((rf_dl (h 323) (i12 + 1)).1)) from rf_dl_y1 (Or.inr q44))) ?_
            refine am_lsv (ls' := [(0, .ref 322), (1, .int (am_b many)), (2, .int (am_oi ((rf_dl (h 323) (i12 + 1)).1))), (3, .int ((rf_dl (h 323) (i12 + 1)).2)), (4, .int (nI (i12 + 1)))]) (congrArg (fun z9 : Int32 => ([(0, .ref 322), (1, .int (am_b many)), (2, .int (am_oi ((rf_dl (h 323) (i12 + 1)).1))), (3, Value.int z9), (4, .int (nI (i12 + 1)))] : List (Nat × Value))) (show (rf_pc (rf_bearsAll (h 323) (rf_ord (h 323) i12 1))) = ((rf_dl (h 323) (i12 + 1)).2) from rf_dl_y2 (Or.inr q44))) ?_
            exact ih12 (i12 + 1) (by omega) 
          · skip
            refine am_goto (pc := 47) (tgt := 56) C dX12_drill_47 (by decide) ?_
            refine am_iincN (pc := 56) (ls' := [(0, .ref 322), (1, .int (am_b many)), (2, .int (am_oi ((rf_dl (h 323) i12).1))), (3, .int ((rf_dl (h 323) i12).2)), (4, .int (nI (i12 + 1))), (5, .int (rf_pc (rf_bearsAll (h 323) (rf_ord (h 323) i12 1))))]) C dX12_drill_56 rfl (am_up1 _) (by decide) rfl ?_
            refine am_goto (pc := 59) (tgt := 12) C dX12_drill_59 (by decide) ?_
            refine am_sub (ls' := [(0, .ref 322), (1, .int (am_b many)), (2, .int (am_oi ((rf_dl (h 323) i12).1))), (3, .int ((rf_dl (h 323) i12).2)), (4, .int (nI (i12 + 1)))]) (by intro q hq; simp only [List.mem_cons, List.not_mem_nil, or_false] at hq ⊢; rcases hq with rfl | rfl | rfl | rfl | rfl <;> simp) ?_
            refine am_lsv (ls' := [(0, .ref 322), (1, .int (am_b many)), (2, .int (am_oi ((rf_dl (h 323) (i12 + 1)).1))), (3, .int ((rf_dl (h 323) i12).2)), (4, .int (nI (i12 + 1)))]) (congrArg (fun z9 : Int32 => ([(0, .ref 322), (1, .int (am_b many)), (2, Value.int z9), (3, .int ((rf_dl (h 323) i12).2)), (4, .int (nI (i12 + 1)))] : List (Nat × Value))) (show (am_oi ((rf_dl (h 323) i12).1)) = (am_oi ((rf_dl (h 323) (i12 + 1)).1)) from rf_dl_n1 (fun z => z.elim (by omega) q44))) ?_
            refine am_lsv (ls' := [(0, .ref 322), (1, .int (am_b many)), (2, .int (am_oi ((rf_dl (h 323) (i12 + 1)).1))), (3, .int ((rf_dl (h 323) (i12 + 1)).2)), (4, .int (nI (i12 + 1)))]) (congrArg (fun z9 : Int32 => ([(0, .ref 322), (1, .int (am_b many)), (2, .int (am_oi ((rf_dl (h 323) (i12 + 1)).1))), (3, Value.int z9), (4, .int (nI (i12 + 1)))] : List (Nat × Value))) (show ((rf_dl (h 323) i12).2) = ((rf_dl (h 323) (i12 + 1)).2) from rf_dl_n2 (fun z => z.elim (by omega) q44))) ?_
            exact ih12 (i12 + 1) (by omega) 
  refine am_sub (ls' := [(0, .ref 322), (1, .int (am_b many)), (2, .int (-1)), (3, .int (-1)), (4, .int (nI 0))]) (by intro q hq; simp only [List.mem_cons, List.not_mem_nil, or_false] at hq ⊢; rcases hq with rfl | rfl | rfl | rfl | rfl <;> simp) ?_
  refine am_lsv (ls' := [(0, .ref 322), (1, .int (am_b many)), (2, .int (am_oi ((rf_dl (h 323) 0).1))), (3, .int (-1)), (4, .int (nI 0))]) (congrArg (fun z9 : Int32 => ([(0, .ref 322), (1, .int (am_b many)), (2, Value.int z9), (3, .int (-1)), (4, .int (nI 0))] : List (Nat × Value))) (show (-1) = (am_oi ((rf_dl (h 323) 0).1)) from (by first | rfl | exact am_oi_0.symm))) ?_
  refine am_lsv (ls' := [(0, .ref 322), (1, .int (am_b many)), (2, .int (am_oi ((rf_dl (h 323) 0).1))), (3, .int ((rf_dl (h 323) 0).2)), (4, .int (nI 0))]) (congrArg (fun z9 : Int32 => ([(0, .ref 322), (1, .int (am_b many)), (2, .int (am_oi ((rf_dl (h 323) 0).1))), (3, Value.int z9), (4, .int (nI 0))] : List (Nat × Value))) (show (-1) = ((rf_dl (h 323) 0).2) from (by first | rfl | exact am_oi_0.symm))) ?_
  exact L12 (rf_O (h 323)) 0 (by omega) 

set_option maxHeartbeats 400000 in
set_option maxRecDepth 100000 in
theorem c_X12_hears {ad : Nat → Nat} {r : am_R} (hR : am_rs r) {h : am_H} (first : Int32) (side : Int32) (n : Nat) (silent : Int32) (hV : rf_I (h 323)) (hn : n < 100)  : am_CM mX12_hears 2 0 0 [.ref 322, .int first, .int side, .int (nI n), .int silent] (am_VV ad) r h (am_po (some (.int (rf_hr (h 323) first side silent (n + 1)))) r h) := by
  refine am_CM.of (by decide +kernel) (Nat.le_of_ble_eq_true rfl) (fun X C T => ?_)
  show am_G X (am_VV ad) (0, 0) 0 [(0, .ref 322), (1, .int first), (2, .int side), (3, .int (nI n)), (4, .int silent)] [] r h
  have hM9 : rf_M (h 323) < 17 := hV.1.1.2
  have hS9 : rf_S (h 323) < 11 := hV.1.2.1.2
  have hO9 : rf_O (h 323) < 11 := hV.1.2.2.2
  refine am_iload_n (pc := 0) C dX12_hears_0 rfl ?_
  refine am_istore (pc := 1) (ls' := [(0, .ref 322), (1, .int first), (2, .int side), (3, .int (nI n)), (4, .int silent), (5, .int first)]) C dX12_hears_1 (by decide) rfl ?_
  refine am_iconstN (pc := 3) (k := 0) C dX12_hears_3 ?_
  refine am_istore (pc := 4) (ls' := [(0, .ref 322), (1, .int first), (2, .int side), (3, .int (nI n)), (4, .int silent), (5, .int first), (6, .int (nI 0))]) C dX12_hears_4 (by decide) rfl ?_
  have L6 : ∀ (j6 i6 : Nat), i6 + j6 = n + 1 → am_G X (am_VV ad) (0, 0) 6 [(0, .ref 322), (1, .int first), (2, .int side), (3, .int (nI n)), (4, .int silent), (5, .int (rf_hr (h 323) first side silent i6)), (6, .int (nI i6))] [] r h := by
    intro j6
    induction j6 with
    | zero =>
      intro i6 hi6 
      obtain rfl : i6 = n + 1 := by omega
      refine am_iload (pc := 6) C dX12_hears_6 rfl ?_
      refine am_iload_n (pc := 8) C dX12_hears_8 rfl ?_
      refine am_icmp_gtN (pc := 9) (tgt := 131) C dX12_hears_9 (by decide) (by omega) (by omega) (fun q9 => ?_) (fun q9 => ?_)
      · skip
        refine am_iload (pc := 131) C dX12_hears_131 rfl ?_
        exact am_ireti T dX12_hears_133 rfl (Nat.le_refl _) (Nat.le_refl _) rfl rfl rfl
      · skip
        exact absurd q9 (by omega)
    | succ j6 ih6 =>
      intro i6 hi6 
      have hl6 : i6 < n + 1 := by omega
      refine am_iload (pc := 6) C dX12_hears_6 rfl ?_
      refine am_iload_n (pc := 8) C dX12_hears_8 rfl ?_
      refine am_icmp_gtN (pc := 9) (tgt := 131) C dX12_hears_9 (by decide) (by omega) (by omega) (fun q9 => ?_) (fun q9 => ?_)
      · skip
        exact absurd q9 (by omega)
      · skip
        refine am_iconstN (pc := 12) (k := 0) C dX12_hears_12 ?_
        refine am_istore (pc := 13) (ls' := [(0, .ref 322), (1, .int first), (2, .int side), (3, .int (nI n)), (4, .int silent), (5, .int (rf_hr (h 323) first side silent i6)), (6, .int (nI i6)), (7, .int (nI 0))]) C dX12_hears_13 (by decide) rfl ?_
        refine am_iconstN (pc := 15) (k := 0) C dX12_hears_15 ?_
        refine am_istore (pc := 16) (ls' := [(0, .ref 322), (1, .int first), (2, .int side), (3, .int (nI n)), (4, .int silent), (5, .int (rf_hr (h 323) first side silent i6)), (6, .int (nI i6)), (7, .int (nI 0)), (8, .int (nI 0))]) C dX12_hears_16 (by decide) rfl ?_
        have L18 : ∀ (j18 i18 : Nat), i18 + j18 = rf_S (h 323) → am_G X (am_VV ad) (0, 0) 18 [(0, .ref 322), (1, .int first), (2, .int side), (3, .int (nI n)), (4, .int silent), (5, .int (rf_hr (h 323) first side silent i6)), (6, .int (nI i6)), (7, .int (rf_pls (h 323) ((rf_hr (h 323) first side silent i6) &&& (silent ^^^ (-1))) i6 i18)), (8, .int (nI i18))] [] r h := by
          intro j18
          induction j18 with
          | zero =>
            intro i18 hi18 
            obtain rfl : i18 = rf_S (h 323) := by omega
            refine am_iload (pc := 18) C dX12_hears_18 rfl ?_
            refine am_aload_n (pc := 20) C dX12_hears_20 rfl ?_
            refine am_callVi (Y := mX12_soldiers) (pc := 21) (st := [.int (nI (rf_S (h 323)))]) (As := []) (x := (nI (rf_S (h 323)))) (h2 := h) C dX12_hears_21 k12_75 v_X12_soldiers rfl rfl bn_322 sh_322 ⟨by decide, rfl⟩ (by decide) (Nat.zero_le _) (Nat.zero_le _) (Nat.le_of_ble_eq_true rfl) (c_X12_soldiers hR (show rf_Cn (h 323) from hV.1)) ?_
            refine am_icmp_geN (pc := 24) (tgt := 67) C dX12_hears_24 (by decide) (by omega) (by omega) (fun q24 => ?_) (fun q24 => ?_)
            · skip
              refine am_iconstN (pc := 67) (k := 0) C dX12_hears_67 ?_
              refine am_istore (pc := 68) (ls' := [(0, .ref 322), (1, .int first), (2, .int side), (3, .int (nI n)), (4, .int silent), (5, .int (rf_hr (h 323) first side silent i6)), (6, .int (nI i6)), (7, .int (rf_pls (h 323) ((rf_hr (h 323) first side silent i6) &&& (silent ^^^ (-1))) i6 (rf_S (h 323)))), (8, .int (nI 0))]) C dX12_hears_68 (by decide) rfl ?_
              have L70 : ∀ (j70 i70 : Nat), i70 + j70 = rf_S (h 323) → am_G X (am_VV ad) (0, 0) 70 [(0, .ref 322), (1, .int first), (2, .int side), (3, .int (nI n)), (4, .int silent), (5, .int (rf_hd (h 323) side (rf_pls (h 323) ((rf_hr (h 323) first side silent i6) &&& (silent ^^^ (-1))) i6 (rf_S (h 323))) (rf_hr (h 323) first side silent i6) i6 i70)), (6, .int (nI i6)), (7, .int (rf_pls (h 323) ((rf_hr (h 323) first side silent i6) &&& (silent ^^^ (-1))) i6 (rf_S (h 323)))), (8, .int (nI i70))] [] r h := by
                intro j70
                induction j70 with
                | zero =>
                  intro i70 hi70 
                  obtain rfl : i70 = rf_S (h 323) := by omega
                  refine am_iload (pc := 70) C dX12_hears_70 rfl ?_
                  refine am_aload_n (pc := 72) C dX12_hears_72 rfl ?_
                  refine am_callVi (Y := mX12_soldiers) (pc := 73) (st := [.int (nI (rf_S (h 323)))]) (As := []) (x := (nI (rf_S (h 323)))) (h2 := h) C dX12_hears_73 k12_75 v_X12_soldiers rfl rfl bn_322 sh_322 ⟨by decide, rfl⟩ (by decide) (Nat.zero_le _) (Nat.zero_le _) (Nat.le_of_ble_eq_true rfl) (c_X12_soldiers hR (show rf_Cn (h 323) from hV.1)) ?_
                  refine am_icmp_geN (pc := 76) (tgt := 125) C dX12_hears_76 (by decide) (by omega) (by omega) (fun q76 => ?_) (fun q76 => ?_)
                  · skip
                    refine am_iincN (pc := 125) (ls' := [(0, .ref 322), (1, .int first), (2, .int side), (3, .int (nI n)), (4, .int silent), (5, .int (rf_hd (h 323) side (rf_pls (h 323) ((rf_hr (h 323) first side silent i6) &&& (silent ^^^ (-1))) i6 (rf_S (h 323))) (rf_hr (h 323) first side silent i6) i6 (rf_S (h 323)))), (6, .int (nI (i6 + 1))), (7, .int (rf_pls (h 323) ((rf_hr (h 323) first side silent i6) &&& (silent ^^^ (-1))) i6 (rf_S (h 323)))), (8, .int (nI (rf_S (h 323))))]) C dX12_hears_125 rfl (am_up1 _) (by decide) rfl ?_
                    refine am_goto (pc := 128) (tgt := 6) C dX12_hears_128 (by decide) ?_
                    refine am_sub (ls' := [(0, .ref 322), (1, .int first), (2, .int side), (3, .int (nI n)), (4, .int silent), (5, .int (rf_hd (h 323) side (rf_pls (h 323) ((rf_hr (h 323) first side silent i6) &&& (silent ^^^ (-1))) i6 (rf_S (h 323))) (rf_hr (h 323) first side silent i6) i6 (rf_S (h 323)))), (6, .int (nI (i6 + 1)))]) (by intro q hq; simp only [List.mem_cons, List.not_mem_nil, or_false] at hq ⊢; rcases hq with rfl | rfl | rfl | rfl | rfl | rfl | rfl <;> simp) ?_
                    refine am_lsv (ls' := [(0, .ref 322), (1, .int first), (2, .int side), (3, .int (nI n)), (4, .int silent), (5, .int (rf_hr (h 323) first side silent (i6 + 1))), (6, .int (nI (i6 + 1)))]) (by rw [show (rf_hd (h 323) side (rf_pls (h 323) ((rf_hr (h 323) first side silent i6) &&& (silent ^^^ (-1))) i6 (rf_S (h 323))) (rf_hr (h 323) first side silent i6) i6 (rf_S (h 323))) = (rf_hr (h 323) first side silent (i6 + 1)) from rfl]) ?_
                    exact ih6 (i6 + 1) (by omega) 
                  · skip
                    exact absurd q76 (by omega)
                | succ j70 ih70 =>
                  intro i70 hi70 
                  have hl70 : i70 < rf_S (h 323) := by omega
                  have hp9 : rf_p2n (h 323) i70 i6 < 8 := (rf_pl2_n (x := nI i6) (hV.2.1 i70 hl70)).2
                  refine am_iload (pc := 70) C dX12_hears_70 rfl ?_
                  refine am_aload_n (pc := 72) C dX12_hears_72 rfl ?_
                  refine am_callVi (Y := mX12_soldiers) (pc := 73) (st := [.int (nI i70)]) (As := []) (x := (nI (rf_S (h 323)))) (h2 := h) C dX12_hears_73 k12_75 v_X12_soldiers rfl rfl bn_322 sh_322 ⟨by decide, rfl⟩ (by decide) (Nat.zero_le _) (Nat.zero_le _) (Nat.le_of_ble_eq_true rfl) (c_X12_soldiers hR (show rf_Cn (h 323) from hV.1)) ?_
                  refine am_icmp_geN (pc := 76) (tgt := 125) C dX12_hears_76 (by decide) (by omega) (by omega) (fun q76 => ?_) (fun q76 => ?_)
                  · skip
                    exact absurd q76 (by omega)
                  · skip
                    refine am_iload (pc := 79) C dX12_hears_79 rfl ?_
                    refine am_aload_n (pc := 81) C dX12_hears_81 rfl ?_
                    refine am_iload (pc := 82) C dX12_hears_82 rfl ?_
                    refine am_iconstN (pc := 84) (k := 0) C dX12_hears_84 ?_
                    refine am_callVi (Y := mX12_of) (pc := 85) (st := [.int (rf_hd (h 323) side (rf_pls (h 323) ((rf_hr (h 323) first side silent i6) &&& (silent ^^^ (-1))) i6 (rf_S (h 323))) (rf_hr (h 323) first side silent i6) i6 i70)]) (As := [.int (nI i70), .int (nI 0)]) (x := (rf_of (h 323) i70 0)) (h2 := h) C dX12_hears_85 k12_63 v_X12_of rfl rfl bn_322 sh_322 ⟨by decide, rfl⟩ (by decide) (Nat.zero_le _) (Nat.zero_le _) (Nat.le_of_ble_eq_true rfl) (c_X12_of hR i70 0 (show i70 < 11 from by omega) (show 0 < 23 from by omega)) ?_
                    refine am_iload_n (pc := 88) C dX12_hears_88 rfl ?_
                    refine am_icmp_ne (pc := 89) (tgt := 115) C dX12_hears_89 (by decide) (fun q89 => ?_) (fun q89 => ?_)
                    · skip
                      refine am_iconstN (pc := 115) (k := 0) C dX12_hears_115 ?_
                      refine am_ior (pc := 116) C dX12_hears_116 ?_
                      refine am_istore (pc := 117) (ls' := [(0, .ref 322), (1, .int first), (2, .int side), (3, .int (nI n)), (4, .int silent), (5, .int ((rf_hd (h 323) side (rf_pls (h 323) ((rf_hr (h 323) first side silent i6) &&& (silent ^^^ (-1))) i6 (rf_S (h 323))) (rf_hr (h 323) first side silent i6) i6 i70) ||| (nI 0))), (6, .int (nI i6)), (7, .int (rf_pls (h 323) ((rf_hr (h 323) first side silent i6) &&& (silent ^^^ (-1))) i6 (rf_S (h 323)))), (8, .int (nI i70))]) C dX12_hears_117 (by decide) rfl ?_
                      refine am_iincN (pc := 119) (ls' := [(0, .ref 322), (1, .int first), (2, .int side), (3, .int (nI n)), (4, .int silent), (5, .int ((rf_hd (h 323) side (rf_pls (h 323) ((rf_hr (h 323) first side silent i6) &&& (silent ^^^ (-1))) i6 (rf_S (h 323))) (rf_hr (h 323) first side silent i6) i6 i70) ||| (nI 0))), (6, .int (nI i6)), (7, .int (rf_pls (h 323) ((rf_hr (h 323) first side silent i6) &&& (silent ^^^ (-1))) i6 (rf_S (h 323)))), (8, .int (nI (i70 + 1)))]) C dX12_hears_119 rfl (am_up1 _) (by decide) rfl ?_
                      refine am_goto (pc := 122) (tgt := 70) C dX12_hears_122 (by decide) ?_
                      refine am_lsv (ls' := [(0, .ref 322), (1, .int first), (2, .int side), (3, .int (nI n)), (4, .int silent), (5, .int (rf_hd (h 323) side (rf_pls (h 323) ((rf_hr (h 323) first side silent i6) &&& (silent ^^^ (-1))) i6 (rf_S (h 323))) (rf_hr (h 323) first side silent i6) i6 (i70 + 1))), (6, .int (nI i6)), (7, .int (rf_pls (h 323) ((rf_hr (h 323) first side silent i6) &&& (silent ^^^ (-1))) i6 (rf_S (h 323)))), (8, .int (nI (i70 + 1)))]) (by rw [show ((rf_hd (h 323) side (rf_pls (h 323) ((rf_hr (h 323) first side silent i6) &&& (silent ^^^ (-1))) i6 (rf_S (h 323))) (rf_hr (h 323) first side silent i6) i6 i70) ||| (nI 0)) = (rf_hd (h 323) side (rf_pls (h 323) ((rf_hr (h 323) first side silent i6) &&& (silent ^^^ (-1))) i6 (rf_S (h 323))) (rf_hr (h 323) first side silent i6) i6 (i70 + 1)) from (by rw [rf_hd, if_neg (fun z => q89 z.1)])]) ?_
                      exact ih70 (i70 + 1) (by omega) 
                    · skip
                      refine am_iload (pc := 92) C dX12_hears_92 rfl ?_
                      refine am_aload_n (pc := 94) C dX12_hears_94 rfl ?_
                      refine am_iload (pc := 95) C dX12_hears_95 rfl ?_
                      refine am_iload (pc := 97) C dX12_hears_97 rfl ?_
                      refine am_callVi (Y := mX12_placeIn) (pc := 99) (st := [.int (rf_pls (h 323) ((rf_hr (h 323) first side silent i6) &&& (silent ^^^ (-1))) i6 (rf_S (h 323))), .int (rf_hd (h 323) side (rf_pls (h 323) ((rf_hr (h 323) first side silent i6) &&& (silent ^^^ (-1))) i6 (rf_S (h 323))) (rf_hr (h 323) first side silent i6) i6 i70)]) (As := [.int (nI i70), .int (nI i6)]) (x := (rf_pl2 (h 323) i70 (nI i6))) (h2 := h) C dX12_hears_99 k12_334 v_X12_placeIn rfl rfl bn_322 sh_322 ⟨by decide, rfl⟩ (by decide) (Nat.zero_le _) (Nat.zero_le _) (Nat.le_of_ble_eq_true rfl) (c_X12_placeIn hR i70 (nI i6) (show i70 < rf_S (h 323) from by omega) (show rf_Is (h 323) i70 from (hV.2.1 i70 (by omega))) (show rf_Cn (h 323) from hV.1)) ?_
                      refine am_top (show (rf_pl2 (h 323) i70 (nI i6)) = (nI (rf_p2n (h 323) i70 i6)) from (rf_pl2_n (hV.2.1 i70 (by omega))).1) ?_
                      refine am_callSi (Y := mX12_has) (pc := 102) (st := [.int (rf_hd (h 323) side (rf_pls (h 323) ((rf_hr (h 323) first side silent i6) &&& (silent ^^^ (-1))) i6 (rf_S (h 323))) (rf_hr (h 323) first side silent i6) i6 i70)]) (As := [.int (rf_pls (h 323) ((rf_hr (h 323) first side silent i6) &&& (silent ^^^ (-1))) i6 (rf_S (h 323))), .int (nI (rf_p2n (h 323) i70 i6))]) (x := (am_b (am_bt (rf_pls (h 323) ((rf_hr (h 323) first side silent i6) &&& (silent ^^^ (-1))) i6 (rf_S (h 323))) (rf_p2n (h 323) i70 i6)))) (h2 := h) C dX12_hears_102 k12_81 v_X12_has rfl rfl (by decide) (Nat.zero_le _) (Nat.zero_le _) (Nat.le_of_ble_eq_true rfl) (c_X12_has hR (rf_pls (h 323) ((rf_hr (h 323) first side silent i6) &&& (silent ^^^ (-1))) i6 (rf_S (h 323))) (rf_p2n (h 323) i70 i6) (show (rf_p2n (h 323) i70 i6) < 32 from by omega)) ?_
                      refine am_if_eqB (pc := 105) (tgt := 115) C dX12_hears_105 (by decide) (fun q105 => ?_) (fun q105 => ?_)
                      · skip
                        refine am_iconstN (pc := 115) (k := 0) C dX12_hears_115 ?_
                        refine am_ior (pc := 116) C dX12_hears_116 ?_
                        refine am_istore (pc := 117) (ls' := [(0, .ref 322), (1, .int first), (2, .int side), (3, .int (nI n)), (4, .int silent), (5, .int ((rf_hd (h 323) side (rf_pls (h 323) ((rf_hr (h 323) first side silent i6) &&& (silent ^^^ (-1))) i6 (rf_S (h 323))) (rf_hr (h 323) first side silent i6) i6 i70) ||| (nI 0))), (6, .int (nI i6)), (7, .int (rf_pls (h 323) ((rf_hr (h 323) first side silent i6) &&& (silent ^^^ (-1))) i6 (rf_S (h 323)))), (8, .int (nI i70))]) C dX12_hears_117 (by decide) rfl ?_
                        refine am_iincN (pc := 119) (ls' := [(0, .ref 322), (1, .int first), (2, .int side), (3, .int (nI n)), (4, .int silent), (5, .int ((rf_hd (h 323) side (rf_pls (h 323) ((rf_hr (h 323) first side silent i6) &&& (silent ^^^ (-1))) i6 (rf_S (h 323))) (rf_hr (h 323) first side silent i6) i6 i70) ||| (nI 0))), (6, .int (nI i6)), (7, .int (rf_pls (h 323) ((rf_hr (h 323) first side silent i6) &&& (silent ^^^ (-1))) i6 (rf_S (h 323)))), (8, .int (nI (i70 + 1)))]) C dX12_hears_119 rfl (am_up1 _) (by decide) rfl ?_
                        refine am_goto (pc := 122) (tgt := 70) C dX12_hears_122 (by decide) ?_
                        refine am_lsv (ls' := [(0, .ref 322), (1, .int first), (2, .int side), (3, .int (nI n)), (4, .int silent), (5, .int (rf_hd (h 323) side (rf_pls (h 323) ((rf_hr (h 323) first side silent i6) &&& (silent ^^^ (-1))) i6 (rf_S (h 323))) (rf_hr (h 323) first side silent i6) i6 (i70 + 1))), (6, .int (nI i6)), (7, .int (rf_pls (h 323) ((rf_hr (h 323) first side silent i6) &&& (silent ^^^ (-1))) i6 (rf_S (h 323)))), (8, .int (nI (i70 + 1)))]) (by rw [show ((rf_hd (h 323) side (rf_pls (h 323) ((rf_hr (h 323) first side silent i6) &&& (silent ^^^ (-1))) i6 (rf_S (h 323))) (rf_hr (h 323) first side silent i6) i6 i70) ||| (nI 0)) = (rf_hd (h 323) side (rf_pls (h 323) ((rf_hr (h 323) first side silent i6) &&& (silent ^^^ (-1))) i6 (rf_S (h 323))) (rf_hr (h 323) first side silent i6) i6 (i70 + 1)) from (by rw [rf_hd, if_neg (fun z => Bool.false_ne_true (q105.symm.trans z.2))])]) ?_
                        exact ih70 (i70 + 1) (by omega) 
                      · skip
                        refine am_iconstN (pc := 108) (k := 1) C dX12_hears_108 ?_
                        refine am_iload (pc := 109) C dX12_hears_109 rfl ?_
                        refine am_ishl (pc := 111) C dX12_hears_111 ?_
                        refine am_goto (pc := 112) (tgt := 116) C dX12_hears_112 (by decide) ?_
                        refine am_ior (pc := 116) C dX12_hears_116 ?_
                        refine am_istore (pc := 117) (ls' := [(0, .ref 322), (1, .int first), (2, .int side), (3, .int (nI n)), (4, .int silent), (5, .int ((rf_hd (h 323) side (rf_pls (h 323) ((rf_hr (h 323) first side silent i6) &&& (silent ^^^ (-1))) i6 (rf_S (h 323))) (rf_hr (h 323) first side silent i6) i6 i70) ||| ((nI 1) <<< ((nI i70) &&& 31)))), (6, .int (nI i6)), (7, .int (rf_pls (h 323) ((rf_hr (h 323) first side silent i6) &&& (silent ^^^ (-1))) i6 (rf_S (h 323)))), (8, .int (nI i70))]) C dX12_hears_117 (by decide) rfl ?_
                        refine am_iincN (pc := 119) (ls' := [(0, .ref 322), (1, .int first), (2, .int side), (3, .int (nI n)), (4, .int silent), (5, .int ((rf_hd (h 323) side (rf_pls (h 323) ((rf_hr (h 323) first side silent i6) &&& (silent ^^^ (-1))) i6 (rf_S (h 323))) (rf_hr (h 323) first side silent i6) i6 i70) ||| ((nI 1) <<< ((nI i70) &&& 31)))), (6, .int (nI i6)), (7, .int (rf_pls (h 323) ((rf_hr (h 323) first side silent i6) &&& (silent ^^^ (-1))) i6 (rf_S (h 323)))), (8, .int (nI (i70 + 1)))]) C dX12_hears_119 rfl (am_up1 _) (by decide) rfl ?_
                        refine am_goto (pc := 122) (tgt := 70) C dX12_hears_122 (by decide) ?_
                        refine am_lsv (ls' := [(0, .ref 322), (1, .int first), (2, .int side), (3, .int (nI n)), (4, .int silent), (5, .int (rf_hd (h 323) side (rf_pls (h 323) ((rf_hr (h 323) first side silent i6) &&& (silent ^^^ (-1))) i6 (rf_S (h 323))) (rf_hr (h 323) first side silent i6) i6 (i70 + 1))), (6, .int (nI i6)), (7, .int (rf_pls (h 323) ((rf_hr (h 323) first side silent i6) &&& (silent ^^^ (-1))) i6 (rf_S (h 323)))), (8, .int (nI (i70 + 1)))]) (by rw [show ((rf_hd (h 323) side (rf_pls (h 323) ((rf_hr (h 323) first side silent i6) &&& (silent ^^^ (-1))) i6 (rf_S (h 323))) (rf_hr (h 323) first side silent i6) i6 i70) ||| ((nI 1) <<< ((nI i70) &&& 31))) = (rf_hd (h 323) side (rf_pls (h 323) ((rf_hr (h 323) first side silent i6) &&& (silent ^^^ (-1))) i6 (rf_S (h 323))) (rf_hr (h 323) first side silent i6) i6 (i70 + 1)) from (by rw [rf_hd, if_pos ⟨q89, q105⟩])]) ?_
                        exact ih70 (i70 + 1) (by omega) 
              exact L70 (rf_S (h 323)) 0 (by omega) 
            · skip
              exact absurd q24 (by omega)
          | succ j18 ih18 =>
            intro i18 hi18 
            have hl18 : i18 < rf_S (h 323) := by omega
            have hp8 : rf_p2n (h 323) i18 i6 < 8 := (rf_pl2_n (x := nI i6) (hV.2.1 i18 hl18)).2
            refine am_iload (pc := 18) C dX12_hears_18 rfl ?_
            refine am_aload_n (pc := 20) C dX12_hears_20 rfl ?_
            refine am_callVi (Y := mX12_soldiers) (pc := 21) (st := [.int (nI i18)]) (As := []) (x := (nI (rf_S (h 323)))) (h2 := h) C dX12_hears_21 k12_75 v_X12_soldiers rfl rfl bn_322 sh_322 ⟨by decide, rfl⟩ (by decide) (Nat.zero_le _) (Nat.zero_le _) (Nat.le_of_ble_eq_true rfl) (c_X12_soldiers hR (show rf_Cn (h 323) from hV.1)) ?_
            refine am_icmp_geN (pc := 24) (tgt := 67) C dX12_hears_24 (by decide) (by omega) (by omega) (fun q24 => ?_) (fun q24 => ?_)
            · skip
              exact absurd q24 (by omega)
            · skip
              refine am_iload (pc := 27) C dX12_hears_27 rfl ?_
              refine am_iload (pc := 29) C dX12_hears_29 rfl ?_
              refine am_iload (pc := 31) C dX12_hears_31 rfl ?_
              refine am_iconst (pc := 33) (v := -1) C dX12_hears_33 rfl ?_
              refine am_ixor (pc := 34) C dX12_hears_34 ?_
              refine am_iand (pc := 35) C dX12_hears_35 ?_
              refine am_iload (pc := 36) C dX12_hears_36 rfl ?_
              refine am_callSi (Y := mX12_has) (pc := 38) (st := [.int (rf_pls (h 323) ((rf_hr (h 323) first side silent i6) &&& (silent ^^^ (-1))) i6 i18)]) (As := [.int ((rf_hr (h 323) first side silent i6) &&& (silent ^^^ (-1))), .int (nI i18)]) (x := (am_b (am_bt ((rf_hr (h 323) first side silent i6) &&& (silent ^^^ (-1))) i18))) (h2 := h) C dX12_hears_38 k12_81 v_X12_has rfl rfl (by decide) (Nat.zero_le _) (Nat.zero_le _) (Nat.le_of_ble_eq_true rfl) (c_X12_has hR ((rf_hr (h 323) first side silent i6) &&& (silent ^^^ (-1))) i18 (show i18 < 32 from by omega)) ?_
              refine am_if_eqB (pc := 41) (tgt := 57) C dX12_hears_41 (by decide) (fun q41 => ?_) (fun q41 => ?_)
              · skip
                refine am_iconstN (pc := 57) (k := 0) C dX12_hears_57 ?_
                refine am_ior (pc := 58) C dX12_hears_58 ?_
                refine am_istore (pc := 59) (ls' := [(0, .ref 322), (1, .int first), (2, .int side), (3, .int (nI n)), (4, .int silent), (5, .int (rf_hr (h 323) first side silent i6)), (6, .int (nI i6)), (7, .int ((rf_pls (h 323) ((rf_hr (h 323) first side silent i6) &&& (silent ^^^ (-1))) i6 i18) ||| (nI 0))), (8, .int (nI i18))]) C dX12_hears_59 (by decide) rfl ?_
                refine am_iincN (pc := 61) (ls' := [(0, .ref 322), (1, .int first), (2, .int side), (3, .int (nI n)), (4, .int silent), (5, .int (rf_hr (h 323) first side silent i6)), (6, .int (nI i6)), (7, .int ((rf_pls (h 323) ((rf_hr (h 323) first side silent i6) &&& (silent ^^^ (-1))) i6 i18) ||| (nI 0))), (8, .int (nI (i18 + 1)))]) C dX12_hears_61 rfl (am_up1 _) (by decide) rfl ?_
                refine am_goto (pc := 64) (tgt := 18) C dX12_hears_64 (by decide) ?_
                refine am_lsv (ls' := [(0, .ref 322), (1, .int first), (2, .int side), (3, .int (nI n)), (4, .int silent), (5, .int (rf_hr (h 323) first side silent i6)), (6, .int (nI i6)), (7, .int (rf_pls (h 323) ((rf_hr (h 323) first side silent i6) &&& (silent ^^^ (-1))) i6 (i18 + 1))), (8, .int (nI (i18 + 1)))]) (by rw [show ((rf_pls (h 323) ((rf_hr (h 323) first side silent i6) &&& (silent ^^^ (-1))) i6 i18) ||| (nI 0)) = (rf_pls (h 323) ((rf_hr (h 323) first side silent i6) &&& (silent ^^^ (-1))) i6 (i18 + 1)) from (by rw [rf_pls, if_neg (by rw [q41]; exact Bool.false_ne_true)])]) ?_
                exact ih18 (i18 + 1) (by omega) 
              · skip
                refine am_iconstN (pc := 44) (k := 1) C dX12_hears_44 ?_
                refine am_aload_n (pc := 45) C dX12_hears_45 rfl ?_
                refine am_iload (pc := 46) C dX12_hears_46 rfl ?_
                refine am_iload (pc := 48) C dX12_hears_48 rfl ?_
                refine am_callVi (Y := mX12_placeIn) (pc := 50) (st := [.int (nI 1), .int (rf_pls (h 323) ((rf_hr (h 323) first side silent i6) &&& (silent ^^^ (-1))) i6 i18)]) (As := [.int (nI i18), .int (nI i6)]) (x := (rf_pl2 (h 323) i18 (nI i6))) (h2 := h) C dX12_hears_50 k12_334 v_X12_placeIn rfl rfl bn_322 sh_322 ⟨by decide, rfl⟩ (by decide) (Nat.zero_le _) (Nat.zero_le _) (Nat.le_of_ble_eq_true rfl) (c_X12_placeIn hR i18 (nI i6) (show i18 < rf_S (h 323) from by omega) (show rf_Is (h 323) i18 from (hV.2.1 i18 (by omega))) (show rf_Cn (h 323) from hV.1)) ?_
                refine am_top (show (rf_pl2 (h 323) i18 (nI i6)) = (nI (rf_p2n (h 323) i18 i6)) from (rf_pl2_n (hV.2.1 i18 (by omega))).1) ?_
                refine am_ishl (pc := 53) C dX12_hears_53 ?_
                refine am_goto (pc := 54) (tgt := 58) C dX12_hears_54 (by decide) ?_
                refine am_ior (pc := 58) C dX12_hears_58 ?_
                refine am_istore (pc := 59) (ls' := [(0, .ref 322), (1, .int first), (2, .int side), (3, .int (nI n)), (4, .int silent), (5, .int (rf_hr (h 323) first side silent i6)), (6, .int (nI i6)), (7, .int ((rf_pls (h 323) ((rf_hr (h 323) first side silent i6) &&& (silent ^^^ (-1))) i6 i18) ||| ((nI 1) <<< ((nI (rf_p2n (h 323) i18 i6)) &&& 31)))), (8, .int (nI i18))]) C dX12_hears_59 (by decide) rfl ?_
                refine am_iincN (pc := 61) (ls' := [(0, .ref 322), (1, .int first), (2, .int side), (3, .int (nI n)), (4, .int silent), (5, .int (rf_hr (h 323) first side silent i6)), (6, .int (nI i6)), (7, .int ((rf_pls (h 323) ((rf_hr (h 323) first side silent i6) &&& (silent ^^^ (-1))) i6 i18) ||| ((nI 1) <<< ((nI (rf_p2n (h 323) i18 i6)) &&& 31)))), (8, .int (nI (i18 + 1)))]) C dX12_hears_61 rfl (am_up1 _) (by decide) rfl ?_
                refine am_goto (pc := 64) (tgt := 18) C dX12_hears_64 (by decide) ?_
                refine am_lsv (ls' := [(0, .ref 322), (1, .int first), (2, .int side), (3, .int (nI n)), (4, .int silent), (5, .int (rf_hr (h 323) first side silent i6)), (6, .int (nI i6)), (7, .int (rf_pls (h 323) ((rf_hr (h 323) first side silent i6) &&& (silent ^^^ (-1))) i6 (i18 + 1))), (8, .int (nI (i18 + 1)))]) (by rw [show ((rf_pls (h 323) ((rf_hr (h 323) first side silent i6) &&& (silent ^^^ (-1))) i6 i18) ||| ((nI 1) <<< ((nI (rf_p2n (h 323) i18 i6)) &&& 31))) = (rf_pls (h 323) ((rf_hr (h 323) first side silent i6) &&& (silent ^^^ (-1))) i6 (i18 + 1)) from (by rw [rf_pls, if_pos q41])]) ?_
                exact ih18 (i18 + 1) (by omega) 
        exact L18 (rf_S (h 323)) 0 (by omega) 
  refine am_sub (ls' := [(0, .ref 322), (1, .int first), (2, .int side), (3, .int (nI n)), (4, .int silent), (5, .int first), (6, .int (nI 0))]) (by intro q hq; simp only [List.mem_cons, List.not_mem_nil, or_false] at hq ⊢; rcases hq with rfl | rfl | rfl | rfl | rfl | rfl | rfl <;> simp) ?_
  exact L6 (n + 1) 0 (by omega) 

set_option maxHeartbeats 400000 in
set_option maxRecDepth 100000 in
theorem c_X12_spread {ad : Nat → Nat} {r : am_R} (hR : am_rs r) {h : am_H} (m : Int32) (d : Int32) (n : Int32) (hV : rf_I (h 323))  : am_CM mX12_spread 6 0 0 [.ref 322, .int m, .int d, .int n] (am_VV ad) r h (am_po (some (.int (rf_ga (rf_c_spread (h 323) m d n) (rf_a_spread (h 323) m d n)))) r (am_row h 322 (rf_oc (h 322) (rf_c_spread (h 323) m d n)))) := by
  refine am_CM.of (by decide +kernel) (Nat.le_of_ble_eq_true rfl) (fun X C T => ?_)
  show am_G X (am_VV ad) (0, 0) 0 [(0, .ref 322), (1, .int m), (2, .int d), (3, .int n)] [] r h
  have hM9 : rf_M (h 323) < 17 := hV.1.1.2
  have hS9 : rf_S (h 323) < 11 := hV.1.2.1.2
  have hO9 : rf_O (h 323) < 11 := hV.1.2.2.2
  refine am_aload_n (pc := 0) C dX12_spread_0 rfl ?_
  refine am_iconstN (pc := 1) (k := 0) C dX12_spread_1 ?_
  refine am_putI (pc := 2) C dX12_spread_2 f12_3 bn_322 sh_322 rfl rfl ?_
  refine am_hp (show am_up h 322 0 (nI 0) = am_row h 322 (upd (h 322) 0 (nI 0)) from am_up_rw _ _ _ _) ?_
  refine am_aload_n (pc := 5) C dX12_spread_5 rfl ?_
  refine am_aload_n (pc := 6) C dX12_spread_6 rfl ?_
  refine am_iload_n (pc := 7) C dX12_spread_7 rfl ?_
  refine am_callVi (Y := mX12_noMemory) (pc := 8) (st := [.ref 322]) (As := [.int m]) (x := (am_b (!rf_okN m (rf_M (h 323))))) (h2 := (am_row h 322 (upd (h 322) 0 (nI 0)))) C dX12_spread_8 k12_304 v_X12_noMemory rfl rfl bn_322 sh_322 ⟨by decide, rfl⟩ (by decide) (Nat.zero_le _) (Nat.zero_le _) (Nat.le_of_ble_eq_true rfl) (c_X12_noMemory hR m (show rf_Cn (h 323) from hV.1)) ?_
  refine am_if_neB (pc := 11) (tgt := 21) C dX12_spread_11 (by decide) (fun q11 => ?_) (fun q11 => ?_)
  · skip
    refine am_iconstN (pc := 21) (k := 1) C dX12_spread_21 ?_
    refine am_goto (pc := 22) (tgt := 26) C dX12_spread_22 (by decide) ?_
    refine am_top (show (nI 1) = (am_b true) from rfl) ?_
    refine am_iconstN (pc := 26) (k := 1) C dX12_spread_26 ?_
    refine am_callVi (Y := mX12_throwsIf) (pc := 27) (st := []) (As := [.int (am_b true), .int (nI 1)]) (x := (am_b true)) (h2 := (am_row (am_row h 322 (upd (h 322) 0 (nI 0))) 322 (bif true then upd (upd (h 322) 0 (nI 0)) 0 (nI 1) else (upd (h 322) 0 (nI 0))))) C dX12_spread_27 k12_269 v_X12_throwsIf rfl rfl bn_322 sh_322 ⟨by decide, rfl⟩ (by decide) (Nat.zero_le _) (Nat.zero_le _) (Nat.le_of_ble_eq_true rfl) (c_X12_throwsIf hR true (nI 1)) ?_
    refine am_hp (show (am_row (am_row h 322 (upd (h 322) 0 (nI 0))) 322 (bif true then upd (upd (h 322) 0 (nI 0)) 0 (nI 1) else (upd (h 322) 0 (nI 0)))) = (am_row h 322 (bif true then upd (upd (h 322) 0 (nI 0)) 0 (nI 1) else (upd (h 322) 0 (nI 0)))) from am_row_s0) ?_
    refine am_hp (show (am_row h 322 (bif true then upd (upd (h 322) 0 (nI 0)) 0 (nI 1) else (upd (h 322) 0 (nI 0)))) = (am_row h 322 (upd (upd (h 322) 0 (nI 0)) 0 (nI 1))) from rfl) ?_
    refine am_if_neB (pc := 30) (tgt := 56) C dX12_spread_30 (by decide) (fun q30 => ?_) (fun q30 => ?_)
    · skip
      refine am_iconstN (pc := 56) (k := 0) C dX12_spread_56 ?_
      have K9 : rf_c_spread (h 323) m d n = 1 := (by unfold rf_c_spread; exact (rf_cb_t q11))
      exact am_ireti T dX12_spread_57 rfl (Nat.le_refl _) (Nat.le_refl _) (by rw [K9]; rfl) rfl (by rw [K9]; exact congrArg (am_row _ 322) rf_upd_upd)
    · skip
      exact Bool.noConfusion q30
  · skip
    refine am_iload_n (pc := 14) C dX12_spread_14 rfl ?_
    refine am_callSi (Y := mX12_noSide) (pc := 15) (st := [.ref 322]) (As := [.int d]) (x := (am_b (!rf_in d (nI 0) (nI 1)))) (h2 := (am_row h 322 (upd (h 322) 0 (nI 0)))) C dX12_spread_15 k12_393 v_X12_noSide rfl rfl (by decide) (Nat.zero_le _) (Nat.zero_le _) (Nat.le_of_ble_eq_true rfl) (c_X12_noSide hR d) ?_
    refine am_if_eqB (pc := 18) (tgt := 25) C dX12_spread_18 (by decide) (fun q18 => ?_) (fun q18 => ?_)
    · skip
      refine am_iconstN (pc := 25) (k := 0) C dX12_spread_25 ?_
      refine am_top (show (nI 0) = (am_b false) from rfl) ?_
      refine am_iconstN (pc := 26) (k := 1) C dX12_spread_26 ?_
      refine am_callVi (Y := mX12_throwsIf) (pc := 27) (st := []) (As := [.int (am_b false), .int (nI 1)]) (x := (am_b false)) (h2 := (am_row (am_row h 322 (upd (h 322) 0 (nI 0))) 322 (bif false then upd (upd (h 322) 0 (nI 0)) 0 (nI 1) else (upd (h 322) 0 (nI 0))))) C dX12_spread_27 k12_269 v_X12_throwsIf rfl rfl bn_322 sh_322 ⟨by decide, rfl⟩ (by decide) (Nat.zero_le _) (Nat.zero_le _) (Nat.le_of_ble_eq_true rfl) (c_X12_throwsIf hR false (nI 1)) ?_
      refine am_hp (show (am_row (am_row h 322 (upd (h 322) 0 (nI 0))) 322 (bif false then upd (upd (h 322) 0 (nI 0)) 0 (nI 1) else (upd (h 322) 0 (nI 0)))) = (am_row h 322 (bif false then upd (upd (h 322) 0 (nI 0)) 0 (nI 1) else (upd (h 322) 0 (nI 0)))) from am_row_s0) ?_
      refine am_hp (show (am_row h 322 (bif false then upd (upd (h 322) 0 (nI 0)) 0 (nI 1) else (upd (h 322) 0 (nI 0)))) = (am_row h 322 (upd (h 322) 0 (nI 0))) from rfl) ?_
      refine am_if_neB (pc := 30) (tgt := 56) C dX12_spread_30 (by decide) (fun q30 => ?_) (fun q30 => ?_)
      · skip
        exact Bool.noConfusion q30
      · skip
        refine am_aload_n (pc := 33) C dX12_spread_33 rfl ?_
        refine am_iload_n (pc := 34) C dX12_spread_34 rfl ?_
        refine am_iconstN (pc := 35) (k := 0) C dX12_spread_35 ?_
        refine am_bipush (pc := 36) (v := nI 60) C dX12_spread_36 (by decide) ?_
        refine am_callSi (Y := mX12_in) (pc := 38) (st := [.ref 322]) (As := [.int n, .int (nI 0), .int (nI 60)]) (x := (am_b (rf_in n (nI 0) (nI 60)))) (h2 := (am_row h 322 (upd (h 322) 0 (nI 0)))) C dX12_spread_38 k12_71 v_X12_in rfl rfl (by decide) (Nat.zero_le _) (Nat.zero_le _) (Nat.le_of_ble_eq_true rfl) (c_X12_in hR n (nI 0) (nI 60)) ?_
        refine am_if_neB (pc := 41) (tgt := 48) C dX12_spread_41 (by decide) (fun q41 => ?_) (fun q41 => ?_)
        · skip
          refine am_iconstN (pc := 48) (k := 0) C dX12_spread_48 ?_
          refine am_top (show (nI 0) = (am_b false) from rfl) ?_
          refine am_iconstN (pc := 49) (k := 2) C dX12_spread_49 ?_
          refine am_callVi (Y := mX12_throwsIf) (pc := 50) (st := []) (As := [.int (am_b false), .int (nI 2)]) (x := (am_b false)) (h2 := (am_row (am_row h 322 (upd (h 322) 0 (nI 0))) 322 (bif false then upd (upd (h 322) 0 (nI 0)) 0 (nI 2) else (upd (h 322) 0 (nI 0))))) C dX12_spread_50 k12_269 v_X12_throwsIf rfl rfl bn_322 sh_322 ⟨by decide, rfl⟩ (by decide) (Nat.zero_le _) (Nat.zero_le _) (Nat.le_of_ble_eq_true rfl) (c_X12_throwsIf hR false (nI 2)) ?_
          refine am_hp (show (am_row (am_row h 322 (upd (h 322) 0 (nI 0))) 322 (bif false then upd (upd (h 322) 0 (nI 0)) 0 (nI 2) else (upd (h 322) 0 (nI 0)))) = (am_row h 322 (bif false then upd (upd (h 322) 0 (nI 0)) 0 (nI 2) else (upd (h 322) 0 (nI 0)))) from am_row_s0) ?_
          refine am_hp (show (am_row h 322 (bif false then upd (upd (h 322) 0 (nI 0)) 0 (nI 2) else (upd (h 322) 0 (nI 0)))) = (am_row h 322 (upd (h 322) 0 (nI 0))) from rfl) ?_
          refine am_if_eqB (pc := 53) (tgt := 58) C dX12_spread_53 (by decide) (fun q53 => ?_) (fun q53 => ?_)
          · skip
            have K9 : rf_c_spread (h 323) m d n = 0 := by unfold rf_c_spread; exact ((rf_cb_f q11).trans ((rf_cb_f q18).trans (rf_cb_nf q41)))
            have hm := rf_okN_q (by omega) q11
            have hm2 := hm.2
            have hd := rf_side_q q18
            have hd2 := hd.2
            have hn := rf_in_n0 (by decide) q41
            have hn2 := hn.2
            refine am_lsv (ls' := [(0, .ref 322), (1, .int (nI (rf_nat m))), (2, .int d), (3, .int n)]) (congrArg (fun z9 : Int32 => ([(0, .ref 322), (1, Value.int z9), (2, .int d), (3, .int n)] : List (Nat × Value))) (show m = (nI (rf_nat m)) from hm.1)) ?_
            refine am_lsv (ls' := [(0, .ref 322), (1, .int (nI (rf_nat m))), (2, .int (nI (rf_nat d))), (3, .int n)]) (congrArg (fun z9 : Int32 => ([(0, .ref 322), (1, .int (nI (rf_nat m))), (2, Value.int z9), (3, .int n)] : List (Nat × Value))) (show d = (nI (rf_nat d)) from hd.1)) ?_
            refine am_lsv (ls' := [(0, .ref 322), (1, .int (nI (rf_nat m))), (2, .int (nI (rf_nat d))), (3, .int (nI (rf_nat n)))]) (congrArg (fun z9 : Int32 => ([(0, .ref 322), (1, .int (nI (rf_nat m))), (2, .int (nI (rf_nat d))), (3, Value.int z9)] : List (Nat × Value))) (show n = (nI (rf_nat n)) from hn.1)) ?_
            refine am_aload_n (pc := 58) C dX12_spread_58 rfl ?_
            refine am_aload_n (pc := 59) C dX12_spread_59 rfl ?_
            refine am_iload_n (pc := 60) C dX12_spread_60 rfl ?_
            refine am_iload_n (pc := 61) C dX12_spread_61 rfl ?_
            refine am_callVi (Y := mX12_usersOf) (pc := 62) (st := [.ref 322]) (As := [.int (nI (rf_nat d)), .int (nI (rf_nat m))]) (x := (rf_usersOf (h 323) (nI (rf_nat d)) (rf_nat m))) (h2 := (am_row h 322 (upd (h 322) 0 (nI 0)))) C dX12_spread_62 k12_390 v_X12_usersOf rfl rfl bn_322 sh_322 ⟨by decide, rfl⟩ (by decide) (Nat.zero_le _) (Nat.zero_le _) (Nat.le_of_ble_eq_true rfl) (c_X12_usersOf hR (nI (rf_nat d)) (rf_nat m) hV (show (rf_nat m) < 32 from by omega)) ?_
            refine am_iload_n (pc := 65) C dX12_spread_65 rfl ?_
            refine am_iload_n (pc := 66) C dX12_spread_66 rfl ?_
            refine am_iconstN (pc := 67) (k := 0) C dX12_spread_67 ?_
            refine am_callVi (Y := mX12_hears) (pc := 68) (st := []) (As := [.int (rf_usersOf (h 323) (nI (rf_nat d)) (rf_nat m)), .int (nI (rf_nat d)), .int (nI (rf_nat n)), .int (nI 0)]) (x := (rf_hr (h 323) (rf_usersOf (h 323) (nI (rf_nat d)) (rf_nat m)) (nI (rf_nat d)) (nI 0) ((rf_nat n) + 1))) (h2 := (am_row h 322 (upd (h 322) 0 (nI 0)))) C dX12_spread_68 k12_420 v_X12_hears rfl rfl bn_322 sh_322 ⟨by decide, rfl⟩ (by decide) (Nat.zero_le _) (Nat.zero_le _) (Nat.le_of_ble_eq_true rfl) (c_X12_hears hR (rf_usersOf (h 323) (nI (rf_nat d)) (rf_nat m)) (nI (rf_nat d)) (rf_nat n) (nI 0) hV (show (rf_nat n) < 100 from by omega)) ?_
            have A9 : rf_a_spread (h 323) m d n = (rf_hr (h 323) (rf_usersOf (h 323) (nI (rf_nat d)) (rf_nat m)) (nI (rf_nat d)) (nI 0) ((rf_nat n) + 1)) := rfl
            exact am_ireti T dX12_spread_71 rfl (Nat.le_refl _) (Nat.le_refl _) (by rw [K9]; exact A9.symm) rfl (by rw [K9]; exact rfl)
          · skip
            exact Bool.noConfusion q53
        · skip
          refine am_iconstN (pc := 44) (k := 1) C dX12_spread_44 ?_
          refine am_goto (pc := 45) (tgt := 49) C dX12_spread_45 (by decide) ?_
          refine am_top (show (nI 1) = (am_b true) from rfl) ?_
          refine am_iconstN (pc := 49) (k := 2) C dX12_spread_49 ?_
          refine am_callVi (Y := mX12_throwsIf) (pc := 50) (st := []) (As := [.int (am_b true), .int (nI 2)]) (x := (am_b true)) (h2 := (am_row (am_row h 322 (upd (h 322) 0 (nI 0))) 322 (bif true then upd (upd (h 322) 0 (nI 0)) 0 (nI 2) else (upd (h 322) 0 (nI 0))))) C dX12_spread_50 k12_269 v_X12_throwsIf rfl rfl bn_322 sh_322 ⟨by decide, rfl⟩ (by decide) (Nat.zero_le _) (Nat.zero_le _) (Nat.le_of_ble_eq_true rfl) (c_X12_throwsIf hR true (nI 2)) ?_
          refine am_hp (show (am_row (am_row h 322 (upd (h 322) 0 (nI 0))) 322 (bif true then upd (upd (h 322) 0 (nI 0)) 0 (nI 2) else (upd (h 322) 0 (nI 0)))) = (am_row h 322 (bif true then upd (upd (h 322) 0 (nI 0)) 0 (nI 2) else (upd (h 322) 0 (nI 0)))) from am_row_s0) ?_
          refine am_hp (show (am_row h 322 (bif true then upd (upd (h 322) 0 (nI 0)) 0 (nI 2) else (upd (h 322) 0 (nI 0)))) = (am_row h 322 (upd (upd (h 322) 0 (nI 0)) 0 (nI 2))) from rfl) ?_
          refine am_if_eqB (pc := 53) (tgt := 58) C dX12_spread_53 (by decide) (fun q53 => ?_) (fun q53 => ?_)
          · skip
            exact Bool.noConfusion q53
          · skip
            refine am_iconstN (pc := 56) (k := 0) C dX12_spread_56 ?_
            have K9 : rf_c_spread (h 323) m d n = 2 := (by unfold rf_c_spread; exact ((rf_cb_f q11).trans ((rf_cb_f q18).trans (rf_cb_nt q41))))
            exact am_ireti T dX12_spread_57 rfl (Nat.le_refl _) (Nat.le_refl _) (by rw [K9]; rfl) rfl (by rw [K9]; exact congrArg (am_row _ 322) rf_upd_upd)
    · skip
      refine am_iconstN (pc := 21) (k := 1) C dX12_spread_21 ?_
      refine am_goto (pc := 22) (tgt := 26) C dX12_spread_22 (by decide) ?_
      refine am_top (show (nI 1) = (am_b true) from rfl) ?_
      refine am_iconstN (pc := 26) (k := 1) C dX12_spread_26 ?_
      refine am_callVi (Y := mX12_throwsIf) (pc := 27) (st := []) (As := [.int (am_b true), .int (nI 1)]) (x := (am_b true)) (h2 := (am_row (am_row h 322 (upd (h 322) 0 (nI 0))) 322 (bif true then upd (upd (h 322) 0 (nI 0)) 0 (nI 1) else (upd (h 322) 0 (nI 0))))) C dX12_spread_27 k12_269 v_X12_throwsIf rfl rfl bn_322 sh_322 ⟨by decide, rfl⟩ (by decide) (Nat.zero_le _) (Nat.zero_le _) (Nat.le_of_ble_eq_true rfl) (c_X12_throwsIf hR true (nI 1)) ?_
      refine am_hp (show (am_row (am_row h 322 (upd (h 322) 0 (nI 0))) 322 (bif true then upd (upd (h 322) 0 (nI 0)) 0 (nI 1) else (upd (h 322) 0 (nI 0)))) = (am_row h 322 (bif true then upd (upd (h 322) 0 (nI 0)) 0 (nI 1) else (upd (h 322) 0 (nI 0)))) from am_row_s0) ?_
      refine am_hp (show (am_row h 322 (bif true then upd (upd (h 322) 0 (nI 0)) 0 (nI 1) else (upd (h 322) 0 (nI 0)))) = (am_row h 322 (upd (upd (h 322) 0 (nI 0)) 0 (nI 1))) from rfl) ?_
      refine am_if_neB (pc := 30) (tgt := 56) C dX12_spread_30 (by decide) (fun q30 => ?_) (fun q30 => ?_)
      · skip
        refine am_iconstN (pc := 56) (k := 0) C dX12_spread_56 ?_
        have K9 : rf_c_spread (h 323) m d n = 1 := (by unfold rf_c_spread; exact ((rf_cb_f q11).trans (rf_cb_t q18)))
        exact am_ireti T dX12_spread_57 rfl (Nat.le_refl _) (Nat.le_refl _) (by rw [K9]; rfl) rfl (by rw [K9]; exact congrArg (am_row _ 322) rf_upd_upd)
      · skip
        exact Bool.noConfusion q30

set_option maxHeartbeats 400000 in
set_option maxRecDepth 100000 in
theorem c_X12_soonest {ad : Nat → Nat} {r : am_R} (hR : am_rs r) {h : am_H} (a : Int32) (b : Int32) (hV : rf_I (h 323))  : am_CM mX12_soonest 3 0 0 [.ref 322, .int a, .int b] (am_VV ad) r h (am_po (some (.int (rf_ga (rf_c_soonest (h 323) a b) (rf_a_soonest (h 323) a b)))) r (am_row h 322 (rf_oc (h 322) (rf_c_soonest (h 323) a b)))) := by
  refine am_CM.of (by decide +kernel) (Nat.le_of_ble_eq_true rfl) (fun X C T => ?_)
  show am_G X (am_VV ad) (0, 0) 0 [(0, .ref 322), (1, .int a), (2, .int b)] [] r h
  have hM9 : rf_M (h 323) < 17 := hV.1.1.2
  have hS9 : rf_S (h 323) < 11 := hV.1.2.1.2
  have hO9 : rf_O (h 323) < 11 := hV.1.2.2.2
  refine am_aload_n (pc := 0) C dX12_soonest_0 rfl ?_
  refine am_iconstN (pc := 1) (k := 0) C dX12_soonest_1 ?_
  refine am_putI (pc := 2) C dX12_soonest_2 f12_3 bn_322 sh_322 rfl rfl ?_
  refine am_hp (show am_up h 322 0 (nI 0) = am_row h 322 (upd (h 322) 0 (nI 0)) from am_up_rw _ _ _ _) ?_
  refine am_aload_n (pc := 5) C dX12_soonest_5 rfl ?_
  refine am_aload_n (pc := 6) C dX12_soonest_6 rfl ?_
  refine am_iload_n (pc := 7) C dX12_soonest_7 rfl ?_
  refine am_callVi (Y := mX12_noSoldier) (pc := 8) (st := [.ref 322]) (As := [.int a]) (x := (am_b (!rf_okN a (rf_S (h 323))))) (h2 := (am_row h 322 (upd (h 322) 0 (nI 0)))) C dX12_soonest_8 k12_322 v_X12_noSoldier rfl rfl bn_322 sh_322 ⟨by decide, rfl⟩ (by decide) (Nat.zero_le _) (Nat.zero_le _) (Nat.le_of_ble_eq_true rfl) (c_X12_noSoldier hR a (show rf_Cn (h 323) from hV.1)) ?_
  refine am_if_neB (pc := 11) (tgt := 22) C dX12_soonest_11 (by decide) (fun q11 => ?_) (fun q11 => ?_)
  · skip
    refine am_iconstN (pc := 22) (k := 1) C dX12_soonest_22 ?_
    refine am_goto (pc := 23) (tgt := 27) C dX12_soonest_23 (by decide) ?_
    refine am_top (show (nI 1) = (am_b true) from rfl) ?_
    refine am_iconstN (pc := 27) (k := 1) C dX12_soonest_27 ?_
    refine am_callVi (Y := mX12_throwsIf) (pc := 28) (st := []) (As := [.int (am_b true), .int (nI 1)]) (x := (am_b true)) (h2 := (am_row (am_row h 322 (upd (h 322) 0 (nI 0))) 322 (bif true then upd (upd (h 322) 0 (nI 0)) 0 (nI 1) else (upd (h 322) 0 (nI 0))))) C dX12_soonest_28 k12_269 v_X12_throwsIf rfl rfl bn_322 sh_322 ⟨by decide, rfl⟩ (by decide) (Nat.zero_le _) (Nat.zero_le _) (Nat.le_of_ble_eq_true rfl) (c_X12_throwsIf hR true (nI 1)) ?_
    refine am_hp (show (am_row (am_row h 322 (upd (h 322) 0 (nI 0))) 322 (bif true then upd (upd (h 322) 0 (nI 0)) 0 (nI 1) else (upd (h 322) 0 (nI 0)))) = (am_row h 322 (bif true then upd (upd (h 322) 0 (nI 0)) 0 (nI 1) else (upd (h 322) 0 (nI 0)))) from am_row_s0) ?_
    refine am_hp (show (am_row h 322 (bif true then upd (upd (h 322) 0 (nI 0)) 0 (nI 1) else (upd (h 322) 0 (nI 0)))) = (am_row h 322 (upd (upd (h 322) 0 (nI 0)) 0 (nI 1))) from rfl) ?_
    refine am_if_neB (pc := 31) (tgt := 62) C dX12_soonest_31 (by decide) (fun q31 => ?_) (fun q31 => ?_)
    · skip
      refine am_iconstN (pc := 62) (k := 0) C dX12_soonest_62 ?_
      have K9 : rf_c_soonest (h 323) a b = 1 := (by unfold rf_c_soonest; exact (rf_cb_t q11))
      exact am_ireti T dX12_soonest_63 rfl (Nat.le_refl _) (Nat.le_refl _) (by rw [K9]; rfl) rfl (by rw [K9]; exact congrArg (am_row _ 322) rf_upd_upd)
    · skip
      exact Bool.noConfusion q31
  · skip
    refine am_aload_n (pc := 14) C dX12_soonest_14 rfl ?_
    refine am_iload_n (pc := 15) C dX12_soonest_15 rfl ?_
    refine am_callVi (Y := mX12_noSoldier) (pc := 16) (st := [.ref 322]) (As := [.int b]) (x := (am_b (!rf_okN b (rf_S (h 323))))) (h2 := (am_row h 322 (upd (h 322) 0 (nI 0)))) C dX12_soonest_16 k12_322 v_X12_noSoldier rfl rfl bn_322 sh_322 ⟨by decide, rfl⟩ (by decide) (Nat.zero_le _) (Nat.zero_le _) (Nat.le_of_ble_eq_true rfl) (c_X12_noSoldier hR b (show rf_Cn (h 323) from hV.1)) ?_
    refine am_if_eqB (pc := 19) (tgt := 26) C dX12_soonest_19 (by decide) (fun q19 => ?_) (fun q19 => ?_)
    · skip
      refine am_iconstN (pc := 26) (k := 0) C dX12_soonest_26 ?_
      refine am_top (show (nI 0) = (am_b false) from rfl) ?_
      refine am_iconstN (pc := 27) (k := 1) C dX12_soonest_27 ?_
      refine am_callVi (Y := mX12_throwsIf) (pc := 28) (st := []) (As := [.int (am_b false), .int (nI 1)]) (x := (am_b false)) (h2 := (am_row (am_row h 322 (upd (h 322) 0 (nI 0))) 322 (bif false then upd (upd (h 322) 0 (nI 0)) 0 (nI 1) else (upd (h 322) 0 (nI 0))))) C dX12_soonest_28 k12_269 v_X12_throwsIf rfl rfl bn_322 sh_322 ⟨by decide, rfl⟩ (by decide) (Nat.zero_le _) (Nat.zero_le _) (Nat.le_of_ble_eq_true rfl) (c_X12_throwsIf hR false (nI 1)) ?_
      refine am_hp (show (am_row (am_row h 322 (upd (h 322) 0 (nI 0))) 322 (bif false then upd (upd (h 322) 0 (nI 0)) 0 (nI 1) else (upd (h 322) 0 (nI 0)))) = (am_row h 322 (bif false then upd (upd (h 322) 0 (nI 0)) 0 (nI 1) else (upd (h 322) 0 (nI 0)))) from am_row_s0) ?_
      refine am_hp (show (am_row h 322 (bif false then upd (upd (h 322) 0 (nI 0)) 0 (nI 1) else (upd (h 322) 0 (nI 0)))) = (am_row h 322 (upd (h 322) 0 (nI 0))) from rfl) ?_
      refine am_if_neB (pc := 31) (tgt := 62) C dX12_soonest_31 (by decide) (fun q31 => ?_) (fun q31 => ?_)
      · skip
        exact Bool.noConfusion q31
      · skip
        have ha := rf_okN_q (by omega) q11
        have ha2 := ha.2
        have hb := rf_okN_q (by omega) q19
        have hb2 := hb.2
        refine am_lsv (ls' := [(0, .ref 322), (1, .int (nI (rf_nat a))), (2, .int b)]) (congrArg (fun z9 : Int32 => ([(0, .ref 322), (1, Value.int z9), (2, .int b)] : List (Nat × Value))) (show a = (nI (rf_nat a)) from ha.1)) ?_
        refine am_lsv (ls' := [(0, .ref 322), (1, .int (nI (rf_nat a))), (2, .int (nI (rf_nat b)))]) (congrArg (fun z9 : Int32 => ([(0, .ref 322), (1, .int (nI (rf_nat a))), (2, Value.int z9)] : List (Nat × Value))) (show b = (nI (rf_nat b)) from hb.1)) ?_
        refine am_aload_n (pc := 34) C dX12_soonest_34 rfl ?_
        refine am_aload_n (pc := 35) C dX12_soonest_35 rfl ?_
        refine am_iload_n (pc := 36) C dX12_soonest_36 rfl ?_
        refine am_iconstN (pc := 37) (k := 0) C dX12_soonest_37 ?_
        refine am_callVi (Y := mX12_of) (pc := 38) (st := [.ref 322]) (As := [.int (nI (rf_nat a)), .int (nI 0)]) (x := (rf_of (h 323) (rf_nat a) 0)) (h2 := (am_row h 322 (upd (h 322) 0 (nI 0)))) C dX12_soonest_38 k12_63 v_X12_of rfl rfl bn_322 sh_322 ⟨by decide, rfl⟩ (by decide) (Nat.zero_le _) (Nat.zero_le _) (Nat.le_of_ble_eq_true rfl) (c_X12_of hR (rf_nat a) 0 (show (rf_nat a) < 11 from by omega) (show 0 < 23 from by omega)) ?_
        refine am_aload_n (pc := 41) C dX12_soonest_41 rfl ?_
        refine am_iload_n (pc := 42) C dX12_soonest_42 rfl ?_
        refine am_iconstN (pc := 43) (k := 0) C dX12_soonest_43 ?_
        refine am_callVi (Y := mX12_of) (pc := 44) (st := [.int (rf_of (h 323) (rf_nat a) 0), .ref 322]) (As := [.int (nI (rf_nat b)), .int (nI 0)]) (x := (rf_of (h 323) (rf_nat b) 0)) (h2 := (am_row h 322 (upd (h 322) 0 (nI 0)))) C dX12_soonest_44 k12_63 v_X12_of rfl rfl bn_322 sh_322 ⟨by decide, rfl⟩ (by decide) (Nat.zero_le _) (Nat.zero_le _) (Nat.le_of_ble_eq_true rfl) (c_X12_of hR (rf_nat b) 0 (show (rf_nat b) < 11 from by omega) (show 0 < 23 from by omega)) ?_
        refine am_icmp_eq (pc := 47) (tgt := 54) C dX12_soonest_47 (by decide) (fun q47 => ?_) (fun q47 => ?_)
        · skip
          refine am_iconstN (pc := 54) (k := 0) C dX12_soonest_54 ?_
          refine am_top (show (nI 0) = (am_b false) from rfl) ?_
          refine am_iconstN (pc := 55) (k := 2) C dX12_soonest_55 ?_
          refine am_callVi (Y := mX12_throwsIf) (pc := 56) (st := []) (As := [.int (am_b false), .int (nI 2)]) (x := (am_b false)) (h2 := (am_row (am_row h 322 (upd (h 322) 0 (nI 0))) 322 (bif false then upd (upd (h 322) 0 (nI 0)) 0 (nI 2) else (upd (h 322) 0 (nI 0))))) C dX12_soonest_56 k12_269 v_X12_throwsIf rfl rfl bn_322 sh_322 ⟨by decide, rfl⟩ (by decide) (Nat.zero_le _) (Nat.zero_le _) (Nat.le_of_ble_eq_true rfl) (c_X12_throwsIf hR false (nI 2)) ?_
          refine am_hp (show (am_row (am_row h 322 (upd (h 322) 0 (nI 0))) 322 (bif false then upd (upd (h 322) 0 (nI 0)) 0 (nI 2) else (upd (h 322) 0 (nI 0)))) = (am_row h 322 (bif false then upd (upd (h 322) 0 (nI 0)) 0 (nI 2) else (upd (h 322) 0 (nI 0)))) from am_row_s0) ?_
          refine am_hp (show (am_row h 322 (bif false then upd (upd (h 322) 0 (nI 0)) 0 (nI 2) else (upd (h 322) 0 (nI 0)))) = (am_row h 322 (upd (h 322) 0 (nI 0))) from rfl) ?_
          refine am_if_eqB (pc := 59) (tgt := 64) C dX12_soonest_59 (by decide) (fun q59 => ?_) (fun q59 => ?_)
          · skip
            have K9 : rf_c_soonest (h 323) a b = 0 := by unfold rf_c_soonest; exact ((rf_cb_f q11).trans ((rf_cb_f q19).trans (rf_cb_f (show (!decide _) = false by rw [decide_eq_true q47]; rfl))))
            refine am_iconstN (pc := 64) (k := 0) C dX12_soonest_64 ?_
            refine am_istore_n (pc := 65) (ls' := [(0, .ref 322), (1, .int (nI (rf_nat a))), (2, .int (nI (rf_nat b))), (3, .int (nI 0))]) C dX12_soonest_65 (by decide) rfl ?_
            have L66 : ∀ (j66 : Nat) (n : Nat), (hnj : n + j66 = 61) → (hms : rf_sea (fun n => am_bt (rf_hr (h 323) (nI 1 <<< (nI (rf_nat a) &&& 31)) (rf_of (h 323) (rf_nat a) 0) (nI 0) (n + 1)) (rf_nat b)) (fun n => nI n) j66 n = rf_sea (fun n => am_bt (rf_hr (h 323) (nI 1 <<< (nI (rf_nat a) &&& 31)) (rf_of (h 323) (rf_nat a) 0) (nI 0) (n + 1)) (rf_nat b)) (fun n => nI n) 61 0) → am_G X (am_VV ad) (0, 0) 66 [(0, .ref 322), (1, .int (nI (rf_nat a))), (2, .int (nI (rf_nat b))), (3, .int (nI n))] [] r (am_row h 322 (upd (h 322) 0 (nI 0))) := by
              intro j66
              induction j66 with
              | zero =>
                intro n hnj hms
                refine am_iload_n (pc := 66) C dX12_soonest_66 rfl ?_
                refine am_bipush (pc := 67) (v := nI 60) C dX12_soonest_67 (by decide) ?_
                refine am_icmp_gtN (pc := 69) (tgt := 102) C dX12_soonest_69 (by decide) (by omega) (by omega) (fun q69 => ?_) (fun q69 => ?_)
                · skip
                  refine am_iconst (pc := 102) (v := -1) C dX12_soonest_102 rfl ?_
                  have A9 : rf_a_soonest (h 323) a b = (-1) := (by unfold rf_a_soonest; exact hms.symm)
                  exact am_ireti T dX12_soonest_103 rfl (Nat.le_refl _) (Nat.le_refl _) (by rw [K9]; exact A9.symm) rfl (by rw [K9]; exact rfl)
                · skip
                  exact absurd q69 (by omega)
              | succ j66 ih66 =>
                intro n hnj hms
                refine am_iload_n (pc := 66) C dX12_soonest_66 rfl ?_
                refine am_bipush (pc := 67) (v := nI 60) C dX12_soonest_67 (by decide) ?_
                refine am_icmp_gtN (pc := 69) (tgt := 102) C dX12_soonest_69 (by decide) (by omega) (by omega) (fun q69 => ?_) (fun q69 => ?_)
                · skip
                  exact absurd q69 (by omega)
                · skip
                  refine am_aload_n (pc := 72) C dX12_soonest_72 rfl ?_
                  refine am_iconstN (pc := 73) (k := 1) C dX12_soonest_73 ?_
                  refine am_iload_n (pc := 74) C dX12_soonest_74 rfl ?_
                  refine am_ishl (pc := 75) C dX12_soonest_75 ?_
                  refine am_aload_n (pc := 76) C dX12_soonest_76 rfl ?_
                  refine am_iload_n (pc := 77) C dX12_soonest_77 rfl ?_
                  refine am_iconstN (pc := 78) (k := 0) C dX12_soonest_78 ?_
                  refine am_callVi (Y := mX12_of) (pc := 79) (st := [.int ((nI 1) <<< ((nI (rf_nat a)) &&& 31)), .ref 322]) (As := [.int (nI (rf_nat a)), .int (nI 0)]) (x := (rf_of (h 323) (rf_nat a) 0)) (h2 := (am_row h 322 (upd (h 322) 0 (nI 0)))) C dX12_soonest_79 k12_63 v_X12_of rfl rfl bn_322 sh_322 ⟨by decide, rfl⟩ (by decide) (Nat.zero_le _) (Nat.zero_le _) (Nat.le_of_ble_eq_true rfl) (c_X12_of hR (rf_nat a) 0 (show (rf_nat a) < 11 from by omega) (show 0 < 23 from by omega)) ?_
                  refine am_iload_n (pc := 82) C dX12_soonest_82 rfl ?_
                  refine am_iconstN (pc := 83) (k := 0) C dX12_soonest_83 ?_
                  refine am_callVi (Y := mX12_hears) (pc := 84) (st := []) (As := [.int ((nI 1) <<< ((nI (rf_nat a)) &&& 31)), .int (rf_of (h 323) (rf_nat a) 0), .int (nI n), .int (nI 0)]) (x := (rf_hr (h 323) ((nI 1) <<< ((nI (rf_nat a)) &&& 31)) (rf_of (h 323) (rf_nat a) 0) (nI 0) (n + 1))) (h2 := (am_row h 322 (upd (h 322) 0 (nI 0)))) C dX12_soonest_84 k12_420 v_X12_hears rfl rfl bn_322 sh_322 ⟨by decide, rfl⟩ (by decide) (Nat.zero_le _) (Nat.zero_le _) (Nat.le_of_ble_eq_true rfl) (c_X12_hears hR ((nI 1) <<< ((nI (rf_nat a)) &&& 31)) (rf_of (h 323) (rf_nat a) 0) n (nI 0) hV (show n < 100 from by omega)) ?_
                  refine am_iload_n (pc := 87) C dX12_soonest_87 rfl ?_
                  refine am_callSi (Y := mX12_has) (pc := 88) (st := []) (As := [.int (rf_hr (h 323) ((nI 1) <<< ((nI (rf_nat a)) &&& 31)) (rf_of (h 323) (rf_nat a) 0) (nI 0) (n + 1)), .int (nI (rf_nat b))]) (x := (am_b (am_bt (rf_hr (h 323) ((nI 1) <<< ((nI (rf_nat a)) &&& 31)) (rf_of (h 323) (rf_nat a) 0) (nI 0) (n + 1)) (rf_nat b)))) (h2 := (am_row h 322 (upd (h 322) 0 (nI 0)))) C dX12_soonest_88 k12_81 v_X12_has rfl rfl (by decide) (Nat.zero_le _) (Nat.zero_le _) (Nat.le_of_ble_eq_true rfl) (c_X12_has hR (rf_hr (h 323) ((nI 1) <<< ((nI (rf_nat a)) &&& 31)) (rf_of (h 323) (rf_nat a) 0) (nI 0) (n + 1)) (rf_nat b) (show (rf_nat b) < 32 from by omega)) ?_
                  refine am_if_eqB (pc := 91) (tgt := 96) C dX12_soonest_91 (by decide) (fun q91 => ?_) (fun q91 => ?_)
                  · skip
                    refine am_iincN (pc := 96) (ls' := [(0, .ref 322), (1, .int (nI (rf_nat a))), (2, .int (nI (rf_nat b))), (3, .int (nI (n + 1)))]) C dX12_soonest_96 rfl (am_up1 _) (by decide) rfl ?_
                    refine am_goto (pc := 99) (tgt := 66) C dX12_soonest_99 (by decide) ?_
                    exact ih66 (n + 1) (by omega) (Eq.trans (Eq.symm (rf_sea_f (by exact q91))) hms)
                  · skip
                    refine am_iload_n (pc := 94) C dX12_soonest_94 rfl ?_
                    have A9 : rf_a_soonest (h 323) a b = (nI n) := (by unfold rf_a_soonest; exact Eq.trans (Eq.symm hms) (rf_sea_t (by exact q91)))
                    exact am_ireti T dX12_soonest_95 rfl (Nat.le_refl _) (Nat.le_refl _) (by rw [K9]; exact A9.symm) rfl (by rw [K9]; exact rfl)
            exact L66 61 0 (by omega) rfl
          · skip
            exact Bool.noConfusion q59
        · skip
          refine am_iconstN (pc := 50) (k := 1) C dX12_soonest_50 ?_
          refine am_goto (pc := 51) (tgt := 55) C dX12_soonest_51 (by decide) ?_
          refine am_top (show (nI 1) = (am_b true) from rfl) ?_
          refine am_iconstN (pc := 55) (k := 2) C dX12_soonest_55 ?_
          refine am_callVi (Y := mX12_throwsIf) (pc := 56) (st := []) (As := [.int (am_b true), .int (nI 2)]) (x := (am_b true)) (h2 := (am_row (am_row h 322 (upd (h 322) 0 (nI 0))) 322 (bif true then upd (upd (h 322) 0 (nI 0)) 0 (nI 2) else (upd (h 322) 0 (nI 0))))) C dX12_soonest_56 k12_269 v_X12_throwsIf rfl rfl bn_322 sh_322 ⟨by decide, rfl⟩ (by decide) (Nat.zero_le _) (Nat.zero_le _) (Nat.le_of_ble_eq_true rfl) (c_X12_throwsIf hR true (nI 2)) ?_
          refine am_hp (show (am_row (am_row h 322 (upd (h 322) 0 (nI 0))) 322 (bif true then upd (upd (h 322) 0 (nI 0)) 0 (nI 2) else (upd (h 322) 0 (nI 0)))) = (am_row h 322 (bif true then upd (upd (h 322) 0 (nI 0)) 0 (nI 2) else (upd (h 322) 0 (nI 0)))) from am_row_s0) ?_
          refine am_hp (show (am_row h 322 (bif true then upd (upd (h 322) 0 (nI 0)) 0 (nI 2) else (upd (h 322) 0 (nI 0)))) = (am_row h 322 (upd (upd (h 322) 0 (nI 0)) 0 (nI 2))) from rfl) ?_
          refine am_if_eqB (pc := 59) (tgt := 64) C dX12_soonest_59 (by decide) (fun q59 => ?_) (fun q59 => ?_)
          · skip
            exact Bool.noConfusion q59
          · skip
            refine am_iconstN (pc := 62) (k := 0) C dX12_soonest_62 ?_
            have K9 : rf_c_soonest (h 323) a b = 2 := (by unfold rf_c_soonest; exact ((rf_cb_f q11).trans ((rf_cb_f q19).trans (rf_cb_t (show (!decide _) = true by rw [decide_eq_false q47]; rfl)))))
            exact am_ireti T dX12_soonest_63 rfl (Nat.le_refl _) (Nat.le_refl _) (by rw [K9]; rfl) rfl (by rw [K9]; exact congrArg (am_row _ 322) rf_upd_upd)
    · skip
      refine am_iconstN (pc := 22) (k := 1) C dX12_soonest_22 ?_
      refine am_goto (pc := 23) (tgt := 27) C dX12_soonest_23 (by decide) ?_
      refine am_top (show (nI 1) = (am_b true) from rfl) ?_
      refine am_iconstN (pc := 27) (k := 1) C dX12_soonest_27 ?_
      refine am_callVi (Y := mX12_throwsIf) (pc := 28) (st := []) (As := [.int (am_b true), .int (nI 1)]) (x := (am_b true)) (h2 := (am_row (am_row h 322 (upd (h 322) 0 (nI 0))) 322 (bif true then upd (upd (h 322) 0 (nI 0)) 0 (nI 1) else (upd (h 322) 0 (nI 0))))) C dX12_soonest_28 k12_269 v_X12_throwsIf rfl rfl bn_322 sh_322 ⟨by decide, rfl⟩ (by decide) (Nat.zero_le _) (Nat.zero_le _) (Nat.le_of_ble_eq_true rfl) (c_X12_throwsIf hR true (nI 1)) ?_
      refine am_hp (show (am_row (am_row h 322 (upd (h 322) 0 (nI 0))) 322 (bif true then upd (upd (h 322) 0 (nI 0)) 0 (nI 1) else (upd (h 322) 0 (nI 0)))) = (am_row h 322 (bif true then upd (upd (h 322) 0 (nI 0)) 0 (nI 1) else (upd (h 322) 0 (nI 0)))) from am_row_s0) ?_
      refine am_hp (show (am_row h 322 (bif true then upd (upd (h 322) 0 (nI 0)) 0 (nI 1) else (upd (h 322) 0 (nI 0)))) = (am_row h 322 (upd (upd (h 322) 0 (nI 0)) 0 (nI 1))) from rfl) ?_
      refine am_if_neB (pc := 31) (tgt := 62) C dX12_soonest_31 (by decide) (fun q31 => ?_) (fun q31 => ?_)
      · skip
        refine am_iconstN (pc := 62) (k := 0) C dX12_soonest_62 ?_
        have K9 : rf_c_soonest (h 323) a b = 1 := (by unfold rf_c_soonest; exact ((rf_cb_f q11).trans (rf_cb_t q19)))
        exact am_ireti T dX12_soonest_63 rfl (Nat.le_refl _) (Nat.le_refl _) (by rw [K9]; rfl) rfl (by rw [K9]; exact congrArg (am_row _ 322) rf_upd_upd)
      · skip
        exact Bool.noConfusion q31

set_option maxHeartbeats 400000 in
set_option maxRecDepth 100000 in
theorem c_X12_mute {ad : Nat → Nat} {r : am_R} (hR : am_rs r) {h : am_H} (m : Int32) (d : Int32) (hV : rf_I (h 323))  : am_CM mX12_mute 6 0 0 [.ref 322, .int m, .int d] (am_VV ad) r h (am_po (some (.int (rf_ga (rf_c_mute (h 323) m d) (rf_a_mute (h 323) m d)))) r (am_row h 322 (rf_oc (h 322) (rf_c_mute (h 323) m d)))) := by
  refine am_CM.of (by decide +kernel) (Nat.le_of_ble_eq_true rfl) (fun X C T => ?_)
  show am_G X (am_VV ad) (0, 0) 0 [(0, .ref 322), (1, .int m), (2, .int d)] [] r h
  have hM9 : rf_M (h 323) < 17 := hV.1.1.2
  have hS9 : rf_S (h 323) < 11 := hV.1.2.1.2
  have hO9 : rf_O (h 323) < 11 := hV.1.2.2.2
  refine am_aload_n (pc := 0) C dX12_mute_0 rfl ?_
  refine am_iconstN (pc := 1) (k := 0) C dX12_mute_1 ?_
  refine am_putI (pc := 2) C dX12_mute_2 f12_3 bn_322 sh_322 rfl rfl ?_
  refine am_hp (show am_up h 322 0 (nI 0) = am_row h 322 (upd (h 322) 0 (nI 0)) from am_up_rw _ _ _ _) ?_
  refine am_aload_n (pc := 5) C dX12_mute_5 rfl ?_
  refine am_aload_n (pc := 6) C dX12_mute_6 rfl ?_
  refine am_iload_n (pc := 7) C dX12_mute_7 rfl ?_
  refine am_callVi (Y := mX12_noMemory) (pc := 8) (st := [.ref 322]) (As := [.int m]) (x := (am_b (!rf_okN m (rf_M (h 323))))) (h2 := (am_row h 322 (upd (h 322) 0 (nI 0)))) C dX12_mute_8 k12_304 v_X12_noMemory rfl rfl bn_322 sh_322 ⟨by decide, rfl⟩ (by decide) (Nat.zero_le _) (Nat.zero_le _) (Nat.le_of_ble_eq_true rfl) (c_X12_noMemory hR m (show rf_Cn (h 323) from hV.1)) ?_
  refine am_if_neB (pc := 11) (tgt := 21) C dX12_mute_11 (by decide) (fun q11 => ?_) (fun q11 => ?_)
  · skip
    refine am_iconstN (pc := 21) (k := 1) C dX12_mute_21 ?_
    refine am_goto (pc := 22) (tgt := 26) C dX12_mute_22 (by decide) ?_
    refine am_top (show (nI 1) = (am_b true) from rfl) ?_
    refine am_iconstN (pc := 26) (k := 1) C dX12_mute_26 ?_
    refine am_callVi (Y := mX12_throwsIf) (pc := 27) (st := []) (As := [.int (am_b true), .int (nI 1)]) (x := (am_b true)) (h2 := (am_row (am_row h 322 (upd (h 322) 0 (nI 0))) 322 (bif true then upd (upd (h 322) 0 (nI 0)) 0 (nI 1) else (upd (h 322) 0 (nI 0))))) C dX12_mute_27 k12_269 v_X12_throwsIf rfl rfl bn_322 sh_322 ⟨by decide, rfl⟩ (by decide) (Nat.zero_le _) (Nat.zero_le _) (Nat.le_of_ble_eq_true rfl) (c_X12_throwsIf hR true (nI 1)) ?_
    refine am_hp (show (am_row (am_row h 322 (upd (h 322) 0 (nI 0))) 322 (bif true then upd (upd (h 322) 0 (nI 0)) 0 (nI 1) else (upd (h 322) 0 (nI 0)))) = (am_row h 322 (bif true then upd (upd (h 322) 0 (nI 0)) 0 (nI 1) else (upd (h 322) 0 (nI 0)))) from am_row_s0) ?_
    refine am_hp (show (am_row h 322 (bif true then upd (upd (h 322) 0 (nI 0)) 0 (nI 1) else (upd (h 322) 0 (nI 0)))) = (am_row h 322 (upd (upd (h 322) 0 (nI 0)) 0 (nI 1))) from rfl) ?_
    refine am_if_eqB (pc := 30) (tgt := 35) C dX12_mute_30 (by decide) (fun q30 => ?_) (fun q30 => ?_)
    · skip
      exact Bool.noConfusion q30
    · skip
      refine am_iconstN (pc := 33) (k := 0) C dX12_mute_33 ?_
      have K9 : rf_c_mute (h 323) m d = 1 := (by unfold rf_c_mute; exact (rf_cb_t q11))
      exact am_ireti T dX12_mute_34 rfl (Nat.le_refl _) (Nat.le_refl _) (by rw [K9]; rfl) rfl (by rw [K9]; exact congrArg (am_row _ 322) rf_upd_upd)
  · skip
    refine am_iload_n (pc := 14) C dX12_mute_14 rfl ?_
    refine am_callSi (Y := mX12_noSide) (pc := 15) (st := [.ref 322]) (As := [.int d]) (x := (am_b (!rf_in d (nI 0) (nI 1)))) (h2 := (am_row h 322 (upd (h 322) 0 (nI 0)))) C dX12_mute_15 k12_393 v_X12_noSide rfl rfl (by decide) (Nat.zero_le _) (Nat.zero_le _) (Nat.le_of_ble_eq_true rfl) (c_X12_noSide hR d) ?_
    refine am_if_eqB (pc := 18) (tgt := 25) C dX12_mute_18 (by decide) (fun q18 => ?_) (fun q18 => ?_)
    · skip
      refine am_iconstN (pc := 25) (k := 0) C dX12_mute_25 ?_
      refine am_top (show (nI 0) = (am_b false) from rfl) ?_
      refine am_iconstN (pc := 26) (k := 1) C dX12_mute_26 ?_
      refine am_callVi (Y := mX12_throwsIf) (pc := 27) (st := []) (As := [.int (am_b false), .int (nI 1)]) (x := (am_b false)) (h2 := (am_row (am_row h 322 (upd (h 322) 0 (nI 0))) 322 (bif false then upd (upd (h 322) 0 (nI 0)) 0 (nI 1) else (upd (h 322) 0 (nI 0))))) C dX12_mute_27 k12_269 v_X12_throwsIf rfl rfl bn_322 sh_322 ⟨by decide, rfl⟩ (by decide) (Nat.zero_le _) (Nat.zero_le _) (Nat.le_of_ble_eq_true rfl) (c_X12_throwsIf hR false (nI 1)) ?_
      refine am_hp (show (am_row (am_row h 322 (upd (h 322) 0 (nI 0))) 322 (bif false then upd (upd (h 322) 0 (nI 0)) 0 (nI 1) else (upd (h 322) 0 (nI 0)))) = (am_row h 322 (bif false then upd (upd (h 322) 0 (nI 0)) 0 (nI 1) else (upd (h 322) 0 (nI 0)))) from am_row_s0) ?_
      refine am_hp (show (am_row h 322 (bif false then upd (upd (h 322) 0 (nI 0)) 0 (nI 1) else (upd (h 322) 0 (nI 0)))) = (am_row h 322 (upd (h 322) 0 (nI 0))) from rfl) ?_
      refine am_if_eqB (pc := 30) (tgt := 35) C dX12_mute_30 (by decide) (fun q30 => ?_) (fun q30 => ?_)
      · skip
        have K9 : rf_c_mute (h 323) m d = 0 := by unfold rf_c_mute; exact ((rf_cb_f q11).trans (rf_cb_f q18))
        have hm := rf_okN_q (by omega) q11
        have hm2 := hm.2
        have hd := rf_side_q q18
        have hd2 := hd.2
        have hso : rf_n (rf_sideOf (h 323) (nI (rf_nat d))) (2 ^ rf_S (h 323)) := am_lo_n (by omega) (rf_set_lo (by omega))
        have hso2 : rf_nat (rf_sideOf (h 323) (nI (rf_nat d))) < 2 ^ rf_S (h 323) := hso.2
        have h2p : 2 ^ rf_S (h 323) ≤ 2 ^ 10 := Nat.pow_le_pow_right (by decide) (by omega)
        refine am_lsv (ls' := [(0, .ref 322), (1, .int (nI (rf_nat m))), (2, .int d)]) (congrArg (fun z9 : Int32 => ([(0, .ref 322), (1, Value.int z9), (2, .int d)] : List (Nat × Value))) (show m = (nI (rf_nat m)) from hm.1)) ?_
        refine am_lsv (ls' := [(0, .ref 322), (1, .int (nI (rf_nat m))), (2, .int (nI (rf_nat d)))]) (congrArg (fun z9 : Int32 => ([(0, .ref 322), (1, .int (nI (rf_nat m))), (2, Value.int z9)] : List (Nat × Value))) (show d = (nI (rf_nat d)) from hd.1)) ?_
        refine am_aload_n (pc := 35) C dX12_mute_35 rfl ?_
        refine am_iload_n (pc := 36) C dX12_mute_36 rfl ?_
        refine am_callVi (Y := mX12_sideOf) (pc := 37) (st := []) (As := [.int (nI (rf_nat d))]) (x := (rf_sideOf (h 323) (nI (rf_nat d)))) (h2 := (am_row h 322 (upd (h 322) 0 (nI 0)))) C dX12_mute_37 k12_387 v_X12_sideOf rfl rfl bn_322 sh_322 ⟨by decide, rfl⟩ (by decide) (Nat.zero_le _) (Nat.zero_le _) (Nat.le_of_ble_eq_true rfl) (c_X12_sideOf hR (nI (rf_nat d)) (show rf_Cn (h 323) from hV.1)) ?_
        refine am_istore_n (pc := 40) (ls' := [(0, .ref 322), (1, .int (nI (rf_nat m))), (2, .int (nI (rf_nat d))), (3, .int (rf_sideOf (h 323) (nI (rf_nat d))))]) C dX12_mute_40 (by decide) rfl ?_
        refine am_aload_n (pc := 41) C dX12_mute_41 rfl ?_
        refine am_iload_n (pc := 42) C dX12_mute_42 rfl ?_
        refine am_iload_n (pc := 43) C dX12_mute_43 rfl ?_
        refine am_callVi (Y := mX12_usersOf) (pc := 44) (st := []) (As := [.int (nI (rf_nat d)), .int (nI (rf_nat m))]) (x := (rf_usersOf (h 323) (nI (rf_nat d)) (rf_nat m))) (h2 := (am_row h 322 (upd (h 322) 0 (nI 0)))) C dX12_mute_44 k12_390 v_X12_usersOf rfl rfl bn_322 sh_322 ⟨by decide, rfl⟩ (by decide) (Nat.zero_le _) (Nat.zero_le _) (Nat.le_of_ble_eq_true rfl) (c_X12_usersOf hR (nI (rf_nat d)) (rf_nat m) hV (show (rf_nat m) < 32 from by omega)) ?_
        refine am_istore (pc := 47) (ls' := [(0, .ref 322), (1, .int (nI (rf_nat m))), (2, .int (nI (rf_nat d))), (3, .int (rf_sideOf (h 323) (nI (rf_nat d)))), (4, .int (rf_usersOf (h 323) (nI (rf_nat d)) (rf_nat m)))]) C dX12_mute_47 (by decide) rfl ?_
        refine am_bipush (pc := 49) (v := -2) C dX12_mute_49 (by decide) ?_
        refine am_istore (pc := 51) (ls' := [(0, .ref 322), (1, .int (nI (rf_nat m))), (2, .int (nI (rf_nat d))), (3, .int (rf_sideOf (h 323) (nI (rf_nat d)))), (4, .int (rf_usersOf (h 323) (nI (rf_nat d)) (rf_nat m))), (5, .int (-2))]) C dX12_mute_51 (by decide) rfl ?_
        refine am_iconstN (pc := 53) (k := 0) C dX12_mute_53 ?_
        refine am_istore (pc := 54) (ls' := [(0, .ref 322), (1, .int (nI (rf_nat m))), (2, .int (nI (rf_nat d))), (3, .int (rf_sideOf (h 323) (nI (rf_nat d)))), (4, .int (rf_usersOf (h 323) (nI (rf_nat d)) (rf_nat m))), (5, .int (-2)), (6, .int (nI 0))]) C dX12_mute_54 (by decide) rfl ?_
        have L56 : ∀ (j56 i56 : Nat), i56 + j56 = rf_nat (rf_sideOf (h 323) (nI (rf_nat d))) + 1 → am_G X (am_VV ad) (0, 0) 56 [(0, .ref 322), (1, .int (nI (rf_nat m))), (2, .int (nI (rf_nat d))), (3, .int (rf_sideOf (h 323) (nI (rf_nat d)))), (4, .int (rf_usersOf (h 323) (nI (rf_nat d)) (rf_nat m))), (5, .int (rf_mu (h 323) (rf_usersOf (h 323) (nI (rf_nat d)) (rf_nat m)) (nI (rf_nat d)) (rf_sideOf (h 323) (nI (rf_nat d))) i56)), (6, .int (nI i56))] [] r (am_row h 322 (upd (h 322) 0 (nI 0))) := by
          intro j56
          induction j56 with
          | zero =>
            intro i56 hi56 
            obtain rfl : i56 = rf_nat (rf_sideOf (h 323) (nI (rf_nat d))) + 1 := by omega
            refine am_iload (pc := 56) C dX12_mute_56 rfl ?_
            refine am_iload_n (pc := 58) C dX12_mute_58 rfl ?_
            refine am_top (show (rf_sideOf (h 323) (nI (rf_nat d))) = (nI (rf_nat (rf_sideOf (h 323) (nI (rf_nat d))))) from hso.1) ?_
            refine am_icmp_gtN (pc := 59) (tgt := 122) C dX12_mute_59 (by decide) (by omega) (by omega) (fun q59 => ?_) (fun q59 => ?_)
            · skip
              refine am_iload (pc := 122) C dX12_mute_122 rfl ?_
              have A9 : rf_a_mute (h 323) m d = (rf_mu (h 323) (rf_usersOf (h 323) (nI (rf_nat d)) (rf_nat m)) (nI (rf_nat d)) (rf_sideOf (h 323) (nI (rf_nat d))) (rf_nat (rf_sideOf (h 323) (nI (rf_nat d))) + 1)) := rfl
              exact am_ireti T dX12_mute_124 rfl (Nat.le_refl _) (Nat.le_refl _) (by rw [K9]; exact A9.symm) rfl (by rw [K9]; exact rfl)
            · skip
              exact absurd q59 (by omega)
          | succ j56 ih56 =>
            intro i56 hi56 
            have hl56 : i56 < rf_nat (rf_sideOf (h 323) (nI (rf_nat d))) + 1 := by omega
            refine am_iload (pc := 56) C dX12_mute_56 rfl ?_
            refine am_iload_n (pc := 58) C dX12_mute_58 rfl ?_
            refine am_top (show (rf_sideOf (h 323) (nI (rf_nat d))) = (nI (rf_nat (rf_sideOf (h 323) (nI (rf_nat d))))) from hso.1) ?_
            refine am_icmp_gtN (pc := 59) (tgt := 122) C dX12_mute_59 (by decide) (by omega) (by omega) (fun q59 => ?_) (fun q59 => ?_)
            · skip
              exact absurd q59 (by omega)
            · skip
              refine am_iload (pc := 62) C dX12_mute_62 rfl ?_
              refine am_iload_n (pc := 64) C dX12_mute_64 rfl ?_
              refine am_iconst (pc := 65) (v := -1) C dX12_mute_65 rfl ?_
              refine am_ixor (pc := 66) C dX12_mute_66 ?_
              refine am_iand (pc := 67) C dX12_mute_67 ?_
              refine am_if_ne (pc := 68) (tgt := 116) C dX12_mute_68 (by decide) (fun q68 => ?_) (fun q68 => ?_)
              · skip
                refine am_iincN (pc := 116) (ls' := [(0, .ref 322), (1, .int (nI (rf_nat m))), (2, .int (nI (rf_nat d))), (3, .int (rf_sideOf (h 323) (nI (rf_nat d)))), (4, .int (rf_usersOf (h 323) (nI (rf_nat d)) (rf_nat m))), (5, .int (rf_mu (h 323) (rf_usersOf (h 323) (nI (rf_nat d)) (rf_nat m)) (nI (rf_nat d)) (rf_sideOf (h 323) (nI (rf_nat d))) i56)), (6, .int (nI (i56 + 1)))]) C dX12_mute_116 rfl (am_up1 _) (by decide) rfl ?_
                refine am_goto (pc := 119) (tgt := 56) C dX12_mute_119 (by decide) ?_
                refine am_lsv (ls' := [(0, .ref 322), (1, .int (nI (rf_nat m))), (2, .int (nI (rf_nat d))), (3, .int (rf_sideOf (h 323) (nI (rf_nat d)))), (4, .int (rf_usersOf (h 323) (nI (rf_nat d)) (rf_nat m))), (5, .int (rf_mu (h 323) (rf_usersOf (h 323) (nI (rf_nat d)) (rf_nat m)) (nI (rf_nat d)) (rf_sideOf (h 323) (nI (rf_nat d))) (i56 + 1))), (6, .int (nI (i56 + 1)))]) (by rw [show (rf_mu (h 323) (rf_usersOf (h 323) (nI (rf_nat d)) (rf_nat m)) (nI (rf_nat d)) (rf_sideOf (h 323) (nI (rf_nat d))) i56) = (rf_mu (h 323) (rf_usersOf (h 323) (nI (rf_nat d)) (rf_nat m)) (nI (rf_nat d)) (rf_sideOf (h 323) (nI (rf_nat d))) (i56 + 1)) from congrArg (fun z : Int32 => z) (rf_mu_no (fun z => q68 z.1)).symm]) ?_
                exact ih56 (i56 + 1) (by omega) 
              · skip
                refine am_iload (pc := 71) C dX12_mute_71 rfl ?_
                refine am_if_lt (pc := 73) (tgt := 92) C dX12_mute_73 (by decide) (fun q73 => ?_) (fun q73 => ?_)
                · skip
                  refine am_aload_n (pc := 92) C dX12_mute_92 rfl ?_
                  refine am_iload (pc := 93) C dX12_mute_93 rfl ?_
                  refine am_iload_n (pc := 95) C dX12_mute_95 rfl ?_
                  refine am_bipush (pc := 96) (v := nI 12) C dX12_mute_96 (by decide) ?_
                  refine am_iload (pc := 98) C dX12_mute_98 rfl ?_
                  refine am_callVi (Y := mX12_hears) (pc := 100) (st := []) (As := [.int (rf_usersOf (h 323) (nI (rf_nat d)) (rf_nat m)), .int (nI (rf_nat d)), .int (nI 12), .int (nI i56)]) (x := (rf_hr (h 323) (rf_usersOf (h 323) (nI (rf_nat d)) (rf_nat m)) (nI (rf_nat d)) (nI i56) (12 + 1))) (h2 := (am_row h 322 (upd (h 322) 0 (nI 0)))) C dX12_mute_100 k12_420 v_X12_hears rfl rfl bn_322 sh_322 ⟨by decide, rfl⟩ (by decide) (Nat.zero_le _) (Nat.zero_le _) (Nat.le_of_ble_eq_true rfl) (c_X12_hears hR (rf_usersOf (h 323) (nI (rf_nat d)) (rf_nat m)) (nI (rf_nat d)) 12 (nI i56) hV (show 12 < 100 from by omega)) ?_
                  refine am_iload_n (pc := 103) C dX12_mute_103 rfl ?_
                  refine am_icmp_eq (pc := 104) (tgt := 112) C dX12_mute_104 (by decide) (fun q104 => ?_) (fun q104 => ?_)
                  · skip
                    refine am_iload (pc := 112) C dX12_mute_112 rfl ?_
                    refine am_istore (pc := 114) (ls' := [(0, .ref 322), (1, .int (nI (rf_nat m))), (2, .int (nI (rf_nat d))), (3, .int (rf_sideOf (h 323) (nI (rf_nat d)))), (4, .int (rf_usersOf (h 323) (nI (rf_nat d)) (rf_nat m))), (5, .int (rf_mu (h 323) (rf_usersOf (h 323) (nI (rf_nat d)) (rf_nat m)) (nI (rf_nat d)) (rf_sideOf (h 323) (nI (rf_nat d))) i56)), (6, .int (nI i56))]) C dX12_mute_114 (by decide) rfl ?_
                    refine am_iincN (pc := 116) (ls' := [(0, .ref 322), (1, .int (nI (rf_nat m))), (2, .int (nI (rf_nat d))), (3, .int (rf_sideOf (h 323) (nI (rf_nat d)))), (4, .int (rf_usersOf (h 323) (nI (rf_nat d)) (rf_nat m))), (5, .int (rf_mu (h 323) (rf_usersOf (h 323) (nI (rf_nat d)) (rf_nat m)) (nI (rf_nat d)) (rf_sideOf (h 323) (nI (rf_nat d))) i56)), (6, .int (nI (i56 + 1)))]) C dX12_mute_116 rfl (am_up1 _) (by decide) rfl ?_
                    refine am_goto (pc := 119) (tgt := 56) C dX12_mute_119 (by decide) ?_
                    refine am_lsv (ls' := [(0, .ref 322), (1, .int (nI (rf_nat m))), (2, .int (nI (rf_nat d))), (3, .int (rf_sideOf (h 323) (nI (rf_nat d)))), (4, .int (rf_usersOf (h 323) (nI (rf_nat d)) (rf_nat m))), (5, .int (rf_mu (h 323) (rf_usersOf (h 323) (nI (rf_nat d)) (rf_nat m)) (nI (rf_nat d)) (rf_sideOf (h 323) (nI (rf_nat d))) (i56 + 1))), (6, .int (nI (i56 + 1)))]) (by rw [show (rf_mu (h 323) (rf_usersOf (h 323) (nI (rf_nat d)) (rf_nat m)) (nI (rf_nat d)) (rf_sideOf (h 323) (nI (rf_nat d))) i56) = (rf_mu (h 323) (rf_usersOf (h 323) (nI (rf_nat d)) (rf_nat m)) (nI (rf_nat d)) (rf_sideOf (h 323) (nI (rf_nat d))) (i56 + 1)) from (rf_mu_no (fun z => z.2.2 q104)).symm]) ?_
                    exact ih56 (i56 + 1) (by omega) 
                  · skip
                    refine am_iload (pc := 107) C dX12_mute_107 rfl ?_
                    refine am_goto (pc := 109) (tgt := 114) C dX12_mute_109 (by decide) ?_
                    refine am_istore (pc := 114) (ls' := [(0, .ref 322), (1, .int (nI (rf_nat m))), (2, .int (nI (rf_nat d))), (3, .int (rf_sideOf (h 323) (nI (rf_nat d)))), (4, .int (rf_usersOf (h 323) (nI (rf_nat d)) (rf_nat m))), (5, .int (nI i56)), (6, .int (nI i56))]) C dX12_mute_114 (by decide) rfl ?_
                    refine am_iincN (pc := 116) (ls' := [(0, .ref 322), (1, .int (nI (rf_nat m))), (2, .int (nI (rf_nat d))), (3, .int (rf_sideOf (h 323) (nI (rf_nat d)))), (4, .int (rf_usersOf (h 323) (nI (rf_nat d)) (rf_nat m))), (5, .int (nI i56)), (6, .int (nI (i56 + 1)))]) C dX12_mute_116 rfl (am_up1 _) (by decide) rfl ?_
                    refine am_goto (pc := 119) (tgt := 56) C dX12_mute_119 (by decide) ?_
                    refine am_lsv (ls' := [(0, .ref 322), (1, .int (nI (rf_nat m))), (2, .int (nI (rf_nat d))), (3, .int (rf_sideOf (h 323) (nI (rf_nat d)))), (4, .int (rf_usersOf (h 323) (nI (rf_nat d)) (rf_nat m))), (5, .int (rf_mu (h 323) (rf_usersOf (h 323) (nI (rf_nat d)) (rf_nat m)) (nI (rf_nat d)) (rf_sideOf (h 323) (nI (rf_nat d))) (i56 + 1))), (6, .int (nI (i56 + 1)))]) (by rw [show (nI i56) = (rf_mu (h 323) (rf_usersOf (h 323) (nI (rf_nat d)) (rf_nat m)) (nI (rf_nat d)) (rf_sideOf (h 323) (nI (rf_nat d))) (i56 + 1)) from (rf_mu_yes ⟨q68, Or.inl q73, q104⟩).symm]) ?_
                    exact ih56 (i56 + 1) (by omega) 
                · skip
                  refine am_iload (pc := 76) C dX12_mute_76 rfl ?_
                  refine am_callSi (Y := mJ6_bitCount_0f7a4) (pc := 78) (st := []) (As := [.int (nI i56)]) (x := (rf_pc (nI i56))) (h2 := (am_row h 322 (upd (h 322) 0 (nI 0)))) C dX12_mute_78 k12_278 v_J6_bitCount_0f7a4 rfl rfl (by decide) (Nat.zero_le _) (Nat.zero_le _) (Nat.le_of_ble_eq_true rfl) (c_J6_bitCount_0f7a4 hR (nI i56)) ?_
                  refine am_iload (pc := 81) C dX12_mute_81 rfl ?_
                  refine am_callSi (Y := mJ6_bitCount_0f7a4) (pc := 83) (st := [.int (rf_pc (nI i56))]) (As := [.int (rf_mu (h 323) (rf_usersOf (h 323) (nI (rf_nat d)) (rf_nat m)) (nI (rf_nat d)) (rf_sideOf (h 323) (nI (rf_nat d))) i56)]) (x := (rf_pc (rf_mu (h 323) (rf_usersOf (h 323) (nI (rf_nat d)) (rf_nat m)) (nI (rf_nat d)) (rf_sideOf (h 323) (nI (rf_nat d))) i56))) (h2 := (am_row h 322 (upd (h 322) 0 (nI 0)))) C dX12_mute_83 k12_278 v_J6_bitCount_0f7a4 rfl rfl (by decide) (Nat.zero_le _) (Nat.zero_le _) (Nat.le_of_ble_eq_true rfl) (c_J6_bitCount_0f7a4 hR (rf_mu (h 323) (rf_usersOf (h 323) (nI (rf_nat d)) (rf_nat m)) (nI (rf_nat d)) (rf_sideOf (h 323) (nI (rf_nat d))) i56)) ?_
                  refine am_icmp_lt (pc := 86) (tgt := 92) C dX12_mute_86 (by decide) (fun q86 => ?_) (fun q86 => ?_)
                  · skip
                    refine am_aload_n (pc := 92) C dX12_mute_92 rfl ?_
                    refine am_iload (pc := 93) C dX12_mute_93 rfl ?_
                    refine am_iload_n (pc := 95) C dX12_mute_95 rfl ?_
                    refine am_bipush (pc := 96) (v := nI 12) C dX12_mute_96 (by decide) ?_
                    refine am_iload (pc := 98) C dX12_mute_98 rfl ?_
                    refine am_callVi (Y := mX12_hears) (pc := 100) (st := []) (As := [.int (rf_usersOf (h 323) (nI (rf_nat d)) (rf_nat m)), .int (nI (rf_nat d)), .int (nI 12), .int (nI i56)]) (x := (rf_hr (h 323) (rf_usersOf (h 323) (nI (rf_nat d)) (rf_nat m)) (nI (rf_nat d)) (nI i56) (12 + 1))) (h2 := (am_row h 322 (upd (h 322) 0 (nI 0)))) C dX12_mute_100 k12_420 v_X12_hears rfl rfl bn_322 sh_322 ⟨by decide, rfl⟩ (by decide) (Nat.zero_le _) (Nat.zero_le _) (Nat.le_of_ble_eq_true rfl) (c_X12_hears hR (rf_usersOf (h 323) (nI (rf_nat d)) (rf_nat m)) (nI (rf_nat d)) 12 (nI i56) hV (show 12 < 100 from by omega)) ?_
                    refine am_iload_n (pc := 103) C dX12_mute_103 rfl ?_
                    refine am_icmp_eq (pc := 104) (tgt := 112) C dX12_mute_104 (by decide) (fun q104 => ?_) (fun q104 => ?_)
                    · skip
                      refine am_iload (pc := 112) C dX12_mute_112 rfl ?_
                      refine am_istore (pc := 114) (ls' := [(0, .ref 322), (1, .int (nI (rf_nat m))), (2, .int (nI (rf_nat d))), (3, .int (rf_sideOf (h 323) (nI (rf_nat d)))), (4, .int (rf_usersOf (h 323) (nI (rf_nat d)) (rf_nat m))), (5, .int (rf_mu (h 323) (rf_usersOf (h 323) (nI (rf_nat d)) (rf_nat m)) (nI (rf_nat d)) (rf_sideOf (h 323) (nI (rf_nat d))) i56)), (6, .int (nI i56))]) C dX12_mute_114 (by decide) rfl ?_
                      refine am_iincN (pc := 116) (ls' := [(0, .ref 322), (1, .int (nI (rf_nat m))), (2, .int (nI (rf_nat d))), (3, .int (rf_sideOf (h 323) (nI (rf_nat d)))), (4, .int (rf_usersOf (h 323) (nI (rf_nat d)) (rf_nat m))), (5, .int (rf_mu (h 323) (rf_usersOf (h 323) (nI (rf_nat d)) (rf_nat m)) (nI (rf_nat d)) (rf_sideOf (h 323) (nI (rf_nat d))) i56)), (6, .int (nI (i56 + 1)))]) C dX12_mute_116 rfl (am_up1 _) (by decide) rfl ?_
                      refine am_goto (pc := 119) (tgt := 56) C dX12_mute_119 (by decide) ?_
                      refine am_lsv (ls' := [(0, .ref 322), (1, .int (nI (rf_nat m))), (2, .int (nI (rf_nat d))), (3, .int (rf_sideOf (h 323) (nI (rf_nat d)))), (4, .int (rf_usersOf (h 323) (nI (rf_nat d)) (rf_nat m))), (5, .int (rf_mu (h 323) (rf_usersOf (h 323) (nI (rf_nat d)) (rf_nat m)) (nI (rf_nat d)) (rf_sideOf (h 323) (nI (rf_nat d))) (i56 + 1))), (6, .int (nI (i56 + 1)))]) (by rw [show (rf_mu (h 323) (rf_usersOf (h 323) (nI (rf_nat d)) (rf_nat m)) (nI (rf_nat d)) (rf_sideOf (h 323) (nI (rf_nat d))) i56) = (rf_mu (h 323) (rf_usersOf (h 323) (nI (rf_nat d)) (rf_nat m)) (nI (rf_nat d)) (rf_sideOf (h 323) (nI (rf_nat d))) (i56 + 1)) from (rf_mu_no (fun z => z.2.2 q104)).symm]) ?_
                      exact ih56 (i56 + 1) (by omega) 
                    · skip
                      refine am_iload (pc := 107) C dX12_mute_107 rfl ?_
                      refine am_goto (pc := 109) (tgt := 114) C dX12_mute_109 (by decide) ?_
                      refine am_istore (pc := 114) (ls' := [(0, .ref 322), (1, .int (nI (rf_nat m))), (2, .int (nI (rf_nat d))), (3, .int (rf_sideOf (h 323) (nI (rf_nat d)))), (4, .int (rf_usersOf (h 323) (nI (rf_nat d)) (rf_nat m))), (5, .int (nI i56)), (6, .int (nI i56))]) C dX12_mute_114 (by decide) rfl ?_
                      refine am_iincN (pc := 116) (ls' := [(0, .ref 322), (1, .int (nI (rf_nat m))), (2, .int (nI (rf_nat d))), (3, .int (rf_sideOf (h 323) (nI (rf_nat d)))), (4, .int (rf_usersOf (h 323) (nI (rf_nat d)) (rf_nat m))), (5, .int (nI i56)), (6, .int (nI (i56 + 1)))]) C dX12_mute_116 rfl (am_up1 _) (by decide) rfl ?_
                      refine am_goto (pc := 119) (tgt := 56) C dX12_mute_119 (by decide) ?_
                      refine am_lsv (ls' := [(0, .ref 322), (1, .int (nI (rf_nat m))), (2, .int (nI (rf_nat d))), (3, .int (rf_sideOf (h 323) (nI (rf_nat d)))), (4, .int (rf_usersOf (h 323) (nI (rf_nat d)) (rf_nat m))), (5, .int (rf_mu (h 323) (rf_usersOf (h 323) (nI (rf_nat d)) (rf_nat m)) (nI (rf_nat d)) (rf_sideOf (h 323) (nI (rf_nat d))) (i56 + 1))), (6, .int (nI (i56 + 1)))]) (by rw [show (nI i56) = (rf_mu (h 323) (rf_usersOf (h 323) (nI (rf_nat d)) (rf_nat m)) (nI (rf_nat d)) (rf_sideOf (h 323) (nI (rf_nat d))) (i56 + 1)) from (rf_mu_yes ⟨q68, Or.inr q86, q104⟩).symm]) ?_
                      exact ih56 (i56 + 1) (by omega) 
                  · skip
                    refine am_goto (pc := 89) (tgt := 116) C dX12_mute_89 (by decide) ?_
                    refine am_iincN (pc := 116) (ls' := [(0, .ref 322), (1, .int (nI (rf_nat m))), (2, .int (nI (rf_nat d))), (3, .int (rf_sideOf (h 323) (nI (rf_nat d)))), (4, .int (rf_usersOf (h 323) (nI (rf_nat d)) (rf_nat m))), (5, .int (rf_mu (h 323) (rf_usersOf (h 323) (nI (rf_nat d)) (rf_nat m)) (nI (rf_nat d)) (rf_sideOf (h 323) (nI (rf_nat d))) i56)), (6, .int (nI (i56 + 1)))]) C dX12_mute_116 rfl (am_up1 _) (by decide) rfl ?_
                    refine am_goto (pc := 119) (tgt := 56) C dX12_mute_119 (by decide) ?_
                    refine am_lsv (ls' := [(0, .ref 322), (1, .int (nI (rf_nat m))), (2, .int (nI (rf_nat d))), (3, .int (rf_sideOf (h 323) (nI (rf_nat d)))), (4, .int (rf_usersOf (h 323) (nI (rf_nat d)) (rf_nat m))), (5, .int (rf_mu (h 323) (rf_usersOf (h 323) (nI (rf_nat d)) (rf_nat m)) (nI (rf_nat d)) (rf_sideOf (h 323) (nI (rf_nat d))) (i56 + 1))), (6, .int (nI (i56 + 1)))]) (by rw [show (rf_mu (h 323) (rf_usersOf (h 323) (nI (rf_nat d)) (rf_nat m)) (nI (rf_nat d)) (rf_sideOf (h 323) (nI (rf_nat d))) i56) = (rf_mu (h 323) (rf_usersOf (h 323) (nI (rf_nat d)) (rf_nat m)) (nI (rf_nat d)) (rf_sideOf (h 323) (nI (rf_nat d))) (i56 + 1)) from (rf_mu_no (fun z => z.2.1.elim q73 q86)).symm]) ?_
                    exact ih56 (i56 + 1) (by omega) 
        exact L56 (rf_nat (rf_sideOf (h 323) (nI (rf_nat d))) + 1) 0 (by omega) 
      · skip
        exact Bool.noConfusion q30
    · skip
      refine am_iconstN (pc := 21) (k := 1) C dX12_mute_21 ?_
      refine am_goto (pc := 22) (tgt := 26) C dX12_mute_22 (by decide) ?_
      refine am_top (show (nI 1) = (am_b true) from rfl) ?_
      refine am_iconstN (pc := 26) (k := 1) C dX12_mute_26 ?_
      refine am_callVi (Y := mX12_throwsIf) (pc := 27) (st := []) (As := [.int (am_b true), .int (nI 1)]) (x := (am_b true)) (h2 := (am_row (am_row h 322 (upd (h 322) 0 (nI 0))) 322 (bif true then upd (upd (h 322) 0 (nI 0)) 0 (nI 1) else (upd (h 322) 0 (nI 0))))) C dX12_mute_27 k12_269 v_X12_throwsIf rfl rfl bn_322 sh_322 ⟨by decide, rfl⟩ (by decide) (Nat.zero_le _) (Nat.zero_le _) (Nat.le_of_ble_eq_true rfl) (c_X12_throwsIf hR true (nI 1)) ?_
      refine am_hp (show (am_row (am_row h 322 (upd (h 322) 0 (nI 0))) 322 (bif true then upd (upd (h 322) 0 (nI 0)) 0 (nI 1) else (upd (h 322) 0 (nI 0)))) = (am_row h 322 (bif true then upd (upd (h 322) 0 (nI 0)) 0 (nI 1) else (upd (h 322) 0 (nI 0)))) from am_row_s0) ?_
      refine am_hp (show (am_row h 322 (bif true then upd (upd (h 322) 0 (nI 0)) 0 (nI 1) else (upd (h 322) 0 (nI 0)))) = (am_row h 322 (upd (upd (h 322) 0 (nI 0)) 0 (nI 1))) from rfl) ?_
      refine am_if_eqB (pc := 30) (tgt := 35) C dX12_mute_30 (by decide) (fun q30 => ?_) (fun q30 => ?_)
      · skip
        exact Bool.noConfusion q30
      · skip
        refine am_iconstN (pc := 33) (k := 0) C dX12_mute_33 ?_
        have K9 : rf_c_mute (h 323) m d = 1 := (by unfold rf_c_mute; exact ((rf_cb_f q11).trans (rf_cb_t q18)))
        exact am_ireti T dX12_mute_34 rfl (Nat.le_refl _) (Nat.le_refl _) (by rw [K9]; rfl) rfl (by rw [K9]; exact congrArg (am_row _ 322) rf_upd_upd)

set_option maxHeartbeats 400000 in
set_option maxRecDepth 100000 in
theorem c_X12_amends {ad : Nat → Nat} {r : am_R} (hR : am_rs r) {h : am_H} (s : Int32) (hV : rf_I (h 323))  : am_CM mX12_amends 3 0 0 [.ref 322, .int s] (am_VV ad) r h (am_po (some (.int (rf_ga (rf_c_amends (h 323) s) (rf_a_amends (h 323) s)))) r (am_row h 322 (rf_oc (h 322) (rf_c_amends (h 323) s)))) := by
  refine am_CM.of (by decide +kernel) (Nat.le_of_ble_eq_true rfl) (fun X C T => ?_)
  show am_G X (am_VV ad) (0, 0) 0 [(0, .ref 322), (1, .int s)] [] r h
  have hM9 : rf_M (h 323) < 17 := hV.1.1.2
  have hS9 : rf_S (h 323) < 11 := hV.1.2.1.2
  have hO9 : rf_O (h 323) < 11 := hV.1.2.2.2
  refine am_aload_n (pc := 0) C dX12_amends_0 rfl ?_
  refine am_iconstN (pc := 1) (k := 0) C dX12_amends_1 ?_
  refine am_putI (pc := 2) C dX12_amends_2 f12_3 bn_322 sh_322 rfl rfl ?_
  refine am_hp (show am_up h 322 0 (nI 0) = am_row h 322 (upd (h 322) 0 (nI 0)) from am_up_rw _ _ _ _) ?_
  refine am_aload_n (pc := 5) C dX12_amends_5 rfl ?_
  refine am_aload_n (pc := 6) C dX12_amends_6 rfl ?_
  refine am_iload_n (pc := 7) C dX12_amends_7 rfl ?_
  refine am_callVi (Y := mX12_noSoldier) (pc := 8) (st := [.ref 322]) (As := [.int s]) (x := (am_b (!rf_okN s (rf_S (h 323))))) (h2 := (am_row h 322 (upd (h 322) 0 (nI 0)))) C dX12_amends_8 k12_322 v_X12_noSoldier rfl rfl bn_322 sh_322 ⟨by decide, rfl⟩ (by decide) (Nat.zero_le _) (Nat.zero_le _) (Nat.le_of_ble_eq_true rfl) (c_X12_noSoldier hR s (show rf_Cn (h 323) from hV.1)) ?_
  refine am_iconstN (pc := 11) (k := 1) C dX12_amends_11 ?_
  refine am_callVi (Y := mX12_throwsIf) (pc := 12) (st := []) (As := [.int (am_b (!rf_okN s (rf_S (h 323)))), .int (nI 1)]) (x := (am_b (!rf_okN s (rf_S (h 323))))) (h2 := (am_row (am_row h 322 (upd (h 322) 0 (nI 0))) 322 (bif (!rf_okN s (rf_S (h 323))) then upd (upd (h 322) 0 (nI 0)) 0 (nI 1) else (upd (h 322) 0 (nI 0))))) C dX12_amends_12 k12_269 v_X12_throwsIf rfl rfl bn_322 sh_322 ⟨by decide, rfl⟩ (by decide) (Nat.zero_le _) (Nat.zero_le _) (Nat.le_of_ble_eq_true rfl) (c_X12_throwsIf hR (!rf_okN s (rf_S (h 323))) (nI 1)) ?_
  refine am_hp (show (am_row (am_row h 322 (upd (h 322) 0 (nI 0))) 322 (bif (!rf_okN s (rf_S (h 323))) then upd (upd (h 322) 0 (nI 0)) 0 (nI 1) else (upd (h 322) 0 (nI 0)))) = (am_row h 322 (bif (!rf_okN s (rf_S (h 323))) then upd (upd (h 322) 0 (nI 0)) 0 (nI 1) else (upd (h 322) 0 (nI 0)))) from am_row_s0) ?_
  refine am_if_eqB (pc := 15) (tgt := 20) C dX12_amends_15 (by decide) (fun q15 => ?_) (fun q15 => ?_)
  · skip
    refine am_hp (show (am_row h 322 (bif (!rf_okN s (rf_S (h 323))) then upd (upd (h 322) 0 (nI 0)) 0 (nI 1) else (upd (h 322) 0 (nI 0)))) = (am_row h 322 (upd (h 322) 0 (nI 0))) from by rw [q15]; rfl) ?_
    have K9 : rf_c_amends (h 323) s = 0 := by unfold rf_c_amends; exact (rf_cb_f q15)
    have hs := rf_okN_q (by omega) q15
    have hs2 := hs.2
    have hIs := hV.2.1 (rf_nat s) hs2
    have hso : rf_n (rf_known (h 323) (rf_nat s)) (2 ^ rf_M (h 323)) := am_lo_n (by omega) (rf_bits_lo (by omega) _ (fun k hk => rf_li_lt hIs (by omega)))
    have hso2 : rf_nat (rf_known (h 323) (rf_nat s)) < 2 ^ rf_M (h 323) := hso.2
    have h2p : 2 ^ rf_M (h 323) ≤ 2 ^ 16 := Nat.pow_le_pow_right (by decide) (by omega)
    refine am_lsv (ls' := [(0, .ref 322), (1, .int (nI (rf_nat s)))]) (congrArg (fun z9 : Int32 => ([(0, .ref 322), (1, Value.int z9)] : List (Nat × Value))) (show s = (nI (rf_nat s)) from hs.1)) ?_
    refine am_aload_n (pc := 20) C dX12_amends_20 rfl ?_
    refine am_iload_n (pc := 21) C dX12_amends_21 rfl ?_
    refine am_callVi (Y := mX12_knownOf) (pc := 22) (st := []) (As := [.int (nI (rf_nat s))]) (x := (rf_known (h 323) (rf_nat s))) (h2 := (am_row h 322 (upd (h 322) 0 (nI 0)))) C dX12_amends_22 k12_88 v_X12_knownOf rfl rfl bn_322 sh_322 ⟨by decide, rfl⟩ (by decide) (Nat.zero_le _) (Nat.zero_le _) (Nat.le_of_ble_eq_true rfl) (c_X12_knownOf hR (rf_nat s) (show (rf_nat s) < rf_S (h 323) from by omega) (show rf_Is (h 323) (rf_nat s) from (hV.2.1 (rf_nat s) (by omega))) (show rf_Cn (h 323) from hV.1)) ?_
    refine am_istore_n (pc := 25) (ls' := [(0, .ref 322), (1, .int (nI (rf_nat s))), (2, .int (rf_known (h 323) (rf_nat s)))]) C dX12_amends_25 (by decide) rfl ?_
    refine am_iconst (pc := 26) (v := -1) C dX12_amends_26 rfl ?_
    refine am_istore_n (pc := 27) (ls' := [(0, .ref 322), (1, .int (nI (rf_nat s))), (2, .int (rf_known (h 323) (rf_nat s))), (3, .int (-1))]) C dX12_amends_27 (by decide) rfl ?_
    refine am_iconstN (pc := 28) (k := 0) C dX12_amends_28 ?_
    refine am_istore (pc := 29) (ls' := [(0, .ref 322), (1, .int (nI (rf_nat s))), (2, .int (rf_known (h 323) (rf_nat s))), (3, .int (-1)), (4, .int (nI 0))]) C dX12_amends_29 (by decide) rfl ?_
    have L31 : ∀ (j31 i31 : Nat), i31 + j31 = rf_nat (rf_known (h 323) (rf_nat s)) + 1 → am_G X (am_VV ad) (0, 0) 31 [(0, .ref 322), (1, .int (nI (rf_nat s))), (2, .int (rf_known (h 323) (rf_nat s))), (3, .int (rf_am (h 323) (rf_known (h 323) (rf_nat s)) i31)), (4, .int (nI i31))] [] r (am_row h 322 (upd (h 322) 0 (nI 0))) := by
      intro j31
      induction j31 with
      | zero =>
        intro i31 hi31 
        obtain rfl : i31 = rf_nat (rf_known (h 323) (rf_nat s)) + 1 := by omega
        refine am_iload (pc := 31) C dX12_amends_31 rfl ?_
        refine am_iload_n (pc := 33) C dX12_amends_33 rfl ?_
        refine am_top (show (rf_known (h 323) (rf_nat s)) = (nI (rf_nat (rf_known (h 323) (rf_nat s)))) from hso.1) ?_
        refine am_icmp_gtN (pc := 34) (tgt := 95) C dX12_amends_34 (by decide) (by omega) (by omega) (fun q34 => ?_) (fun q34 => ?_)
        · skip
          refine am_iload_n (pc := 95) C dX12_amends_95 rfl ?_
          have A9 : rf_a_amends (h 323) s = (rf_am (h 323) (rf_known (h 323) (rf_nat s)) (rf_nat (rf_known (h 323) (rf_nat s)) + 1)) := rfl
          exact am_ireti T dX12_amends_96 rfl (Nat.le_refl _) (Nat.le_refl _) (by rw [K9]; exact A9.symm) rfl (by rw [K9]; exact rfl)
        · skip
          exact absurd q34 (by omega)
      | succ j31 ih31 =>
        intro i31 hi31 
        have hl31 : i31 < rf_nat (rf_known (h 323) (rf_nat s)) + 1 := by omega
        refine am_iload (pc := 31) C dX12_amends_31 rfl ?_
        refine am_iload_n (pc := 33) C dX12_amends_33 rfl ?_
        refine am_top (show (rf_known (h 323) (rf_nat s)) = (nI (rf_nat (rf_known (h 323) (rf_nat s)))) from hso.1) ?_
        refine am_icmp_gtN (pc := 34) (tgt := 95) C dX12_amends_34 (by decide) (by omega) (by omega) (fun q34 => ?_) (fun q34 => ?_)
        · skip
          exact absurd q34 (by omega)
        · skip
          refine am_iload (pc := 37) C dX12_amends_37 rfl ?_
          refine am_iload_n (pc := 39) C dX12_amends_39 rfl ?_
          refine am_iconst (pc := 40) (v := -1) C dX12_amends_40 rfl ?_
          refine am_ixor (pc := 41) C dX12_amends_41 ?_
          refine am_iand (pc := 42) C dX12_amends_42 ?_
          refine am_if_ne (pc := 43) (tgt := 89) C dX12_amends_43 (by decide) (fun q43 => ?_) (fun q43 => ?_)
          · skip
            refine am_iincN (pc := 89) (ls' := [(0, .ref 322), (1, .int (nI (rf_nat s))), (2, .int (rf_known (h 323) (rf_nat s))), (3, .int (rf_am (h 323) (rf_known (h 323) (rf_nat s)) i31)), (4, .int (nI (i31 + 1)))]) C dX12_amends_89 rfl (am_up1 _) (by decide) rfl ?_
            refine am_goto (pc := 92) (tgt := 31) C dX12_amends_92 (by decide) ?_
            refine am_lsv (ls' := [(0, .ref 322), (1, .int (nI (rf_nat s))), (2, .int (rf_known (h 323) (rf_nat s))), (3, .int (rf_am (h 323) (rf_known (h 323) (rf_nat s)) (i31 + 1))), (4, .int (nI (i31 + 1)))]) (by rw [show (rf_am (h 323) (rf_known (h 323) (rf_nat s)) i31) = (rf_am (h 323) (rf_known (h 323) (rf_nat s)) (i31 + 1)) from (rf_am_no (fun z => q43 z.1)).symm]) ?_
            exact ih31 (i31 + 1) (by omega) 
          · skip
            refine am_iload_n (pc := 46) C dX12_amends_46 rfl ?_
            refine am_if_lt (pc := 47) (tgt := 65) C dX12_amends_47 (by decide) (fun q47 => ?_) (fun q47 => ?_)
            · skip
              refine am_aload_n (pc := 65) C dX12_amends_65 rfl ?_
              refine am_aload_n (pc := 66) C dX12_amends_66 rfl ?_
              refine am_iload_n (pc := 67) C dX12_amends_67 rfl ?_
              refine am_iload (pc := 68) C dX12_amends_68 rfl ?_
              refine am_iconst (pc := 70) (v := -1) C dX12_amends_70 rfl ?_
              refine am_ixor (pc := 71) C dX12_amends_71 ?_
              refine am_iand (pc := 72) C dX12_amends_72 ?_
              refine am_callVi (Y := mX12_usable) (pc := 73) (st := [.ref 322]) (As := [.int ((rf_known (h 323) (rf_nat s)) &&& ((nI i31) ^^^ (-1)))]) (x := (rf_usable (h 323) ((rf_known (h 323) (rf_nat s)) &&& ((nI i31) ^^^ (-1))))) (h2 := (am_row h 322 (upd (h 322) 0 (nI 0)))) C dX12_amends_73 k12_92 v_X12_usable rfl rfl bn_322 sh_322 ⟨by decide, rfl⟩ (by decide) (Nat.zero_le _) (Nat.zero_le _) (Nat.le_of_ble_eq_true rfl) (c_X12_usable hR ((rf_known (h 323) (rf_nat s)) &&& ((nI i31) ^^^ (-1))) (show rf_Cn (h 323) from hV.1)) ?_
              refine am_callVi (Y := mX12_isAtPeace) (pc := 76) (st := []) (As := [.int (rf_usable (h 323) ((rf_known (h 323) (rf_nat s)) &&& ((nI i31) ^^^ (-1))))]) (x := (am_b (rf_peace (h 323) (rf_usable (h 323) ((rf_known (h 323) (rf_nat s)) &&& ((nI i31) ^^^ (-1))))))) (h2 := (am_row h 322 (upd (h 322) 0 (nI 0)))) C dX12_amends_76 k12_424 v_X12_isAtPeace rfl rfl bn_322 sh_322 ⟨by decide, rfl⟩ (by decide) (Nat.zero_le _) (Nat.zero_le _) (Nat.le_of_ble_eq_true rfl) (c_X12_isAtPeace hR (rf_usable (h 323) ((rf_known (h 323) (rf_nat s)) &&& ((nI i31) ^^^ (-1)))) (show rf_Cn (h 323) from hV.1)) ?_
              refine am_if_eqB (pc := 79) (tgt := 87) C dX12_amends_79 (by decide) (fun q79 => ?_) (fun q79 => ?_)
              · skip
                refine am_iload_n (pc := 87) C dX12_amends_87 rfl ?_
                refine am_istore_n (pc := 88) (ls' := [(0, .ref 322), (1, .int (nI (rf_nat s))), (2, .int (rf_known (h 323) (rf_nat s))), (3, .int (rf_am (h 323) (rf_known (h 323) (rf_nat s)) i31)), (4, .int (nI i31))]) C dX12_amends_88 (by decide) rfl ?_
                refine am_iincN (pc := 89) (ls' := [(0, .ref 322), (1, .int (nI (rf_nat s))), (2, .int (rf_known (h 323) (rf_nat s))), (3, .int (rf_am (h 323) (rf_known (h 323) (rf_nat s)) i31)), (4, .int (nI (i31 + 1)))]) C dX12_amends_89 rfl (am_up1 _) (by decide) rfl ?_
                refine am_goto (pc := 92) (tgt := 31) C dX12_amends_92 (by decide) ?_
                refine am_lsv (ls' := [(0, .ref 322), (1, .int (nI (rf_nat s))), (2, .int (rf_known (h 323) (rf_nat s))), (3, .int (rf_am (h 323) (rf_known (h 323) (rf_nat s)) (i31 + 1))), (4, .int (nI (i31 + 1)))]) (by rw [show (rf_am (h 323) (rf_known (h 323) (rf_nat s)) i31) = (rf_am (h 323) (rf_known (h 323) (rf_nat s)) (i31 + 1)) from (rf_am_no (fun z => Bool.false_ne_true (q79.symm.trans z.2.2))).symm]) ?_
                exact ih31 (i31 + 1) (by omega) 
              · skip
                refine am_iload (pc := 82) C dX12_amends_82 rfl ?_
                refine am_goto (pc := 84) (tgt := 88) C dX12_amends_84 (by decide) ?_
                refine am_istore_n (pc := 88) (ls' := [(0, .ref 322), (1, .int (nI (rf_nat s))), (2, .int (rf_known (h 323) (rf_nat s))), (3, .int (nI i31)), (4, .int (nI i31))]) C dX12_amends_88 (by decide) rfl ?_
                refine am_iincN (pc := 89) (ls' := [(0, .ref 322), (1, .int (nI (rf_nat s))), (2, .int (rf_known (h 323) (rf_nat s))), (3, .int (nI i31)), (4, .int (nI (i31 + 1)))]) C dX12_amends_89 rfl (am_up1 _) (by decide) rfl ?_
                refine am_goto (pc := 92) (tgt := 31) C dX12_amends_92 (by decide) ?_
                refine am_lsv (ls' := [(0, .ref 322), (1, .int (nI (rf_nat s))), (2, .int (rf_known (h 323) (rf_nat s))), (3, .int (rf_am (h 323) (rf_known (h 323) (rf_nat s)) (i31 + 1))), (4, .int (nI (i31 + 1)))]) (by rw [show (nI i31) = (rf_am (h 323) (rf_known (h 323) (rf_nat s)) (i31 + 1)) from (rf_am_yes ⟨q43, Or.inl q47, q79⟩).symm]) ?_
                exact ih31 (i31 + 1) (by omega) 
            · skip
              refine am_iload (pc := 50) C dX12_amends_50 rfl ?_
              refine am_callSi (Y := mJ6_bitCount_0f7a4) (pc := 52) (st := []) (As := [.int (nI i31)]) (x := (rf_pc (nI i31))) (h2 := (am_row h 322 (upd (h 322) 0 (nI 0)))) C dX12_amends_52 k12_278 v_J6_bitCount_0f7a4 rfl rfl (by decide) (Nat.zero_le _) (Nat.zero_le _) (Nat.le_of_ble_eq_true rfl) (c_J6_bitCount_0f7a4 hR (nI i31)) ?_
              refine am_iload_n (pc := 55) C dX12_amends_55 rfl ?_
              refine am_callSi (Y := mJ6_bitCount_0f7a4) (pc := 56) (st := [.int (rf_pc (nI i31))]) (As := [.int (rf_am (h 323) (rf_known (h 323) (rf_nat s)) i31)]) (x := (rf_pc (rf_am (h 323) (rf_known (h 323) (rf_nat s)) i31))) (h2 := (am_row h 322 (upd (h 322) 0 (nI 0)))) C dX12_amends_56 k12_278 v_J6_bitCount_0f7a4 rfl rfl (by decide) (Nat.zero_le _) (Nat.zero_le _) (Nat.le_of_ble_eq_true rfl) (c_J6_bitCount_0f7a4 hR (rf_am (h 323) (rf_known (h 323) (rf_nat s)) i31)) ?_
              refine am_icmp_lt (pc := 59) (tgt := 65) C dX12_amends_59 (by decide) (fun q59 => ?_) (fun q59 => ?_)
              · skip
                refine am_aload_n (pc := 65) C dX12_amends_65 rfl ?_
                refine am_aload_n (pc := 66) C dX12_amends_66 rfl ?_
                refine am_iload_n (pc := 67) C dX12_amends_67 rfl ?_
                refine am_iload (pc := 68) C dX12_amends_68 rfl ?_
                refine am_iconst (pc := 70) (v := -1) C dX12_amends_70 rfl ?_
                refine am_ixor (pc := 71) C dX12_amends_71 ?_
                refine am_iand (pc := 72) C dX12_amends_72 ?_
                refine am_callVi (Y := mX12_usable) (pc := 73) (st := [.ref 322]) (As := [.int ((rf_known (h 323) (rf_nat s)) &&& ((nI i31) ^^^ (-1)))]) (x := (rf_usable (h 323) ((rf_known (h 323) (rf_nat s)) &&& ((nI i31) ^^^ (-1))))) (h2 := (am_row h 322 (upd (h 322) 0 (nI 0)))) C dX12_amends_73 k12_92 v_X12_usable rfl rfl bn_322 sh_322 ⟨by decide, rfl⟩ (by decide) (Nat.zero_le _) (Nat.zero_le _) (Nat.le_of_ble_eq_true rfl) (c_X12_usable hR ((rf_known (h 323) (rf_nat s)) &&& ((nI i31) ^^^ (-1))) (show rf_Cn (h 323) from hV.1)) ?_
                refine am_callVi (Y := mX12_isAtPeace) (pc := 76) (st := []) (As := [.int (rf_usable (h 323) ((rf_known (h 323) (rf_nat s)) &&& ((nI i31) ^^^ (-1))))]) (x := (am_b (rf_peace (h 323) (rf_usable (h 323) ((rf_known (h 323) (rf_nat s)) &&& ((nI i31) ^^^ (-1))))))) (h2 := (am_row h 322 (upd (h 322) 0 (nI 0)))) C dX12_amends_76 k12_424 v_X12_isAtPeace rfl rfl bn_322 sh_322 ⟨by decide, rfl⟩ (by decide) (Nat.zero_le _) (Nat.zero_le _) (Nat.le_of_ble_eq_true rfl) (c_X12_isAtPeace hR (rf_usable (h 323) ((rf_known (h 323) (rf_nat s)) &&& ((nI i31) ^^^ (-1)))) (show rf_Cn (h 323) from hV.1)) ?_
                refine am_if_eqB (pc := 79) (tgt := 87) C dX12_amends_79 (by decide) (fun q79 => ?_) (fun q79 => ?_)
                · skip
                  refine am_iload_n (pc := 87) C dX12_amends_87 rfl ?_
                  refine am_istore_n (pc := 88) (ls' := [(0, .ref 322), (1, .int (nI (rf_nat s))), (2, .int (rf_known (h 323) (rf_nat s))), (3, .int (rf_am (h 323) (rf_known (h 323) (rf_nat s)) i31)), (4, .int (nI i31))]) C dX12_amends_88 (by decide) rfl ?_
                  refine am_iincN (pc := 89) (ls' := [(0, .ref 322), (1, .int (nI (rf_nat s))), (2, .int (rf_known (h 323) (rf_nat s))), (3, .int (rf_am (h 323) (rf_known (h 323) (rf_nat s)) i31)), (4, .int (nI (i31 + 1)))]) C dX12_amends_89 rfl (am_up1 _) (by decide) rfl ?_
                  refine am_goto (pc := 92) (tgt := 31) C dX12_amends_92 (by decide) ?_
                  refine am_lsv (ls' := [(0, .ref 322), (1, .int (nI (rf_nat s))), (2, .int (rf_known (h 323) (rf_nat s))), (3, .int (rf_am (h 323) (rf_known (h 323) (rf_nat s)) (i31 + 1))), (4, .int (nI (i31 + 1)))]) (by rw [show (rf_am (h 323) (rf_known (h 323) (rf_nat s)) i31) = (rf_am (h 323) (rf_known (h 323) (rf_nat s)) (i31 + 1)) from (rf_am_no (fun z => Bool.false_ne_true (q79.symm.trans z.2.2))).symm]) ?_
                  exact ih31 (i31 + 1) (by omega) 
                · skip
                  refine am_iload (pc := 82) C dX12_amends_82 rfl ?_
                  refine am_goto (pc := 84) (tgt := 88) C dX12_amends_84 (by decide) ?_
                  refine am_istore_n (pc := 88) (ls' := [(0, .ref 322), (1, .int (nI (rf_nat s))), (2, .int (rf_known (h 323) (rf_nat s))), (3, .int (nI i31)), (4, .int (nI i31))]) C dX12_amends_88 (by decide) rfl ?_
                  refine am_iincN (pc := 89) (ls' := [(0, .ref 322), (1, .int (nI (rf_nat s))), (2, .int (rf_known (h 323) (rf_nat s))), (3, .int (nI i31)), (4, .int (nI (i31 + 1)))]) C dX12_amends_89 rfl (am_up1 _) (by decide) rfl ?_
                  refine am_goto (pc := 92) (tgt := 31) C dX12_amends_92 (by decide) ?_
                  refine am_lsv (ls' := [(0, .ref 322), (1, .int (nI (rf_nat s))), (2, .int (rf_known (h 323) (rf_nat s))), (3, .int (rf_am (h 323) (rf_known (h 323) (rf_nat s)) (i31 + 1))), (4, .int (nI (i31 + 1)))]) (by rw [show (nI i31) = (rf_am (h 323) (rf_known (h 323) (rf_nat s)) (i31 + 1)) from (rf_am_yes ⟨q43, Or.inr q59, q79⟩).symm]) ?_
                  exact ih31 (i31 + 1) (by omega) 
              · skip
                refine am_goto (pc := 62) (tgt := 89) C dX12_amends_62 (by decide) ?_
                refine am_iincN (pc := 89) (ls' := [(0, .ref 322), (1, .int (nI (rf_nat s))), (2, .int (rf_known (h 323) (rf_nat s))), (3, .int (rf_am (h 323) (rf_known (h 323) (rf_nat s)) i31)), (4, .int (nI (i31 + 1)))]) C dX12_amends_89 rfl (am_up1 _) (by decide) rfl ?_
                refine am_goto (pc := 92) (tgt := 31) C dX12_amends_92 (by decide) ?_
                refine am_lsv (ls' := [(0, .ref 322), (1, .int (nI (rf_nat s))), (2, .int (rf_known (h 323) (rf_nat s))), (3, .int (rf_am (h 323) (rf_known (h 323) (rf_nat s)) (i31 + 1))), (4, .int (nI (i31 + 1)))]) (by rw [show (rf_am (h 323) (rf_known (h 323) (rf_nat s)) i31) = (rf_am (h 323) (rf_known (h 323) (rf_nat s)) (i31 + 1)) from (rf_am_no (fun z => z.2.1.elim q47 q59)).symm]) ?_
                exact ih31 (i31 + 1) (by omega) 
    exact L31 (rf_nat (rf_known (h 323) (rf_nat s)) + 1) 0 (by omega) 
  · skip
    refine am_hp (show (am_row h 322 (bif (!rf_okN s (rf_S (h 323))) then upd (upd (h 322) 0 (nI 0)) 0 (nI 1) else (upd (h 322) 0 (nI 0)))) = (am_row h 322 (upd (upd (h 322) 0 (nI 0)) 0 (nI 1))) from by rw [q15]; rfl) ?_
    refine am_iconstN (pc := 18) (k := 0) C dX12_amends_18 ?_
    have K9 : rf_c_amends (h 323) s = 1 := (by unfold rf_c_amends; exact (rf_cb_t q15))
    exact am_ireti T dX12_amends_19 rfl (Nat.le_refl _) (Nat.le_refl _) (by rw [K9]; rfl) rfl (by rw [K9]; exact congrArg (am_row _ 322) rf_upd_upd)

set_option maxHeartbeats 400000 in
set_option maxRecDepth 100000 in
theorem c_X12_treaty {ad : Nat → Nat} {r : am_R} (hR : am_rs r) {h : am_H} (x : Int32) (undone : Bool) (hV : rf_I (h 323))  : am_CM mX12_treaty 6 0 0 [.ref 322, .int x, .int (am_b undone)] (am_VV ad) r h (am_po (some (.int (rf_ga (rf_c_treaty (h 323) x undone) (rf_a_treaty (h 323) x undone)))) r (am_row h 322 (rf_oc (h 322) (rf_c_treaty (h 323) x undone)))) := by
  refine am_CM.of (by decide +kernel) (Nat.le_of_ble_eq_true rfl) (fun X C T => ?_)
  show am_G X (am_VV ad) (0, 0) 0 [(0, .ref 322), (1, .int x), (2, .int (am_b undone))] [] r h
  have hM9 : rf_M (h 323) < 17 := hV.1.1.2
  have hS9 : rf_S (h 323) < 11 := hV.1.2.1.2
  have hO9 : rf_O (h 323) < 11 := hV.1.2.2.2
  refine am_aload_n (pc := 0) C dX12_treaty_0 rfl ?_
  refine am_iconstN (pc := 1) (k := 0) C dX12_treaty_1 ?_
  refine am_putI (pc := 2) C dX12_treaty_2 f12_3 bn_322 sh_322 rfl rfl ?_
  refine am_hp (show am_up h 322 0 (nI 0) = am_row h 322 (upd (h 322) 0 (nI 0)) from am_up_rw _ _ _ _) ?_
  have K9 : rf_c_treaty (h 323) x undone = 0 := rfl
  refine am_iload_n (pc := 5) C dX12_treaty_5 rfl ?_
  refine am_iconstN (pc := 6) (k := 1) C dX12_treaty_6 ?_
  refine am_aload_n (pc := 7) C dX12_treaty_7 rfl ?_
  refine am_callVi (Y := mX12_memories) (pc := 8) (st := [.int (nI 1), .int x]) (As := []) (x := (nI (rf_M (h 323)))) (h2 := (am_row h 322 (upd (h 322) 0 (nI 0)))) C dX12_treaty_8 k12_67 v_X12_memories rfl rfl bn_322 sh_322 ⟨by decide, rfl⟩ (by decide) (Nat.zero_le _) (Nat.zero_le _) (Nat.le_of_ble_eq_true rfl) (c_X12_memories hR (show rf_Cn (h 323) from hV.1)) ?_
  refine am_ishl (pc := 11) C dX12_treaty_11 ?_
  refine am_iconstN (pc := 12) (k := 1) C dX12_treaty_12 ?_
  refine am_isub (pc := 13) C dX12_treaty_13 ?_
  refine am_iand (pc := 14) C dX12_treaty_14 ?_
  refine am_istore_n (pc := 15) (ls' := [(0, .ref 322), (1, .int x), (2, .int (am_b undone)), (3, .int (x &&& (((nI 1) <<< ((nI (rf_M (h 323))) &&& 31)) - (nI 1))))]) C dX12_treaty_15 (by decide) rfl ?_
  refine am_iload_n (pc := 16) C dX12_treaty_16 rfl ?_
  refine am_aload_n (pc := 17) C dX12_treaty_17 rfl ?_
  refine am_callVi (Y := mX12_agrees) (pc := 18) (st := [.int (x &&& (((nI 1) <<< ((nI (rf_M (h 323))) &&& 31)) - (nI 1)))]) (As := []) (x := (rf_agrees (h 323))) (h2 := (am_row h 322 (upd (h 322) 0 (nI 0)))) C dX12_treaty_18 k12_430 v_X12_agrees rfl rfl bn_322 sh_322 ⟨by decide, rfl⟩ (by decide) (Nat.zero_le _) (Nat.zero_le _) (Nat.le_of_ble_eq_true rfl) (c_X12_agrees hR hV) ?_
  refine am_iconst (pc := 21) (v := -1) C dX12_treaty_21 rfl ?_
  refine am_ixor (pc := 22) C dX12_treaty_22 ?_
  refine am_iand (pc := 23) C dX12_treaty_23 ?_
  refine am_if_ne (pc := 24) (tgt := 31) C dX12_treaty_24 (by decide) (fun q24 => ?_) (fun q24 => ?_)
  · skip
    refine am_iconstN (pc := 31) (k := 0) C dX12_treaty_31 ?_
    refine am_istore (pc := 32) (ls' := [(0, .ref 322), (1, .int x), (2, .int (am_b undone)), (3, .int (x &&& (((nI 1) <<< ((nI (rf_M (h 323))) &&& 31)) - (nI 1)))), (4, .int (nI 0))]) C dX12_treaty_32 (by decide) rfl ?_
    refine am_lsv (ls' := [(0, .ref 322), (1, .int x), (2, .int (am_b undone)), (3, .int (x &&& (((nI 1) <<< ((nI (rf_M (h 323))) &&& 31)) - (nI 1)))), (4, .int (am_b false))]) (congrArg (fun z9 : Int32 => ([(0, .ref 322), (1, .int x), (2, .int (am_b undone)), (3, .int (x &&& (((nI 1) <<< ((nI (rf_M (h 323))) &&& 31)) - (nI 1)))), (4, Value.int z9)] : List (Nat × Value))) (show (nI 0) = (am_b false) from rfl)) ?_
    refine am_iload_n (pc := 34) C dX12_treaty_34 rfl ?_
    refine am_if_neB (pc := 35) (tgt := 49) C dX12_treaty_35 (by decide) (fun q35 => ?_) (fun q35 => ?_)
    · skip
      refine am_iload_n (pc := 49) C dX12_treaty_49 rfl ?_
      refine am_if_eq (pc := 50) (tgt := 58) C dX12_treaty_50 (by decide) (fun q50 => ?_) (fun q50 => ?_)
      · skip
        refine am_iload_n (pc := 58) C dX12_treaty_58 rfl ?_
        refine am_if_ne (pc := 59) (tgt := 66) C dX12_treaty_59 (by decide) (fun q59 => ?_) (fun q59 => ?_)
        · skip
          exact absurd q50 q59
        · skip
          refine am_iconst (pc := 62) (v := -1) C dX12_treaty_62 rfl ?_
          refine am_goto (pc := 63) (tgt := 67) C dX12_treaty_63 (by decide) ?_
          have A9 : rf_a_treaty (h 323) x undone = (-1) := (by rw [rf_a_treaty, q35, if_pos q59]; rfl)
          exact am_ireti T dX12_treaty_67 rfl (Nat.le_refl _) (Nat.le_refl _) (by rw [K9]; exact A9.symm) rfl (by rw [K9]; exact rfl)
      · skip
        refine am_iload (pc := 53) C dX12_treaty_53 rfl ?_
        refine am_if_neB (pc := 55) (tgt := 68) C dX12_treaty_55 (by decide) (fun q55 => ?_) (fun q55 => ?_)
        · skip
          exact Bool.noConfusion q55
        · skip
          refine am_iload_n (pc := 58) C dX12_treaty_58 rfl ?_
          refine am_if_ne (pc := 59) (tgt := 66) C dX12_treaty_59 (by decide) (fun q59 => ?_) (fun q59 => ?_)
          · skip
            refine am_iconstN (pc := 66) (k := 0) C dX12_treaty_66 ?_
            have A9 : rf_a_treaty (h 323) x undone = (nI 0) := (by rw [rf_a_treaty, q35, if_neg q59, decide_eq_false q24]; rfl)
            exact am_ireti T dX12_treaty_67 rfl (Nat.le_refl _) (Nat.le_refl _) (by rw [K9]; exact A9.symm) rfl (by rw [K9]; exact rfl)
          · skip
            refine am_iconst (pc := 62) (v := -1) C dX12_treaty_62 rfl ?_
            refine am_goto (pc := 63) (tgt := 67) C dX12_treaty_63 (by decide) ?_
            have A9 : rf_a_treaty (h 323) x undone = (-1) := (by rw [rf_a_treaty, q35, if_pos q59]; rfl)
            exact am_ireti T dX12_treaty_67 rfl (Nat.le_refl _) (Nat.le_refl _) (by rw [K9]; exact A9.symm) rfl (by rw [K9]; exact rfl)
    · skip
      refine am_iload (pc := 38) C dX12_treaty_38 rfl ?_
      refine am_if_eqB (pc := 40) (tgt := 47) C dX12_treaty_40 (by decide) (fun q40 => ?_) (fun q40 => ?_)
      · skip
        refine am_iconstN (pc := 47) (k := 0) C dX12_treaty_47 ?_
        have A9 : rf_a_treaty (h 323) x undone = (nI 0) := (by rw [rf_a_treaty, q35, decide_eq_false q24]; rfl)
        exact am_ireti T dX12_treaty_48 rfl (Nat.le_refl _) (Nat.le_refl _) (by rw [K9]; exact A9.symm) rfl (by rw [K9]; exact rfl)
      · skip
        exact Bool.noConfusion q40
  · skip
    refine am_iconstN (pc := 27) (k := 1) C dX12_treaty_27 ?_
    refine am_goto (pc := 28) (tgt := 32) C dX12_treaty_28 (by decide) ?_
    refine am_istore (pc := 32) (ls' := [(0, .ref 322), (1, .int x), (2, .int (am_b undone)), (3, .int (x &&& (((nI 1) <<< ((nI (rf_M (h 323))) &&& 31)) - (nI 1)))), (4, .int (nI 1))]) C dX12_treaty_32 (by decide) rfl ?_
    refine am_lsv (ls' := [(0, .ref 322), (1, .int x), (2, .int (am_b undone)), (3, .int (x &&& (((nI 1) <<< ((nI (rf_M (h 323))) &&& 31)) - (nI 1)))), (4, .int (am_b true))]) (congrArg (fun z9 : Int32 => ([(0, .ref 322), (1, .int x), (2, .int (am_b undone)), (3, .int (x &&& (((nI 1) <<< ((nI (rf_M (h 323))) &&& 31)) - (nI 1)))), (4, Value.int z9)] : List (Nat × Value))) (show (nI 1) = (am_b true) from rfl)) ?_
    refine am_iload_n (pc := 34) C dX12_treaty_34 rfl ?_
    refine am_if_neB (pc := 35) (tgt := 49) C dX12_treaty_35 (by decide) (fun q35 => ?_) (fun q35 => ?_)
    · skip
      refine am_iload_n (pc := 49) C dX12_treaty_49 rfl ?_
      refine am_if_eq (pc := 50) (tgt := 58) C dX12_treaty_50 (by decide) (fun q50 => ?_) (fun q50 => ?_)
      · skip
        refine am_iload_n (pc := 58) C dX12_treaty_58 rfl ?_
        refine am_if_ne (pc := 59) (tgt := 66) C dX12_treaty_59 (by decide) (fun q59 => ?_) (fun q59 => ?_)
        · skip
          exact absurd q50 q59
        · skip
          refine am_iconst (pc := 62) (v := -1) C dX12_treaty_62 rfl ?_
          refine am_goto (pc := 63) (tgt := 67) C dX12_treaty_63 (by decide) ?_
          have A9 : rf_a_treaty (h 323) x undone = (-1) := (by rw [rf_a_treaty, q35, if_pos q59]; rfl)
          exact am_ireti T dX12_treaty_67 rfl (Nat.le_refl _) (Nat.le_refl _) (by rw [K9]; exact A9.symm) rfl (by rw [K9]; exact rfl)
      · skip
        refine am_iload (pc := 53) C dX12_treaty_53 rfl ?_
        refine am_if_neB (pc := 55) (tgt := 68) C dX12_treaty_55 (by decide) (fun q55 => ?_) (fun q55 => ?_)
        · skip
          refine am_bipush (pc := 68) (v := nI 10) C dX12_treaty_68 (by decide) ?_
          refine am_istore (pc := 70) (ls' := [(0, .ref 322), (1, .int x), (2, .int (am_b undone)), (3, .int (x &&& (((nI 1) <<< ((nI (rf_M (h 323))) &&& 31)) - (nI 1)))), (4, .int (am_b true)), (5, .int (nI 10))]) C dX12_treaty_70 (by decide) rfl ?_
          refine am_iconstN (pc := 72) (k := 0) C dX12_treaty_72 ?_
          refine am_istore (pc := 73) (ls' := [(0, .ref 322), (1, .int x), (2, .int (am_b undone)), (3, .int (x &&& (((nI 1) <<< ((nI (rf_M (h 323))) &&& 31)) - (nI 1)))), (4, .int (am_b true)), (5, .int (nI 10)), (6, .int (nI 0))]) C dX12_treaty_73 (by decide) rfl ?_
          have L75 : ∀ (j75 i75 : Nat), i75 + j75 = rf_M (h 323) → am_G X (am_VV ad) (0, 0) 75 [(0, .ref 322), (1, .int x), (2, .int (am_b undone)), (3, .int (x &&& (((nI 1) <<< ((nI (rf_M (h 323))) &&& 31)) - (nI 1)))), (4, .int (am_b true)), (5, .int (rf_tr (h 323) (x &&& ((nI 1 <<< (nI (rf_M (h 323)) &&& 31)) - nI 1)) i75)), (6, .int (nI i75))] [] r (am_row h 322 (upd (h 322) 0 (nI 0))) := by
            intro j75
            induction j75 with
            | zero =>
              intro i75 hi75 
              obtain rfl : i75 = rf_M (h 323) := by omega
              refine am_iload (pc := 75) C dX12_treaty_75 rfl ?_
              refine am_aload_n (pc := 77) C dX12_treaty_77 rfl ?_
              refine am_callVi (Y := mX12_memories) (pc := 78) (st := [.int (nI (rf_M (h 323)))]) (As := []) (x := (nI (rf_M (h 323)))) (h2 := (am_row h 322 (upd (h 322) 0 (nI 0)))) C dX12_treaty_78 k12_67 v_X12_memories rfl rfl bn_322 sh_322 ⟨by decide, rfl⟩ (by decide) (Nat.zero_le _) (Nat.zero_le _) (Nat.le_of_ble_eq_true rfl) (c_X12_memories hR (show rf_Cn (h 323) from hV.1)) ?_
              refine am_icmp_geN (pc := 81) (tgt := 129) C dX12_treaty_81 (by decide) (by omega) (by omega) (fun q81 => ?_) (fun q81 => ?_)
              · skip
                refine am_iload (pc := 129) C dX12_treaty_129 rfl ?_
                have A9 : rf_a_treaty (h 323) x undone = (rf_tr (h 323) (x &&& ((nI 1 <<< (nI (rf_M (h 323)) &&& 31)) - nI 1)) (rf_M (h 323))) := (by rw [rf_a_treaty, q35, if_neg q50, decide_eq_true q24]; rfl)
                exact am_ireti T dX12_treaty_131 rfl (Nat.le_refl _) (Nat.le_refl _) (by rw [K9]; exact A9.symm) rfl (by rw [K9]; exact rfl)
              · skip
                exact absurd q81 (by omega)
            | succ j75 ih75 =>
              intro i75 hi75 
              have hl75 : i75 < rf_M (h 323) := by omega
              refine am_iload (pc := 75) C dX12_treaty_75 rfl ?_
              refine am_aload_n (pc := 77) C dX12_treaty_77 rfl ?_
              refine am_callVi (Y := mX12_memories) (pc := 78) (st := [.int (nI i75)]) (As := []) (x := (nI (rf_M (h 323)))) (h2 := (am_row h 322 (upd (h 322) 0 (nI 0)))) C dX12_treaty_78 k12_67 v_X12_memories rfl rfl bn_322 sh_322 ⟨by decide, rfl⟩ (by decide) (Nat.zero_le _) (Nat.zero_le _) (Nat.le_of_ble_eq_true rfl) (c_X12_memories hR (show rf_Cn (h 323) from hV.1)) ?_
              refine am_icmp_geN (pc := 81) (tgt := 129) C dX12_treaty_81 (by decide) (by omega) (by omega) (fun q81 => ?_) (fun q81 => ?_)
              · skip
                exact absurd q81 (by omega)
              · skip
                refine am_iload_n (pc := 84) C dX12_treaty_84 rfl ?_
                refine am_iload (pc := 85) C dX12_treaty_85 rfl ?_
                refine am_callSi (Y := mX12_has) (pc := 87) (st := []) (As := [.int (x &&& (((nI 1) <<< ((nI (rf_M (h 323))) &&& 31)) - (nI 1))), .int (nI i75)]) (x := (am_b (am_bt (x &&& (((nI 1) <<< ((nI (rf_M (h 323))) &&& 31)) - (nI 1))) i75))) (h2 := (am_row h 322 (upd (h 322) 0 (nI 0)))) C dX12_treaty_87 k12_81 v_X12_has rfl rfl (by decide) (Nat.zero_le _) (Nat.zero_le _) (Nat.le_of_ble_eq_true rfl) (c_X12_has hR (x &&& (((nI 1) <<< ((nI (rf_M (h 323))) &&& 31)) - (nI 1))) i75 (show i75 < 32 from by omega)) ?_
                refine am_if_eqB (pc := 90) (tgt := 123) C dX12_treaty_90 (by decide) (fun q90 => ?_) (fun q90 => ?_)
                · skip
                  refine am_iincN (pc := 123) (ls' := [(0, .ref 322), (1, .int x), (2, .int (am_b undone)), (3, .int (x &&& (((nI 1) <<< ((nI (rf_M (h 323))) &&& 31)) - (nI 1)))), (4, .int (am_b true)), (5, .int (rf_tr (h 323) (x &&& ((nI 1 <<< (nI (rf_M (h 323)) &&& 31)) - nI 1)) i75)), (6, .int (nI (i75 + 1)))]) C dX12_treaty_123 rfl (am_up1 _) (by decide) rfl ?_
                  refine am_goto (pc := 126) (tgt := 75) C dX12_treaty_126 (by decide) ?_
                  refine am_lsv (ls' := [(0, .ref 322), (1, .int x), (2, .int (am_b undone)), (3, .int (x &&& (((nI 1) <<< ((nI (rf_M (h 323))) &&& 31)) - (nI 1)))), (4, .int (am_b true)), (5, .int (rf_tr (h 323) (x &&& ((nI 1 <<< (nI (rf_M (h 323)) &&& 31)) - nI 1)) (i75 + 1))), (6, .int (nI (i75 + 1)))]) (by rw [show (rf_tr (h 323) (x &&& ((nI 1 <<< (nI (rf_M (h 323)) &&& 31)) - nI 1)) i75) = (rf_tr (h 323) (x &&& ((nI 1 <<< (nI (rf_M (h 323)) &&& 31)) - nI 1)) (i75 + 1)) from (by rw [rf_tr, if_neg (by rw [q90]; exact Bool.false_ne_true)])]) ?_
                  exact ih75 (i75 + 1) (by omega) 
                · skip
                  refine am_iload (pc := 93) C dX12_treaty_93 rfl ?_
                  refine am_aload_n (pc := 95) C dX12_treaty_95 rfl ?_
                  refine am_iconstN (pc := 96) (k := 0) C dX12_treaty_96 ?_
                  refine am_iload (pc := 97) C dX12_treaty_97 rfl ?_
                  refine am_callVi (Y := mX12_usersOf) (pc := 99) (st := [.int (rf_tr (h 323) (x &&& ((nI 1 <<< (nI (rf_M (h 323)) &&& 31)) - nI 1)) i75)]) (As := [.int (nI 0), .int (nI i75)]) (x := (rf_usersOf (h 323) (nI 0) i75)) (h2 := (am_row h 322 (upd (h 322) 0 (nI 0)))) C dX12_treaty_99 k12_390 v_X12_usersOf rfl rfl bn_322 sh_322 ⟨by decide, rfl⟩ (by decide) (Nat.zero_le _) (Nat.zero_le _) (Nat.le_of_ble_eq_true rfl) (c_X12_usersOf hR (nI 0) i75 hV (show i75 < 32 from by omega)) ?_
                  refine am_callSi (Y := mJ6_bitCount_0f7a4) (pc := 102) (st := [.int (rf_tr (h 323) (x &&& ((nI 1 <<< (nI (rf_M (h 323)) &&& 31)) - nI 1)) i75)]) (As := [.int (rf_usersOf (h 323) (nI 0) i75)]) (x := (rf_pc (rf_usersOf (h 323) (nI 0) i75))) (h2 := (am_row h 322 (upd (h 322) 0 (nI 0)))) C dX12_treaty_102 k12_278 v_J6_bitCount_0f7a4 rfl rfl (by decide) (Nat.zero_le _) (Nat.zero_le _) (Nat.le_of_ble_eq_true rfl) (c_J6_bitCount_0f7a4 hR (rf_usersOf (h 323) (nI 0) i75)) ?_
                  refine am_aload_n (pc := 105) C dX12_treaty_105 rfl ?_
                  refine am_iconstN (pc := 106) (k := 1) C dX12_treaty_106 ?_
                  refine am_iload (pc := 107) C dX12_treaty_107 rfl ?_
                  refine am_callVi (Y := mX12_usersOf) (pc := 109) (st := [.int (rf_pc (rf_usersOf (h 323) (nI 0) i75)), .int (rf_tr (h 323) (x &&& ((nI 1 <<< (nI (rf_M (h 323)) &&& 31)) - nI 1)) i75)]) (As := [.int (nI 1), .int (nI i75)]) (x := (rf_usersOf (h 323) (nI 1) i75)) (h2 := (am_row h 322 (upd (h 322) 0 (nI 0)))) C dX12_treaty_109 k12_390 v_X12_usersOf rfl rfl bn_322 sh_322 ⟨by decide, rfl⟩ (by decide) (Nat.zero_le _) (Nat.zero_le _) (Nat.le_of_ble_eq_true rfl) (c_X12_usersOf hR (nI 1) i75 hV (show i75 < 32 from by omega)) ?_
                  refine am_callSi (Y := mJ6_bitCount_0f7a4) (pc := 112) (st := [.int (rf_pc (rf_usersOf (h 323) (nI 0) i75)), .int (rf_tr (h 323) (x &&& ((nI 1 <<< (nI (rf_M (h 323)) &&& 31)) - nI 1)) i75)]) (As := [.int (rf_usersOf (h 323) (nI 1) i75)]) (x := (rf_pc (rf_usersOf (h 323) (nI 1) i75))) (h2 := (am_row h 322 (upd (h 322) 0 (nI 0)))) C dX12_treaty_112 k12_278 v_J6_bitCount_0f7a4 rfl rfl (by decide) (Nat.zero_le _) (Nat.zero_le _) (Nat.le_of_ble_eq_true rfl) (c_J6_bitCount_0f7a4 hR (rf_usersOf (h 323) (nI 1) i75)) ?_
                  refine am_callSi (Y := mJ9_min_7cf53) (pc := 115) (st := [.int (rf_tr (h 323) (x &&& ((nI 1 <<< (nI (rf_M (h 323)) &&& 31)) - nI 1)) i75)]) (As := [.int (rf_pc (rf_usersOf (h 323) (nI 0) i75)), .int (rf_pc (rf_usersOf (h 323) (nI 1) i75))]) (x := (rf_min (rf_pc (rf_usersOf (h 323) (nI 0) i75)) (rf_pc (rf_usersOf (h 323) (nI 1) i75)))) (h2 := (am_row h 322 (upd (h 322) 0 (nI 0)))) C dX12_treaty_115 k12_293 v_J9_min_7cf53 rfl rfl (by decide) (Nat.zero_le _) (Nat.zero_le _) (Nat.le_of_ble_eq_true rfl) (c_J9_min_7cf53 hR (rf_pc (rf_usersOf (h 323) (nI 0) i75)) (rf_pc (rf_usersOf (h 323) (nI 1) i75))) ?_
                  refine am_callSi (Y := mJ9_min_7cf53) (pc := 118) (st := []) (As := [.int (rf_tr (h 323) (x &&& ((nI 1 <<< (nI (rf_M (h 323)) &&& 31)) - nI 1)) i75), .int (rf_min (rf_pc (rf_usersOf (h 323) (nI 0) i75)) (rf_pc (rf_usersOf (h 323) (nI 1) i75)))]) (x := (rf_min (rf_tr (h 323) (x &&& ((nI 1 <<< (nI (rf_M (h 323)) &&& 31)) - nI 1)) i75) (rf_min (rf_pc (rf_usersOf (h 323) (nI 0) i75)) (rf_pc (rf_usersOf (h 323) (nI 1) i75))))) (h2 := (am_row h 322 (upd (h 322) 0 (nI 0)))) C dX12_treaty_118 k12_293 v_J9_min_7cf53 rfl rfl (by decide) (Nat.zero_le _) (Nat.zero_le _) (Nat.le_of_ble_eq_true rfl) (c_J9_min_7cf53 hR (rf_tr (h 323) (x &&& ((nI 1 <<< (nI (rf_M (h 323)) &&& 31)) - nI 1)) i75) (rf_min (rf_pc (rf_usersOf (h 323) (nI 0) i75)) (rf_pc (rf_usersOf (h 323) (nI 1) i75)))) ?_
                  refine am_istore (pc := 121) (ls' := [(0, .ref 322), (1, .int x), (2, .int (am_b undone)), (3, .int (x &&& (((nI 1) <<< ((nI (rf_M (h 323))) &&& 31)) - (nI 1)))), (4, .int (am_b true)), (5, .int (rf_min (rf_tr (h 323) (x &&& ((nI 1 <<< (nI (rf_M (h 323)) &&& 31)) - nI 1)) i75) (rf_min (rf_pc (rf_usersOf (h 323) (nI 0) i75)) (rf_pc (rf_usersOf (h 323) (nI 1) i75))))), (6, .int (nI i75))]) C dX12_treaty_121 (by decide) rfl ?_
                  refine am_iincN (pc := 123) (ls' := [(0, .ref 322), (1, .int x), (2, .int (am_b undone)), (3, .int (x &&& (((nI 1) <<< ((nI (rf_M (h 323))) &&& 31)) - (nI 1)))), (4, .int (am_b true)), (5, .int (rf_min (rf_tr (h 323) (x &&& ((nI 1 <<< (nI (rf_M (h 323)) &&& 31)) - nI 1)) i75) (rf_min (rf_pc (rf_usersOf (h 323) (nI 0) i75)) (rf_pc (rf_usersOf (h 323) (nI 1) i75))))), (6, .int (nI (i75 + 1)))]) C dX12_treaty_123 rfl (am_up1 _) (by decide) rfl ?_
                  refine am_goto (pc := 126) (tgt := 75) C dX12_treaty_126 (by decide) ?_
                  refine am_lsv (ls' := [(0, .ref 322), (1, .int x), (2, .int (am_b undone)), (3, .int (x &&& (((nI 1) <<< ((nI (rf_M (h 323))) &&& 31)) - (nI 1)))), (4, .int (am_b true)), (5, .int (rf_tr (h 323) (x &&& ((nI 1 <<< (nI (rf_M (h 323)) &&& 31)) - nI 1)) (i75 + 1))), (6, .int (nI (i75 + 1)))]) (by rw [show (rf_min (rf_tr (h 323) (x &&& ((nI 1 <<< (nI (rf_M (h 323)) &&& 31)) - nI 1)) i75) (rf_min (rf_pc (rf_usersOf (h 323) (nI 0) i75)) (rf_pc (rf_usersOf (h 323) (nI 1) i75)))) = (rf_tr (h 323) (x &&& ((nI 1 <<< (nI (rf_M (h 323)) &&& 31)) - nI 1)) (i75 + 1)) from (by rw [rf_tr, if_pos q90])]) ?_
                  exact ih75 (i75 + 1) (by omega) 
          exact L75 (rf_M (h 323)) 0 (by omega) 
        · skip
          exact Bool.noConfusion q55
    · skip
      refine am_iload (pc := 38) C dX12_treaty_38 rfl ?_
      refine am_if_eqB (pc := 40) (tgt := 47) C dX12_treaty_40 (by decide) (fun q40 => ?_) (fun q40 => ?_)
      · skip
        exact Bool.noConfusion q40
      · skip
        refine am_iconstN (pc := 43) (k := 1) C dX12_treaty_43 ?_
        refine am_goto (pc := 44) (tgt := 48) C dX12_treaty_44 (by decide) ?_
        have A9 : rf_a_treaty (h 323) x undone = (nI 1) := (by rw [rf_a_treaty, q35, decide_eq_true q24]; rfl)
        exact am_ireti T dX12_treaty_48 rfl (Nat.le_refl _) (Nat.le_refl _) (by rw [K9]; exact A9.symm) rfl (by rw [K9]; exact rfl)

