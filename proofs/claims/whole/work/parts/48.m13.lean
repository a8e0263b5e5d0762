/-! the reference's public calls: contracts -/
theorem rf_F_learn {w : rf_W} {s m : Nat} (hs : s < 10) (hk : rf_kn w s < 13) : rf_F (rf_learn w s m) = rf_F w := by
  rw [rf_learn]
  cases rf_can w s m with
  | false => rfl
  | true =>
    show rf_nat (upd (rf_app w s m) 8 _ 6) = rf_nat (w 6)
    rw [rf_upd_ne (by omega), rf_app, rf_upd_ne (by omega), rf_upd_ne (by omega)]

def rf_c_memory (w : rf_W) (m : Int32) (what : Int32) : Nat := rf_cb (!rf_okN m (rf_M w)) 1 (rf_cb (!(rf_in what (nI 0) (nI 7))) 2 (0))
def rf_a_memory (w : rf_W) (m : Int32) (what : Int32) : Int32 := if rf_nat what = 2 then rf_rests w (rf_nat m) else if rf_nat what = 3 then rf_bears w (rf_nat m) else if rf_nat what = 4 then rf_knowers w (rf_nat m) else if rf_nat what = 5 then rf_users w (rf_nat m) else if rf_nat what = 6 then nI (rf_inField w (nI (rf_nat m))) else if rf_nat what = 7 then rf_mem w (rf_nat m) 2 else rf_mem w (rf_nat m) (rf_nat what)
def rf_c_soldier (w : rf_W) (s : Int32) (what : Int32) : Nat := rf_cb (!rf_okN s (rf_S w)) 1 (rf_cb (!(rf_in what (nI 0) (nI 8))) 2 (0))
def rf_a_soldier (w : rf_W) (s : Int32) (what : Int32) : Int32 := if rf_nat what = 0 then rf_of w (rf_nat s) 0 else if rf_nat what = 1 then rf_pl w (rf_nat s) else if rf_nat what = 2 then rf_of w (rf_nat s) 9 else if rf_nat what = 3 then rf_known w (rf_nat s) else if rf_nat what = 4 then rf_use w (rf_nat s) else if rf_nat what = 5 then rf_of w (rf_nat s) 22 else if rf_nat what = 6 then rf_of w (rf_nat s) 2 else if rf_nat what = 7 then rf_worth w (rf_use w (rf_nat s)) (rf_M w) else rf_obeyed w 12 &&& rf_ordersOf w (nI (rf_nat s))
def rf_c_known (w : rf_W) (s : Int32) (k : Int32) : Nat := rf_cb (!rf_okN s (rf_S w)) 1 (0)
def rf_a_known (w : rf_W) (s : Int32) (k : Int32) : Int32 := bif rf_okN k (rf_kn w (rf_nat s)) then rf_of w (rf_nat s) (10 + rf_nat k) else -1
def rf_c_place (w : rf_W) (s : Int32) (x : Int32) : Nat := rf_cb (!rf_okN s (rf_S w)) 1 (rf_cb (!(rf_in x (nI 0) (nI 1000))) 2 (0))
def rf_a_place (w : rf_W) (s : Int32) (x : Int32) : Int32 := rf_pl2 w (rf_nat s) x
def rf_c_falls (w : rf_W) (s : Int32) (m : Int32) : Nat := rf_cb (!rf_okN s (rf_S w)) 1 (rf_cb (!rf_okN m (rf_M w)) 1 (0))
def rf_a_falls (w : rf_W) (s : Int32) (m : Int32) : Int32 := rf_falls w (rf_known w (rf_nat s)) (rf_nat m)
def rf_c_order (w : rf_W) (o : Int32) (what : Int32) : Nat := rf_cb (!(rf_okN o (rf_O w))) 1 (rf_cb (!(rf_in what (nI 0) (nI 3))) 2 (0))
def rf_a_order (w : rf_W) (o : Int32) (what : Int32) : Int32 := if rf_nat what < 2 then rf_ord w (rf_nat o) (rf_nat what) else if rf_nat what = 2 then (rf_obeyed w 12 >>> (nI (rf_nat o) &&& 31)) &&& nI 1 else rf_pc (rf_bearsAll w (rf_ord w (rf_nat o) 1))
def rf_c_rule (w : rf_W) (s : Int32) (what : Int32) : Nat := rf_cb (!rf_okN s (rf_S w)) 1 (rf_cb (!(rf_in what (nI 0) (nI 3))) 2 (0))
def rf_a_rule (w : rf_W) (s : Int32) (what : Int32) : Int32 := if rf_nat what < 3 then nI (rf_says w (rf_nat what) (rf_nat s)) else am_oi (rf_target w (rf_nat s))
def rf_c_hours (w : rf_W) (n : Int32) : Nat := rf_cb (!(rf_in n (nI 1) (nI 60))) 1 (0)
def rf_a_hours (w : rf_W) (n : Int32) : Int32 := rf_hrs w (rf_nat n) 7 - w 7
def rf_c_shoot (w : rf_W) (a : Int32) (b : Int32) (good : Bool) : Nat := rf_cb (!rf_okN a (rf_S w)) 1 (rf_cb (!rf_okN b (rf_S w)) 1 (rf_cb (decide (a = b)) 2 (rf_cb (decide (rf_of w (rf_nat a) 0 = rf_of w (rf_nat b) 0)) 3 (rf_cb (!decide (rf_pl w (rf_nat a) = rf_pl w (rf_nat b))) 3 (rf_cb (decide (rf_kn w (rf_nat b) = 0)) 3 (0))))))
def rf_a_shoot (w : rf_W) (a : Int32) (b : Int32) (good : Bool) : Int32 := nI (rf_takes w (rf_nat b) good - 1)
def rf_c_teach (w : rf_W) (a : Int32) (b : Int32) (m : Int32) : Nat := rf_cb (!rf_okN a (rf_S w)) 1 (rf_cb (!rf_okN b (rf_S w)) 1 (rf_cb (!rf_okN m (rf_M w)) 1 (rf_cb (decide (a = b)) 2 (rf_cb (!decide (rf_of w (rf_nat a) 0 = rf_of w (rf_nat b) 0)) 3 (rf_cb (!decide (rf_pl w (rf_nat a) = rf_pl w (rf_nat b))) 3 (rf_cb (!am_bt (rf_use w (rf_nat b)) (rf_nat m)) 3 (rf_cb (!rf_can w (rf_nat a) (rf_nat m)) 3 (0))))))))
def rf_a_teach (w : rf_W) (a : Int32) (b : Int32) (m : Int32) : Int32 := rf_of (rf_learn w (rf_nat a) (rf_nat m)) (rf_nat a) 9
def rf_c_gather (w : rf_W) (s : Int32) (k : Int32) : Nat := rf_cb (!rf_okN s (rf_S w)) 1 (rf_cb (!(rf_okN k (rf_F w))) 1 (rf_cb (!decide (rf_fld w (rf_nat k) 1 = rf_pl w (rf_nat s))) 2 (rf_cb (!(rf_can w (rf_nat s) (rf_nat (rf_fld w (rf_nat k) 0)))) 2 (0))))
def rf_a_gather (w : rf_W) (s : Int32) (k : Int32) : Int32 := nI (rf_nat (rf_fld w (rf_nat k) 0))
def rf_c_read (w : rf_W) (s : Int32) : Nat := rf_cb (!rf_okN s (rf_S w)) 1 (rf_cb (decide (rf_of w (rf_nat s) 22 = 0)) 2 (0))
def rf_a_read (w : rf_W) (s : Int32) : Int32 := nI (rf_read w (rf_nat s)).2
def rf_c_field (w : rf_W) (k : Int32) (what : Int32) : Nat := rf_cb (!(rf_okN k (rf_F w))) 1 (rf_cb (!(rf_in what (nI 0) (nI 2))) 2 (0))
def rf_a_field (w : rf_W) (k : Int32) (what : Int32) : Int32 := rf_fld w (rf_nat k) (rf_nat what)
def rf_c_plan (w : rf_W) (d : Int32) (lost : Bool) : Nat := rf_cb (!rf_in d (nI 0) (nI 1)) 1 (0)
def rf_a_plan (w : rf_W) (d : Int32) (lost : Bool) : Int32 := bif lost then rf_lostOf w (rf_nat d) else w (11 + rf_nat d)
def rf_c_shots (w : rf_W) (s : Int32) (m : Int32) (good : Bool) : Nat := rf_cb (!rf_okN s (rf_S w)) 1 (rf_cb (!rf_okN m (rf_M w)) 1 (0))
def rf_a_shots (w : rf_W) (s : Int32) (m : Int32) (good : Bool) : Int32 := nI (rf_shots w (rf_nat s) (rf_nat m) good)
def rf_c_company (w : rf_W) (n : Int32) : Nat := rf_cb (!(rf_in n (nI 0) (nI 12))) 1 (0)
def rf_a_company (w : rf_W) (n : Int32) : Int32 := rf_obeyed w (rf_nat n)
def rf_c_agreed (w : rf_W)  : Nat := 0
def rf_a_agreed (w : rf_W)  : Int32 := rf_agrees w
def rf_c_log (w : rf_W) (a : Int32) (what : Int32) : Nat := rf_cb (!(rf_in what (nI 0) (nI 4))) 1 (0)
def rf_a_log (w : rf_W) (a : Int32) (what : Int32) : Int32 := bif rf_okN a (rf_G w) then rf_log w (rf_nat a) (rf_nat what) else -1
set_option maxHeartbeats 400000 in
set_option maxRecDepth 100000 in
theorem c_X12_memory {ad : Nat → Nat} {r : am_R} (hR : am_rs r) {h : am_H} (m : Int32) (what : Int32) (hV : rf_I (h 323))  : am_CM mX12_memory 5 0 0 [.ref 322, .int m, .int what] (am_VV ad) r h (am_po (some (.int (rf_ga (rf_c_memory (h 323) m what) (rf_a_memory (h 323) m what)))) r (am_row h 322 (rf_oc (h 322) (rf_c_memory (h 323) m what)))) := by
  refine am_CM.of (by decide +kernel) (Nat.le_of_ble_eq_true rfl) (fun X C T => ?_)
  show am_G X (am_VV ad) (0, 0) 0 [(0, .ref 322), (1, .int m), (2, .int what)] [] r h
  have hM9 : rf_M (h 323) < 17 := hV.1.1.2
  have hS9 : rf_S (h 323) < 11 := hV.1.2.1.2
  have hO9 : rf_O (h 323) < 11 := hV.1.2.2.2
  refine am_aload_n (pc := 0) C dX12_memory_0 rfl ?_
  refine am_iconstN (pc := 1) (k := 0) C dX12_memory_1 ?_
  refine am_putI (pc := 2) C dX12_memory_2 f12_3 bn_322 sh_322 rfl rfl ?_
  refine am_hp (show am_up h 322 0 (nI 0) = am_row h 322 (upd (h 322) 0 (nI 0)) from am_up_rw _ _ _ _) ?_
  refine am_aload_n (pc := 5) C dX12_memory_5 rfl ?_
  refine am_aload_n (pc := 6) C dX12_memory_6 rfl ?_
  refine am_iload_n (pc := 7) C dX12_memory_7 rfl ?_
  refine am_callVi (Y := mX12_noMemory) (pc := 8) (st := [.ref 322]) (As := [.int m]) (x := (am_b (!rf_okN m (rf_M (h 323))))) (h2 := (am_row h 322 (upd (h 322) 0 (nI 0)))) C dX12_memory_8 k12_304 v_X12_noMemory rfl rfl bn_322 sh_322 ⟨by decide, rfl⟩ (by decide) (Nat.zero_le _) (Nat.zero_le _) (Nat.le_of_ble_eq_true rfl) (c_X12_noMemory hR m (show rf_Cn (h 323) from hV.1)) ?_
  refine am_iconstN (pc := 11) (k := 1) C dX12_memory_11 ?_
  refine am_callVi (Y := mX12_throwsIf) (pc := 12) (st := []) (As := [.int (am_b (!rf_okN m (rf_M (h 323)))), .int (nI 1)]) (x := (am_b (!rf_okN m (rf_M (h 323))))) (h2 := (am_row (am_row h 322 (upd (h 322) 0 (nI 0))) 322 (bif (!rf_okN m (rf_M (h 323))) then upd (upd (h 322) 0 (nI 0)) 0 (nI 1) else (upd (h 322) 0 (nI 0))))) C dX12_memory_12 k12_269 v_X12_throwsIf rfl rfl bn_322 sh_322 ⟨by decide, rfl⟩ (by decide) (Nat.zero_le _) (Nat.zero_le _) (Nat.le_of_ble_eq_true rfl) (c_X12_throwsIf hR (!rf_okN m (rf_M (h 323))) (nI 1)) ?_
  refine am_hp (show (am_row (am_row h 322 (upd (h 322) 0 (nI 0))) 322 (bif (!rf_okN m (rf_M (h 323))) then upd (upd (h 322) 0 (nI 0)) 0 (nI 1) else (upd (h 322) 0 (nI 0)))) = (am_row h 322 (bif (!rf_okN m (rf_M (h 323))) then upd (upd (h 322) 0 (nI 0)) 0 (nI 1) else (upd (h 322) 0 (nI 0)))) from am_row_s0) ?_
  refine am_if_neB (pc := 15) (tgt := 41) C dX12_memory_15 (by decide) (fun q15 => ?_) (fun q15 => ?_)
  · skip
    refine am_hp (show (am_row h 322 (bif (!rf_okN m (rf_M (h 323))) then upd (upd (h 322) 0 (nI 0)) 0 (nI 1) else (upd (h 322) 0 (nI 0)))) = (am_row h 322 (upd (upd (h 322) 0 (nI 0)) 0 (nI 1))) from by rw [q15]; rfl) ?_
    refine am_iconstN (pc := 41) (k := 0) C dX12_memory_41 ?_
    have K9 : rf_c_memory (h 323) m what = 1 := (by unfold rf_c_memory; exact (rf_cb_t q15))
    exact am_ireti T dX12_memory_42 rfl (Nat.le_refl _) (Nat.le_refl _) (by rw [K9]; rfl) rfl (by rw [K9]; exact congrArg (am_row _ 322) rf_upd_upd)
  · skip
    refine am_hp (show (am_row h 322 (bif (!rf_okN m (rf_M (h 323))) then upd (upd (h 322) 0 (nI 0)) 0 (nI 1) else (upd (h 322) 0 (nI 0)))) = (am_row h 322 (upd (h 322) 0 (nI 0))) from by rw [q15]; rfl) ?_
    refine am_aload_n (pc := 18) C dX12_memory_18 rfl ?_
    refine am_iload_n (pc := 19) C dX12_memory_19 rfl ?_
    refine am_iconstN (pc := 20) (k := 0) C dX12_memory_20 ?_
    refine am_bipush (pc := 21) (v := nI 7) C dX12_memory_21 (by decide) ?_
    refine am_callSi (Y := mX12_in) (pc := 23) (st := [.ref 322]) (As := [.int what, .int (nI 0), .int (nI 7)]) (x := (am_b (rf_in what (nI 0) (nI 7)))) (h2 := (am_row h 322 (upd (h 322) 0 (nI 0)))) C dX12_memory_23 k12_71 v_X12_in rfl rfl (by decide) (Nat.zero_le _) (Nat.zero_le _) (Nat.le_of_ble_eq_true rfl) (c_X12_in hR what (nI 0) (nI 7)) ?_
    refine am_if_neB (pc := 26) (tgt := 33) C dX12_memory_26 (by decide) (fun q26 => ?_) (fun q26 => ?_)
    · skip
      refine am_iconstN (pc := 33) (k := 0) C dX12_memory_33 ?_
      refine am_top (show (nI 0) = (am_b false) from rfl) ?_
      refine am_iconstN (pc := 34) (k := 2) C dX12_memory_34 ?_
      refine am_callVi (Y := mX12_throwsIf) (pc := 35) (st := []) (As := [.int (am_b false), .int (nI 2)]) (x := (am_b false)) (h2 := (am_row (am_row h 322 (upd (h 322) 0 (nI 0))) 322 (bif false then upd (upd (h 322) 0 (nI 0)) 0 (nI 2) else (upd (h 322) 0 (nI 0))))) C dX12_memory_35 k12_269 v_X12_throwsIf rfl rfl bn_322 sh_322 ⟨by decide, rfl⟩ (by decide) (Nat.zero_le _) (Nat.zero_le _) (Nat.le_of_ble_eq_true rfl) (c_X12_throwsIf hR false (nI 2)) ?_
      refine am_hp (show (am_row (am_row h 322 (upd (h 322) 0 (nI 0))) 322 (bif false then upd (upd (h 322) 0 (nI 0)) 0 (nI 2) else (upd (h 322) 0 (nI 0)))) = (am_row h 322 (bif false then upd (upd (h 322) 0 (nI 0)) 0 (nI 2) else (upd (h 322) 0 (nI 0)))) from am_row_s0) ?_
      refine am_hp (show (am_row h 322 (bif false then upd (upd (h 322) 0 (nI 0)) 0 (nI 2) else (upd (h 322) 0 (nI 0)))) = (am_row h 322 (upd (h 322) 0 (nI 0))) from rfl) ?_
      refine am_if_eqB (pc := 38) (tgt := 43) C dX12_memory_38 (by decide) (fun q38 => ?_) (fun q38 => ?_)
      · skip
        have K9 : rf_c_memory (h 323) m what = 0 := by unfold rf_c_memory; exact ((rf_cb_f q15).trans (rf_cb_nf q26))
        have hm := rf_okN_q (by omega) q15
        have hm2 := hm.2
        have hq := rf_in_n0 (by decide) q26
        have hq2 := hq.2
        refine am_lsv (ls' := [(0, .ref 322), (1, .int (nI (rf_nat m))), (2, .int what)]) (congrArg (fun z9 : Int32 => ([(0, .ref 322), (1, Value.int z9), (2, .int what)] : List (Nat × Value))) (show m = (nI (rf_nat m)) from hm.1)) ?_
        refine am_lsv (ls' := [(0, .ref 322), (1, .int (nI (rf_nat m))), (2, .int (nI (rf_nat what)))]) (congrArg (fun z9 : Int32 => ([(0, .ref 322), (1, .int (nI (rf_nat m))), (2, Value.int z9)] : List (Nat × Value))) (show what = (nI (rf_nat what)) from hq.1)) ?_
        refine am_iload_n (pc := 43) C dX12_memory_43 rfl ?_
        by_cases e44_2 : (rf_nat what) = 2
        · refine am_tableIn (pc := 44) (tgt := 84) C dX12_memory_44 (by rw [e44_2]; decide) (by rw [e44_2]; decide) (by rw [e44_2]; rfl) (by decide) ?_
          refine am_aload_n (pc := 84) C dX12_memory_84 rfl ?_
          refine am_iload_n (pc := 85) C dX12_memory_85 rfl ?_
          refine am_callVi (Y := mX12_restsOn) (pc := 86) (st := []) (As := [.int (nI (rf_nat m))]) (x := (rf_rests (h 323) (rf_nat m))) (h2 := (am_row h 322 (upd (h 322) 0 (nI 0)))) C dX12_memory_86 k12_307 v_X12_restsOn rfl rfl bn_322 sh_322 ⟨by decide, rfl⟩ (by decide) (Nat.zero_le _) (Nat.zero_le _) (Nat.le_of_ble_eq_true rfl) (c_X12_restsOn hR (rf_nat m) (show (rf_nat m) < rf_M (h 323) from by omega) (show rf_Cn (h 323) from hV.1)) ?_
          have A9 : rf_a_memory (h 323) m what = (rf_rests (h 323) (rf_nat m)) := (by rw [rf_a_memory, if_pos e44_2])
          exact am_ireti T dX12_memory_89 rfl (Nat.le_refl _) (Nat.le_refl _) (by rw [K9]; exact A9.symm) rfl (by rw [K9]; exact rfl)
        by_cases e44_3 : (rf_nat what) = 3
        · refine am_tableIn (pc := 44) (tgt := 90) C dX12_memory_44 (by rw [e44_3]; decide) (by rw [e44_3]; decide) (by rw [e44_3]; rfl) (by decide) ?_
          refine am_aload_n (pc := 90) C dX12_memory_90 rfl ?_
          refine am_iload_n (pc := 91) C dX12_memory_91 rfl ?_
          refine am_callVi (Y := mX12_bears) (pc := 92) (st := []) (As := [.int (nI (rf_nat m))]) (x := (rf_bears (h 323) (rf_nat m))) (h2 := (am_row h 322 (upd (h 322) 0 (nI 0)))) C dX12_memory_92 k12_298 v_X12_bears rfl rfl bn_322 sh_322 ⟨by decide, rfl⟩ (by decide) (Nat.zero_le _) (Nat.zero_le _) (Nat.le_of_ble_eq_true rfl) (c_X12_bears hR (rf_nat m) (show (rf_nat m) < 16 from by omega)) ?_
          have A9 : rf_a_memory (h 323) m what = (rf_bears (h 323) (rf_nat m)) := (by rw [rf_a_memory, if_neg e44_2, if_pos e44_3])
          exact am_ireti T dX12_memory_95 rfl (Nat.le_refl _) (Nat.le_refl _) (by rw [K9]; exact A9.symm) rfl (by rw [K9]; exact rfl)
        by_cases e44_4 : (rf_nat what) = 4
        · refine am_tableIn (pc := 44) (tgt := 96) C dX12_memory_44 (by rw [e44_4]; decide) (by rw [e44_4]; decide) (by rw [e44_4]; rfl) (by decide) ?_
          refine am_aload_n (pc := 96) C dX12_memory_96 rfl ?_
          refine am_iload_n (pc := 97) C dX12_memory_97 rfl ?_
          refine am_callVi (Y := mX12_knowers) (pc := 98) (st := []) (As := [.int (nI (rf_nat m))]) (x := (rf_knowers (h 323) (rf_nat m))) (h2 := (am_row h 322 (upd (h 322) 0 (nI 0)))) C dX12_memory_98 k12_310 v_X12_knowers rfl rfl bn_322 sh_322 ⟨by decide, rfl⟩ (by decide) (Nat.zero_le _) (Nat.zero_le _) (Nat.le_of_ble_eq_true rfl) (c_X12_knowers hR (rf_nat m) (show (rf_nat m) < 32 from by omega) hV) ?_
          have A9 : rf_a_memory (h 323) m what = (rf_knowers (h 323) (rf_nat m)) := (by rw [rf_a_memory, if_neg e44_2, if_neg e44_3, if_pos e44_4])
          exact am_ireti T dX12_memory_101 rfl (Nat.le_refl _) (Nat.le_refl _) (by rw [K9]; exact A9.symm) rfl (by rw [K9]; exact rfl)
        by_cases e44_5 : (rf_nat what) = 5
        · refine am_tableIn (pc := 44) (tgt := 102) C dX12_memory_44 (by rw [e44_5]; decide) (by rw [e44_5]; decide) (by rw [e44_5]; rfl) (by decide) ?_
          refine am_aload_n (pc := 102) C dX12_memory_102 rfl ?_
          refine am_iload_n (pc := 103) C dX12_memory_103 rfl ?_
          refine am_callVi (Y := mX12_users) (pc := 104) (st := []) (As := [.int (nI (rf_nat m))]) (x := (rf_users (h 323) (rf_nat m))) (h2 := (am_row h 322 (upd (h 322) 0 (nI 0)))) C dX12_memory_104 k12_313 v_X12_users rfl rfl bn_322 sh_322 ⟨by decide, rfl⟩ (by decide) (Nat.zero_le _) (Nat.zero_le _) (Nat.le_of_ble_eq_true rfl) (c_X12_users hR (rf_nat m) (show (rf_nat m) < 32 from by omega) hV) ?_
          have A9 : rf_a_memory (h 323) m what = (rf_users (h 323) (rf_nat m)) := (by rw [rf_a_memory, if_neg e44_2, if_neg e44_3, if_neg e44_4, if_pos e44_5])
          exact am_ireti T dX12_memory_107 rfl (Nat.le_refl _) (Nat.le_refl _) (by rw [K9]; exact A9.symm) rfl (by rw [K9]; exact rfl)
        by_cases e44_6 : (rf_nat what) = 6
        · refine am_tableIn (pc := 44) (tgt := 108) C dX12_memory_44 (by rw [e44_6]; decide) (by rw [e44_6]; decide) (by rw [e44_6]; rfl) (by decide) ?_
          refine am_aload_n (pc := 108) C dX12_memory_108 rfl ?_
          refine am_iload_n (pc := 109) C dX12_memory_109 rfl ?_
          refine am_callVi (Y := mX12_inField) (pc := 110) (st := []) (As := [.int (nI (rf_nat m))]) (x := (nI (rf_inField (h 323) (nI (rf_nat m))))) (h2 := (am_row h 322 (upd (h 322) 0 (nI 0)))) C dX12_memory_110 k12_316 v_X12_inField rfl rfl bn_322 sh_322 ⟨by decide, rfl⟩ (by decide) (Nat.zero_le _) (Nat.zero_le _) (Nat.le_of_ble_eq_true rfl) (c_X12_inField hR (nI (rf_nat m)) hV) ?_
          have A9 : rf_a_memory (h 323) m what = (nI (rf_inField (h 323) (nI (rf_nat m)))) := (by rw [rf_a_memory, if_neg e44_2, if_neg e44_3, if_neg e44_4, if_neg e44_5, if_pos e44_6])
          exact am_ireti T dX12_memory_113 rfl (Nat.le_refl _) (Nat.le_refl _) (by rw [K9]; exact A9.symm) rfl (by rw [K9]; exact rfl)
        by_cases e44_7 : (rf_nat what) = 7
        · refine am_tableIn (pc := 44) (tgt := 114) C dX12_memory_44 (by rw [e44_7]; decide) (by rw [e44_7]; decide) (by rw [e44_7]; rfl) (by decide) ?_
          refine am_aload_n (pc := 114) C dX12_memory_114 rfl ?_
          refine am_iload_n (pc := 115) C dX12_memory_115 rfl ?_
          refine am_iconstN (pc := 116) (k := 2) C dX12_memory_116 ?_
          refine am_callVi (Y := mX12_ofMemory) (pc := 117) (st := []) (As := [.int (nI (rf_nat m)), .int (nI 2)]) (x := (rf_mem (h 323) (rf_nat m) 2)) (h2 := (am_row h 322 (upd (h 322) 0 (nI 0)))) C dX12_memory_117 k12_85 v_X12_ofMemory rfl rfl bn_322 sh_322 ⟨by decide, rfl⟩ (by decide) (Nat.zero_le _) (Nat.zero_le _) (Nat.le_of_ble_eq_true rfl) (c_X12_ofMemory hR (rf_nat m) 2 (show (rf_nat m) < 16 from by omega) (show 2 < 3 from by omega)) ?_
          have A9 : rf_a_memory (h 323) m what = (rf_mem (h 323) (rf_nat m) 2) := (by rw [rf_a_memory, if_neg e44_2, if_neg e44_3, if_neg e44_4, if_neg e44_5, if_neg e44_6, if_pos e44_7])
          exact am_ireti T dX12_memory_120 rfl (Nat.le_refl _) (Nat.le_refl _) (by rw [K9]; exact A9.symm) rfl (by rw [K9]; exact rfl)
        refine am_tableOut (pc := 44) (tgt := 121) C dX12_memory_44 (by rw [nI_toInt (by omega)]; omega) (by decide) ?_
        refine am_aload_n (pc := 121) C dX12_memory_121 rfl ?_
        refine am_iload_n (pc := 122) C dX12_memory_122 rfl ?_
        refine am_iload_n (pc := 123) C dX12_memory_123 rfl ?_
        refine am_callVi (Y := mX12_ofMemory) (pc := 124) (st := []) (As := [.int (nI (rf_nat m)), .int (nI (rf_nat what))]) (x := (rf_mem (h 323) (rf_nat m) (rf_nat what))) (h2 := (am_row h 322 (upd (h 322) 0 (nI 0)))) C dX12_memory_124 k12_85 v_X12_ofMemory rfl rfl bn_322 sh_322 ⟨by decide, rfl⟩ (by decide) (Nat.zero_le _) (Nat.zero_le _) (Nat.le_of_ble_eq_true rfl) (c_X12_ofMemory hR (rf_nat m) (rf_nat what) (show (rf_nat m) < 16 from by omega) (show (rf_nat what) < 3 from by omega)) ?_
        have A9 : rf_a_memory (h 323) m what = (rf_mem (h 323) (rf_nat m) (rf_nat what)) := (by rw [rf_a_memory, if_neg e44_2, if_neg e44_3, if_neg e44_4, if_neg e44_5, if_neg e44_6, if_neg e44_7])
        exact am_ireti T dX12_memory_127 rfl (Nat.le_refl _) (Nat.le_refl _) (by rw [K9]; exact A9.symm) rfl (by rw [K9]; exact rfl)
      · skip
        exact Bool.noConfusion q38
    · skip
      refine am_iconstN (pc := 29) (k := 1) C dX12_memory_29 ?_
      refine am_goto (pc := 30) (tgt := 34) C dX12_memory_30 (by decide) ?_
      refine am_top (show (nI 1) = (am_b true) from rfl) ?_
      refine am_iconstN (pc := 34) (k := 2) C dX12_memory_34 ?_
      refine am_callVi (Y := mX12_throwsIf) (pc := 35) (st := []) (As := [.int (am_b true), .int (nI 2)]) (x := (am_b true)) (h2 := (am_row (am_row h 322 (upd (h 322) 0 (nI 0))) 322 (bif true then upd (upd (h 322) 0 (nI 0)) 0 (nI 2) else (upd (h 322) 0 (nI 0))))) C dX12_memory_35 k12_269 v_X12_throwsIf rfl rfl bn_322 sh_322 ⟨by decide, rfl⟩ (by decide) (Nat.zero_le _) (Nat.zero_le _) (Nat.le_of_ble_eq_true rfl) (c_X12_throwsIf hR true (nI 2)) ?_
      refine am_hp (show (am_row (am_row h 322 (upd (h 322) 0 (nI 0))) 322 (bif true then upd (upd (h 322) 0 (nI 0)) 0 (nI 2) else (upd (h 322) 0 (nI 0)))) = (am_row h 322 (bif true then upd (upd (h 322) 0 (nI 0)) 0 (nI 2) else (upd (h 322) 0 (nI 0)))) from am_row_s0) ?_
      refine am_hp (show (am_row h 322 (bif true then upd (upd (h 322) 0 (nI 0)) 0 (nI 2) else (upd (h 322) 0 (nI 0)))) = (am_row h 322 (upd (upd (h 322) 0 (nI 0)) 0 (nI 2))) from rfl) ?_
      refine am_if_eqB (pc := 38) (tgt := 43) C dX12_memory_38 (by decide) (fun q38 => ?_) (fun q38 => ?_)
      · skip
        exact Bool.noConfusion q38
      · skip
        refine am_iconstN (pc := 41) (k := 0) C dX12_memory_41 ?_
        have K9 : rf_c_memory (h 323) m what = 2 := (by unfold rf_c_memory; exact ((rf_cb_f q15).trans (rf_cb_nt q26)))
        exact am_ireti T dX12_memory_42 rfl (Nat.le_refl _) (Nat.le_refl _) (by rw [K9]; rfl) rfl (by rw [K9]; exact congrArg (am_row _ 322) rf_upd_upd)

set_option maxHeartbeats 400000 in
set_option maxRecDepth 100000 in
theorem c_X12_soldier {ad : Nat → Nat} {r : am_R} (hR : am_rs r) {h : am_H} (s : Int32) (what : Int32) (hV : rf_I (h 323))  : am_CM mX12_soldier 4 0 0 [.ref 322, .int s, .int what] (am_VV ad) r h (am_po (some (.int (rf_ga (rf_c_soldier (h 323) s what) (rf_a_soldier (h 323) s what)))) r (am_row h 322 (rf_oc (h 322) (rf_c_soldier (h 323) s what)))) := by
  refine am_CM.of (by decide +kernel) (Nat.le_of_ble_eq_true rfl) (fun X C T => ?_)
  show am_G X (am_VV ad) (0, 0) 0 [(0, .ref 322), (1, .int s), (2, .int what)] [] r h
  have hM9 : rf_M (h 323) < 17 := hV.1.1.2
  have hS9 : rf_S (h 323) < 11 := hV.1.2.1.2
  have hO9 : rf_O (h 323) < 11 := hV.1.2.2.2
  refine am_aload_n (pc := 0) C dX12_soldier_0 rfl ?_
  refine am_iconstN (pc := 1) (k := 0) C dX12_soldier_1 ?_
  refine am_putI (pc := 2) C dX12_soldier_2 f12_3 bn_322 sh_322 rfl rfl ?_
  refine am_hp (show am_up h 322 0 (nI 0) = am_row h 322 (upd (h 322) 0 (nI 0)) from am_up_rw _ _ _ _) ?_
  refine am_aload_n (pc := 5) C dX12_soldier_5 rfl ?_
  refine am_aload_n (pc := 6) C dX12_soldier_6 rfl ?_
  refine am_iload_n (pc := 7) C dX12_soldier_7 rfl ?_
  refine am_callVi (Y := mX12_noSoldier) (pc := 8) (st := [.ref 322]) (As := [.int s]) (x := (am_b (!rf_okN s (rf_S (h 323))))) (h2 := (am_row h 322 (upd (h 322) 0 (nI 0)))) C dX12_soldier_8 k12_322 v_X12_noSoldier rfl rfl bn_322 sh_322 ⟨by decide, rfl⟩ (by decide) (Nat.zero_le _) (Nat.zero_le _) (Nat.le_of_ble_eq_true rfl) (c_X12_noSoldier hR s (show rf_Cn (h 323) from hV.1)) ?_
  refine am_iconstN (pc := 11) (k := 1) C dX12_soldier_11 ?_
  refine am_callVi (Y := mX12_throwsIf) (pc := 12) (st := []) (As := [.int (am_b (!rf_okN s (rf_S (h 323)))), .int (nI 1)]) (x := (am_b (!rf_okN s (rf_S (h 323))))) (h2 := (am_row (am_row h 322 (upd (h 322) 0 (nI 0))) 322 (bif (!rf_okN s (rf_S (h 323))) then upd (upd (h 322) 0 (nI 0)) 0 (nI 1) else (upd (h 322) 0 (nI 0))))) C dX12_soldier_12 k12_269 v_X12_throwsIf rfl rfl bn_322 sh_322 ⟨by decide, rfl⟩ (by decide) (Nat.zero_le _) (Nat.zero_le _) (Nat.le_of_ble_eq_true rfl) (c_X12_throwsIf hR (!rf_okN s (rf_S (h 323))) (nI 1)) ?_
  refine am_hp (show (am_row (am_row h 322 (upd (h 322) 0 (nI 0))) 322 (bif (!rf_okN s (rf_S (h 323))) then upd (upd (h 322) 0 (nI 0)) 0 (nI 1) else (upd (h 322) 0 (nI 0)))) = (am_row h 322 (bif (!rf_okN s (rf_S (h 323))) then upd (upd (h 322) 0 (nI 0)) 0 (nI 1) else (upd (h 322) 0 (nI 0)))) from am_row_s0) ?_
  refine am_if_neB (pc := 15) (tgt := 41) C dX12_soldier_15 (by decide) (fun q15 => ?_) (fun q15 => ?_)
  · skip
    refine am_hp (show (am_row h 322 (bif (!rf_okN s (rf_S (h 323))) then upd (upd (h 322) 0 (nI 0)) 0 (nI 1) else (upd (h 322) 0 (nI 0)))) = (am_row h 322 (upd (upd (h 322) 0 (nI 0)) 0 (nI 1))) from by rw [q15]; rfl) ?_
    refine am_iconstN (pc := 41) (k := 0) C dX12_soldier_41 ?_
    have K9 : rf_c_soldier (h 323) s what = 1 := (by unfold rf_c_soldier; exact (rf_cb_t q15))
    exact am_ireti T dX12_soldier_42 rfl (Nat.le_refl _) (Nat.le_refl _) (by rw [K9]; rfl) rfl (by rw [K9]; exact congrArg (am_row _ 322) rf_upd_upd)
  · skip
    refine am_hp (show (am_row h 322 (bif (!rf_okN s (rf_S (h 323))) then upd (upd (h 322) 0 (nI 0)) 0 (nI 1) else (upd (h 322) 0 (nI 0)))) = (am_row h 322 (upd (h 322) 0 (nI 0))) from by rw [q15]; rfl) ?_
    refine am_aload_n (pc := 18) C dX12_soldier_18 rfl ?_
    refine am_iload_n (pc := 19) C dX12_soldier_19 rfl ?_
    refine am_iconstN (pc := 20) (k := 0) C dX12_soldier_20 ?_
    refine am_bipush (pc := 21) (v := nI 8) C dX12_soldier_21 (by decide) ?_
    refine am_callSi (Y := mX12_in) (pc := 23) (st := [.ref 322]) (As := [.int what, .int (nI 0), .int (nI 8)]) (x := (am_b (rf_in what (nI 0) (nI 8)))) (h2 := (am_row h 322 (upd (h 322) 0 (nI 0)))) C dX12_soldier_23 k12_71 v_X12_in rfl rfl (by decide) (Nat.zero_le _) (Nat.zero_le _) (Nat.le_of_ble_eq_true rfl) (c_X12_in hR what (nI 0) (nI 8)) ?_
    refine am_if_neB (pc := 26) (tgt := 33) C dX12_soldier_26 (by decide) (fun q26 => ?_) (fun q26 => ?_)
    · skip
      refine am_iconstN (pc := 33) (k := 0) C dX12_soldier_33 ?_
      refine am_top (show (nI 0) = (am_b false) from rfl) ?_
      refine am_iconstN (pc := 34) (k := 2) C dX12_soldier_34 ?_
      refine am_callVi (Y := mX12_throwsIf) (pc := 35) (st := []) (As := [.int (am_b false), .int (nI 2)]) (x := (am_b false)) (h2 := (am_row (am_row h 322 (upd (h 322) 0 (nI 0))) 322 (bif false then upd (upd (h 322) 0 (nI 0)) 0 (nI 2) else (upd (h 322) 0 (nI 0))))) C dX12_soldier_35 k12_269 v_X12_throwsIf rfl rfl bn_322 sh_322 ⟨by decide, rfl⟩ (by decide) (Nat.zero_le _) (Nat.zero_le _) (Nat.le_of_ble_eq_true rfl) (c_X12_throwsIf hR false (nI 2)) ?_
      refine am_hp (show (am_row (am_row h 322 (upd (h 322) 0 (nI 0))) 322 (bif false then upd (upd (h 322) 0 (nI 0)) 0 (nI 2) else (upd (h 322) 0 (nI 0)))) = (am_row h 322 (bif false then upd (upd (h 322) 0 (nI 0)) 0 (nI 2) else (upd (h 322) 0 (nI 0)))) from am_row_s0) ?_
      refine am_hp (show (am_row h 322 (bif false then upd (upd (h 322) 0 (nI 0)) 0 (nI 2) else (upd (h 322) 0 (nI 0)))) = (am_row h 322 (upd (h 322) 0 (nI 0))) from rfl) ?_
      refine am_if_eqB (pc := 38) (tgt := 43) C dX12_soldier_38 (by decide) (fun q38 => ?_) (fun q38 => ?_)
      · skip
        have K9 : rf_c_soldier (h 323) s what = 0 := by unfold rf_c_soldier; exact ((rf_cb_f q15).trans (rf_cb_nf q26))
        have hs := rf_okN_q (by omega) q15
        have hs2 := hs.2
        have hq := rf_in_n0 (by decide) q26
        have hq2 := hq.2
        refine am_lsv (ls' := [(0, .ref 322), (1, .int (nI (rf_nat s))), (2, .int what)]) (congrArg (fun z9 : Int32 => ([(0, .ref 322), (1, Value.int z9), (2, .int what)] : List (Nat × Value))) (show s = (nI (rf_nat s)) from hs.1)) ?_
        refine am_lsv (ls' := [(0, .ref 322), (1, .int (nI (rf_nat s))), (2, .int (nI (rf_nat what)))]) (congrArg (fun z9 : Int32 => ([(0, .ref 322), (1, .int (nI (rf_nat s))), (2, Value.int z9)] : List (Nat × Value))) (show what = (nI (rf_nat what)) from hq.1)) ?_
        refine am_iload_n (pc := 43) C dX12_soldier_43 rfl ?_
        by_cases e44_0 : (rf_nat what) = 0
        · refine am_tableIn (pc := 44) (tgt := 92) C dX12_soldier_44 (by rw [e44_0]; decide) (by rw [e44_0]; decide) (by rw [e44_0]; rfl) (by decide) ?_
          refine am_aload_n (pc := 92) C dX12_soldier_92 rfl ?_
          refine am_iload_n (pc := 93) C dX12_soldier_93 rfl ?_
          refine am_iconstN (pc := 94) (k := 0) C dX12_soldier_94 ?_
          refine am_callVi (Y := mX12_of) (pc := 95) (st := []) (As := [.int (nI (rf_nat s)), .int (nI 0)]) (x := (rf_of (h 323) (rf_nat s) 0)) (h2 := (am_row h 322 (upd (h 322) 0 (nI 0)))) C dX12_soldier_95 k12_63 v_X12_of rfl rfl bn_322 sh_322 ⟨by decide, rfl⟩ (by decide) (Nat.zero_le _) (Nat.zero_le _) (Nat.le_of_ble_eq_true rfl) (c_X12_of hR (rf_nat s) 0 (show (rf_nat s) < 11 from by omega) (show 0 < 23 from by omega)) ?_
          have A9 : rf_a_soldier (h 323) s what = (rf_of (h 323) (rf_nat s) 0) := (by rw [rf_a_soldier, if_pos e44_0])
          exact am_ireti T dX12_soldier_98 rfl (Nat.le_refl _) (Nat.le_refl _) (by rw [K9]; exact A9.symm) rfl (by rw [K9]; exact rfl)
        by_cases e44_1 : (rf_nat what) = 1
        · refine am_tableIn (pc := 44) (tgt := 99) C dX12_soldier_44 (by rw [e44_1]; decide) (by rw [e44_1]; decide) (by rw [e44_1]; rfl) (by decide) ?_
          refine am_aload_n (pc := 99) C dX12_soldier_99 rfl ?_
          refine am_iload_n (pc := 100) C dX12_soldier_100 rfl ?_
          refine am_callVi (Y := mX12_placeOf) (pc := 101) (st := []) (As := [.int (nI (rf_nat s))]) (x := (rf_pl (h 323) (rf_nat s))) (h2 := (am_row h 322 (upd (h 322) 0 (nI 0)))) C dX12_soldier_101 k12_272 v_X12_placeOf rfl rfl bn_322 sh_322 ⟨by decide, rfl⟩ (by decide) (Nat.zero_le _) (Nat.zero_le _) (Nat.le_of_ble_eq_true rfl) (c_X12_placeOf hR (rf_nat s) (show (rf_nat s) < 11 from by omega) (show rf_Is (h 323) (rf_nat s) from (hV.2.1 (rf_nat s) (by omega)))) ?_
          have A9 : rf_a_soldier (h 323) s what = (rf_pl (h 323) (rf_nat s)) := (by rw [rf_a_soldier, if_neg e44_0, if_pos e44_1])
          exact am_ireti T dX12_soldier_104 rfl (Nat.le_refl _) (Nat.le_refl _) (by rw [K9]; exact A9.symm) rfl (by rw [K9]; exact rfl)
        by_cases e44_2 : (rf_nat what) = 2
        · refine am_tableIn (pc := 44) (tgt := 105) C dX12_soldier_44 (by rw [e44_2]; decide) (by rw [e44_2]; decide) (by rw [e44_2]; rfl) (by decide) ?_
          refine am_aload_n (pc := 105) C dX12_soldier_105 rfl ?_
          refine am_iload_n (pc := 106) C dX12_soldier_106 rfl ?_
          refine am_bipush (pc := 107) (v := nI 9) C dX12_soldier_107 (by decide) ?_
          refine am_callVi (Y := mX12_of) (pc := 109) (st := []) (As := [.int (nI (rf_nat s)), .int (nI 9)]) (x := (rf_of (h 323) (rf_nat s) 9)) (h2 := (am_row h 322 (upd (h 322) 0 (nI 0)))) C dX12_soldier_109 k12_63 v_X12_of rfl rfl bn_322 sh_322 ⟨by decide, rfl⟩ (by decide) (Nat.zero_le _) (Nat.zero_le _) (Nat.le_of_ble_eq_true rfl) (c_X12_of hR (rf_nat s) 9 (show (rf_nat s) < 11 from by omega) (show 9 < 23 from by omega)) ?_
          have A9 : rf_a_soldier (h 323) s what = (rf_of (h 323) (rf_nat s) 9) := (by rw [rf_a_soldier, if_neg e44_0, if_neg e44_1, if_pos e44_2])
          exact am_ireti T dX12_soldier_112 rfl (Nat.le_refl _) (Nat.le_refl _) (by rw [K9]; exact A9.symm) rfl (by rw [K9]; exact rfl)
        by_cases e44_3 : (rf_nat what) = 3
        · refine am_tableIn (pc := 44) (tgt := 113) C dX12_soldier_44 (by rw [e44_3]; decide) (by rw [e44_3]; decide) (by rw [e44_3]; rfl) (by decide) ?_
          refine am_aload_n (pc := 113) C dX12_soldier_113 rfl ?_
          refine am_iload_n (pc := 114) C dX12_soldier_114 rfl ?_
          refine am_callVi (Y := mX12_knownOf) (pc := 115) (st := []) (As := [.int (nI (rf_nat s))]) (x := (rf_known (h 323) (rf_nat s))) (h2 := (am_row h 322 (upd (h 322) 0 (nI 0)))) C dX12_soldier_115 k12_88 v_X12_knownOf rfl rfl bn_322 sh_322 ⟨by decide, rfl⟩ (by decide) (Nat.zero_le _) (Nat.zero_le _) (Nat.le_of_ble_eq_true rfl) (c_X12_knownOf hR (rf_nat s) (show (rf_nat s) < rf_S (h 323) from by omega) (show rf_Is (h 323) (rf_nat s) from (hV.2.1 (rf_nat s) (by omega))) (show rf_Cn (h 323) from hV.1)) ?_
          have A9 : rf_a_soldier (h 323) s what = (rf_known (h 323) (rf_nat s)) := (by rw [rf_a_soldier, if_neg e44_0, if_neg e44_1, if_neg e44_2, if_pos e44_3])
          exact am_ireti T dX12_soldier_118 rfl (Nat.le_refl _) (Nat.le_refl _) (by rw [K9]; exact A9.symm) rfl (by rw [K9]; exact rfl)
        by_cases e44_4 : (rf_nat what) = 4
        · refine am_tableIn (pc := 44) (tgt := 119) C dX12_soldier_44 (by rw [e44_4]; decide) (by rw [e44_4]; decide) (by rw [e44_4]; rfl) (by decide) ?_
          refine am_aload_n (pc := 119) C dX12_soldier_119 rfl ?_
          refine am_iload_n (pc := 120) C dX12_soldier_120 rfl ?_
          refine am_callVi (Y := mX12_usableOf) (pc := 121) (st := []) (As := [.int (nI (rf_nat s))]) (x := (rf_use (h 323) (rf_nat s))) (h2 := (am_row h 322 (upd (h 322) 0 (nI 0)))) C dX12_soldier_121 k12_275 v_X12_usableOf rfl rfl bn_322 sh_322 ⟨by decide, rfl⟩ (by decide) (Nat.zero_le _) (Nat.zero_le _) (Nat.le_of_ble_eq_true rfl) (c_X12_usableOf hR (rf_nat s) (show (rf_nat s) < rf_S (h 323) from by omega) (show rf_Is (h 323) (rf_nat s) from (hV.2.1 (rf_nat s) (by omega))) (show rf_Cn (h 323) from hV.1)) ?_
          have A9 : rf_a_soldier (h 323) s what = (rf_use (h 323) (rf_nat s)) := (by rw [rf_a_soldier, if_neg e44_0, if_neg e44_1, if_neg e44_2, if_neg e44_3, if_pos e44_4])
          exact am_ireti T dX12_soldier_124 rfl (Nat.le_refl _) (Nat.le_refl _) (by rw [K9]; exact A9.symm) rfl (by rw [K9]; exact rfl)
        by_cases e44_5 : (rf_nat what) = 5
        · refine am_tableIn (pc := 44) (tgt := 125) C dX12_soldier_44 (by rw [e44_5]; decide) (by rw [e44_5]; decide) (by rw [e44_5]; rfl) (by decide) ?_
          refine am_aload_n (pc := 125) C dX12_soldier_125 rfl ?_
          refine am_iload_n (pc := 126) C dX12_soldier_126 rfl ?_
          refine am_bipush (pc := 127) (v := nI 22) C dX12_soldier_127 (by decide) ?_
          refine am_callVi (Y := mX12_of) (pc := 129) (st := []) (As := [.int (nI (rf_nat s)), .int (nI 22)]) (x := (rf_of (h 323) (rf_nat s) 22)) (h2 := (am_row h 322 (upd (h 322) 0 (nI 0)))) C dX12_soldier_129 k12_63 v_X12_of rfl rfl bn_322 sh_322 ⟨by decide, rfl⟩ (by decide) (Nat.zero_le _) (Nat.zero_le _) (Nat.le_of_ble_eq_true rfl) (c_X12_of hR (rf_nat s) 22 (show (rf_nat s) < 11 from by omega) (show 22 < 23 from by omega)) ?_
          have A9 : rf_a_soldier (h 323) s what = (rf_of (h 323) (rf_nat s) 22) := (by rw [rf_a_soldier, if_neg e44_0, if_neg e44_1, if_neg e44_2, if_neg e44_3, if_neg e44_4, if_pos e44_5])
          exact am_ireti T dX12_soldier_132 rfl (Nat.le_refl _) (Nat.le_refl _) (by rw [K9]; exact A9.symm) rfl (by rw [K9]; exact rfl)
        by_cases e44_6 : (rf_nat what) = 6
        · refine am_tableIn (pc := 44) (tgt := 133) C dX12_soldier_44 (by rw [e44_6]; decide) (by rw [e44_6]; decide) (by rw [e44_6]; rfl) (by decide) ?_
          refine am_aload_n (pc := 133) C dX12_soldier_133 rfl ?_
          refine am_iload_n (pc := 134) C dX12_soldier_134 rfl ?_
          refine am_iconstN (pc := 135) (k := 2) C dX12_soldier_135 ?_
          refine am_callVi (Y := mX12_of) (pc := 136) (st := []) (As := [.int (nI (rf_nat s)), .int (nI 2)]) (x := (rf_of (h 323) (rf_nat s) 2)) (h2 := (am_row h 322 (upd (h 322) 0 (nI 0)))) C dX12_soldier_136 k12_63 v_X12_of rfl rfl bn_322 sh_322 ⟨by decide, rfl⟩ (by decide) (Nat.zero_le _) (Nat.zero_le _) (Nat.le_of_ble_eq_true rfl) (c_X12_of hR (rf_nat s) 2 (show (rf_nat s) < 11 from by omega) (show 2 < 23 from by omega)) ?_
          have A9 : rf_a_soldier (h 323) s what = (rf_of (h 323) (rf_nat s) 2) := (by rw [rf_a_soldier, if_neg e44_0, if_neg e44_1, if_neg e44_2, if_neg e44_3, if_neg e44_4, if_neg e44_5, if_pos e44_6])
          exact am_ireti T dX12_soldier_139 rfl (Nat.le_refl _) (Nat.le_refl _) (by rw [K9]; exact A9.symm) rfl (by rw [K9]; exact rfl)
        by_cases e44_7 : (rf_nat what) = 7
        · refine am_tableIn (pc := 44) (tgt := 140) C dX12_soldier_44 (by rw [e44_7]; decide) (by rw [e44_7]; decide) (by rw [e44_7]; rfl) (by decide) ?_
          refine am_aload_n (pc := 140) C dX12_soldier_140 rfl ?_
          refine am_aload_n (pc := 141) C dX12_soldier_141 rfl ?_
          refine am_iload_n (pc := 142) C dX12_soldier_142 rfl ?_
          refine am_callVi (Y := mX12_usableOf) (pc := 143) (st := [.ref 322]) (As := [.int (nI (rf_nat s))]) (x := (rf_use (h 323) (rf_nat s))) (h2 := (am_row h 322 (upd (h 322) 0 (nI 0)))) C dX12_soldier_143 k12_275 v_X12_usableOf rfl rfl bn_322 sh_322 ⟨by decide, rfl⟩ (by decide) (Nat.zero_le _) (Nat.zero_le _) (Nat.le_of_ble_eq_true rfl) (c_X12_usableOf hR (rf_nat s) (show (rf_nat s) < rf_S (h 323) from by omega) (show rf_Is (h 323) (rf_nat s) from (hV.2.1 (rf_nat s) (by omega))) (show rf_Cn (h 323) from hV.1)) ?_
          refine am_callVi (Y := mX12_worthOf) (pc := 146) (st := []) (As := [.int (rf_use (h 323) (rf_nat s))]) (x := (rf_worth (h 323) (rf_use (h 323) (rf_nat s)) (rf_M (h 323)))) (h2 := (am_row h 322 (upd (h 322) 0 (nI 0)))) C dX12_soldier_146 k12_325 v_X12_worthOf rfl rfl bn_322 sh_322 ⟨by decide, rfl⟩ (by decide) (Nat.zero_le _) (Nat.zero_le _) (Nat.le_of_ble_eq_true rfl) (c_X12_worthOf hR (rf_use (h 323) (rf_nat s)) (show rf_Cn (h 323) from hV.1)) ?_
          have A9 : rf_a_soldier (h 323) s what = (rf_worth (h 323) (rf_use (h 323) (rf_nat s)) (rf_M (h 323))) := (by rw [rf_a_soldier, if_neg e44_0, if_neg e44_1, if_neg e44_2, if_neg e44_3, if_neg e44_4, if_neg e44_5, if_neg e44_6, if_pos e44_7])
          exact am_ireti T dX12_soldier_149 rfl (Nat.le_refl _) (Nat.le_refl _) (by rw [K9]; exact A9.symm) rfl (by rw [K9]; exact rfl)
        refine am_tableOut (pc := 44) (tgt := 150) C dX12_soldier_44 (by rw [nI_toInt (by omega)]; omega) (by decide) ?_
        refine am_aload_n (pc := 150) C dX12_soldier_150 rfl ?_
        refine am_bipush (pc := 151) (v := nI 12) C dX12_soldier_151 (by decide) ?_
        refine am_callVi (Y := mX12_obeyed) (pc := 153) (st := []) (As := [.int (nI 12)]) (x := (rf_obeyed (h 323) 12)) (h2 := (am_row h 322 (upd (h 322) 0 (nI 0)))) C dX12_soldier_153 k12_328 v_X12_obeyed rfl rfl bn_322 sh_322 ⟨by decide, rfl⟩ (by decide) (Nat.zero_le _) (Nat.zero_le _) (Nat.le_of_ble_eq_true rfl) (c_X12_obeyed hR 12 hV (show 12 < 1000 from by omega)) ?_
        refine am_aload_n (pc := 156) C dX12_soldier_156 rfl ?_
        refine am_iload_n (pc := 157) C dX12_soldier_157 rfl ?_
        refine am_callVi (Y := mX12_ordersOf) (pc := 158) (st := [.int (rf_obeyed (h 323) 12)]) (As := [.int (nI (rf_nat s))]) (x := (rf_ordersOf (h 323) (nI (rf_nat s)))) (h2 := (am_row h 322 (upd (h 322) 0 (nI 0)))) C dX12_soldier_158 k12_331 v_X12_ordersOf rfl rfl bn_322 sh_322 ⟨by decide, rfl⟩ (by decide) (Nat.zero_le _) (Nat.zero_le _) (Nat.le_of_ble_eq_true rfl) (c_X12_ordersOf hR (nI (rf_nat s)) (show rf_Cn (h 323) from hV.1)) ?_
        refine am_iand (pc := 161) C dX12_soldier_161 ?_
        have A9 : rf_a_soldier (h 323) s what = ((rf_obeyed (h 323) 12) &&& (rf_ordersOf (h 323) (nI (rf_nat s)))) := (by rw [rf_a_soldier, if_neg e44_0, if_neg e44_1, if_neg e44_2, if_neg e44_3, if_neg e44_4, if_neg e44_5, if_neg e44_6, if_neg e44_7])
        exact am_ireti T dX12_soldier_162 rfl (Nat.le_refl _) (Nat.le_refl _) (by rw [K9]; exact A9.symm) rfl (by rw [K9]; exact rfl)
      · skip
        exact Bool.noConfusion q38
    · skip
      refine am_iconstN (pc := 29) (k := 1) C dX12_soldier_29 ?_
      refine am_goto (pc := 30) (tgt := 34) C dX12_soldier_30 (by decide) ?_
      refine am_top (show (nI 1) = (am_b true) from rfl) ?_
      refine am_iconstN (pc := 34) (k := 2) C dX12_soldier_34 ?_
      refine am_callVi (Y := mX12_throwsIf) (pc := 35) (st := []) (As := [.int (am_b true), .int (nI 2)]) (x := (am_b true)) (h2 := (am_row (am_row h 322 (upd (h 322) 0 (nI 0))) 322 (bif true then upd (upd (h 322) 0 (nI 0)) 0 (nI 2) else (upd (h 322) 0 (nI 0))))) C dX12_soldier_35 k12_269 v_X12_throwsIf rfl rfl bn_322 sh_322 ⟨by decide, rfl⟩ (by decide) (Nat.zero_le _) (Nat.zero_le _) (Nat.le_of_ble_eq_true rfl) (c_X12_throwsIf hR true (nI 2)) ?_
      refine am_hp (show (am_row (am_row h 322 (upd (h 322) 0 (nI 0))) 322 (bif true then upd (upd (h 322) 0 (nI 0)) 0 (nI 2) else (upd (h 322) 0 (nI 0)))) = (am_row h 322 (bif true then upd (upd (h 322) 0 (nI 0)) 0 (nI 2) else (upd (h 322) 0 (nI 0)))) from am_row_s0) ?_
      refine am_hp (show (am_row h 322 (bif true then upd (upd (h 322) 0 (nI 0)) 0 (nI 2) else (upd (h 322) 0 (nI 0)))) = (am_row h 322 (upd (upd (h 322) 0 (nI 0)) 0 (nI 2))) from rfl) ?_
      refine am_if_eqB (pc := 38) (tgt := 43) C dX12_soldier_38 (by decide) (fun q38 => ?_) (fun q38 => ?_)
      · skip
        exact Bool.noConfusion q38
      · skip
        refine am_iconstN (pc := 41) (k := 0) C dX12_soldier_41 ?_
        have K9 : rf_c_soldier (h 323) s what = 2 := (by unfold rf_c_soldier; exact ((rf_cb_f q15).trans (rf_cb_nt q26)))
        exact am_ireti T dX12_soldier_42 rfl (Nat.le_refl _) (Nat.le_refl _) (by rw [K9]; rfl) rfl (by rw [K9]; exact congrArg (am_row _ 322) rf_upd_upd)

set_option maxHeartbeats 400000 in
set_option maxRecDepth 100000 in
theorem c_X12_known {ad : Nat → Nat} {r : am_R} (hR : am_rs r) {h : am_H} (s : Int32) (k : Int32) (hV : rf_I (h 323))  : am_CM mX12_known 2 0 0 [.ref 322, .int s, .int k] (am_VV ad) r h (am_po (some (.int (rf_ga (rf_c_known (h 323) s k) (rf_a_known (h 323) s k)))) r (am_row h 322 (rf_oc (h 322) (rf_c_known (h 323) s k)))) := by
  refine am_CM.of (by decide +kernel) (Nat.le_of_ble_eq_true rfl) (fun X C T => ?_)
  show am_G X (am_VV ad) (0, 0) 0 [(0, .ref 322), (1, .int s), (2, .int k)] [] r h
  have hM9 : rf_M (h 323) < 17 := hV.1.1.2
  have hS9 : rf_S (h 323) < 11 := hV.1.2.1.2
  have hO9 : rf_O (h 323) < 11 := hV.1.2.2.2
  refine am_aload_n (pc := 0) C dX12_known_0 rfl ?_
  refine am_iconstN (pc := 1) (k := 0) C dX12_known_1 ?_
  refine am_putI (pc := 2) C dX12_known_2 f12_3 bn_322 sh_322 rfl rfl ?_
  refine am_hp (show am_up h 322 0 (nI 0) = am_row h 322 (upd (h 322) 0 (nI 0)) from am_up_rw _ _ _ _) ?_
  refine am_aload_n (pc := 5) C dX12_known_5 rfl ?_
  refine am_aload_n (pc := 6) C dX12_known_6 rfl ?_
  refine am_iload_n (pc := 7) C dX12_known_7 rfl ?_
  refine am_callVi (Y := mX12_noSoldier) (pc := 8) (st := [.ref 322]) (As := [.int s]) (x := (am_b (!rf_okN s (rf_S (h 323))))) (h2 := (am_row h 322 (upd (h 322) 0 (nI 0)))) C dX12_known_8 k12_322 v_X12_noSoldier rfl rfl bn_322 sh_322 ⟨by decide, rfl⟩ (by decide) (Nat.zero_le _) (Nat.zero_le _) (Nat.le_of_ble_eq_true rfl) (c_X12_noSoldier hR s (show rf_Cn (h 323) from hV.1)) ?_
  refine am_iconstN (pc := 11) (k := 1) C dX12_known_11 ?_
  refine am_callVi (Y := mX12_throwsIf) (pc := 12) (st := []) (As := [.int (am_b (!rf_okN s (rf_S (h 323)))), .int (nI 1)]) (x := (am_b (!rf_okN s (rf_S (h 323))))) (h2 := (am_row (am_row h 322 (upd (h 322) 0 (nI 0))) 322 (bif (!rf_okN s (rf_S (h 323))) then upd (upd (h 322) 0 (nI 0)) 0 (nI 1) else (upd (h 322) 0 (nI 0))))) C dX12_known_12 k12_269 v_X12_throwsIf rfl rfl bn_322 sh_322 ⟨by decide, rfl⟩ (by decide) (Nat.zero_le _) (Nat.zero_le _) (Nat.le_of_ble_eq_true rfl) (c_X12_throwsIf hR (!rf_okN s (rf_S (h 323))) (nI 1)) ?_
  refine am_hp (show (am_row (am_row h 322 (upd (h 322) 0 (nI 0))) 322 (bif (!rf_okN s (rf_S (h 323))) then upd (upd (h 322) 0 (nI 0)) 0 (nI 1) else (upd (h 322) 0 (nI 0)))) = (am_row h 322 (bif (!rf_okN s (rf_S (h 323))) then upd (upd (h 322) 0 (nI 0)) 0 (nI 1) else (upd (h 322) 0 (nI 0)))) from am_row_s0) ?_
  refine am_if_eqB (pc := 15) (tgt := 20) C dX12_known_15 (by decide) (fun q15 => ?_) (fun q15 => ?_)
  · skip
    refine am_hp (show (am_row h 322 (bif (!rf_okN s (rf_S (h 323))) then upd (upd (h 322) 0 (nI 0)) 0 (nI 1) else (upd (h 322) 0 (nI 0)))) = (am_row h 322 (upd (h 322) 0 (nI 0))) from by rw [q15]; rfl) ?_
    have K9 : rf_c_known (h 323) s k = 0 := by unfold rf_c_known; exact (rf_cb_f q15)
    have hs := rf_okN_q (by omega) q15
    have hs2 := hs.2
    have hkn := (hV.2.1 (rf_nat s) hs2).2.2.2.2.1.2
    have hkn2 : rf_kn (h 323) (rf_nat s) < 13 := hkn
    refine am_lsv (ls' := [(0, .ref 322), (1, .int (nI (rf_nat s))), (2, .int k)]) (congrArg (fun z9 : Int32 => ([(0, .ref 322), (1, Value.int z9), (2, .int k)] : List (Nat × Value))) (show s = (nI (rf_nat s)) from hs.1)) ?_
    refine am_iload_n (pc := 20) C dX12_known_20 rfl ?_
    refine am_iconstN (pc := 21) (k := 0) C dX12_known_21 ?_
    refine am_aload_n (pc := 22) C dX12_known_22 rfl ?_
    refine am_iload_n (pc := 23) C dX12_known_23 rfl ?_
    refine am_bipush (pc := 24) (v := nI 9) C dX12_known_24 (by decide) ?_
    refine am_callVi (Y := mX12_of) (pc := 26) (st := [.int (nI 0), .int k]) (As := [.int (nI (rf_nat s)), .int (nI 9)]) (x := (rf_of (h 323) (rf_nat s) 9)) (h2 := (am_row h 322 (upd (h 322) 0 (nI 0)))) C dX12_known_26 k12_63 v_X12_of rfl rfl bn_322 sh_322 ⟨by decide, rfl⟩ (by decide) (Nat.zero_le _) (Nat.zero_le _) (Nat.le_of_ble_eq_true rfl) (c_X12_of hR (rf_nat s) 9 (show (rf_nat s) < 11 from by omega) (show 9 < 23 from by omega)) ?_
    refine am_top (show (rf_of (h 323) (rf_nat s) 9) = (nI (rf_kn (h 323) (rf_nat s))) from (hV.2.1 (rf_nat s) hs2).2.2.2.2.1.1) ?_
    refine am_iconstN (pc := 29) (k := 1) C dX12_known_29 ?_
    refine am_isub (pc := 30) C dX12_known_30 ?_
    refine am_callSi (Y := mX12_in) (pc := 31) (st := []) (As := [.int k, .int (nI 0), .int ((nI (rf_kn (h 323) (rf_nat s))) - (nI 1))]) (x := (am_b (rf_in k (nI 0) ((nI (rf_kn (h 323) (rf_nat s))) - (nI 1))))) (h2 := (am_row h 322 (upd (h 322) 0 (nI 0)))) C dX12_known_31 k12_71 v_X12_in rfl rfl (by decide) (Nat.zero_le _) (Nat.zero_le _) (Nat.le_of_ble_eq_true rfl) (c_X12_in hR k (nI 0) ((nI (rf_kn (h 323) (rf_nat s))) - (nI 1))) ?_
    refine am_top (show (am_b (rf_in k (nI 0) ((nI (rf_kn (h 323) (rf_nat s))) - (nI 1)))) = (am_b (rf_okN k (rf_kn (h 323) (rf_nat s)))) from rfl) ?_
    refine am_if_eqB (pc := 34) (tgt := 49) C dX12_known_34 (by decide) (fun q34 => ?_) (fun q34 => ?_)
    · skip
      refine am_iconst (pc := 49) (v := -1) C dX12_known_49 rfl ?_
      have A9 : rf_a_known (h 323) s k = (-1) := (by rw [rf_a_known, q34]; rfl)
      exact am_ireti T dX12_known_50 rfl (Nat.le_refl _) (Nat.le_refl _) (by rw [K9]; exact A9.symm) rfl (by rw [K9]; exact rfl)
    · skip
      have hk := rf_okN_n (by omega) q34
      have hk2 := hk.2
      refine am_lsv (ls' := [(0, .ref 322), (1, .int (nI (rf_nat s))), (2, .int (nI (rf_nat k)))]) (congrArg (fun z9 : Int32 => ([(0, .ref 322), (1, .int (nI (rf_nat s))), (2, Value.int z9)] : List (Nat × Value))) (show k = (nI (rf_nat k)) from hk.1)) ?_
      refine am_aload_n (pc := 37) C dX12_known_37 rfl ?_
      refine am_iload_n (pc := 38) C dX12_known_38 rfl ?_
      refine am_bipush (pc := 39) (v := nI 10) C dX12_known_39 (by decide) ?_
      refine am_iload_n (pc := 41) C dX12_known_41 rfl ?_
      refine am_iaddN (pc := 42) C dX12_known_42 ?_
      refine am_callVi (Y := mX12_of) (pc := 43) (st := []) (As := [.int (nI (rf_nat s)), .int (nI (10 + (rf_nat k)))]) (x := (rf_of (h 323) (rf_nat s) (10 + (rf_nat k)))) (h2 := (am_row h 322 (upd (h 322) 0 (nI 0)))) C dX12_known_43 k12_63 v_X12_of rfl rfl bn_322 sh_322 ⟨by decide, rfl⟩ (by decide) (Nat.zero_le _) (Nat.zero_le _) (Nat.le_of_ble_eq_true rfl) (c_X12_of hR (rf_nat s) (10 + (rf_nat k)) (show (rf_nat s) < 11 from by omega) (show (10 + (rf_nat k)) < 23 from by omega)) ?_
      refine am_goto (pc := 46) (tgt := 50) C dX12_known_46 (by decide) ?_
      have A9 : rf_a_known (h 323) s k = (rf_of (h 323) (rf_nat s) (10 + (rf_nat k))) := (by rw [rf_a_known, q34]; rfl)
      exact am_ireti T dX12_known_50 rfl (Nat.le_refl _) (Nat.le_refl _) (by rw [K9]; exact A9.symm) rfl (by rw [K9]; exact rfl)
  · skip
    refine am_hp (show (am_row h 322 (bif (!rf_okN s (rf_S (h 323))) then upd (upd (h 322) 0 (nI 0)) 0 (nI 1) else (upd (h 322) 0 (nI 0)))) = (am_row h 322 (upd (upd (h 322) 0 (nI 0)) 0 (nI 1))) from by rw [q15]; rfl) ?_
    refine am_iconstN (pc := 18) (k := 0) C dX12_known_18 ?_
    have K9 : rf_c_known (h 323) s k = 1 := (by unfold rf_c_known; exact (rf_cb_t q15))
    exact am_ireti T dX12_known_19 rfl (Nat.le_refl _) (Nat.le_refl _) (by rw [K9]; rfl) rfl (by rw [K9]; exact congrArg (am_row _ 322) rf_upd_upd)

set_option maxHeartbeats 400000 in
set_option maxRecDepth 100000 in
theorem c_X12_place {ad : Nat → Nat} {r : am_R} (hR : am_rs r) {h : am_H} (s : Int32) (x : Int32) (hV : rf_I (h 323))  : am_CM mX12_place 2 0 0 [.ref 322, .int s, .int x] (am_VV ad) r h (am_po (some (.int (rf_ga (rf_c_place (h 323) s x) (rf_a_place (h 323) s x)))) r (am_row h 322 (rf_oc (h 322) (rf_c_place (h 323) s x)))) := by
  refine am_CM.of (by decide +kernel) (Nat.le_of_ble_eq_true rfl) (fun X C T => ?_)
  show am_G X (am_VV ad) (0, 0) 0 [(0, .ref 322), (1, .int s), (2, .int x)] [] r h
  have hM9 : rf_M (h 323) < 17 := hV.1.1.2
  have hS9 : rf_S (h 323) < 11 := hV.1.2.1.2
  have hO9 : rf_O (h 323) < 11 := hV.1.2.2.2
  refine am_aload_n (pc := 0) C dX12_place_0 rfl ?_
  refine am_iconstN (pc := 1) (k := 0) C dX12_place_1 ?_
  refine am_putI (pc := 2) C dX12_place_2 f12_3 bn_322 sh_322 rfl rfl ?_
  refine am_hp (show am_up h 322 0 (nI 0) = am_row h 322 (upd (h 322) 0 (nI 0)) from am_up_rw _ _ _ _) ?_
  refine am_aload_n (pc := 5) C dX12_place_5 rfl ?_
  refine am_aload_n (pc := 6) C dX12_place_6 rfl ?_
  refine am_iload_n (pc := 7) C dX12_place_7 rfl ?_
  refine am_callVi (Y := mX12_noSoldier) (pc := 8) (st := [.ref 322]) (As := [.int s]) (x := (am_b (!rf_okN s (rf_S (h 323))))) (h2 := (am_row h 322 (upd (h 322) 0 (nI 0)))) C dX12_place_8 k12_322 v_X12_noSoldier rfl rfl bn_322 sh_322 ⟨by decide, rfl⟩ (by decide) (Nat.zero_le _) (Nat.zero_le _) (Nat.le_of_ble_eq_true rfl) (c_X12_noSoldier hR s (show rf_Cn (h 323) from hV.1)) ?_
  refine am_iconstN (pc := 11) (k := 1) C dX12_place_11 ?_
  refine am_callVi (Y := mX12_throwsIf) (pc := 12) (st := []) (As := [.int (am_b (!rf_okN s (rf_S (h 323)))), .int (nI 1)]) (x := (am_b (!rf_okN s (rf_S (h 323))))) (h2 := (am_row (am_row h 322 (upd (h 322) 0 (nI 0))) 322 (bif (!rf_okN s (rf_S (h 323))) then upd (upd (h 322) 0 (nI 0)) 0 (nI 1) else (upd (h 322) 0 (nI 0))))) C dX12_place_12 k12_269 v_X12_throwsIf rfl rfl bn_322 sh_322 ⟨by decide, rfl⟩ (by decide) (Nat.zero_le _) (Nat.zero_le _) (Nat.le_of_ble_eq_true rfl) (c_X12_throwsIf hR (!rf_okN s (rf_S (h 323))) (nI 1)) ?_
  refine am_hp (show (am_row (am_row h 322 (upd (h 322) 0 (nI 0))) 322 (bif (!rf_okN s (rf_S (h 323))) then upd (upd (h 322) 0 (nI 0)) 0 (nI 1) else (upd (h 322) 0 (nI 0)))) = (am_row h 322 (bif (!rf_okN s (rf_S (h 323))) then upd (upd (h 322) 0 (nI 0)) 0 (nI 1) else (upd (h 322) 0 (nI 0)))) from am_row_s0) ?_
  refine am_if_neB (pc := 15) (tgt := 42) C dX12_place_15 (by decide) (fun q15 => ?_) (fun q15 => ?_)
  · skip
    refine am_hp (show (am_row h 322 (bif (!rf_okN s (rf_S (h 323))) then upd (upd (h 322) 0 (nI 0)) 0 (nI 1) else (upd (h 322) 0 (nI 0)))) = (am_row h 322 (upd (upd (h 322) 0 (nI 0)) 0 (nI 1))) from by rw [q15]; rfl) ?_
    refine am_iconstN (pc := 42) (k := 0) C dX12_place_42 ?_
    have K9 : rf_c_place (h 323) s x = 1 := (by unfold rf_c_place; exact (rf_cb_t q15))
    exact am_ireti T dX12_place_43 rfl (Nat.le_refl _) (Nat.le_refl _) (by rw [K9]; rfl) rfl (by rw [K9]; exact congrArg (am_row _ 322) rf_upd_upd)
  · skip
    refine am_hp (show (am_row h 322 (bif (!rf_okN s (rf_S (h 323))) then upd (upd (h 322) 0 (nI 0)) 0 (nI 1) else (upd (h 322) 0 (nI 0)))) = (am_row h 322 (upd (h 322) 0 (nI 0))) from by rw [q15]; rfl) ?_
    refine am_aload_n (pc := 18) C dX12_place_18 rfl ?_
    refine am_iload_n (pc := 19) C dX12_place_19 rfl ?_
    refine am_iconstN (pc := 20) (k := 0) C dX12_place_20 ?_
    refine am_sipush (pc := 21) (v := nI 1000) C dX12_place_21 (by decide) ?_
    refine am_callSi (Y := mX12_in) (pc := 24) (st := [.ref 322]) (As := [.int x, .int (nI 0), .int (nI 1000)]) (x := (am_b (rf_in x (nI 0) (nI 1000)))) (h2 := (am_row h 322 (upd (h 322) 0 (nI 0)))) C dX12_place_24 k12_71 v_X12_in rfl rfl (by decide) (Nat.zero_le _) (Nat.zero_le _) (Nat.le_of_ble_eq_true rfl) (c_X12_in hR x (nI 0) (nI 1000)) ?_
    refine am_if_neB (pc := 27) (tgt := 34) C dX12_place_27 (by decide) (fun q27 => ?_) (fun q27 => ?_)
    · skip
      refine am_iconstN (pc := 34) (k := 0) C dX12_place_34 ?_
      refine am_top (show (nI 0) = (am_b false) from rfl) ?_
      refine am_iconstN (pc := 35) (k := 2) C dX12_place_35 ?_
      refine am_callVi (Y := mX12_throwsIf) (pc := 36) (st := []) (As := [.int (am_b false), .int (nI 2)]) (x := (am_b false)) (h2 := (am_row (am_row h 322 (upd (h 322) 0 (nI 0))) 322 (bif false then upd (upd (h 322) 0 (nI 0)) 0 (nI 2) else (upd (h 322) 0 (nI 0))))) C dX12_place_36 k12_269 v_X12_throwsIf rfl rfl bn_322 sh_322 ⟨by decide, rfl⟩ (by decide) (Nat.zero_le _) (Nat.zero_le _) (Nat.le_of_ble_eq_true rfl) (c_X12_throwsIf hR false (nI 2)) ?_
      refine am_hp (show (am_row (am_row h 322 (upd (h 322) 0 (nI 0))) 322 (bif false then upd (upd (h 322) 0 (nI 0)) 0 (nI 2) else (upd (h 322) 0 (nI 0)))) = (am_row h 322 (bif false then upd (upd (h 322) 0 (nI 0)) 0 (nI 2) else (upd (h 322) 0 (nI 0)))) from am_row_s0) ?_
      refine am_hp (show (am_row h 322 (bif false then upd (upd (h 322) 0 (nI 0)) 0 (nI 2) else (upd (h 322) 0 (nI 0)))) = (am_row h 322 (upd (h 322) 0 (nI 0))) from rfl) ?_
      refine am_if_eqB (pc := 39) (tgt := 44) C dX12_place_39 (by decide) (fun q39 => ?_) (fun q39 => ?_)
      · skip
        have K9 : rf_c_place (h 323) s x = 0 := by unfold rf_c_place; exact ((rf_cb_f q15).trans (rf_cb_nf q27))
        have hs := rf_okN_q (by omega) q15
        have hs2 := hs.2
        refine am_lsv (ls' := [(0, .ref 322), (1, .int (nI (rf_nat s))), (2, .int x)]) (congrArg (fun z9 : Int32 => ([(0, .ref 322), (1, Value.int z9), (2, .int x)] : List (Nat × Value))) (show s = (nI (rf_nat s)) from hs.1)) ?_
        refine am_aload_n (pc := 44) C dX12_place_44 rfl ?_
        refine am_iload_n (pc := 45) C dX12_place_45 rfl ?_
        refine am_iload_n (pc := 46) C dX12_place_46 rfl ?_
        refine am_callVi (Y := mX12_placeIn) (pc := 47) (st := []) (As := [.int (nI (rf_nat s)), .int x]) (x := (rf_pl2 (h 323) (rf_nat s) x)) (h2 := (am_row h 322 (upd (h 322) 0 (nI 0)))) C dX12_place_47 k12_334 v_X12_placeIn rfl rfl bn_322 sh_322 ⟨by decide, rfl⟩ (by decide) (Nat.zero_le _) (Nat.zero_le _) (Nat.le_of_ble_eq_true rfl) (c_X12_placeIn hR (rf_nat s) x (show (rf_nat s) < rf_S (h 323) from by omega) (show rf_Is (h 323) (rf_nat s) from (hV.2.1 (rf_nat s) (by omega))) (show rf_Cn (h 323) from hV.1)) ?_
        have A9 : rf_a_place (h 323) s x = (rf_pl2 (h 323) (rf_nat s) x) := rfl
        exact am_ireti T dX12_place_50 rfl (Nat.le_refl _) (Nat.le_refl _) (by rw [K9]; exact A9.symm) rfl (by rw [K9]; exact rfl)
      · skip
        exact Bool.noConfusion q39
    · skip
      refine am_iconstN (pc := 30) (k := 1) C dX12_place_30 ?_
      refine am_goto (pc := 31) (tgt := 35) C dX12_place_31 (by decide) ?_
      refine am_top (show (nI 1) = (am_b true) from rfl) ?_
      refine am_iconstN (pc := 35) (k := 2) C dX12_place_35 ?_
      refine am_callVi (Y := mX12_throwsIf) (pc := 36) (st := []) (As := [.int (am_b true), .int (nI 2)]) (x := (am_b true)) (h2 := (am_row (am_row h 322 (upd (h 322) 0 (nI 0))) 322 (bif true then upd (upd (h 322) 0 (nI 0)) 0 (nI 2) else (upd (h 322) 0 (nI 0))))) C dX12_place_36 k12_269 v_X12_throwsIf rfl rfl bn_322 sh_322 ⟨by decide, rfl⟩ (by decide) (Nat.zero_le _) (Nat.zero_le _) (Nat.le_of_ble_eq_true rfl) (c_X12_throwsIf hR true (nI 2)) ?_
      refine am_hp (show (am_row (am_row h 322 (upd (h 322) 0 (nI 0))) 322 (bif true then upd (upd (h 322) 0 (nI 0)) 0 (nI 2) else (upd (h 322) 0 (nI 0)))) = (am_row h 322 (bif true then upd (upd (h 322) 0 (nI 0)) 0 (nI 2) else (upd (h 322) 0 (nI 0)))) from am_row_s0) ?_
      refine am_hp (show (am_row h 322 (bif true then upd (upd (h 322) 0 (nI 0)) 0 (nI 2) else (upd (h 322) 0 (nI 0)))) = (am_row h 322 (upd (upd (h 322) 0 (nI 0)) 0 (nI 2))) from rfl) ?_
      refine am_if_eqB (pc := 39) (tgt := 44) C dX12_place_39 (by decide) (fun q39 => ?_) (fun q39 => ?_)
      · skip
        exact Bool.noConfusion q39
      · skip
        refine am_iconstN (pc := 42) (k := 0) C dX12_place_42 ?_
        have K9 : rf_c_place (h 323) s x = 2 := (by unfold rf_c_place; exact ((rf_cb_f q15).trans (rf_cb_nt q27)))
        exact am_ireti T dX12_place_43 rfl (Nat.le_refl _) (Nat.le_refl _) (by rw [K9]; rfl) rfl (by rw [K9]; exact congrArg (am_row _ 322) rf_upd_upd)

set_option maxHeartbeats 400000 in
set_option maxRecDepth 100000 in
theorem c_X12_falls {ad : Nat → Nat} {r : am_R} (hR : am_rs r) {h : am_H} (s : Int32) (m : Int32) (hV : rf_I (h 323))  : am_CM mX12_falls 3 0 0 [.ref 322, .int s, .int m] (am_VV ad) r h (am_po (some (.int (rf_ga (rf_c_falls (h 323) s m) (rf_a_falls (h 323) s m)))) r (am_row h 322 (rf_oc (h 322) (rf_c_falls (h 323) s m)))) := by
  refine am_CM.of (by decide +kernel) (Nat.le_of_ble_eq_true rfl) (fun X C T => ?_)
  show am_G X (am_VV ad) (0, 0) 0 [(0, .ref 322), (1, .int s), (2, .int m)] [] r h
  have hM9 : rf_M (h 323) < 17 := hV.1.1.2
  have hS9 : rf_S (h 323) < 11 := hV.1.2.1.2
  have hO9 : rf_O (h 323) < 11 := hV.1.2.2.2
  refine am_aload_n (pc := 0) C dX12_falls_0 rfl ?_
  refine am_iconstN (pc := 1) (k := 0) C dX12_falls_1 ?_
  refine am_putI (pc := 2) C dX12_falls_2 f12_3 bn_322 sh_322 rfl rfl ?_
  refine am_hp (show am_up h 322 0 (nI 0) = am_row h 322 (upd (h 322) 0 (nI 0)) from am_up_rw _ _ _ _) ?_
  refine am_aload_n (pc := 5) C dX12_falls_5 rfl ?_
  refine am_aload_n (pc := 6) C dX12_falls_6 rfl ?_
  refine am_iload_n (pc := 7) C dX12_falls_7 rfl ?_
  refine am_callVi (Y := mX12_noSoldier) (pc := 8) (st := [.ref 322]) (As := [.int s]) (x := (am_b (!rf_okN s (rf_S (h 323))))) (h2 := (am_row h 322 (upd (h 322) 0 (nI 0)))) C dX12_falls_8 k12_322 v_X12_noSoldier rfl rfl bn_322 sh_322 ⟨by decide, rfl⟩ (by decide) (Nat.zero_le _) (Nat.zero_le _) (Nat.le_of_ble_eq_true rfl) (c_X12_noSoldier hR s (show rf_Cn (h 323) from hV.1)) ?_
  refine am_if_neB (pc := 11) (tgt := 22) C dX12_falls_11 (by decide) (fun q11 => ?_) (fun q11 => ?_)
  · skip
    refine am_iconstN (pc := 22) (k := 1) C dX12_falls_22 ?_
    refine am_goto (pc := 23) (tgt := 27) C dX12_falls_23 (by decide) ?_
    refine am_top (show (nI 1) = (am_b true) from rfl) ?_
    refine am_iconstN (pc := 27) (k := 1) C dX12_falls_27 ?_
    refine am_callVi (Y := mX12_throwsIf) (pc := 28) (st := []) (As := [.int (am_b true), .int (nI 1)]) (x := (am_b true)) (h2 := (am_row (am_row h 322 (upd (h 322) 0 (nI 0))) 322 (bif true then upd (upd (h 322) 0 (nI 0)) 0 (nI 1) else (upd (h 322) 0 (nI 0))))) C dX12_falls_28 k12_269 v_X12_throwsIf rfl rfl bn_322 sh_322 ⟨by decide, rfl⟩ (by decide) (Nat.zero_le _) (Nat.zero_le _) (Nat.le_of_ble_eq_true rfl) (c_X12_throwsIf hR true (nI 1)) ?_
    refine am_hp (show (am_row (am_row h 322 (upd (h 322) 0 (nI 0))) 322 (bif true then upd (upd (h 322) 0 (nI 0)) 0 (nI 1) else (upd (h 322) 0 (nI 0)))) = (am_row h 322 (bif true then upd (upd (h 322) 0 (nI 0)) 0 (nI 1) else (upd (h 322) 0 (nI 0)))) from am_row_s0) ?_
    refine am_hp (show (am_row h 322 (bif true then upd (upd (h 322) 0 (nI 0)) 0 (nI 1) else (upd (h 322) 0 (nI 0)))) = (am_row h 322 (upd (upd (h 322) 0 (nI 0)) 0 (nI 1))) from rfl) ?_
    refine am_if_eqB (pc := 31) (tgt := 38) C dX12_falls_31 (by decide) (fun q31 => ?_) (fun q31 => ?_)
    · skip
      exact Bool.noConfusion q31
    · skip
      refine am_iconstN (pc := 34) (k := 0) C dX12_falls_34 ?_
      refine am_goto (pc := 35) (tgt := 48) C dX12_falls_35 (by decide) ?_
      have K9 : rf_c_falls (h 323) s m = 1 := (by unfold rf_c_falls; exact (rf_cb_t q11))
      exact am_ireti T dX12_falls_48 rfl (Nat.le_refl _) (Nat.le_refl _) (by rw [K9]; rfl) rfl (by rw [K9]; exact congrArg (am_row _ 322) rf_upd_upd)
  · skip
    refine am_aload_n (pc := 14) C dX12_falls_14 rfl ?_
    refine am_iload_n (pc := 15) C dX12_falls_15 rfl ?_
    refine am_callVi (Y := mX12_noMemory) (pc := 16) (st := [.ref 322]) (As := [.int m]) (x := (am_b (!rf_okN m (rf_M (h 323))))) (h2 := (am_row h 322 (upd (h 322) 0 (nI 0)))) C dX12_falls_16 k12_304 v_X12_noMemory rfl rfl bn_322 sh_322 ⟨by decide, rfl⟩ (by decide) (Nat.zero_le _) (Nat.zero_le _) (Nat.le_of_ble_eq_true rfl) (c_X12_noMemory hR m (show rf_Cn (h 323) from hV.1)) ?_
    refine am_if_eqB (pc := 19) (tgt := 26) C dX12_falls_19 (by decide) (fun q19 => ?_) (fun q19 => ?_)
    · skip
      refine am_iconstN (pc := 26) (k := 0) C dX12_falls_26 ?_
      refine am_top (show (nI 0) = (am_b false) from rfl) ?_
      refine am_iconstN (pc := 27) (k := 1) C dX12_falls_27 ?_
      refine am_callVi (Y := mX12_throwsIf) (pc := 28) (st := []) (As := [.int (am_b false), .int (nI 1)]) (x := (am_b false)) (h2 := (am_row (am_row h 322 (upd (h 322) 0 (nI 0))) 322 (bif false then upd (upd (h 322) 0 (nI 0)) 0 (nI 1) else (upd (h 322) 0 (nI 0))))) C dX12_falls_28 k12_269 v_X12_throwsIf rfl rfl bn_322 sh_322 ⟨by decide, rfl⟩ (by decide) (Nat.zero_le _) (Nat.zero_le _) (Nat.le_of_ble_eq_true rfl) (c_X12_throwsIf hR false (nI 1)) ?_
      refine am_hp (show (am_row (am_row h 322 (upd (h 322) 0 (nI 0))) 322 (bif false then upd (upd (h 322) 0 (nI 0)) 0 (nI 1) else (upd (h 322) 0 (nI 0)))) = (am_row h 322 (bif false then upd (upd (h 322) 0 (nI 0)) 0 (nI 1) else (upd (h 322) 0 (nI 0)))) from am_row_s0) ?_
      refine am_hp (show (am_row h 322 (bif false then upd (upd (h 322) 0 (nI 0)) 0 (nI 1) else (upd (h 322) 0 (nI 0)))) = (am_row h 322 (upd (h 322) 0 (nI 0))) from rfl) ?_
      refine am_if_eqB (pc := 31) (tgt := 38) C dX12_falls_31 (by decide) (fun q31 => ?_) (fun q31 => ?_)
      · skip
        have K9 : rf_c_falls (h 323) s m = 0 := by unfold rf_c_falls; exact ((rf_cb_f q11).trans (rf_cb_f q19))
        have hs := rf_okN_q (by omega) q11
        have hs2 := hs.2
        have hm := rf_okN_q (by omega) q19
        have hm2 := hm.2
        refine am_lsv (ls' := [(0, .ref 322), (1, .int (nI (rf_nat s))), (2, .int m)]) (congrArg (fun z9 : Int32 => ([(0, .ref 322), (1, Value.int z9), (2, .int m)] : List (Nat × Value))) (show s = (nI (rf_nat s)) from hs.1)) ?_
        refine am_lsv (ls' := [(0, .ref 322), (1, .int (nI (rf_nat s))), (2, .int (nI (rf_nat m)))]) (congrArg (fun z9 : Int32 => ([(0, .ref 322), (1, .int (nI (rf_nat s))), (2, Value.int z9)] : List (Nat × Value))) (show m = (nI (rf_nat m)) from hm.1)) ?_
        refine am_aload_n (pc := 38) C dX12_falls_38 rfl ?_
        refine am_aload_n (pc := 39) C dX12_falls_39 rfl ?_
        refine am_iload_n (pc := 40) C dX12_falls_40 rfl ?_
        refine am_callVi (Y := mX12_knownOf) (pc := 41) (st := [.ref 322]) (As := [.int (nI (rf_nat s))]) (x := (rf_known (h 323) (rf_nat s))) (h2 := (am_row h 322 (upd (h 322) 0 (nI 0)))) C dX12_falls_41 k12_88 v_X12_knownOf rfl rfl bn_322 sh_322 ⟨by decide, rfl⟩ (by decide) (Nat.zero_le _) (Nat.zero_le _) (Nat.le_of_ble_eq_true rfl) (c_X12_knownOf hR (rf_nat s) (show (rf_nat s) < rf_S (h 323) from by omega) (show rf_Is (h 323) (rf_nat s) from (hV.2.1 (rf_nat s) (by omega))) (show rf_Cn (h 323) from hV.1)) ?_
        refine am_iload_n (pc := 44) C dX12_falls_44 rfl ?_
        refine am_callVi (Y := mX12_fallsOf) (pc := 45) (st := []) (As := [.int (rf_known (h 323) (rf_nat s)), .int (nI (rf_nat m))]) (x := (rf_falls (h 323) (rf_known (h 323) (rf_nat s)) (rf_nat m))) (h2 := (am_row h 322 (upd (h 322) 0 (nI 0)))) C dX12_falls_45 k12_337 v_X12_fallsOf rfl rfl bn_322 sh_322 ⟨by decide, rfl⟩ (by decide) (Nat.zero_le _) (Nat.zero_le _) (Nat.le_of_ble_eq_true rfl) (c_X12_fallsOf hR (rf_known (h 323) (rf_nat s)) (rf_nat m) (show rf_Cn (h 323) from hV.1) (show (rf_nat m) < 32 from by omega)) ?_
        have A9 : rf_a_falls (h 323) s m = (rf_falls (h 323) (rf_known (h 323) (rf_nat s)) (rf_nat m)) := rfl
        exact am_ireti T dX12_falls_48 rfl (Nat.le_refl _) (Nat.le_refl _) (by rw [K9]; exact A9.symm) rfl (by rw [K9]; exact rfl)
      · skip
        exact Bool.noConfusion q31
    · skip
      refine am_iconstN (pc := 22) (k := 1) C dX12_falls_22 ?_
      refine am_goto (pc := 23) (tgt := 27) C dX12_falls_23 (by decide) ?_
      refine am_top (show (nI 1) = (am_b true) from rfl) ?_
      refine am_iconstN (pc := 27) (k := 1) C dX12_falls_27 ?_
      refine am_callVi (Y := mX12_throwsIf) (pc := 28) (st := []) (As := [.int (am_b true), .int (nI 1)]) (x := (am_b true)) (h2 := (am_row (am_row h 322 (upd (h 322) 0 (nI 0))) 322 (bif true then upd (upd (h 322) 0 (nI 0)) 0 (nI 1) else (upd (h 322) 0 (nI 0))))) C dX12_falls_28 k12_269 v_X12_throwsIf rfl rfl bn_322 sh_322 ⟨by decide, rfl⟩ (by decide) (Nat.zero_le _) (Nat.zero_le _) (Nat.le_of_ble_eq_true rfl) (c_X12_throwsIf hR true (nI 1)) ?_
      refine am_hp (show (am_row (am_row h 322 (upd (h 322) 0 (nI 0))) 322 (bif true then upd (upd (h 322) 0 (nI 0)) 0 (nI 1) else (upd (h 322) 0 (nI 0)))) = (am_row h 322 (bif true then upd (upd (h 322) 0 (nI 0)) 0 (nI 1) else (upd (h 322) 0 (nI 0)))) from am_row_s0) ?_
      refine am_hp (show (am_row h 322 (bif true then upd (upd (h 322) 0 (nI 0)) 0 (nI 1) else (upd (h 322) 0 (nI 0)))) = (am_row h 322 (upd (upd (h 322) 0 (nI 0)) 0 (nI 1))) from rfl) ?_
      refine am_if_eqB (pc := 31) (tgt := 38) C dX12_falls_31 (by decide) (fun q31 => ?_) (fun q31 => ?_)
      · skip
        exact Bool.noConfusion q31
      · skip
        refine am_iconstN (pc := 34) (k := 0) C dX12_falls_34 ?_
        refine am_goto (pc := 35) (tgt := 48) C dX12_falls_35 (by decide) ?_
        have K9 : rf_c_falls (h 323) s m = 1 := (by unfold rf_c_falls; exact ((rf_cb_f q11).trans (rf_cb_t q19)))
        exact am_ireti T dX12_falls_48 rfl (Nat.le_refl _) (Nat.le_refl _) (by rw [K9]; rfl) rfl (by rw [K9]; exact congrArg (am_row _ 322) rf_upd_upd)

set_option maxHeartbeats 400000 in
set_option maxRecDepth 100000 in
theorem c_X12_order {ad : Nat → Nat} {r : am_R} (hR : am_rs r) {h : am_H} (o : Int32) (what : Int32) (hV : rf_I (h 323))  : am_CM mX12_order 3 0 0 [.ref 322, .int o, .int what] (am_VV ad) r h (am_po (some (.int (rf_ga (rf_c_order (h 323) o what) (rf_a_order (h 323) o what)))) r (am_row h 322 (rf_oc (h 322) (rf_c_order (h 323) o what)))) := by
  refine am_CM.of (by decide +kernel) (Nat.le_of_ble_eq_true rfl) (fun X C T => ?_)
  show am_G X (am_VV ad) (0, 0) 0 [(0, .ref 322), (1, .int o), (2, .int what)] [] r h
  have hM9 : rf_M (h 323) < 17 := hV.1.1.2
  have hS9 : rf_S (h 323) < 11 := hV.1.2.1.2
  have hO9 : rf_O (h 323) < 11 := hV.1.2.2.2
  refine am_aload_n (pc := 0) C dX12_order_0 rfl ?_
  refine am_iconstN (pc := 1) (k := 0) C dX12_order_1 ?_
  refine am_putI (pc := 2) C dX12_order_2 f12_3 bn_322 sh_322 rfl rfl ?_
  refine am_hp (show am_up h 322 0 (nI 0) = am_row h 322 (upd (h 322) 0 (nI 0)) from am_up_rw _ _ _ _) ?_
  refine am_aload_n (pc := 5) C dX12_order_5 rfl ?_
  refine am_iload_n (pc := 6) C dX12_order_6 rfl ?_
  refine am_iconstN (pc := 7) (k := 0) C dX12_order_7 ?_
  refine am_aload_n (pc := 8) C dX12_order_8 rfl ?_
  refine am_callVi (Y := mX12_orders) (pc := 9) (st := [.int (nI 0), .int o, .ref 322]) (As := []) (x := (nI (rf_O (h 323)))) (h2 := (am_row h 322 (upd (h 322) 0 (nI 0)))) C dX12_order_9 k12_159 v_X12_orders rfl rfl bn_322 sh_322 ⟨by decide, rfl⟩ (by decide) (Nat.zero_le _) (Nat.zero_le _) (Nat.le_of_ble_eq_true rfl) (c_X12_orders hR (show rf_Cn (h 323) from hV.1)) ?_
  refine am_iconstN (pc := 12) (k := 1) C dX12_order_12 ?_
  refine am_isub (pc := 13) C dX12_order_13 ?_
  refine am_callSi (Y := mX12_in) (pc := 14) (st := [.ref 322]) (As := [.int o, .int (nI 0), .int ((nI (rf_O (h 323))) - (nI 1))]) (x := (am_b (rf_in o (nI 0) ((nI (rf_O (h 323))) - (nI 1))))) (h2 := (am_row h 322 (upd (h 322) 0 (nI 0)))) C dX12_order_14 k12_71 v_X12_in rfl rfl (by decide) (Nat.zero_le _) (Nat.zero_le _) (Nat.le_of_ble_eq_true rfl) (c_X12_in hR o (nI 0) ((nI (rf_O (h 323))) - (nI 1))) ?_
  refine am_top (show (am_b (rf_in o (nI 0) ((nI (rf_O (h 323))) - (nI 1)))) = (am_b (rf_okN o (rf_O (h 323)))) from rfl) ?_
  refine am_if_neB (pc := 17) (tgt := 24) C dX12_order_17 (by decide) (fun q17 => ?_) (fun q17 => ?_)
  · skip
    refine am_iconstN (pc := 24) (k := 0) C dX12_order_24 ?_
    refine am_top (show (nI 0) = (am_b false) from rfl) ?_
    refine am_iconstN (pc := 25) (k := 1) C dX12_order_25 ?_
    refine am_callVi (Y := mX12_throwsIf) (pc := 26) (st := []) (As := [.int (am_b false), .int (nI 1)]) (x := (am_b false)) (h2 := (am_row (am_row h 322 (upd (h 322) 0 (nI 0))) 322 (bif false then upd (upd (h 322) 0 (nI 0)) 0 (nI 1) else (upd (h 322) 0 (nI 0))))) C dX12_order_26 k12_269 v_X12_throwsIf rfl rfl bn_322 sh_322 ⟨by decide, rfl⟩ (by decide) (Nat.zero_le _) (Nat.zero_le _) (Nat.le_of_ble_eq_true rfl) (c_X12_throwsIf hR false (nI 1)) ?_
    refine am_hp (show (am_row (am_row h 322 (upd (h 322) 0 (nI 0))) 322 (bif false then upd (upd (h 322) 0 (nI 0)) 0 (nI 1) else (upd (h 322) 0 (nI 0)))) = (am_row h 322 (bif false then upd (upd (h 322) 0 (nI 0)) 0 (nI 1) else (upd (h 322) 0 (nI 0)))) from am_row_s0) ?_
    refine am_hp (show (am_row h 322 (bif false then upd (upd (h 322) 0 (nI 0)) 0 (nI 1) else (upd (h 322) 0 (nI 0)))) = (am_row h 322 (upd (h 322) 0 (nI 0))) from rfl) ?_
    refine am_if_neB (pc := 29) (tgt := 54) C dX12_order_29 (by decide) (fun q29 => ?_) (fun q29 => ?_)
    · skip
      exact Bool.noConfusion q29
    · skip
      refine am_aload_n (pc := 32) C dX12_order_32 rfl ?_
      refine am_iload_n (pc := 33) C dX12_order_33 rfl ?_
      refine am_iconstN (pc := 34) (k := 0) C dX12_order_34 ?_
      refine am_iconstN (pc := 35) (k := 3) C dX12_order_35 ?_
      refine am_callSi (Y := mX12_in) (pc := 36) (st := [.ref 322]) (As := [.int what, .int (nI 0), .int (nI 3)]) (x := (am_b (rf_in what (nI 0) (nI 3)))) (h2 := (am_row h 322 (upd (h 322) 0 (nI 0)))) C dX12_order_36 k12_71 v_X12_in rfl rfl (by decide) (Nat.zero_le _) (Nat.zero_le _) (Nat.le_of_ble_eq_true rfl) (c_X12_in hR what (nI 0) (nI 3)) ?_
      refine am_if_neB (pc := 39) (tgt := 46) C dX12_order_39 (by decide) (fun q39 => ?_) (fun q39 => ?_)
      · skip
        refine am_iconstN (pc := 46) (k := 0) C dX12_order_46 ?_
        refine am_top (show (nI 0) = (am_b false) from rfl) ?_
        refine am_iconstN (pc := 47) (k := 2) C dX12_order_47 ?_
        refine am_callVi (Y := mX12_throwsIf) (pc := 48) (st := []) (As := [.int (am_b false), .int (nI 2)]) (x := (am_b false)) (h2 := (am_row (am_row h 322 (upd (h 322) 0 (nI 0))) 322 (bif false then upd (upd (h 322) 0 (nI 0)) 0 (nI 2) else (upd (h 322) 0 (nI 0))))) C dX12_order_48 k12_269 v_X12_throwsIf rfl rfl bn_322 sh_322 ⟨by decide, rfl⟩ (by decide) (Nat.zero_le _) (Nat.zero_le _) (Nat.le_of_ble_eq_true rfl) (c_X12_throwsIf hR false (nI 2)) ?_
        refine am_hp (show (am_row (am_row h 322 (upd (h 322) 0 (nI 0))) 322 (bif false then upd (upd (h 322) 0 (nI 0)) 0 (nI 2) else (upd (h 322) 0 (nI 0)))) = (am_row h 322 (bif false then upd (upd (h 322) 0 (nI 0)) 0 (nI 2) else (upd (h 322) 0 (nI 0)))) from am_row_s0) ?_
        refine am_hp (show (am_row h 322 (bif false then upd (upd (h 322) 0 (nI 0)) 0 (nI 2) else (upd (h 322) 0 (nI 0)))) = (am_row h 322 (upd (h 322) 0 (nI 0))) from rfl) ?_
        refine am_if_eqB (pc := 51) (tgt := 56) C dX12_order_51 (by decide) (fun q51 => ?_) (fun q51 => ?_)
        · skip
          have K9 : rf_c_order (h 323) o what = 0 := by unfold rf_c_order; exact ((rf_cb_nf q17).trans (rf_cb_nf q39))
          have ho := rf_okN_n (by omega) q17
          have ho2 := ho.2
          have hq := rf_in_n0 (by decide) q39
          have hq2 := hq.2
          refine am_lsv (ls' := [(0, .ref 322), (1, .int (nI (rf_nat o))), (2, .int what)]) (congrArg (fun z9 : Int32 => ([(0, .ref 322), (1, Value.int z9), (2, .int what)] : List (Nat × Value))) (show o = (nI (rf_nat o)) from ho.1)) ?_
          refine am_lsv (ls' := [(0, .ref 322), (1, .int (nI (rf_nat o))), (2, .int (nI (rf_nat what)))]) (congrArg (fun z9 : Int32 => ([(0, .ref 322), (1, .int (nI (rf_nat o))), (2, Value.int z9)] : List (Nat × Value))) (show what = (nI (rf_nat what)) from hq.1)) ?_
          refine am_iload_n (pc := 56) C dX12_order_56 rfl ?_
          refine am_iconstN (pc := 57) (k := 2) C dX12_order_57 ?_
          refine am_icmp_geN (pc := 58) (tgt := 70) C dX12_order_58 (by decide) (by omega) (by omega) (fun q58 => ?_) (fun q58 => ?_)
          · skip
            refine am_iload_n (pc := 70) C dX12_order_70 rfl ?_
            refine am_iconstN (pc := 71) (k := 2) C dX12_order_71 ?_
            refine am_icmp_neN (pc := 72) (tgt := 88) C dX12_order_72 (by decide) (by omega) (by omega) (fun q72 => ?_) (fun q72 => ?_)
            · skip
              refine am_aload_n (pc := 88) C dX12_order_88 rfl ?_
              refine am_aload_n (pc := 89) C dX12_order_89 rfl ?_
              refine am_iload_n (pc := 90) C dX12_order_90 rfl ?_
              refine am_iconstN (pc := 91) (k := 1) C dX12_order_91 ?_
              refine am_callVi (Y := mX12_ofOrder) (pc := 92) (st := [.ref 322]) (As := [.int (nI (rf_nat o)), .int (nI 1)]) (x := (rf_ord (h 323) (rf_nat o) 1)) (h2 := (am_row h 322 (upd (h 322) 0 (nI 0)))) C dX12_order_92 k12_319 v_X12_ofOrder rfl rfl bn_322 sh_322 ⟨by decide, rfl⟩ (by decide) (Nat.zero_le _) (Nat.zero_le _) (Nat.le_of_ble_eq_true rfl) (c_X12_ofOrder hR (rf_nat o) 1 (show (rf_nat o) < 10 from by omega) (show 1 < 2 from by omega)) ?_
              refine am_callVi (Y := mX12_bearsAll) (pc := 95) (st := []) (As := [.int (rf_ord (h 323) (rf_nat o) 1)]) (x := (rf_bearsAll (h 323) (rf_ord (h 323) (rf_nat o) 1))) (h2 := (am_row h 322 (upd (h 322) 0 (nI 0)))) C dX12_order_95 k12_340 v_X12_bearsAll rfl rfl bn_322 sh_322 ⟨by decide, rfl⟩ (by decide) (Nat.zero_le _) (Nat.zero_le _) (Nat.le_of_ble_eq_true rfl) (c_X12_bearsAll hR (rf_ord (h 323) (rf_nat o) 1) (show rf_Cn (h 323) from hV.1)) ?_
              refine am_callSi (Y := mJ6_bitCount_0f7a4) (pc := 98) (st := []) (As := [.int (rf_bearsAll (h 323) (rf_ord (h 323) (rf_nat o) 1))]) (x := (rf_pc (rf_bearsAll (h 323) (rf_ord (h 323) (rf_nat o) 1)))) (h2 := (am_row h 322 (upd (h 322) 0 (nI 0)))) C dX12_order_98 k12_278 v_J6_bitCount_0f7a4 rfl rfl (by decide) (Nat.zero_le _) (Nat.zero_le _) (Nat.le_of_ble_eq_true rfl) (c_J6_bitCount_0f7a4 hR (rf_bearsAll (h 323) (rf_ord (h 323) (rf_nat o) 1))) ?_
              have A9 : rf_a_order (h 323) o what = (rf_pc (rf_bearsAll (h 323) (rf_ord (h 323) (rf_nat o) 1))) := (by rw [rf_a_order, if_neg (by omega), if_neg (by omega)])
              exact am_ireti T dX12_order_101 rfl (Nat.le_refl _) (Nat.le_refl _) (by rw [K9]; exact A9.symm) rfl (by rw [K9]; exact rfl)
            · skip
              refine am_aload_n (pc := 75) C dX12_order_75 rfl ?_
              refine am_bipush (pc := 76) (v := nI 12) C dX12_order_76 (by decide) ?_
              refine am_callVi (Y := mX12_obeyed) (pc := 78) (st := []) (As := [.int (nI 12)]) (x := (rf_obeyed (h 323) 12)) (h2 := (am_row h 322 (upd (h 322) 0 (nI 0)))) C dX12_order_78 k12_328 v_X12_obeyed rfl rfl bn_322 sh_322 ⟨by decide, rfl⟩ (by decide) (Nat.zero_le _) (Nat.zero_le _) (Nat.le_of_ble_eq_true rfl) (c_X12_obeyed hR 12 hV (show 12 < 1000 from by omega)) ?_
              refine am_iload_n (pc := 81) C dX12_order_81 rfl ?_
              refine am_ishr (pc := 82) C dX12_order_82 ?_
              refine am_iconstN (pc := 83) (k := 1) C dX12_order_83 ?_
              refine am_iand (pc := 84) C dX12_order_84 ?_
              refine am_goto (pc := 85) (tgt := 101) C dX12_order_85 (by decide) ?_
              have A9 : rf_a_order (h 323) o what = (((rf_obeyed (h 323) 12) >>> ((nI (rf_nat o)) &&& 31)) &&& (nI 1)) := (by rw [rf_a_order, if_neg (by omega), if_pos (by omega)])
              exact am_ireti T dX12_order_101 rfl (Nat.le_refl _) (Nat.le_refl _) (by rw [K9]; exact A9.symm) rfl (by rw [K9]; exact rfl)
          · skip
            refine am_aload_n (pc := 61) C dX12_order_61 rfl ?_
            refine am_iload_n (pc := 62) C dX12_order_62 rfl ?_
            refine am_iload_n (pc := 63) C dX12_order_63 rfl ?_
            refine am_callVi (Y := mX12_ofOrder) (pc := 64) (st := []) (As := [.int (nI (rf_nat o)), .int (nI (rf_nat what))]) (x := (rf_ord (h 323) (rf_nat o) (rf_nat what))) (h2 := (am_row h 322 (upd (h 322) 0 (nI 0)))) C dX12_order_64 k12_319 v_X12_ofOrder rfl rfl bn_322 sh_322 ⟨by decide, rfl⟩ (by decide) (Nat.zero_le _) (Nat.zero_le _) (Nat.le_of_ble_eq_true rfl) (c_X12_ofOrder hR (rf_nat o) (rf_nat what) (show (rf_nat o) < 10 from by omega) (show (rf_nat what) < 2 from by omega)) ?_
            refine am_goto (pc := 67) (tgt := 101) C dX12_order_67 (by decide) ?_
            have A9 : rf_a_order (h 323) o what = (rf_ord (h 323) (rf_nat o) (rf_nat what)) := (by rw [rf_a_order, if_pos (by omega)])
            exact am_ireti T dX12_order_101 rfl (Nat.le_refl _) (Nat.le_refl _) (by rw [K9]; exact A9.symm) rfl (by rw [K9]; exact rfl)
        · skip
          exact Bool.noConfusion q51
      · skip
        refine am_iconstN (pc := 42) (k := 1) C dX12_order_42 ?_
        refine am_goto (pc := 43) (tgt := 47) C dX12_order_43 (by decide) ?_
        refine am_top (show (nI 1) = (am_b true) from rfl) ?_
        refine am_iconstN (pc := 47) (k := 2) C dX12_order_47 ?_
        refine am_callVi (Y := mX12_throwsIf) (pc := 48) (st := []) (As := [.int (am_b true), .int (nI 2)]) (x := (am_b true)) (h2 := (am_row (am_row h 322 (upd (h 322) 0 (nI 0))) 322 (bif true then upd (upd (h 322) 0 (nI 0)) 0 (nI 2) else (upd (h 322) 0 (nI 0))))) C dX12_order_48 k12_269 v_X12_throwsIf rfl rfl bn_322 sh_322 ⟨by decide, rfl⟩ (by decide) (Nat.zero_le _) (Nat.zero_le _) (Nat.le_of_ble_eq_true rfl) (c_X12_throwsIf hR true (nI 2)) ?_
        refine am_hp (show (am_row (am_row h 322 (upd (h 322) 0 (nI 0))) 322 (bif true then upd (upd (h 322) 0 (nI 0)) 0 (nI 2) else (upd (h 322) 0 (nI 0)))) = (am_row h 322 (bif true then upd (upd (h 322) 0 (nI 0)) 0 (nI 2) else (upd (h 322) 0 (nI 0)))) from am_row_s0) ?_
        refine am_hp (show (am_row h 322 (bif true then upd (upd (h 322) 0 (nI 0)) 0 (nI 2) else (upd (h 322) 0 (nI 0)))) = (am_row h 322 (upd (upd (h 322) 0 (nI 0)) 0 (nI 2))) from rfl) ?_
        refine am_if_eqB (pc := 51) (tgt := 56) C dX12_order_51 (by decide) (fun q51 => ?_) (fun q51 => ?_)
        · skip
          exact Bool.noConfusion q51
        · skip
          refine am_iconstN (pc := 54) (k := 0) C dX12_order_54 ?_
          have K9 : rf_c_order (h 323) o what = 2 := (by unfold rf_c_order; exact ((rf_cb_nf q17).trans (rf_cb_nt q39)))
          exact am_ireti T dX12_order_55 rfl (Nat.le_refl _) (Nat.le_refl _) (by rw [K9]; rfl) rfl (by rw [K9]; exact congrArg (am_row _ 322) rf_upd_upd)
  · skip
    refine am_iconstN (pc := 20) (k := 1) C dX12_order_20 ?_
    refine am_goto (pc := 21) (tgt := 25) C dX12_order_21 (by decide) ?_
    refine am_top (show (nI 1) = (am_b true) from rfl) ?_
    refine am_iconstN (pc := 25) (k := 1) C dX12_order_25 ?_
    refine am_callVi (Y := mX12_throwsIf) (pc := 26) (st := []) (As := [.int (am_b true), .int (nI 1)]) (x := (am_b true)) (h2 := (am_row (am_row h 322 (upd (h 322) 0 (nI 0))) 322 (bif true then upd (upd (h 322) 0 (nI 0)) 0 (nI 1) else (upd (h 322) 0 (nI 0))))) C dX12_order_26 k12_269 v_X12_throwsIf rfl rfl bn_322 sh_322 ⟨by decide, rfl⟩ (by decide) (Nat.zero_le _) (Nat.zero_le _) (Nat.le_of_ble_eq_true rfl) (c_X12_throwsIf hR true (nI 1)) ?_
    refine am_hp (show (am_row (am_row h 322 (upd (h 322) 0 (nI 0))) 322 (bif true then upd (upd (h 322) 0 (nI 0)) 0 (nI 1) else (upd (h 322) 0 (nI 0)))) = (am_row h 322 (bif true then upd (upd (h 322) 0 (nI 0)) 0 (nI 1) else (upd (h 322) 0 (nI 0)))) from am_row_s0) ?_
    refine am_hp (show (am_row h 322 (bif true then upd (upd (h 322) 0 (nI 0)) 0 (nI 1) else (upd (h 322) 0 (nI 0)))) = (am_row h 322 (upd (upd (h 322) 0 (nI 0)) 0 (nI 1))) from rfl) ?_
    refine am_if_neB (pc := 29) (tgt := 54) C dX12_order_29 (by decide) (fun q29 => ?_) (fun q29 => ?_)
    · skip
      refine am_iconstN (pc := 54) (k := 0) C dX12_order_54 ?_
      have K9 : rf_c_order (h 323) o what = 1 := (by unfold rf_c_order; exact (rf_cb_nt q17))
      exact am_ireti T dX12_order_55 rfl (Nat.le_refl _) (Nat.le_refl _) (by rw [K9]; rfl) rfl (by rw [K9]; exact congrArg (am_row _ 322) rf_upd_upd)
    · skip
      exact Bool.noConfusion q29

set_option maxHeartbeats 400000 in
set_option maxRecDepth 100000 in
theorem c_X12_rule {ad : Nat → Nat} {r : am_R} (hR : am_rs r) {h : am_H} (s : Int32) (what : Int32) (hV : rf_I (h 323)) (hL : rf_Lw (h 323))  : am_CM mX12_rule 7 0 0 [.ref 322, .int s, .int what] (am_VV ad) r h (am_pj (some (.int (rf_ga (rf_c_rule (h 323) s what) (rf_a_rule (h 323) s what)))) r (fun G => (am_row (am_row h 330 (G 330)) 322 (rf_oc (h 322) (rf_c_rule (h 323) s what))))) := by
  refine am_CM.of (by decide +kernel) (Nat.le_of_ble_eq_true rfl) (fun X C T => ?_)
  show am_G X (am_VV ad) (0, 0) 0 [(0, .ref 322), (1, .int s), (2, .int what)] [] r h
  have hM9 : rf_M (h 323) < 17 := hV.1.1.2
  have hS9 : rf_S (h 323) < 11 := hV.1.2.1.2
  have hO9 : rf_O (h 323) < 11 := hV.1.2.2.2
  refine am_hp (show h = (am_row h 330 (h 330)) from (am_row_id _ _).symm) ?_
  refine am_aload_n (pc := 0) C dX12_rule_0 rfl ?_
  refine am_iconstN (pc := 1) (k := 0) C dX12_rule_1 ?_
  refine am_putI (pc := 2) C dX12_rule_2 f12_3 bn_322 sh_322 rfl rfl ?_
  refine am_hp (show am_up (am_row h 330 (h 330)) 322 0 (nI 0) = am_row (am_row h 330 (h 330)) 322 (upd (h 322) 0 (nI 0)) from am_up_rw _ _ _ _) ?_
  refine am_aload_n (pc := 5) C dX12_rule_5 rfl ?_
  refine am_aload_n (pc := 6) C dX12_rule_6 rfl ?_
  refine am_iload_n (pc := 7) C dX12_rule_7 rfl ?_
  refine am_callVi (Y := mX12_noSoldier) (pc := 8) (st := [.ref 322]) (As := [.int s]) (x := (am_b (!rf_okN s (rf_S (h 323))))) (h2 := (am_row (am_row h 330 (h 330)) 322 (upd (h 322) 0 (nI 0)))) C dX12_rule_8 k12_322 v_X12_noSoldier rfl rfl bn_322 sh_322 ⟨by decide, rfl⟩ (by decide) (Nat.zero_le _) (Nat.zero_le _) (Nat.le_of_ble_eq_true rfl) (c_X12_noSoldier hR s (show rf_Cn (h 323) from hV.1)) ?_
  refine am_iconstN (pc := 11) (k := 1) C dX12_rule_11 ?_
  refine am_callVi (Y := mX12_throwsIf) (pc := 12) (st := []) (As := [.int (am_b (!rf_okN s (rf_S (h 323)))), .int (nI 1)]) (x := (am_b (!rf_okN s (rf_S (h 323))))) (h2 := (am_row (am_row (am_row h 330 (h 330)) 322 (upd (h 322) 0 (nI 0))) 322 (bif (!rf_okN s (rf_S (h 323))) then upd (upd (h 322) 0 (nI 0)) 0 (nI 1) else (upd (h 322) 0 (nI 0))))) C dX12_rule_12 k12_269 v_X12_throwsIf rfl rfl bn_322 sh_322 ⟨by decide, rfl⟩ (by decide) (Nat.zero_le _) (Nat.zero_le _) (Nat.le_of_ble_eq_true rfl) (c_X12_throwsIf hR (!rf_okN s (rf_S (h 323))) (nI 1)) ?_
  refine am_hp (show (am_row (am_row (am_row h 330 (h 330)) 322 (upd (h 322) 0 (nI 0))) 322 (bif (!rf_okN s (rf_S (h 323))) then upd (upd (h 322) 0 (nI 0)) 0 (nI 1) else (upd (h 322) 0 (nI 0)))) = (am_row (am_row h 330 (h 330)) 322 (bif (!rf_okN s (rf_S (h 323))) then upd (upd (h 322) 0 (nI 0)) 0 (nI 1) else (upd (h 322) 0 (nI 0)))) from am_row_s0) ?_
  refine am_if_neB (pc := 15) (tgt := 40) C dX12_rule_15 (by decide) (fun q15 => ?_) (fun q15 => ?_)
  · skip
    refine am_hp (show (am_row (am_row h 330 (h 330)) 322 (bif (!rf_okN s (rf_S (h 323))) then upd (upd (h 322) 0 (nI 0)) 0 (nI 1) else (upd (h 322) 0 (nI 0)))) = (am_row (am_row h 330 (h 330)) 322 (upd (upd (h 322) 0 (nI 0)) 0 (nI 1))) from by rw [q15]; rfl) ?_
    refine am_iconstN (pc := 40) (k := 0) C dX12_rule_40 ?_
    have K9 : rf_c_rule (h 323) s what = 1 := (by unfold rf_c_rule; exact (rf_cb_t q15))
    exact am_iretij (G := (am_row h 330 (h 330))) T dX12_rule_41 rfl (Nat.le_refl _) (Nat.le_refl _) (by rw [K9]; rfl) rfl (by rw [K9]; exact congrArg (am_row _ 322) rf_upd_upd)
  · skip
    refine am_hp (show (am_row (am_row h 330 (h 330)) 322 (bif (!rf_okN s (rf_S (h 323))) then upd (upd (h 322) 0 (nI 0)) 0 (nI 1) else (upd (h 322) 0 (nI 0)))) = (am_row (am_row h 330 (h 330)) 322 (upd (h 322) 0 (nI 0))) from by rw [q15]; rfl) ?_
    refine am_aload_n (pc := 18) C dX12_rule_18 rfl ?_
    refine am_iload_n (pc := 19) C dX12_rule_19 rfl ?_
    refine am_iconstN (pc := 20) (k := 0) C dX12_rule_20 ?_
    refine am_iconstN (pc := 21) (k := 3) C dX12_rule_21 ?_
    refine am_callSi (Y := mX12_in) (pc := 22) (st := [.ref 322]) (As := [.int what, .int (nI 0), .int (nI 3)]) (x := (am_b (rf_in what (nI 0) (nI 3)))) (h2 := (am_row (am_row h 330 (h 330)) 322 (upd (h 322) 0 (nI 0)))) C dX12_rule_22 k12_71 v_X12_in rfl rfl (by decide) (Nat.zero_le _) (Nat.zero_le _) (Nat.le_of_ble_eq_true rfl) (c_X12_in hR what (nI 0) (nI 3)) ?_
    refine am_if_neB (pc := 25) (tgt := 32) C dX12_rule_25 (by decide) (fun q25 => ?_) (fun q25 => ?_)
    · skip
      refine am_iconstN (pc := 32) (k := 0) C dX12_rule_32 ?_
      refine am_top (show (nI 0) = (am_b false) from rfl) ?_
      refine am_iconstN (pc := 33) (k := 2) C dX12_rule_33 ?_
      refine am_callVi (Y := mX12_throwsIf) (pc := 34) (st := []) (As := [.int (am_b false), .int (nI 2)]) (x := (am_b false)) (h2 := (am_row (am_row (am_row h 330 (h 330)) 322 (upd (h 322) 0 (nI 0))) 322 (bif false then upd (upd (h 322) 0 (nI 0)) 0 (nI 2) else (upd (h 322) 0 (nI 0))))) C dX12_rule_34 k12_269 v_X12_throwsIf rfl rfl bn_322 sh_322 ⟨by decide, rfl⟩ (by decide) (Nat.zero_le _) (Nat.zero_le _) (Nat.le_of_ble_eq_true rfl) (c_X12_throwsIf hR false (nI 2)) ?_
      refine am_hp (show (am_row (am_row (am_row h 330 (h 330)) 322 (upd (h 322) 0 (nI 0))) 322 (bif false then upd (upd (h 322) 0 (nI 0)) 0 (nI 2) else (upd (h 322) 0 (nI 0)))) = (am_row (am_row h 330 (h 330)) 322 (bif false then upd (upd (h 322) 0 (nI 0)) 0 (nI 2) else (upd (h 322) 0 (nI 0)))) from am_row_s0) ?_
      refine am_hp (show (am_row (am_row h 330 (h 330)) 322 (bif false then upd (upd (h 322) 0 (nI 0)) 0 (nI 2) else (upd (h 322) 0 (nI 0)))) = (am_row (am_row h 330 (h 330)) 322 (upd (h 322) 0 (nI 0))) from rfl) ?_
      refine am_if_eqB (pc := 37) (tgt := 42) C dX12_rule_37 (by decide) (fun q37 => ?_) (fun q37 => ?_)
      · skip
        have K9 : rf_c_rule (h 323) s what = 0 := by unfold rf_c_rule; exact ((rf_cb_f q15).trans (rf_cb_nf q25))
        have hs := rf_okN_q (by omega) q15
        have hs2 := hs.2
        have hq := rf_in_n0 (by decide) q25
        have hq2 := hq.2
        refine am_lsv (ls' := [(0, .ref 322), (1, .int (nI (rf_nat s))), (2, .int what)]) (congrArg (fun z9 : Int32 => ([(0, .ref 322), (1, Value.int z9), (2, .int what)] : List (Nat × Value))) (show s = (nI (rf_nat s)) from hs.1)) ?_
        refine am_lsv (ls' := [(0, .ref 322), (1, .int (nI (rf_nat s))), (2, .int (nI (rf_nat what)))]) (congrArg (fun z9 : Int32 => ([(0, .ref 322), (1, .int (nI (rf_nat s))), (2, Value.int z9)] : List (Nat × Value))) (show what = (nI (rf_nat what)) from hq.1)) ?_
        refine am_iload_n (pc := 42) C dX12_rule_42 rfl ?_
        refine am_iconstN (pc := 43) (k := 3) C dX12_rule_43 ?_
        refine am_icmp_geN (pc := 44) (tgt := 56) C dX12_rule_44 (by decide) (by omega) (by omega) (fun q44 => ?_) (fun q44 => ?_)
        · skip
          refine am_aload_n (pc := 56) C dX12_rule_56 rfl ?_
          refine am_iload_n (pc := 57) C dX12_rule_57 rfl ?_
          refine am_callVi (Y := mX12_target) (pc := 58) (st := []) (As := [.int (nI (rf_nat s))]) (x := (am_oi (rf_target (h 323) (rf_nat s)))) (h2 := (am_row (am_row h 330 (h 330)) 322 (upd (h 322) 0 (nI 0)))) C dX12_rule_58 k12_346 v_X12_target rfl rfl bn_322 sh_322 ⟨by decide, rfl⟩ (by decide) (Nat.zero_le _) (Nat.zero_le _) (Nat.le_of_ble_eq_true rfl) (c_X12_target hR (rf_nat s) hV (show (rf_nat s) < rf_S (h 323) from by omega)) ?_
          have A9 : rf_a_rule (h 323) s what = (am_oi (rf_target (h 323) (rf_nat s))) := (by rw [rf_a_rule, if_neg (by omega)])
          exact am_iretij (G := (am_row h 330 (h 330))) T dX12_rule_61 rfl (Nat.le_refl _) (Nat.le_refl _) (by rw [K9]; exact A9.symm) rfl (by rw [K9]; exact rfl)
        · skip
          refine am_aload_n (pc := 47) C dX12_rule_47 rfl ?_
          refine am_iload_n (pc := 48) C dX12_rule_48 rfl ?_
          refine am_iload_n (pc := 49) C dX12_rule_49 rfl ?_
          refine am_callVij (Y := mX12_says) (pc := 50) (st := []) (As := [.int (nI (rf_nat what)), .int (nI (rf_nat s))]) (x := (nI (rf_says (h 323) (rf_nat what) (rf_nat s)))) (H2 := fun GG => (am_row (am_row (am_row h 330 (h 330)) 322 (upd (h 322) 0 (nI 0))) 330 (GG 330))) C dX12_rule_50 k12_343 v_X12_says rfl rfl bn_322 sh_322 ⟨by decide, rfl⟩ (by decide) (Nat.zero_le _) (Nat.zero_le _) (Nat.le_of_ble_eq_true rfl) (c_X12_says hR (rf_nat what) (rf_nat s) hV (show (rf_nat s) < rf_S (h 323) from by omega) hL (show (rf_nat what) < 3 from by omega)) (fun g50_5 => ?_)
          refine am_hp (show (am_row (am_row (am_row h 330 (h 330)) 322 (upd (h 322) 0 (nI 0))) 330 (g50_5 330)) = (am_row (am_row h 330 (g50_5 330)) 322 (upd (h 322) 0 (nI 0))) from am_row_s1 (by decide)) ?_
          refine am_goto (pc := 53) (tgt := 61) C dX12_rule_53 (by decide) ?_
          have A9 : rf_a_rule (h 323) s what = (nI (rf_says (h 323) (rf_nat what) (rf_nat s))) := (by rw [rf_a_rule, if_pos (by omega)])
          exact am_iretij (G := (am_row h 330 (g50_5 330))) T dX12_rule_61 rfl (Nat.le_refl _) (Nat.le_refl _) (by rw [K9]; exact A9.symm) rfl (by rw [K9]; exact rfl)
      · skip
        exact Bool.noConfusion q37
    · skip
      refine am_iconstN (pc := 28) (k := 1) C dX12_rule_28 ?_
      refine am_goto (pc := 29) (tgt := 33) C dX12_rule_29 (by decide) ?_
      refine am_top (show (nI 1) = (am_b true) from rfl) ?_
      refine am_iconstN (pc := 33) (k := 2) C dX12_rule_33 ?_
      refine am_callVi (Y := mX12_throwsIf) (pc := 34) (st := []) (As := [.int (am_b true), .int (nI 2)]) (x := (am_b true)) (h2 := (am_row (am_row (am_row h 330 (h 330)) 322 (upd (h 322) 0 (nI 0))) 322 (bif true then upd (upd (h 322) 0 (nI 0)) 0 (nI 2) else (upd (h 322) 0 (nI 0))))) C dX12_rule_34 k12_269 v_X12_throwsIf rfl rfl bn_322 sh_322 ⟨by decide, rfl⟩ (by decide) (Nat.zero_le _) (Nat.zero_le _) (Nat.le_of_ble_eq_true rfl) (c_X12_throwsIf hR true (nI 2)) ?_
      refine am_hp (show (am_row (am_row (am_row h 330 (h 330)) 322 (upd (h 322) 0 (nI 0))) 322 (bif true then upd (upd (h 322) 0 (nI 0)) 0 (nI 2) else (upd (h 322) 0 (nI 0)))) = (am_row (am_row h 330 (h 330)) 322 (bif true then upd (upd (h 322) 0 (nI 0)) 0 (nI 2) else (upd (h 322) 0 (nI 0)))) from am_row_s0) ?_
      refine am_hp (show (am_row (am_row h 330 (h 330)) 322 (bif true then upd (upd (h 322) 0 (nI 0)) 0 (nI 2) else (upd (h 322) 0 (nI 0)))) = (am_row (am_row h 330 (h 330)) 322 (upd (upd (h 322) 0 (nI 0)) 0 (nI 2))) from rfl) ?_
      refine am_if_eqB (pc := 37) (tgt := 42) C dX12_rule_37 (by decide) (fun q37 => ?_) (fun q37 => ?_)
      · skip
        exact Bool.noConfusion q37
      · skip
        refine am_iconstN (pc := 40) (k := 0) C dX12_rule_40 ?_
        have K9 : rf_c_rule (h 323) s what = 2 := (by unfold rf_c_rule; exact ((rf_cb_f q15).trans (rf_cb_nt q25)))
        exact am_iretij (G := (am_row h 330 (h 330))) T dX12_rule_41 rfl (Nat.le_refl _) (Nat.le_refl _) (by rw [K9]; rfl) rfl (by rw [K9]; exact congrArg (am_row _ 322) rf_upd_upd)

set_option maxHeartbeats 400000 in
set_option maxRecDepth 100000 in
theorem c_X12_hours {ad : Nat → Nat} {r : am_R} (hR : am_rs r) {h : am_H} (n : Int32) (hR7 : rf_n ((h 322) 7) 13) (hV : rf_I (h 323)) (hL : rf_Lw (h 323))  : am_CM mX12_hours 9 0 0 [.ref 322, .int n] (am_VV ad) r h (am_pj (some (.int (rf_ga (rf_c_hours (h 323) n) (rf_a_hours (h 323) n)))) r (fun G => (am_row (am_row (am_row (am_row h 330 (G 330)) 322 (rf_gw (rf_c_hours (h 323) n) (rf_remO (rf_oc (h 322) 0)) (rf_oc (h 322) (rf_c_hours (h 323) n)))) 327 (rf_gw (rf_c_hours (h 323) n) (rf_remA (rf_oc (h 322) 0) (h 323) (h 327)) (h 327))) 323 (rf_gw (rf_c_hours (h 323) n) (rf_hrs (h 323) (rf_nat n)) (h 323))))) := by
  refine am_CM.of (by decide +kernel) (Nat.le_of_ble_eq_true rfl) (fun X C T => ?_)
  show am_G X (am_VV ad) (0, 0) 0 [(0, .ref 322), (1, .int n)] [] r h
  have hM9 : rf_M (h 323) < 17 := hV.1.1.2
  have hS9 : rf_S (h 323) < 11 := hV.1.2.1.2
  have hO9 : rf_O (h 323) < 11 := hV.1.2.2.2
  refine am_hp (show h = (am_row h 330 (h 330)) from (am_row_id _ _).symm) ?_
  refine am_aload_n (pc := 0) C dX12_hours_0 rfl ?_
  refine am_iconstN (pc := 1) (k := 0) C dX12_hours_1 ?_
  refine am_putI (pc := 2) C dX12_hours_2 f12_3 bn_322 sh_322 rfl rfl ?_
  refine am_hp (show am_up (am_row h 330 (h 330)) 322 0 (nI 0) = am_row (am_row h 330 (h 330)) 322 (upd (h 322) 0 (nI 0)) from am_up_rw _ _ _ _) ?_
  refine am_aload_n (pc := 5) C dX12_hours_5 rfl ?_
  refine am_iload_n (pc := 6) C dX12_hours_6 rfl ?_
  refine am_iconstN (pc := 7) (k := 1) C dX12_hours_7 ?_
  refine am_bipush (pc := 8) (v := nI 60) C dX12_hours_8 (by decide) ?_
  refine am_callSi (Y := mX12_in) (pc := 10) (st := [.ref 322]) (As := [.int n, .int (nI 1), .int (nI 60)]) (x := (am_b (rf_in n (nI 1) (nI 60)))) (h2 := (am_row (am_row h 330 (h 330)) 322 (upd (h 322) 0 (nI 0)))) C dX12_hours_10 k12_71 v_X12_in rfl rfl (by decide) (Nat.zero_le _) (Nat.zero_le _) (Nat.le_of_ble_eq_true rfl) (c_X12_in hR n (nI 1) (nI 60)) ?_
  refine am_if_neB (pc := 13) (tgt := 20) C dX12_hours_13 (by decide) (fun q13 => ?_) (fun q13 => ?_)
  · skip
    refine am_iconstN (pc := 20) (k := 0) C dX12_hours_20 ?_
    refine am_top (show (nI 0) = (am_b false) from rfl) ?_
    refine am_iconstN (pc := 21) (k := 1) C dX12_hours_21 ?_
    refine am_callVi (Y := mX12_throwsIf) (pc := 22) (st := []) (As := [.int (am_b false), .int (nI 1)]) (x := (am_b false)) (h2 := (am_row (am_row (am_row h 330 (h 330)) 322 (upd (h 322) 0 (nI 0))) 322 (bif false then upd (upd (h 322) 0 (nI 0)) 0 (nI 1) else (upd (h 322) 0 (nI 0))))) C dX12_hours_22 k12_269 v_X12_throwsIf rfl rfl bn_322 sh_322 ⟨by decide, rfl⟩ (by decide) (Nat.zero_le _) (Nat.zero_le _) (Nat.le_of_ble_eq_true rfl) (c_X12_throwsIf hR false (nI 1)) ?_
    refine am_hp (show (am_row (am_row (am_row h 330 (h 330)) 322 (upd (h 322) 0 (nI 0))) 322 (bif false then upd (upd (h 322) 0 (nI 0)) 0 (nI 1) else (upd (h 322) 0 (nI 0)))) = (am_row (am_row h 330 (h 330)) 322 (bif false then upd (upd (h 322) 0 (nI 0)) 0 (nI 1) else (upd (h 322) 0 (nI 0)))) from am_row_s0) ?_
    refine am_hp (show (am_row (am_row h 330 (h 330)) 322 (bif false then upd (upd (h 322) 0 (nI 0)) 0 (nI 1) else (upd (h 322) 0 (nI 0)))) = (am_row (am_row h 330 (h 330)) 322 (upd (h 322) 0 (nI 0))) from rfl) ?_
    refine am_if_eqB (pc := 25) (tgt := 30) C dX12_hours_25 (by decide) (fun q25 => ?_) (fun q25 => ?_)
    · skip
      have K9 : rf_c_hours (h 323) n = 0 := by unfold rf_c_hours; exact (rf_cb_nf q13)
      have hn := (rf_in_n (by decide) (by decide) q13).1
      have hn2 := hn.2
      have hR8 : rf_n (rf_oc (h 322) 0 7) 13 := by rw [rf_oc, rf_upd_ne (by decide)]; exact hR7
      refine am_lsv (ls' := [(0, .ref 322), (1, .int (nI (rf_nat n)))]) (congrArg (fun z9 : Int32 => ([(0, .ref 322), (1, Value.int z9)] : List (Nat × Value))) (show n = (nI (rf_nat n)) from hn.1)) ?_
      refine am_hp (show (am_row (am_row h 330 (h 330)) 322 (upd (h 322) 0 (nI 0))) = (am_row (am_row h 330 (h 330)) 322 (rf_oc (h 322) 0)) from rfl) ?_
      refine am_aload_n (pc := 30) C dX12_hours_30 rfl ?_
      refine am_callVv (Y := mX12_remembers) (pc := 31) (st := []) (As := []) (h2 := (am_row (am_row (am_row (am_row h 330 (h 330)) 322 (rf_oc (h 322) 0)) 322 (rf_remO (rf_oc (h 322) 0))) 327 (rf_remA (rf_oc (h 322) 0) (h 323) (h 327)))) C dX12_hours_31 k12_382 v_X12_remembers rfl rfl bn_322 sh_322 ⟨by decide, rfl⟩ (by decide) (Nat.zero_le _) (Nat.zero_le _) (Nat.le_of_ble_eq_true rfl) (c_X12_remembers hR (show rf_n ((rf_oc (h 322) 0) 7) 13 from hR8)) ?_
      refine am_hp (show (am_row (am_row (am_row (am_row h 330 (h 330)) 322 (rf_oc (h 322) 0)) 322 (rf_remO (rf_oc (h 322) 0))) 327 (rf_remA (rf_oc (h 322) 0) (h 323) (h 327))) = (am_row (am_row (am_row h 330 (h 330)) 322 (rf_remO (rf_oc (h 322) 0))) 327 (rf_remA (rf_oc (h 322) 0) (h 323) (h 327))) from by rw [show (am_row (am_row (am_row h 330 (h 330)) 322 (rf_oc (h 322) 0)) 322 (rf_remO (rf_oc (h 322) 0))) = (am_row (am_row h 330 (h 330)) 322 (rf_remO (rf_oc (h 322) 0))) from am_row_s0]) ?_
      refine am_aload_n (pc := 34) C dX12_hours_34 rfl ?_
      refine am_getR (pc := 35) (j := 323) C dX12_hours_35 f12_13 bn_322 sh_322 (rf_322_1 hR) ?_
      refine am_bipush (pc := 38) (v := nI 7) C dX12_hours_38 (by decide) ?_
      refine am_iaload (pc := 40) C dX12_hours_40 bn_323 sh_323 (vp_in_nI (by omega) (by decide)) ?_
      refine am_top (show (h 323) (nI 7).toNatClampNeg = (h 323) 7 from by rw [nI_clamp (by omega)]) ?_
      refine am_istore_n (pc := 41) (ls' := [(0, .ref 322), (1, .int (nI (rf_nat n))), (2, .int ((h 323) 7))]) C dX12_hours_41 (by decide) rfl ?_
      refine am_iconstN (pc := 42) (k := 0) C dX12_hours_42 ?_
      refine am_istore_n (pc := 43) (ls' := [(0, .ref 322), (1, .int (nI (rf_nat n))), (2, .int ((h 323) 7)), (3, .int (nI 0))]) C dX12_hours_43 (by decide) rfl ?_
      have L44 : ∀ (j44 i44 : Nat) (g44 : am_H), i44 + j44 = rf_nat n → am_G X (am_VV ad) (0, 0) 44 [(0, .ref 322), (1, .int (nI (rf_nat n))), (2, .int ((h 323) 7)), (3, .int (nI i44))] [] r (am_row (am_row (am_row (am_row h 330 (g44 330)) 322 (rf_remO (rf_oc (h 322) 0))) 327 (rf_remA (rf_oc (h 322) 0) (h 323) (h 327))) 323 (rf_hrs (h 323) i44)) := by
        intro j44
        induction j44 with
        | zero =>
          intro i44 g44 hi44 
          obtain rfl : i44 = rf_nat n := by omega
          refine am_iload_n (pc := 44) C dX12_hours_44 rfl ?_
          refine am_iload_n (pc := 45) C dX12_hours_45 rfl ?_
          refine am_icmp_geN (pc := 46) (tgt := 59) C dX12_hours_46 (by decide) (by omega) (by omega) (fun q46 => ?_) (fun q46 => ?_)
          · skip
            refine am_aload_n (pc := 59) C dX12_hours_59 rfl ?_
            refine am_getR (pc := 60) (j := 323) C dX12_hours_60 f12_13 bn_322 sh_322 (rf_322_1 hR) ?_
            refine am_bipush (pc := 63) (v := nI 7) C dX12_hours_63 (by decide) ?_
            refine am_iaload (pc := 65) C dX12_hours_65 bn_323 sh_323 (vp_in_nI (by omega) (by decide)) ?_
            refine am_top (show (rf_hrs (h 323) (rf_nat n)) (nI 7).toNatClampNeg = (rf_hrs (h 323) (rf_nat n)) 7 from by rw [nI_clamp (by omega)]) ?_
            refine am_iload_n (pc := 66) C dX12_hours_66 rfl ?_
            refine am_isub (pc := 67) C dX12_hours_67 ?_
            have A9 : rf_a_hours (h 323) n = (((rf_hrs (h 323) (rf_nat n)) 7) - ((h 323) 7)) := rfl
            exact am_iretij (G := (am_row h 330 (g44 330))) T dX12_hours_68 rfl (Nat.le_refl _) (Nat.le_refl _) (by rw [K9]; exact A9.symm) rfl (by rw [K9]; exact rfl)
          · skip
            exact absurd q46 (by omega)
        | succ j44 ih44 =>
          intro i44 g44 hi44 
          have hl44 : i44 < rf_nat n := by omega
          have okh := rf_hrs_ok hV hL i44
          refine am_iload_n (pc := 44) C dX12_hours_44 rfl ?_
          refine am_iload_n (pc := 45) C dX12_hours_45 rfl ?_
          refine am_icmp_geN (pc := 46) (tgt := 59) C dX12_hours_46 (by decide) (by omega) (by omega) (fun q46 => ?_) (fun q46 => ?_)
          · skip
            exact absurd q46 (by omega)
          · skip
            refine am_aload_n (pc := 49) C dX12_hours_49 rfl ?_
            refine am_callVvj (Y := mX12_hour) (pc := 50) (st := []) (As := []) (H2 := fun GG => (am_row (am_row (am_row (am_row (am_row (am_row h 330 (g44 330)) 322 (rf_remO (rf_oc (h 322) 0))) 327 (rf_remA (rf_oc (h 322) 0) (h 323) (h 327))) 323 (rf_hrs (h 323) i44)) 330 (GG 330)) 323 (rf_hour (rf_hrs (h 323) i44)))) C dX12_hours_50 k12_385 v_X12_hour rfl rfl bn_322 sh_322 ⟨by decide, rfl⟩ (by decide) (Nat.zero_le _) (Nat.zero_le _) (Nat.le_of_ble_eq_true rfl) (c_X12_hour hR (show rf_I (rf_hrs (h 323) i44) from okh.1) (show rf_Lw (rf_hrs (h 323) i44) from okh.2.2)) (fun g50_5 => ?_)
            refine am_hp (show (am_row (am_row (am_row (am_row (am_row (am_row h 330 (g44 330)) 322 (rf_remO (rf_oc (h 322) 0))) 327 (rf_remA (rf_oc (h 322) 0) (h 323) (h 327))) 323 (rf_hrs (h 323) i44)) 330 (g50_5 330)) 323 (rf_hour (rf_hrs (h 323) i44))) = (am_row (am_row (am_row (am_row (am_row h 330 (g50_5 330)) 322 (rf_remO (rf_oc (h 322) 0))) 327 (rf_remA (rf_oc (h 322) 0) (h 323) (h 327))) 323 (rf_hrs (h 323) i44)) 323 (rf_hour (rf_hrs (h 323) i44))) from by rw [show (am_row (am_row (am_row (am_row (am_row h 330 (g44 330)) 322 (rf_remO (rf_oc (h 322) 0))) 327 (rf_remA (rf_oc (h 322) 0) (h 323) (h 327))) 323 (rf_hrs (h 323) i44)) 330 (g50_5 330)) = (am_row (am_row (am_row (am_row h 330 (g50_5 330)) 322 (rf_remO (rf_oc (h 322) 0))) 327 (rf_remA (rf_oc (h 322) 0) (h 323) (h 327))) 323 (rf_hrs (h 323) i44)) from am_row_s3 (by decide) (by decide) (by decide)]) ?_
            refine am_hp (show (am_row (am_row (am_row (am_row (am_row h 330 (g50_5 330)) 322 (rf_remO (rf_oc (h 322) 0))) 327 (rf_remA (rf_oc (h 322) 0) (h 323) (h 327))) 323 (rf_hrs (h 323) i44)) 323 (rf_hour (rf_hrs (h 323) i44))) = (am_row (am_row (am_row (am_row h 330 (g50_5 330)) 322 (rf_remO (rf_oc (h 322) 0))) 327 (rf_remA (rf_oc (h 322) 0) (h 323) (h 327))) 323 (rf_hour (rf_hrs (h 323) i44))) from am_row_s0) ?_
            refine am_iincN (pc := 53) (ls' := [(0, .ref 322), (1, .int (nI (rf_nat n))), (2, .int ((h 323) 7)), (3, .int (nI (i44 + 1)))]) C dX12_hours_53 rfl (am_up1 _) (by decide) rfl ?_
            refine am_goto (pc := 56) (tgt := 44) C dX12_hours_56 (by decide) ?_
            refine am_hp (show (am_row (am_row (am_row (am_row h 330 (g50_5 330)) 322 (rf_remO (rf_oc (h 322) 0))) 327 (rf_remA (rf_oc (h 322) 0) (h 323) (h 327))) 323 (rf_hour (rf_hrs (h 323) i44))) = (am_row (am_row (am_row (am_row h 330 (g50_5 330)) 322 (rf_remO (rf_oc (h 322) 0))) 327 (rf_remA (rf_oc (h 322) 0) (h 323) (h 327))) 323 (rf_hrs (h 323) (i44 + 1))) from rfl) ?_
            exact ih44 (i44 + 1) (am_row h 330 (g50_5 330)) (by omega) 
      refine am_hp (show (am_row (am_row (am_row h 330 (h 330)) 322 (rf_remO (rf_oc (h 322) 0))) 327 (rf_remA (rf_oc (h 322) 0) (h 323) (h 327))) = (am_row (am_row (am_row (am_row h 330 (h 330)) 322 (rf_remO (rf_oc (h 322) 0))) 327 (rf_remA (rf_oc (h 322) 0) (h 323) (h 327))) 323 (rf_hrs (h 323) 0)) from (by rw [show rf_hrs (h 323) 0 = h 323 from rfl]; exact (am_row_id _ 323).symm)) ?_
      exact L44 (rf_nat n) 0 (am_row h 330 (h 330)) (by omega) 
    · skip
      exact Bool.noConfusion q25
  · skip
    refine am_iconstN (pc := 16) (k := 1) C dX12_hours_16 ?_
    refine am_goto (pc := 17) (tgt := 21) C dX12_hours_17 (by decide) ?_
    refine am_top (show (nI 1) = (am_b true) from rfl) ?_
    refine am_iconstN (pc := 21) (k := 1) C dX12_hours_21 ?_
    refine am_callVi (Y := mX12_throwsIf) (pc := 22) (st := []) (As := [.int (am_b true), .int (nI 1)]) (x := (am_b true)) (h2 := (am_row (am_row (am_row h 330 (h 330)) 322 (upd (h 322) 0 (nI 0))) 322 (bif true then upd (upd (h 322) 0 (nI 0)) 0 (nI 1) else (upd (h 322) 0 (nI 0))))) C dX12_hours_22 k12_269 v_X12_throwsIf rfl rfl bn_322 sh_322 ⟨by decide, rfl⟩ (by decide) (Nat.zero_le _) (Nat.zero_le _) (Nat.le_of_ble_eq_true rfl) (c_X12_throwsIf hR true (nI 1)) ?_
    refine am_hp (show (am_row (am_row (am_row h 330 (h 330)) 322 (upd (h 322) 0 (nI 0))) 322 (bif true then upd (upd (h 322) 0 (nI 0)) 0 (nI 1) else (upd (h 322) 0 (nI 0)))) = (am_row (am_row h 330 (h 330)) 322 (bif true then upd (upd (h 322) 0 (nI 0)) 0 (nI 1) else (upd (h 322) 0 (nI 0)))) from am_row_s0) ?_
    refine am_hp (show (am_row (am_row h 330 (h 330)) 322 (bif true then upd (upd (h 322) 0 (nI 0)) 0 (nI 1) else (upd (h 322) 0 (nI 0)))) = (am_row (am_row h 330 (h 330)) 322 (upd (upd (h 322) 0 (nI 0)) 0 (nI 1))) from rfl) ?_
    refine am_if_eqB (pc := 25) (tgt := 30) C dX12_hours_25 (by decide) (fun q25 => ?_) (fun q25 => ?_)
    · skip
      exact Bool.noConfusion q25
    · skip
      refine am_iconstN (pc := 28) (k := 0) C dX12_hours_28 ?_
      have K9 : rf_c_hours (h 323) n = 1 := (by unfold rf_c_hours; exact (rf_cb_nt q13))
      exact am_iretij (G := (am_row h 330 (h 330))) T dX12_hours_29 rfl (Nat.le_refl _) (Nat.le_refl _) (by rw [K9]; rfl) rfl (by rw [K9]; exact (congrArg (am_row _ 322) rf_upd_upd).trans (am_hA2 (by decide) (by decide) (by decide)).symm)

set_option maxHeartbeats 400000 in
set_option maxRecDepth 100000 in
theorem c_X12_shoot {ad : Nat → Nat} {r : am_R} (hR : am_rs r) {h : am_H} (a : Int32) (b : Int32) (good : Bool) (hR7 : rf_n ((h 322) 7) 13) (hV : rf_I (h 323))  : am_CM mX12_shoot 5 0 0 [.ref 322, .int a, .int b, .int (am_b good)] (am_VV ad) r h (am_po (some (.int (rf_ga (rf_c_shoot (h 323) a b good) (rf_a_shoot (h 323) a b good)))) r (am_row (am_row (am_row h 322 (rf_gw (rf_c_shoot (h 323) a b good) (rf_remO (rf_oc (h 322) 0)) (rf_oc (h 322) (rf_c_shoot (h 323) a b good)))) 327 (rf_gw (rf_c_shoot (h 323) a b good) (rf_remA (rf_oc (h 322) 0) (h 323) (h 327)) (h 327))) 323 (rf_gw (rf_c_shoot (h 323) a b good) (rf_hit (h 323) (rf_nat a) (rf_nat b) good) (h 323)))) := by
  refine am_CM.of (by decide +kernel) (Nat.le_of_ble_eq_true rfl) (fun X C T => ?_)
  show am_G X (am_VV ad) (0, 0) 0 [(0, .ref 322), (1, .int a), (2, .int b), (3, .int (am_b good))] [] r h
  have hM9 : rf_M (h 323) < 17 := hV.1.1.2
  have hS9 : rf_S (h 323) < 11 := hV.1.2.1.2
  have hO9 : rf_O (h 323) < 11 := hV.1.2.2.2
  refine am_aload_n (pc := 0) C dX12_shoot_0 rfl ?_
  refine am_iconstN (pc := 1) (k := 0) C dX12_shoot_1 ?_
  refine am_putI (pc := 2) C dX12_shoot_2 f12_3 bn_322 sh_322 rfl rfl ?_
  refine am_hp (show am_up h 322 0 (nI 0) = am_row h 322 (upd (h 322) 0 (nI 0)) from am_up_rw _ _ _ _) ?_
  refine am_aload_n (pc := 5) C dX12_shoot_5 rfl ?_
  refine am_aload_n (pc := 6) C dX12_shoot_6 rfl ?_
  refine am_iload_n (pc := 7) C dX12_shoot_7 rfl ?_
  refine am_callVi (Y := mX12_noSoldier) (pc := 8) (st := [.ref 322]) (As := [.int a]) (x := (am_b (!rf_okN a (rf_S (h 323))))) (h2 := (am_row h 322 (upd (h 322) 0 (nI 0)))) C dX12_shoot_8 k12_322 v_X12_noSoldier rfl rfl bn_322 sh_322 ⟨by decide, rfl⟩ (by decide) (Nat.zero_le _) (Nat.zero_le _) (Nat.le_of_ble_eq_true rfl) (c_X12_noSoldier hR a (show rf_Cn (h 323) from hV.1)) ?_
  refine am_if_neB (pc := 11) (tgt := 22) C dX12_shoot_11 (by decide) (fun q11 => ?_) (fun q11 => ?_)
  · skip
    refine am_iconstN (pc := 22) (k := 1) C dX12_shoot_22 ?_
    refine am_goto (pc := 23) (tgt := 27) C dX12_shoot_23 (by decide) ?_
    refine am_top (show (nI 1) = (am_b true) from rfl) ?_
    refine am_iconstN (pc := 27) (k := 1) C dX12_shoot_27 ?_
    refine am_callVi (Y := mX12_throwsIf) (pc := 28) (st := []) (As := [.int (am_b true), .int (nI 1)]) (x := (am_b true)) (h2 := (am_row (am_row h 322 (upd (h 322) 0 (nI 0))) 322 (bif true then upd (upd (h 322) 0 (nI 0)) 0 (nI 1) else (upd (h 322) 0 (nI 0))))) C dX12_shoot_28 k12_269 v_X12_throwsIf rfl rfl bn_322 sh_322 ⟨by decide, rfl⟩ (by decide) (Nat.zero_le _) (Nat.zero_le _) (Nat.le_of_ble_eq_true rfl) (c_X12_throwsIf hR true (nI 1)) ?_
    refine am_hp (show (am_row (am_row h 322 (upd (h 322) 0 (nI 0))) 322 (bif true then upd (upd (h 322) 0 (nI 0)) 0 (nI 1) else (upd (h 322) 0 (nI 0)))) = (am_row h 322 (bif true then upd (upd (h 322) 0 (nI 0)) 0 (nI 1) else (upd (h 322) 0 (nI 0)))) from am_row_s0) ?_
    refine am_hp (show (am_row h 322 (bif true then upd (upd (h 322) 0 (nI 0)) 0 (nI 1) else (upd (h 322) 0 (nI 0)))) = (am_row h 322 (upd (upd (h 322) 0 (nI 0)) 0 (nI 1))) from rfl) ?_
    refine am_if_neB (pc := 31) (tgt := 52) C dX12_shoot_31 (by decide) (fun q31 => ?_) (fun q31 => ?_)
    · skip
      refine am_iconstN (pc := 52) (k := 0) C dX12_shoot_52 ?_
      have K9 : rf_c_shoot (h 323) a b good = 1 := (by unfold rf_c_shoot; exact (rf_cb_t q11))
      exact am_ireti T dX12_shoot_53 rfl (Nat.le_refl _) (Nat.le_refl _) (by rw [K9]; rfl) rfl (by rw [K9]; exact (congrArg (am_row _ 322) rf_upd_upd).trans (am_hA2 (by decide) (by decide) (by decide)).symm)
    · skip
      exact Bool.noConfusion q31
  · skip
    refine am_aload_n (pc := 14) C dX12_shoot_14 rfl ?_
    refine am_iload_n (pc := 15) C dX12_shoot_15 rfl ?_
    refine am_callVi (Y := mX12_noSoldier) (pc := 16) (st := [.ref 322]) (As := [.int b]) (x := (am_b (!rf_okN b (rf_S (h 323))))) (h2 := (am_row h 322 (upd (h 322) 0 (nI 0)))) C dX12_shoot_16 k12_322 v_X12_noSoldier rfl rfl bn_322 sh_322 ⟨by decide, rfl⟩ (by decide) (Nat.zero_le _) (Nat.zero_le _) (Nat.le_of_ble_eq_true rfl) (c_X12_noSoldier hR b (show rf_Cn (h 323) from hV.1)) ?_
    refine am_if_eqB (pc := 19) (tgt := 26) C dX12_shoot_19 (by decide) (fun q19 => ?_) (fun q19 => ?_)
    · skip
      refine am_iconstN (pc := 26) (k := 0) C dX12_shoot_26 ?_
      refine am_top (show (nI 0) = (am_b false) from rfl) ?_
      refine am_iconstN (pc := 27) (k := 1) C dX12_shoot_27 ?_
      refine am_callVi (Y := mX12_throwsIf) (pc := 28) (st := []) (As := [.int (am_b false), .int (nI 1)]) (x := (am_b false)) (h2 := (am_row (am_row h 322 (upd (h 322) 0 (nI 0))) 322 (bif false then upd (upd (h 322) 0 (nI 0)) 0 (nI 1) else (upd (h 322) 0 (nI 0))))) C dX12_shoot_28 k12_269 v_X12_throwsIf rfl rfl bn_322 sh_322 ⟨by decide, rfl⟩ (by decide) (Nat.zero_le _) (Nat.zero_le _) (Nat.le_of_ble_eq_true rfl) (c_X12_throwsIf hR false (nI 1)) ?_
      refine am_hp (show (am_row (am_row h 322 (upd (h 322) 0 (nI 0))) 322 (bif false then upd (upd (h 322) 0 (nI 0)) 0 (nI 1) else (upd (h 322) 0 (nI 0)))) = (am_row h 322 (bif false then upd (upd (h 322) 0 (nI 0)) 0 (nI 1) else (upd (h 322) 0 (nI 0)))) from am_row_s0) ?_
      refine am_hp (show (am_row h 322 (bif false then upd (upd (h 322) 0 (nI 0)) 0 (nI 1) else (upd (h 322) 0 (nI 0)))) = (am_row h 322 (upd (h 322) 0 (nI 0))) from rfl) ?_
      refine am_if_neB (pc := 31) (tgt := 52) C dX12_shoot_31 (by decide) (fun q31 => ?_) (fun q31 => ?_)
      · skip
        exact Bool.noConfusion q31
      · skip
        refine am_aload_n (pc := 34) C dX12_shoot_34 rfl ?_
        refine am_iload_n (pc := 35) C dX12_shoot_35 rfl ?_
        refine am_iload_n (pc := 36) C dX12_shoot_36 rfl ?_
        refine am_icmp_ne (pc := 37) (tgt := 44) C dX12_shoot_37 (by decide) (fun q37 => ?_) (fun q37 => ?_)
        · skip
          refine am_iconstN (pc := 44) (k := 0) C dX12_shoot_44 ?_
          refine am_top (show (nI 0) = (am_b false) from rfl) ?_
          refine am_iconstN (pc := 45) (k := 2) C dX12_shoot_45 ?_
          refine am_callVi (Y := mX12_throwsIf) (pc := 46) (st := []) (As := [.int (am_b false), .int (nI 2)]) (x := (am_b false)) (h2 := (am_row (am_row h 322 (upd (h 322) 0 (nI 0))) 322 (bif false then upd (upd (h 322) 0 (nI 0)) 0 (nI 2) else (upd (h 322) 0 (nI 0))))) C dX12_shoot_46 k12_269 v_X12_throwsIf rfl rfl bn_322 sh_322 ⟨by decide, rfl⟩ (by decide) (Nat.zero_le _) (Nat.zero_le _) (Nat.le_of_ble_eq_true rfl) (c_X12_throwsIf hR false (nI 2)) ?_
          refine am_hp (show (am_row (am_row h 322 (upd (h 322) 0 (nI 0))) 322 (bif false then upd (upd (h 322) 0 (nI 0)) 0 (nI 2) else (upd (h 322) 0 (nI 0)))) = (am_row h 322 (bif false then upd (upd (h 322) 0 (nI 0)) 0 (nI 2) else (upd (h 322) 0 (nI 0)))) from am_row_s0) ?_
          refine am_hp (show (am_row h 322 (bif false then upd (upd (h 322) 0 (nI 0)) 0 (nI 2) else (upd (h 322) 0 (nI 0)))) = (am_row h 322 (upd (h 322) 0 (nI 0))) from rfl) ?_
          refine am_if_eqB (pc := 49) (tgt := 54) C dX12_shoot_49 (by decide) (fun q49 => ?_) (fun q49 => ?_)
          · skip
            have ha := rf_okN_q (by omega) q11
            have ha2 := ha.2
            have hb := rf_okN_q (by omega) q19
            have hb2 := hb.2
            have hkb : rf_kn (h 323) (rf_nat b) < 13 := (hV.2.1 (rf_nat b) hb2).2.2.2.2.1.2
            refine am_lsv (ls' := [(0, .ref 322), (1, .int (nI (rf_nat a))), (2, .int b), (3, .int (am_b good))]) (congrArg (fun z9 : Int32 => ([(0, .ref 322), (1, Value.int z9), (2, .int b), (3, .int (am_b good))] : List (Nat × Value))) (show a = (nI (rf_nat a)) from ha.1)) ?_
            refine am_lsv (ls' := [(0, .ref 322), (1, .int (nI (rf_nat a))), (2, .int (nI (rf_nat b))), (3, .int (am_b good))]) (congrArg (fun z9 : Int32 => ([(0, .ref 322), (1, .int (nI (rf_nat a))), (2, Value.int z9), (3, .int (am_b good))] : List (Nat × Value))) (show b = (nI (rf_nat b)) from hb.1)) ?_
            refine am_aload_n (pc := 54) C dX12_shoot_54 rfl ?_
            refine am_iload_n (pc := 55) C dX12_shoot_55 rfl ?_
            refine am_iconstN (pc := 56) (k := 0) C dX12_shoot_56 ?_
            refine am_callVi (Y := mX12_of) (pc := 57) (st := []) (As := [.int (nI (rf_nat a)), .int (nI 0)]) (x := (rf_of (h 323) (rf_nat a) 0)) (h2 := (am_row h 322 (upd (h 322) 0 (nI 0)))) C dX12_shoot_57 k12_63 v_X12_of rfl rfl bn_322 sh_322 ⟨by decide, rfl⟩ (by decide) (Nat.zero_le _) (Nat.zero_le _) (Nat.le_of_ble_eq_true rfl) (c_X12_of hR (rf_nat a) 0 (show (rf_nat a) < 11 from by omega) (show 0 < 23 from by omega)) ?_
            refine am_aload_n (pc := 60) C dX12_shoot_60 rfl ?_
            refine am_iload_n (pc := 61) C dX12_shoot_61 rfl ?_
            refine am_iconstN (pc := 62) (k := 0) C dX12_shoot_62 ?_
            refine am_callVi (Y := mX12_of) (pc := 63) (st := [.int (rf_of (h 323) (rf_nat a) 0)]) (As := [.int (nI (rf_nat b)), .int (nI 0)]) (x := (rf_of (h 323) (rf_nat b) 0)) (h2 := (am_row h 322 (upd (h 322) 0 (nI 0)))) C dX12_shoot_63 k12_63 v_X12_of rfl rfl bn_322 sh_322 ⟨by decide, rfl⟩ (by decide) (Nat.zero_le _) (Nat.zero_le _) (Nat.le_of_ble_eq_true rfl) (c_X12_of hR (rf_nat b) 0 (show (rf_nat b) < 11 from by omega) (show 0 < 23 from by omega)) ?_
            refine am_icmp_eq (pc := 66) (tgt := 96) C dX12_shoot_66 (by decide) (fun q66 => ?_) (fun q66 => ?_)
            · skip
              refine am_iconstN (pc := 96) (k := 0) C dX12_shoot_96 ?_
              refine am_top (show (nI 0) = (am_b false) from rfl) ?_
              refine am_istore (pc := 97) (ls' := [(0, .ref 322), (1, .int (nI (rf_nat a))), (2, .int (nI (rf_nat b))), (3, .int (am_b good)), (4, .int (am_b false))]) C dX12_shoot_97 (by decide) rfl ?_
              refine am_aload_n (pc := 99) C dX12_shoot_99 rfl ?_
              refine am_iload (pc := 100) C dX12_shoot_100 rfl ?_
              refine am_if_neB (pc := 102) (tgt := 109) C dX12_shoot_102 (by decide) (fun q102 => ?_) (fun q102 => ?_)
              · skip
                exact Bool.noConfusion q102
              · skip
                refine am_iconstN (pc := 105) (k := 1) C dX12_shoot_105 ?_
                refine am_goto (pc := 106) (tgt := 110) C dX12_shoot_106 (by decide) ?_
                refine am_top (show (nI 1) = (am_b true) from rfl) ?_
                refine am_iconstN (pc := 110) (k := 3) C dX12_shoot_110 ?_
                refine am_callVi (Y := mX12_throwsIf) (pc := 111) (st := []) (As := [.int (am_b true), .int (nI 3)]) (x := (am_b true)) (h2 := (am_row (am_row h 322 (upd (h 322) 0 (nI 0))) 322 (bif true then upd (upd (h 322) 0 (nI 0)) 0 (nI 3) else (upd (h 322) 0 (nI 0))))) C dX12_shoot_111 k12_269 v_X12_throwsIf rfl rfl bn_322 sh_322 ⟨by decide, rfl⟩ (by decide) (Nat.zero_le _) (Nat.zero_le _) (Nat.le_of_ble_eq_true rfl) (c_X12_throwsIf hR true (nI 3)) ?_
                refine am_hp (show (am_row (am_row h 322 (upd (h 322) 0 (nI 0))) 322 (bif true then upd (upd (h 322) 0 (nI 0)) 0 (nI 3) else (upd (h 322) 0 (nI 0)))) = (am_row h 322 (bif true then upd (upd (h 322) 0 (nI 0)) 0 (nI 3) else (upd (h 322) 0 (nI 0)))) from am_row_s0) ?_
                refine am_hp (show (am_row h 322 (bif true then upd (upd (h 322) 0 (nI 0)) 0 (nI 3) else (upd (h 322) 0 (nI 0)))) = (am_row h 322 (upd (upd (h 322) 0 (nI 0)) 0 (nI 3))) from rfl) ?_
                refine am_if_eqB (pc := 114) (tgt := 119) C dX12_shoot_114 (by decide) (fun q114 => ?_) (fun q114 => ?_)
                · skip
                  exact Bool.noConfusion q114
                · skip
                  refine am_iconstN (pc := 117) (k := 0) C dX12_shoot_117 ?_
                  have K9 : rf_c_shoot (h 323) a b good = 3 := (by unfold rf_c_shoot; exact ((rf_cb_f q11).trans ((rf_cb_f q19).trans ((rf_cb_f (decide_eq_false q37)).trans (rf_cb_t (decide_eq_true q66))))))
                  exact am_ireti T dX12_shoot_118 rfl (Nat.le_refl _) (Nat.le_refl _) (by rw [K9]; rfl) rfl (by rw [K9]; exact (congrArg (am_row _ 322) rf_upd_upd).trans (am_hA2 (by decide) (by decide) (by decide)).symm)
            · skip
              refine am_aload_n (pc := 69) C dX12_shoot_69 rfl ?_
              refine am_iload_n (pc := 70) C dX12_shoot_70 rfl ?_
              refine am_callVi (Y := mX12_placeOf) (pc := 71) (st := []) (As := [.int (nI (rf_nat a))]) (x := (rf_pl (h 323) (rf_nat a))) (h2 := (am_row h 322 (upd (h 322) 0 (nI 0)))) C dX12_shoot_71 k12_272 v_X12_placeOf rfl rfl bn_322 sh_322 ⟨by decide, rfl⟩ (by decide) (Nat.zero_le _) (Nat.zero_le _) (Nat.le_of_ble_eq_true rfl) (c_X12_placeOf hR (rf_nat a) (show (rf_nat a) < 11 from by omega) (show rf_Is (h 323) (rf_nat a) from (hV.2.1 (rf_nat a) (by omega)))) ?_
              refine am_aload_n (pc := 74) C dX12_shoot_74 rfl ?_
              refine am_iload_n (pc := 75) C dX12_shoot_75 rfl ?_
              refine am_callVi (Y := mX12_placeOf) (pc := 76) (st := [.int (rf_pl (h 323) (rf_nat a))]) (As := [.int (nI (rf_nat b))]) (x := (rf_pl (h 323) (rf_nat b))) (h2 := (am_row h 322 (upd (h 322) 0 (nI 0)))) C dX12_shoot_76 k12_272 v_X12_placeOf rfl rfl bn_322 sh_322 ⟨by decide, rfl⟩ (by decide) (Nat.zero_le _) (Nat.zero_le _) (Nat.le_of_ble_eq_true rfl) (c_X12_placeOf hR (rf_nat b) (show (rf_nat b) < 11 from by omega) (show rf_Is (h 323) (rf_nat b) from (hV.2.1 (rf_nat b) (by omega)))) ?_
              refine am_icmp_ne (pc := 79) (tgt := 96) C dX12_shoot_79 (by decide) (fun q79 => ?_) (fun q79 => ?_)
              · skip
                refine am_iconstN (pc := 96) (k := 0) C dX12_shoot_96 ?_
                refine am_top (show (nI 0) = (am_b false) from rfl) ?_
                refine am_istore (pc := 97) (ls' := [(0, .ref 322), (1, .int (nI (rf_nat a))), (2, .int (nI (rf_nat b))), (3, .int (am_b good)), (4, .int (am_b false))]) C dX12_shoot_97 (by decide) rfl ?_
                refine am_aload_n (pc := 99) C dX12_shoot_99 rfl ?_
                refine am_iload (pc := 100) C dX12_shoot_100 rfl ?_
                refine am_if_neB (pc := 102) (tgt := 109) C dX12_shoot_102 (by decide) (fun q102 => ?_) (fun q102 => ?_)
                · skip
                  exact Bool.noConfusion q102
                · skip
                  refine am_iconstN (pc := 105) (k := 1) C dX12_shoot_105 ?_
                  refine am_goto (pc := 106) (tgt := 110) C dX12_shoot_106 (by decide) ?_
                  refine am_top (show (nI 1) = (am_b true) from rfl) ?_
                  refine am_iconstN (pc := 110) (k := 3) C dX12_shoot_110 ?_
                  refine am_callVi (Y := mX12_throwsIf) (pc := 111) (st := []) (As := [.int (am_b true), .int (nI 3)]) (x := (am_b true)) (h2 := (am_row (am_row h 322 (upd (h 322) 0 (nI 0))) 322 (bif true then upd (upd (h 322) 0 (nI 0)) 0 (nI 3) else (upd (h 322) 0 (nI 0))))) C dX12_shoot_111 k12_269 v_X12_throwsIf rfl rfl bn_322 sh_322 ⟨by decide, rfl⟩ (by decide) (Nat.zero_le _) (Nat.zero_le _) (Nat.le_of_ble_eq_true rfl) (c_X12_throwsIf hR true (nI 3)) ?_
                  refine am_hp (show (am_row (am_row h 322 (upd (h 322) 0 (nI 0))) 322 (bif true then upd (upd (h 322) 0 (nI 0)) 0 (nI 3) else (upd (h 322) 0 (nI 0)))) = (am_row h 322 (bif true then upd (upd (h 322) 0 (nI 0)) 0 (nI 3) else (upd (h 322) 0 (nI 0)))) from am_row_s0) ?_
                  refine am_hp (show (am_row h 322 (bif true then upd (upd (h 322) 0 (nI 0)) 0 (nI 3) else (upd (h 322) 0 (nI 0)))) = (am_row h 322 (upd (upd (h 322) 0 (nI 0)) 0 (nI 3))) from rfl) ?_
                  refine am_if_eqB (pc := 114) (tgt := 119) C dX12_shoot_114 (by decide) (fun q114 => ?_) (fun q114 => ?_)
                  · skip
                    exact Bool.noConfusion q114
                  · skip
                    refine am_iconstN (pc := 117) (k := 0) C dX12_shoot_117 ?_
                    have K9 : rf_c_shoot (h 323) a b good = 3 := (by unfold rf_c_shoot; exact ((rf_cb_f q11).trans ((rf_cb_f q19).trans ((rf_cb_f (decide_eq_false q37)).trans ((rf_cb_f (decide_eq_false q66)).trans (rf_cb_t (show (!decide _) = true by rw [decide_eq_false q79]; rfl)))))))
                    exact am_ireti T dX12_shoot_118 rfl (Nat.le_refl _) (Nat.le_refl _) (by rw [K9]; rfl) rfl (by rw [K9]; exact (congrArg (am_row _ 322) rf_upd_upd).trans (am_hA2 (by decide) (by decide) (by decide)).symm)
              · skip
                refine am_aload_n (pc := 82) C dX12_shoot_82 rfl ?_
                refine am_iload_n (pc := 83) C dX12_shoot_83 rfl ?_
                refine am_bipush (pc := 84) (v := nI 9) C dX12_shoot_84 (by decide) ?_
                refine am_callVi (Y := mX12_of) (pc := 86) (st := []) (As := [.int (nI (rf_nat b)), .int (nI 9)]) (x := (rf_of (h 323) (rf_nat b) 9)) (h2 := (am_row h 322 (upd (h 322) 0 (nI 0)))) C dX12_shoot_86 k12_63 v_X12_of rfl rfl bn_322 sh_322 ⟨by decide, rfl⟩ (by decide) (Nat.zero_le _) (Nat.zero_le _) (Nat.le_of_ble_eq_true rfl) (c_X12_of hR (rf_nat b) 9 (show (rf_nat b) < 11 from by omega) (show 9 < 23 from by omega)) ?_
                refine am_top (show (rf_of (h 323) (rf_nat b) 9) = (nI (rf_kn (h 323) (rf_nat b))) from (hV.2.1 (rf_nat b) (by omega)).2.2.2.2.1.1) ?_
                refine am_if_leN (pc := 89) (tgt := 96) C dX12_shoot_89 (by decide) (by omega) (fun q89 => ?_) (fun q89 => ?_)
                · skip
                  refine am_iconstN (pc := 96) (k := 0) C dX12_shoot_96 ?_
                  refine am_top (show (nI 0) = (am_b false) from rfl) ?_
                  refine am_istore (pc := 97) (ls' := [(0, .ref 322), (1, .int (nI (rf_nat a))), (2, .int (nI (rf_nat b))), (3, .int (am_b good)), (4, .int (am_b false))]) C dX12_shoot_97 (by decide) rfl ?_
                  refine am_aload_n (pc := 99) C dX12_shoot_99 rfl ?_
                  refine am_iload (pc := 100) C dX12_shoot_100 rfl ?_
                  refine am_if_neB (pc := 102) (tgt := 109) C dX12_shoot_102 (by decide) (fun q102 => ?_) (fun q102 => ?_)
                  · skip
                    exact Bool.noConfusion q102
                  · skip
                    refine am_iconstN (pc := 105) (k := 1) C dX12_shoot_105 ?_
                    refine am_goto (pc := 106) (tgt := 110) C dX12_shoot_106 (by decide) ?_
                    refine am_top (show (nI 1) = (am_b true) from rfl) ?_
                    refine am_iconstN (pc := 110) (k := 3) C dX12_shoot_110 ?_
                    refine am_callVi (Y := mX12_throwsIf) (pc := 111) (st := []) (As := [.int (am_b true), .int (nI 3)]) (x := (am_b true)) (h2 := (am_row (am_row h 322 (upd (h 322) 0 (nI 0))) 322 (bif true then upd (upd (h 322) 0 (nI 0)) 0 (nI 3) else (upd (h 322) 0 (nI 0))))) C dX12_shoot_111 k12_269 v_X12_throwsIf rfl rfl bn_322 sh_322 ⟨by decide, rfl⟩ (by decide) (Nat.zero_le _) (Nat.zero_le _) (Nat.le_of_ble_eq_true rfl) (c_X12_throwsIf hR true (nI 3)) ?_
                    refine am_hp (show (am_row (am_row h 322 (upd (h 322) 0 (nI 0))) 322 (bif true then upd (upd (h 322) 0 (nI 0)) 0 (nI 3) else (upd (h 322) 0 (nI 0)))) = (am_row h 322 (bif true then upd (upd (h 322) 0 (nI 0)) 0 (nI 3) else (upd (h 322) 0 (nI 0)))) from am_row_s0) ?_
                    refine am_hp (show (am_row h 322 (bif true then upd (upd (h 322) 0 (nI 0)) 0 (nI 3) else (upd (h 322) 0 (nI 0)))) = (am_row h 322 (upd (upd (h 322) 0 (nI 0)) 0 (nI 3))) from rfl) ?_
                    refine am_if_eqB (pc := 114) (tgt := 119) C dX12_shoot_114 (by decide) (fun q114 => ?_) (fun q114 => ?_)
                    · skip
                      exact Bool.noConfusion q114
                    · skip
                      refine am_iconstN (pc := 117) (k := 0) C dX12_shoot_117 ?_
                      have K9 : rf_c_shoot (h 323) a b good = 3 := (by unfold rf_c_shoot; exact ((rf_cb_f q11).trans ((rf_cb_f q19).trans ((rf_cb_f (decide_eq_false q37)).trans ((rf_cb_f (decide_eq_false q66)).trans ((rf_cb_f (show (!decide _) = false by rw [decide_eq_true q79]; rfl)).trans (rf_cb_t (decide_eq_true (by omega)))))))))
                      exact am_ireti T dX12_shoot_118 rfl (Nat.le_refl _) (Nat.le_refl _) (by rw [K9]; rfl) rfl (by rw [K9]; exact (congrArg (am_row _ 322) rf_upd_upd).trans (am_hA2 (by decide) (by decide) (by decide)).symm)
                · skip
                  refine am_iconstN (pc := 92) (k := 1) C dX12_shoot_92 ?_
                  refine am_goto (pc := 93) (tgt := 97) C dX12_shoot_93 (by decide) ?_
                  refine am_top (show (nI 1) = (am_b true) from rfl) ?_
                  refine am_istore (pc := 97) (ls' := [(0, .ref 322), (1, .int (nI (rf_nat a))), (2, .int (nI (rf_nat b))), (3, .int (am_b good)), (4, .int (am_b true))]) C dX12_shoot_97 (by decide) rfl ?_
                  refine am_aload_n (pc := 99) C dX12_shoot_99 rfl ?_
                  refine am_iload (pc := 100) C dX12_shoot_100 rfl ?_
                  refine am_if_neB (pc := 102) (tgt := 109) C dX12_shoot_102 (by decide) (fun q102 => ?_) (fun q102 => ?_)
                  · skip
                    refine am_iconstN (pc := 109) (k := 0) C dX12_shoot_109 ?_
                    refine am_top (show (nI 0) = (am_b false) from rfl) ?_
                    refine am_iconstN (pc := 110) (k := 3) C dX12_shoot_110 ?_
                    refine am_callVi (Y := mX12_throwsIf) (pc := 111) (st := []) (As := [.int (am_b false), .int (nI 3)]) (x := (am_b false)) (h2 := (am_row (am_row h 322 (upd (h 322) 0 (nI 0))) 322 (bif false then upd (upd (h 322) 0 (nI 0)) 0 (nI 3) else (upd (h 322) 0 (nI 0))))) C dX12_shoot_111 k12_269 v_X12_throwsIf rfl rfl bn_322 sh_322 ⟨by decide, rfl⟩ (by decide) (Nat.zero_le _) (Nat.zero_le _) (Nat.le_of_ble_eq_true rfl) (c_X12_throwsIf hR false (nI 3)) ?_
                    refine am_hp (show (am_row (am_row h 322 (upd (h 322) 0 (nI 0))) 322 (bif false then upd (upd (h 322) 0 (nI 0)) 0 (nI 3) else (upd (h 322) 0 (nI 0)))) = (am_row h 322 (bif false then upd (upd (h 322) 0 (nI 0)) 0 (nI 3) else (upd (h 322) 0 (nI 0)))) from am_row_s0) ?_
                    refine am_hp (show (am_row h 322 (bif false then upd (upd (h 322) 0 (nI 0)) 0 (nI 3) else (upd (h 322) 0 (nI 0)))) = (am_row h 322 (upd (h 322) 0 (nI 0))) from rfl) ?_
                    refine am_if_eqB (pc := 114) (tgt := 119) C dX12_shoot_114 (by decide) (fun q114 => ?_) (fun q114 => ?_)
                    · skip
                      have K9 : rf_c_shoot (h 323) a b good = 0 := by unfold rf_c_shoot; exact ((rf_cb_f q11).trans ((rf_cb_f q19).trans ((rf_cb_f (decide_eq_false q37)).trans ((rf_cb_f (decide_eq_false q66)).trans ((rf_cb_f (show (!decide _) = false by rw [decide_eq_true q79]; rfl)).trans (rf_cb_f (decide_eq_false (by omega))))))))
                      have hR8 : rf_n (rf_oc (h 322) 0 7) 13 := by rw [rf_oc, rf_upd_ne (by decide)]; exact hR7
                      refine am_hp (show (am_row h 322 (upd (h 322) 0 (nI 0))) = (am_row h 322 (rf_oc (h 322) 0)) from rfl) ?_
                      refine am_aload_n (pc := 119) C dX12_shoot_119 rfl ?_
                      refine am_callVv (Y := mX12_remembers) (pc := 120) (st := []) (As := []) (h2 := (am_row (am_row (am_row h 322 (rf_oc (h 322) 0)) 322 (rf_remO (rf_oc (h 322) 0))) 327 (rf_remA (rf_oc (h 322) 0) (h 323) (h 327)))) C dX12_shoot_120 k12_382 v_X12_remembers rfl rfl bn_322 sh_322 ⟨by decide, rfl⟩ (by decide) (Nat.zero_le _) (Nat.zero_le _) (Nat.le_of_ble_eq_true rfl) (c_X12_remembers hR (show rf_n ((rf_oc (h 322) 0) 7) 13 from hR8)) ?_
                      refine am_hp (show (am_row (am_row (am_row h 322 (rf_oc (h 322) 0)) 322 (rf_remO (rf_oc (h 322) 0))) 327 (rf_remA (rf_oc (h 322) 0) (h 323) (h 327))) = (am_row (am_row h 322 (rf_remO (rf_oc (h 322) 0))) 327 (rf_remA (rf_oc (h 322) 0) (h 323) (h 327))) from by rw [show (am_row (am_row h 322 (rf_oc (h 322) 0)) 322 (rf_remO (rf_oc (h 322) 0))) = (am_row h 322 (rf_remO (rf_oc (h 322) 0))) from am_row_s0]) ?_
                      refine am_aload_n (pc := 123) C dX12_shoot_123 rfl ?_
                      refine am_iload_n (pc := 124) C dX12_shoot_124 rfl ?_
                      refine am_iload_n (pc := 125) C dX12_shoot_125 rfl ?_
                      refine am_iload_n (pc := 126) C dX12_shoot_126 rfl ?_
                      refine am_callVi (Y := mX12_hits) (pc := 127) (st := []) (As := [.int (nI (rf_nat a)), .int (nI (rf_nat b)), .int (am_b good)]) (x := (nI (rf_takes (h 323) (rf_nat b) good - 1))) (h2 := (am_row (am_row (am_row h 322 (rf_remO (rf_oc (h 322) 0))) 327 (rf_remA (rf_oc (h 322) 0) (h 323) (h 327))) 323 (rf_hit (h 323) (rf_nat a) (rf_nat b) good))) C dX12_shoot_127 k12_372 v_X12_hits rfl rfl bn_322 sh_322 ⟨by decide, rfl⟩ (by decide) (Nat.zero_le _) (Nat.zero_le _) (Nat.le_of_ble_eq_true rfl) (c_X12_hits hR (rf_nat a) (rf_nat b) good (show rf_I (h 323) from hV) (show (rf_nat a) < rf_S (h 323) from ha2) (show (rf_nat b) < rf_S (h 323) from hb2) (show 0 < rf_kn (h 323) (rf_nat b) from (by omega))) ?_
                      have A9 : rf_a_shoot (h 323) a b good = (nI (rf_takes (h 323) (rf_nat b) good - 1)) := rfl
                      exact am_ireti T dX12_shoot_130 rfl (Nat.le_refl _) (Nat.le_refl _) (by rw [K9]; exact A9.symm) rfl (by rw [K9]; exact rfl)
                    · skip
                      exact Bool.noConfusion q114
                  · skip
                    exact Bool.noConfusion q102
          · skip
            exact Bool.noConfusion q49
        · skip
          refine am_iconstN (pc := 40) (k := 1) C dX12_shoot_40 ?_
          refine am_goto (pc := 41) (tgt := 45) C dX12_shoot_41 (by decide) ?_
          refine am_top (show (nI 1) = (am_b true) from rfl) ?_
          refine am_iconstN (pc := 45) (k := 2) C dX12_shoot_45 ?_
          refine am_callVi (Y := mX12_throwsIf) (pc := 46) (st := []) (As := [.int (am_b true), .int (nI 2)]) (x := (am_b true)) (h2 := (am_row (am_row h 322 (upd (h 322) 0 (nI 0))) 322 (bif true then upd (upd (h 322) 0 (nI 0)) 0 (nI 2) else (upd (h 322) 0 (nI 0))))) C dX12_shoot_46 k12_269 v_X12_throwsIf rfl rfl bn_322 sh_322 ⟨by decide, rfl⟩ (by decide) (Nat.zero_le _) (Nat.zero_le _) (Nat.le_of_ble_eq_true rfl) (c_X12_throwsIf hR true (nI 2)) ?_
          refine am_hp (show (am_row (am_row h 322 (upd (h 322) 0 (nI 0))) 322 (bif true then upd (upd (h 322) 0 (nI 0)) 0 (nI 2) else (upd (h 322) 0 (nI 0)))) = (am_row h 322 (bif true then upd (upd (h 322) 0 (nI 0)) 0 (nI 2) else (upd (h 322) 0 (nI 0)))) from am_row_s0) ?_
          refine am_hp (show (am_row h 322 (bif true then upd (upd (h 322) 0 (nI 0)) 0 (nI 2) else (upd (h 322) 0 (nI 0)))) = (am_row h 322 (upd (upd (h 322) 0 (nI 0)) 0 (nI 2))) from rfl) ?_
          refine am_if_eqB (pc := 49) (tgt := 54) C dX12_shoot_49 (by decide) (fun q49 => ?_) (fun q49 => ?_)
          · skip
            exact Bool.noConfusion q49
          · skip
            refine am_iconstN (pc := 52) (k := 0) C dX12_shoot_52 ?_
            have K9 : rf_c_shoot (h 323) a b good = 2 := (by unfold rf_c_shoot; exact ((rf_cb_f q11).trans ((rf_cb_f q19).trans (rf_cb_t (decide_eq_true q37)))))
            exact am_ireti T dX12_shoot_53 rfl (Nat.le_refl _) (Nat.le_refl _) (by rw [K9]; rfl) rfl (by rw [K9]; exact (congrArg (am_row _ 322) rf_upd_upd).trans (am_hA2 (by decide) (by decide) (by decide)).symm)
    · skip
      refine am_iconstN (pc := 22) (k := 1) C dX12_shoot_22 ?_
      refine am_goto (pc := 23) (tgt := 27) C dX12_shoot_23 (by decide) ?_
      refine am_top (show (nI 1) = (am_b true) from rfl) ?_
      refine am_iconstN (pc := 27) (k := 1) C dX12_shoot_27 ?_
      refine am_callVi (Y := mX12_throwsIf) (pc := 28) (st := []) (As := [.int (am_b true), .int (nI 1)]) (x := (am_b true)) (h2 := (am_row (am_row h 322 (upd (h 322) 0 (nI 0))) 322 (bif true then upd (upd (h 322) 0 (nI 0)) 0 (nI 1) else (upd (h 322) 0 (nI 0))))) C dX12_shoot_28 k12_269 v_X12_throwsIf rfl rfl bn_322 sh_322 ⟨by decide, rfl⟩ (by decide) (Nat.zero_le _) (Nat.zero_le _) (Nat.le_of_ble_eq_true rfl) (c_X12_throwsIf hR true (nI 1)) ?_
      refine am_hp (show (am_row (am_row h 322 (upd (h 322) 0 (nI 0))) 322 (bif true then upd (upd (h 322) 0 (nI 0)) 0 (nI 1) else (upd (h 322) 0 (nI 0)))) = (am_row h 322 (bif true then upd (upd (h 322) 0 (nI 0)) 0 (nI 1) else (upd (h 322) 0 (nI 0)))) from am_row_s0) ?_
      refine am_hp (show (am_row h 322 (bif true then upd (upd (h 322) 0 (nI 0)) 0 (nI 1) else (upd (h 322) 0 (nI 0)))) = (am_row h 322 (upd (upd (h 322) 0 (nI 0)) 0 (nI 1))) from rfl) ?_
      refine am_if_neB (pc := 31) (tgt := 52) C dX12_shoot_31 (by decide) (fun q31 => ?_) (fun q31 => ?_)
      · skip
        refine am_iconstN (pc := 52) (k := 0) C dX12_shoot_52 ?_
        have K9 : rf_c_shoot (h 323) a b good = 1 := (by unfold rf_c_shoot; exact ((rf_cb_f q11).trans (rf_cb_t q19)))
        exact am_ireti T dX12_shoot_53 rfl (Nat.le_refl _) (Nat.le_refl _) (by rw [K9]; rfl) rfl (by rw [K9]; exact (congrArg (am_row _ 322) rf_upd_upd).trans (am_hA2 (by decide) (by decide) (by decide)).symm)
      · skip
        exact Bool.noConfusion q31

set_option maxHeartbeats 400000 in
set_option maxRecDepth 100000 in
theorem c_X12_teach {ad : Nat → Nat} {r : am_R} (hR : am_rs r) {h : am_H} (a : Int32) (b : Int32) (m : Int32) (hR7 : rf_n ((h 322) 7) 13) (hV : rf_I (h 323))  : am_CM mX12_teach 6 0 0 [.ref 322, .int a, .int b, .int m] (am_VV ad) r h (am_po (some (.int (rf_ga (rf_c_teach (h 323) a b m) (rf_a_teach (h 323) a b m)))) r (am_row (am_row (am_row h 322 (rf_gw (rf_c_teach (h 323) a b m) (rf_remO (rf_oc (h 322) 0)) (rf_oc (h 322) (rf_c_teach (h 323) a b m)))) 327 (rf_gw (rf_c_teach (h 323) a b m) (rf_remA (rf_oc (h 322) 0) (h 323) (h 327)) (h 327))) 323 (rf_gw (rf_c_teach (h 323) a b m) (rf_learn (h 323) (rf_nat a) (rf_nat m)) (h 323)))) := by
  refine am_CM.of (by decide +kernel) (Nat.le_of_ble_eq_true rfl) (fun X C T => ?_)
  show am_G X (am_VV ad) (0, 0) 0 [(0, .ref 322), (1, .int a), (2, .int b), (3, .int m)] [] r h
  have hM9 : rf_M (h 323) < 17 := hV.1.1.2
  have hS9 : rf_S (h 323) < 11 := hV.1.2.1.2
  have hO9 : rf_O (h 323) < 11 := hV.1.2.2.2
  refine am_aload_n (pc := 0) C dX12_teach_0 rfl ?_
  refine am_iconstN (pc := 1) (k := 0) C dX12_teach_1 ?_
  refine am_putI (pc := 2) C dX12_teach_2 f12_3 bn_322 sh_322 rfl rfl ?_
  refine am_hp (show am_up h 322 0 (nI 0) = am_row h 322 (upd (h 322) 0 (nI 0)) from am_up_rw _ _ _ _) ?_
  refine am_aload_n (pc := 5) C dX12_teach_5 rfl ?_
  refine am_aload_n (pc := 6) C dX12_teach_6 rfl ?_
  refine am_iload_n (pc := 7) C dX12_teach_7 rfl ?_
  refine am_callVi (Y := mX12_noSoldier) (pc := 8) (st := [.ref 322]) (As := [.int a]) (x := (am_b (!rf_okN a (rf_S (h 323))))) (h2 := (am_row h 322 (upd (h 322) 0 (nI 0)))) C dX12_teach_8 k12_322 v_X12_noSoldier rfl rfl bn_322 sh_322 ⟨by decide, rfl⟩ (by decide) (Nat.zero_le _) (Nat.zero_le _) (Nat.le_of_ble_eq_true rfl) (c_X12_noSoldier hR a (show rf_Cn (h 323) from hV.1)) ?_
  refine am_if_neB (pc := 11) (tgt := 30) C dX12_teach_11 (by decide) (fun q11 => ?_) (fun q11 => ?_)
  · skip
    refine am_iconstN (pc := 30) (k := 1) C dX12_teach_30 ?_
    refine am_goto (pc := 31) (tgt := 35) C dX12_teach_31 (by decide) ?_
    refine am_top (show (nI 1) = (am_b true) from rfl) ?_
    refine am_iconstN (pc := 35) (k := 1) C dX12_teach_35 ?_
    refine am_callVi (Y := mX12_throwsIf) (pc := 36) (st := []) (As := [.int (am_b true), .int (nI 1)]) (x := (am_b true)) (h2 := (am_row (am_row h 322 (upd (h 322) 0 (nI 0))) 322 (bif true then upd (upd (h 322) 0 (nI 0)) 0 (nI 1) else (upd (h 322) 0 (nI 0))))) C dX12_teach_36 k12_269 v_X12_throwsIf rfl rfl bn_322 sh_322 ⟨by decide, rfl⟩ (by decide) (Nat.zero_le _) (Nat.zero_le _) (Nat.le_of_ble_eq_true rfl) (c_X12_throwsIf hR true (nI 1)) ?_
    refine am_hp (show (am_row (am_row h 322 (upd (h 322) 0 (nI 0))) 322 (bif true then upd (upd (h 322) 0 (nI 0)) 0 (nI 1) else (upd (h 322) 0 (nI 0)))) = (am_row h 322 (bif true then upd (upd (h 322) 0 (nI 0)) 0 (nI 1) else (upd (h 322) 0 (nI 0)))) from am_row_s0) ?_
    refine am_hp (show (am_row h 322 (bif true then upd (upd (h 322) 0 (nI 0)) 0 (nI 1) else (upd (h 322) 0 (nI 0)))) = (am_row h 322 (upd (upd (h 322) 0 (nI 0)) 0 (nI 1))) from rfl) ?_
    refine am_if_neB (pc := 39) (tgt := 60) C dX12_teach_39 (by decide) (fun q39 => ?_) (fun q39 => ?_)
    · skip
      refine am_iconstN (pc := 60) (k := 0) C dX12_teach_60 ?_
      have K9 : rf_c_teach (h 323) a b m = 1 := (by unfold rf_c_teach; exact (rf_cb_t q11))
      exact am_ireti T dX12_teach_61 rfl (Nat.le_refl _) (Nat.le_refl _) (by rw [K9]; rfl) rfl (by rw [K9]; exact (congrArg (am_row _ 322) rf_upd_upd).trans (am_hA2 (by decide) (by decide) (by decide)).symm)
    · skip
      exact Bool.noConfusion q39
  · skip
    refine am_aload_n (pc := 14) C dX12_teach_14 rfl ?_
    refine am_iload_n (pc := 15) C dX12_teach_15 rfl ?_
    refine am_callVi (Y := mX12_noSoldier) (pc := 16) (st := [.ref 322]) (As := [.int b]) (x := (am_b (!rf_okN b (rf_S (h 323))))) (h2 := (am_row h 322 (upd (h 322) 0 (nI 0)))) C dX12_teach_16 k12_322 v_X12_noSoldier rfl rfl bn_322 sh_322 ⟨by decide, rfl⟩ (by decide) (Nat.zero_le _) (Nat.zero_le _) (Nat.le_of_ble_eq_true rfl) (c_X12_noSoldier hR b (show rf_Cn (h 323) from hV.1)) ?_
    refine am_if_neB (pc := 19) (tgt := 30) C dX12_teach_19 (by decide) (fun q19 => ?_) (fun q19 => ?_)
    · skip
      refine am_iconstN (pc := 30) (k := 1) C dX12_teach_30 ?_
      refine am_goto (pc := 31) (tgt := 35) C dX12_teach_31 (by decide) ?_
      refine am_top (show (nI 1) = (am_b true) from rfl) ?_
      refine am_iconstN (pc := 35) (k := 1) C dX12_teach_35 ?_
      refine am_callVi (Y := mX12_throwsIf) (pc := 36) (st := []) (As := [.int (am_b true), .int (nI 1)]) (x := (am_b true)) (h2 := (am_row (am_row h 322 (upd (h 322) 0 (nI 0))) 322 (bif true then upd (upd (h 322) 0 (nI 0)) 0 (nI 1) else (upd (h 322) 0 (nI 0))))) C dX12_teach_36 k12_269 v_X12_throwsIf rfl rfl bn_322 sh_322 ⟨by decide, rfl⟩ (by decide) (Nat.zero_le _) (Nat.zero_le _) (Nat.le_of_ble_eq_true rfl) (c_X12_throwsIf hR true (nI 1)) ?_
      refine am_hp (show (am_row (am_row h 322 (upd (h 322) 0 (nI 0))) 322 (bif true then upd (upd (h 322) 0 (nI 0)) 0 (nI 1) else (upd (h 322) 0 (nI 0)))) = (am_row h 322 (bif true then upd (upd (h 322) 0 (nI 0)) 0 (nI 1) else (upd (h 322) 0 (nI 0)))) from am_row_s0) ?_
      refine am_hp (show (am_row h 322 (bif true then upd (upd (h 322) 0 (nI 0)) 0 (nI 1) else (upd (h 322) 0 (nI 0)))) = (am_row h 322 (upd (upd (h 322) 0 (nI 0)) 0 (nI 1))) from rfl) ?_
      refine am_if_neB (pc := 39) (tgt := 60) C dX12_teach_39 (by decide) (fun q39 => ?_) (fun q39 => ?_)
      · skip
        refine am_iconstN (pc := 60) (k := 0) C dX12_teach_60 ?_
        have K9 : rf_c_teach (h 323) a b m = 1 := (by unfold rf_c_teach; exact ((rf_cb_f q11).trans (rf_cb_t q19)))
        exact am_ireti T dX12_teach_61 rfl (Nat.le_refl _) (Nat.le_refl _) (by rw [K9]; rfl) rfl (by rw [K9]; exact (congrArg (am_row _ 322) rf_upd_upd).trans (am_hA2 (by decide) (by decide) (by decide)).symm)
      · skip
        exact Bool.noConfusion q39
    · skip
      refine am_aload_n (pc := 22) C dX12_teach_22 rfl ?_
      refine am_iload_n (pc := 23) C dX12_teach_23 rfl ?_
      refine am_callVi (Y := mX12_noMemory) (pc := 24) (st := [.ref 322]) (As := [.int m]) (x := (am_b (!rf_okN m (rf_M (h 323))))) (h2 := (am_row h 322 (upd (h 322) 0 (nI 0)))) C dX12_teach_24 k12_304 v_X12_noMemory rfl rfl bn_322 sh_322 ⟨by decide, rfl⟩ (by decide) (Nat.zero_le _) (Nat.zero_le _) (Nat.le_of_ble_eq_true rfl) (c_X12_noMemory hR m (show rf_Cn (h 323) from hV.1)) ?_
      refine am_if_eqB (pc := 27) (tgt := 34) C dX12_teach_27 (by decide) (fun q27 => ?_) (fun q27 => ?_)
      · skip
        refine am_iconstN (pc := 34) (k := 0) C dX12_teach_34 ?_
        refine am_top (show (nI 0) = (am_b false) from rfl) ?_
        refine am_iconstN (pc := 35) (k := 1) C dX12_teach_35 ?_
        refine am_callVi (Y := mX12_throwsIf) (pc := 36) (st := []) (As := [.int (am_b false), .int (nI 1)]) (x := (am_b false)) (h2 := (am_row (am_row h 322 (upd (h 322) 0 (nI 0))) 322 (bif false then upd (upd (h 322) 0 (nI 0)) 0 (nI 1) else (upd (h 322) 0 (nI 0))))) C dX12_teach_36 k12_269 v_X12_throwsIf rfl rfl bn_322 sh_322 ⟨by decide, rfl⟩ (by decide) (Nat.zero_le _) (Nat.zero_le _) (Nat.le_of_ble_eq_true rfl) (c_X12_throwsIf hR false (nI 1)) ?_
        refine am_hp (show (am_row (am_row h 322 (upd (h 322) 0 (nI 0))) 322 (bif false then upd (upd (h 322) 0 (nI 0)) 0 (nI 1) else (upd (h 322) 0 (nI 0)))) = (am_row h 322 (bif false then upd (upd (h 322) 0 (nI 0)) 0 (nI 1) else (upd (h 322) 0 (nI 0)))) from am_row_s0) ?_
        refine am_hp (show (am_row h 322 (bif false then upd (upd (h 322) 0 (nI 0)) 0 (nI 1) else (upd (h 322) 0 (nI 0)))) = (am_row h 322 (upd (h 322) 0 (nI 0))) from rfl) ?_
        refine am_if_neB (pc := 39) (tgt := 60) C dX12_teach_39 (by decide) (fun q39 => ?_) (fun q39 => ?_)
        · skip
          exact Bool.noConfusion q39
        · skip
          refine am_aload_n (pc := 42) C dX12_teach_42 rfl ?_
          refine am_iload_n (pc := 43) C dX12_teach_43 rfl ?_
          refine am_iload_n (pc := 44) C dX12_teach_44 rfl ?_
          refine am_icmp_ne (pc := 45) (tgt := 52) C dX12_teach_45 (by decide) (fun q45 => ?_) (fun q45 => ?_)
          · skip
            refine am_iconstN (pc := 52) (k := 0) C dX12_teach_52 ?_
            refine am_top (show (nI 0) = (am_b false) from rfl) ?_
            refine am_iconstN (pc := 53) (k := 2) C dX12_teach_53 ?_
            refine am_callVi (Y := mX12_throwsIf) (pc := 54) (st := []) (As := [.int (am_b false), .int (nI 2)]) (x := (am_b false)) (h2 := (am_row (am_row h 322 (upd (h 322) 0 (nI 0))) 322 (bif false then upd (upd (h 322) 0 (nI 0)) 0 (nI 2) else (upd (h 322) 0 (nI 0))))) C dX12_teach_54 k12_269 v_X12_throwsIf rfl rfl bn_322 sh_322 ⟨by decide, rfl⟩ (by decide) (Nat.zero_le _) (Nat.zero_le _) (Nat.le_of_ble_eq_true rfl) (c_X12_throwsIf hR false (nI 2)) ?_
            refine am_hp (show (am_row (am_row h 322 (upd (h 322) 0 (nI 0))) 322 (bif false then upd (upd (h 322) 0 (nI 0)) 0 (nI 2) else (upd (h 322) 0 (nI 0)))) = (am_row h 322 (bif false then upd (upd (h 322) 0 (nI 0)) 0 (nI 2) else (upd (h 322) 0 (nI 0)))) from am_row_s0) ?_
            refine am_hp (show (am_row h 322 (bif false then upd (upd (h 322) 0 (nI 0)) 0 (nI 2) else (upd (h 322) 0 (nI 0)))) = (am_row h 322 (upd (h 322) 0 (nI 0))) from rfl) ?_
            refine am_if_eqB (pc := 57) (tgt := 62) C dX12_teach_57 (by decide) (fun q57 => ?_) (fun q57 => ?_)
            · skip
              have ha := rf_okN_q (by omega) q11
              have ha2 := ha.2
              have hb := rf_okN_q (by omega) q19
              have hb2 := hb.2
              have hm := rf_okN_q (by omega) q27
              have hm2 := hm.2
              refine am_lsv (ls' := [(0, .ref 322), (1, .int (nI (rf_nat a))), (2, .int b), (3, .int m)]) (congrArg (fun z9 : Int32 => ([(0, .ref 322), (1, Value.int z9), (2, .int b), (3, .int m)] : List (Nat × Value))) (show a = (nI (rf_nat a)) from ha.1)) ?_
              refine am_lsv (ls' := [(0, .ref 322), (1, .int (nI (rf_nat a))), (2, .int (nI (rf_nat b))), (3, .int m)]) (congrArg (fun z9 : Int32 => ([(0, .ref 322), (1, .int (nI (rf_nat a))), (2, Value.int z9), (3, .int m)] : List (Nat × Value))) (show b = (nI (rf_nat b)) from hb.1)) ?_
              refine am_lsv (ls' := [(0, .ref 322), (1, .int (nI (rf_nat a))), (2, .int (nI (rf_nat b))), (3, .int (nI (rf_nat m)))]) (congrArg (fun z9 : Int32 => ([(0, .ref 322), (1, .int (nI (rf_nat a))), (2, .int (nI (rf_nat b))), (3, Value.int z9)] : List (Nat × Value))) (show m = (nI (rf_nat m)) from hm.1)) ?_
              refine am_aload_n (pc := 62) C dX12_teach_62 rfl ?_
              refine am_iload_n (pc := 63) C dX12_teach_63 rfl ?_
              refine am_iconstN (pc := 64) (k := 0) C dX12_teach_64 ?_
              refine am_callVi (Y := mX12_of) (pc := 65) (st := []) (As := [.int (nI (rf_nat a)), .int (nI 0)]) (x := (rf_of (h 323) (rf_nat a) 0)) (h2 := (am_row h 322 (upd (h 322) 0 (nI 0)))) C dX12_teach_65 k12_63 v_X12_of rfl rfl bn_322 sh_322 ⟨by decide, rfl⟩ (by decide) (Nat.zero_le _) (Nat.zero_le _) (Nat.le_of_ble_eq_true rfl) (c_X12_of hR (rf_nat a) 0 (show (rf_nat a) < 11 from by omega) (show 0 < 23 from by omega)) ?_
              refine am_aload_n (pc := 68) C dX12_teach_68 rfl ?_
              refine am_iload_n (pc := 69) C dX12_teach_69 rfl ?_
              refine am_iconstN (pc := 70) (k := 0) C dX12_teach_70 ?_
              refine am_callVi (Y := mX12_of) (pc := 71) (st := [.int (rf_of (h 323) (rf_nat a) 0)]) (As := [.int (nI (rf_nat b)), .int (nI 0)]) (x := (rf_of (h 323) (rf_nat b) 0)) (h2 := (am_row h 322 (upd (h 322) 0 (nI 0)))) C dX12_teach_71 k12_63 v_X12_of rfl rfl bn_322 sh_322 ⟨by decide, rfl⟩ (by decide) (Nat.zero_le _) (Nat.zero_le _) (Nat.le_of_ble_eq_true rfl) (c_X12_of hR (rf_nat b) 0 (show (rf_nat b) < 11 from by omega) (show 0 < 23 from by omega)) ?_
              refine am_icmp_ne (pc := 74) (tgt := 115) C dX12_teach_74 (by decide) (fun q74 => ?_) (fun q74 => ?_)
              · skip
                refine am_iconstN (pc := 115) (k := 0) C dX12_teach_115 ?_
                refine am_top (show (nI 0) = (am_b false) from rfl) ?_
                refine am_istore (pc := 116) (ls' := [(0, .ref 322), (1, .int (nI (rf_nat a))), (2, .int (nI (rf_nat b))), (3, .int (nI (rf_nat m))), (4, .int (am_b false))]) C dX12_teach_116 (by decide) rfl ?_
                refine am_aload_n (pc := 118) C dX12_teach_118 rfl ?_
                refine am_iload (pc := 119) C dX12_teach_119 rfl ?_
                refine am_if_neB (pc := 121) (tgt := 128) C dX12_teach_121 (by decide) (fun q121 => ?_) (fun q121 => ?_)
                · skip
                  exact Bool.noConfusion q121
                · skip
                  refine am_iconstN (pc := 124) (k := 1) C dX12_teach_124 ?_
                  refine am_goto (pc := 125) (tgt := 129) C dX12_teach_125 (by decide) ?_
                  refine am_top (show (nI 1) = (am_b true) from rfl) ?_
                  refine am_iconstN (pc := 129) (k := 3) C dX12_teach_129 ?_
                  refine am_callVi (Y := mX12_throwsIf) (pc := 130) (st := []) (As := [.int (am_b true), .int (nI 3)]) (x := (am_b true)) (h2 := (am_row (am_row h 322 (upd (h 322) 0 (nI 0))) 322 (bif true then upd (upd (h 322) 0 (nI 0)) 0 (nI 3) else (upd (h 322) 0 (nI 0))))) C dX12_teach_130 k12_269 v_X12_throwsIf rfl rfl bn_322 sh_322 ⟨by decide, rfl⟩ (by decide) (Nat.zero_le _) (Nat.zero_le _) (Nat.le_of_ble_eq_true rfl) (c_X12_throwsIf hR true (nI 3)) ?_
                  refine am_hp (show (am_row (am_row h 322 (upd (h 322) 0 (nI 0))) 322 (bif true then upd (upd (h 322) 0 (nI 0)) 0 (nI 3) else (upd (h 322) 0 (nI 0)))) = (am_row h 322 (bif true then upd (upd (h 322) 0 (nI 0)) 0 (nI 3) else (upd (h 322) 0 (nI 0)))) from am_row_s0) ?_
                  refine am_hp (show (am_row h 322 (bif true then upd (upd (h 322) 0 (nI 0)) 0 (nI 3) else (upd (h 322) 0 (nI 0)))) = (am_row h 322 (upd (upd (h 322) 0 (nI 0)) 0 (nI 3))) from rfl) ?_
                  refine am_if_eqB (pc := 133) (tgt := 138) C dX12_teach_133 (by decide) (fun q133 => ?_) (fun q133 => ?_)
                  · skip
                    exact Bool.noConfusion q133
                  · skip
                    refine am_iconstN (pc := 136) (k := 0) C dX12_teach_136 ?_
                    have K9 : rf_c_teach (h 323) a b m = 3 := (by unfold rf_c_teach; exact ((rf_cb_f q11).trans ((rf_cb_f q19).trans ((rf_cb_f q27).trans ((rf_cb_f (decide_eq_false q45)).trans (rf_cb_t (show (!decide _) = true by rw [decide_eq_false q74]; rfl)))))))
                    exact am_ireti T dX12_teach_137 rfl (Nat.le_refl _) (Nat.le_refl _) (by rw [K9]; rfl) rfl (by rw [K9]; exact (congrArg (am_row _ 322) rf_upd_upd).trans (am_hA2 (by decide) (by decide) (by decide)).symm)
              · skip
                refine am_aload_n (pc := 77) C dX12_teach_77 rfl ?_
                refine am_iload_n (pc := 78) C dX12_teach_78 rfl ?_
                refine am_callVi (Y := mX12_placeOf) (pc := 79) (st := []) (As := [.int (nI (rf_nat a))]) (x := (rf_pl (h 323) (rf_nat a))) (h2 := (am_row h 322 (upd (h 322) 0 (nI 0)))) C dX12_teach_79 k12_272 v_X12_placeOf rfl rfl bn_322 sh_322 ⟨by decide, rfl⟩ (by decide) (Nat.zero_le _) (Nat.zero_le _) (Nat.le_of_ble_eq_true rfl) (c_X12_placeOf hR (rf_nat a) (show (rf_nat a) < 11 from by omega) (show rf_Is (h 323) (rf_nat a) from (hV.2.1 (rf_nat a) (by omega)))) ?_
                refine am_aload_n (pc := 82) C dX12_teach_82 rfl ?_
                refine am_iload_n (pc := 83) C dX12_teach_83 rfl ?_
                refine am_callVi (Y := mX12_placeOf) (pc := 84) (st := [.int (rf_pl (h 323) (rf_nat a))]) (As := [.int (nI (rf_nat b))]) (x := (rf_pl (h 323) (rf_nat b))) (h2 := (am_row h 322 (upd (h 322) 0 (nI 0)))) C dX12_teach_84 k12_272 v_X12_placeOf rfl rfl bn_322 sh_322 ⟨by decide, rfl⟩ (by decide) (Nat.zero_le _) (Nat.zero_le _) (Nat.le_of_ble_eq_true rfl) (c_X12_placeOf hR (rf_nat b) (show (rf_nat b) < 11 from by omega) (show rf_Is (h 323) (rf_nat b) from (hV.2.1 (rf_nat b) (by omega)))) ?_
                refine am_icmp_ne (pc := 87) (tgt := 115) C dX12_teach_87 (by decide) (fun q87 => ?_) (fun q87 => ?_)
                · skip
                  refine am_iconstN (pc := 115) (k := 0) C dX12_teach_115 ?_
                  refine am_top (show (nI 0) = (am_b false) from rfl) ?_
                  refine am_istore (pc := 116) (ls' := [(0, .ref 322), (1, .int (nI (rf_nat a))), (2, .int (nI (rf_nat b))), (3, .int (nI (rf_nat m))), (4, .int (am_b false))]) C dX12_teach_116 (by decide) rfl ?_
                  refine am_aload_n (pc := 118) C dX12_teach_118 rfl ?_
                  refine am_iload (pc := 119) C dX12_teach_119 rfl ?_
                  refine am_if_neB (pc := 121) (tgt := 128) C dX12_teach_121 (by decide) (fun q121 => ?_) (fun q121 => ?_)
                  · skip
                    exact Bool.noConfusion q121
                  · skip
                    refine am_iconstN (pc := 124) (k := 1) C dX12_teach_124 ?_
                    refine am_goto (pc := 125) (tgt := 129) C dX12_teach_125 (by decide) ?_
                    refine am_top (show (nI 1) = (am_b true) from rfl) ?_
                    refine am_iconstN (pc := 129) (k := 3) C dX12_teach_129 ?_
                    refine am_callVi (Y := mX12_throwsIf) (pc := 130) (st := []) (As := [.int (am_b true), .int (nI 3)]) (x := (am_b true)) (h2 := (am_row (am_row h 322 (upd (h 322) 0 (nI 0))) 322 (bif true then upd (upd (h 322) 0 (nI 0)) 0 (nI 3) else (upd (h 322) 0 (nI 0))))) C dX12_teach_130 k12_269 v_X12_throwsIf rfl rfl bn_322 sh_322 ⟨by decide, rfl⟩ (by decide) (Nat.zero_le _) (Nat.zero_le _) (Nat.le_of_ble_eq_true rfl) (c_X12_throwsIf hR true (nI 3)) ?_
                    refine am_hp (show (am_row (am_row h 322 (upd (h 322) 0 (nI 0))) 322 (bif true then upd (upd (h 322) 0 (nI 0)) 0 (nI 3) else (upd (h 322) 0 (nI 0)))) = (am_row h 322 (bif true then upd (upd (h 322) 0 (nI 0)) 0 (nI 3) else (upd (h 322) 0 (nI 0)))) from am_row_s0) ?_
                    refine am_hp (show (am_row h 322 (bif true then upd (upd (h 322) 0 (nI 0)) 0 (nI 3) else (upd (h 322) 0 (nI 0)))) = (am_row h 322 (upd (upd (h 322) 0 (nI 0)) 0 (nI 3))) from rfl) ?_
                    refine am_if_eqB (pc := 133) (tgt := 138) C dX12_teach_133 (by decide) (fun q133 => ?_) (fun q133 => ?_)
                    · skip
                      exact Bool.noConfusion q133
                    · skip
                      refine am_iconstN (pc := 136) (k := 0) C dX12_teach_136 ?_
                      have K9 : rf_c_teach (h 323) a b m = 3 := (by unfold rf_c_teach; exact ((rf_cb_f q11).trans ((rf_cb_f q19).trans ((rf_cb_f q27).trans ((rf_cb_f (decide_eq_false q45)).trans ((rf_cb_f (show (!decide _) = false by rw [decide_eq_true q74]; rfl)).trans (rf_cb_t (show (!decide _) = true by rw [decide_eq_false q87]; rfl))))))))
                      exact am_ireti T dX12_teach_137 rfl (Nat.le_refl _) (Nat.le_refl _) (by rw [K9]; rfl) rfl (by rw [K9]; exact (congrArg (am_row _ 322) rf_upd_upd).trans (am_hA2 (by decide) (by decide) (by decide)).symm)
                · skip
                  refine am_aload_n (pc := 90) C dX12_teach_90 rfl ?_
                  refine am_iload_n (pc := 91) C dX12_teach_91 rfl ?_
                  refine am_callVi (Y := mX12_usableOf) (pc := 92) (st := []) (As := [.int (nI (rf_nat b))]) (x := (rf_use (h 323) (rf_nat b))) (h2 := (am_row h 322 (upd (h 322) 0 (nI 0)))) C dX12_teach_92 k12_275 v_X12_usableOf rfl rfl bn_322 sh_322 ⟨by decide, rfl⟩ (by decide) (Nat.zero_le _) (Nat.zero_le _) (Nat.le_of_ble_eq_true rfl) (c_X12_usableOf hR (rf_nat b) (show (rf_nat b) < rf_S (h 323) from by omega) (show rf_Is (h 323) (rf_nat b) from (hV.2.1 (rf_nat b) (by omega))) (show rf_Cn (h 323) from hV.1)) ?_
                  refine am_iload_n (pc := 95) C dX12_teach_95 rfl ?_
                  refine am_callSi (Y := mX12_has) (pc := 96) (st := []) (As := [.int (rf_use (h 323) (rf_nat b)), .int (nI (rf_nat m))]) (x := (am_b (am_bt (rf_use (h 323) (rf_nat b)) (rf_nat m)))) (h2 := (am_row h 322 (upd (h 322) 0 (nI 0)))) C dX12_teach_96 k12_81 v_X12_has rfl rfl (by decide) (Nat.zero_le _) (Nat.zero_le _) (Nat.le_of_ble_eq_true rfl) (c_X12_has hR (rf_use (h 323) (rf_nat b)) (rf_nat m) (show (rf_nat m) < 32 from by omega)) ?_
                  refine am_if_eqB (pc := 99) (tgt := 115) C dX12_teach_99 (by decide) (fun q99 => ?_) (fun q99 => ?_)
                  · skip
                    refine am_iconstN (pc := 115) (k := 0) C dX12_teach_115 ?_
                    refine am_top (show (nI 0) = (am_b false) from rfl) ?_
                    refine am_istore (pc := 116) (ls' := [(0, .ref 322), (1, .int (nI (rf_nat a))), (2, .int (nI (rf_nat b))), (3, .int (nI (rf_nat m))), (4, .int (am_b false))]) C dX12_teach_116 (by decide) rfl ?_
                    refine am_aload_n (pc := 118) C dX12_teach_118 rfl ?_
                    refine am_iload (pc := 119) C dX12_teach_119 rfl ?_
                    refine am_if_neB (pc := 121) (tgt := 128) C dX12_teach_121 (by decide) (fun q121 => ?_) (fun q121 => ?_)
                    · skip
                      exact Bool.noConfusion q121
                    · skip
                      refine am_iconstN (pc := 124) (k := 1) C dX12_teach_124 ?_
                      refine am_goto (pc := 125) (tgt := 129) C dX12_teach_125 (by decide) ?_
                      refine am_top (show (nI 1) = (am_b true) from rfl) ?_
                      refine am_iconstN (pc := 129) (k := 3) C dX12_teach_129 ?_
                      refine am_callVi (Y := mX12_throwsIf) (pc := 130) (st := []) (As := [.int (am_b true), .int (nI 3)]) (x := (am_b true)) (h2 := (am_row (am_row h 322 (upd (h 322) 0 (nI 0))) 322 (bif true then upd (upd (h 322) 0 (nI 0)) 0 (nI 3) else (upd (h 322) 0 (nI 0))))) C dX12_teach_130 k12_269 v_X12_throwsIf rfl rfl bn_322 sh_322 ⟨by decide, rfl⟩ (by decide) (Nat.zero_le _) (Nat.zero_le _) (Nat.le_of_ble_eq_true rfl) (c_X12_throwsIf hR true (nI 3)) ?_
                      refine am_hp (show (am_row (am_row h 322 (upd (h 322) 0 (nI 0))) 322 (bif true then upd (upd (h 322) 0 (nI 0)) 0 (nI 3) else (upd (h 322) 0 (nI 0)))) = (am_row h 322 (bif true then upd (upd (h 322) 0 (nI 0)) 0 (nI 3) else (upd (h 322) 0 (nI 0)))) from am_row_s0) ?_
                      refine am_hp (show (am_row h 322 (bif true then upd (upd (h 322) 0 (nI 0)) 0 (nI 3) else (upd (h 322) 0 (nI 0)))) = (am_row h 322 (upd (upd (h 322) 0 (nI 0)) 0 (nI 3))) from rfl) ?_
                      refine am_if_eqB (pc := 133) (tgt := 138) C dX12_teach_133 (by decide) (fun q133 => ?_) (fun q133 => ?_)
                      · skip
                        exact Bool.noConfusion q133
                      · skip
                        refine am_iconstN (pc := 136) (k := 0) C dX12_teach_136 ?_
                        have K9 : rf_c_teach (h 323) a b m = 3 := (by unfold rf_c_teach; exact ((rf_cb_f q11).trans ((rf_cb_f q19).trans ((rf_cb_f q27).trans ((rf_cb_f (decide_eq_false q45)).trans ((rf_cb_f (show (!decide _) = false by rw [decide_eq_true q74]; rfl)).trans ((rf_cb_f (show (!decide _) = false by rw [decide_eq_true q87]; rfl)).trans (rf_cb_t (show (!_) = true by rw [q99]; rfl)))))))))
                        exact am_ireti T dX12_teach_137 rfl (Nat.le_refl _) (Nat.le_refl _) (by rw [K9]; rfl) rfl (by rw [K9]; exact (congrArg (am_row _ 322) rf_upd_upd).trans (am_hA2 (by decide) (by decide) (by decide)).symm)
                  · skip
                    refine am_aload_n (pc := 102) C dX12_teach_102 rfl ?_
                    refine am_iload_n (pc := 103) C dX12_teach_103 rfl ?_
                    refine am_iload_n (pc := 104) C dX12_teach_104 rfl ?_
                    refine am_callVi (Y := mX12_canLearn) (pc := 105) (st := []) (As := [.int (nI (rf_nat a)), .int (nI (rf_nat m))]) (x := (am_b (rf_can (h 323) (rf_nat a) (rf_nat m)))) (h2 := (am_row h 322 (upd (h 322) 0 (nI 0)))) C dX12_teach_105 k12_363 v_X12_canLearn rfl rfl bn_322 sh_322 ⟨by decide, rfl⟩ (by decide) (Nat.zero_le _) (Nat.zero_le _) (Nat.le_of_ble_eq_true rfl) (c_X12_canLearn hR (rf_nat a) (rf_nat m) hV (show (rf_nat a) < rf_S (h 323) from by omega) (show (rf_nat m) < 16 from by omega)) ?_
                    refine am_if_eqB (pc := 108) (tgt := 115) C dX12_teach_108 (by decide) (fun q108 => ?_) (fun q108 => ?_)
                    · skip
                      refine am_iconstN (pc := 115) (k := 0) C dX12_teach_115 ?_
                      refine am_top (show (nI 0) = (am_b false) from rfl) ?_
                      refine am_istore (pc := 116) (ls' := [(0, .ref 322), (1, .int (nI (rf_nat a))), (2, .int (nI (rf_nat b))), (3, .int (nI (rf_nat m))), (4, .int (am_b false))]) C dX12_teach_116 (by decide) rfl ?_
                      refine am_aload_n (pc := 118) C dX12_teach_118 rfl ?_
                      refine am_iload (pc := 119) C dX12_teach_119 rfl ?_
                      refine am_if_neB (pc := 121) (tgt := 128) C dX12_teach_121 (by decide) (fun q121 => ?_) (fun q121 => ?_)
                      · skip
                        exact Bool.noConfusion q121
                      · skip
                        refine am_iconstN (pc := 124) (k := 1) C dX12_teach_124 ?_
                        refine am_goto (pc := 125) (tgt := 129) C dX12_teach_125 (by decide) ?_
                        refine am_top (show (nI 1) = (am_b true) from rfl) ?_
                        refine am_iconstN (pc := 129) (k := 3) C dX12_teach_129 ?_
                        refine am_callVi (Y := mX12_throwsIf) (pc := 130) (st := []) (As := [.int (am_b true), .int (nI 3)]) (x := (am_b true)) (h2 := (am_row (am_row h 322 (upd (h 322) 0 (nI 0))) 322 (bif true then upd (upd (h 322) 0 (nI 0)) 0 (nI 3) else (upd (h 322) 0 (nI 0))))) C dX12_teach_130 k12_269 v_X12_throwsIf rfl rfl bn_322 sh_322 ⟨by decide, rfl⟩ (by decide) (Nat.zero_le _) (Nat.zero_le _) (Nat.le_of_ble_eq_true rfl) (c_X12_throwsIf hR true (nI 3)) ?_
                        refine am_hp (show (am_row (am_row h 322 (upd (h 322) 0 (nI 0))) 322 (bif true then upd (upd (h 322) 0 (nI 0)) 0 (nI 3) else (upd (h 322) 0 (nI 0)))) = (am_row h 322 (bif true then upd (upd (h 322) 0 (nI 0)) 0 (nI 3) else (upd (h 322) 0 (nI 0)))) from am_row_s0) ?_
                        refine am_hp (show (am_row h 322 (bif true then upd (upd (h 322) 0 (nI 0)) 0 (nI 3) else (upd (h 322) 0 (nI 0)))) = (am_row h 322 (upd (upd (h 322) 0 (nI 0)) 0 (nI 3))) from rfl) ?_
                        refine am_if_eqB (pc := 133) (tgt := 138) C dX12_teach_133 (by decide) (fun q133 => ?_) (fun q133 => ?_)
                        · skip
                          exact Bool.noConfusion q133
                        · skip
                          refine am_iconstN (pc := 136) (k := 0) C dX12_teach_136 ?_
                          have K9 : rf_c_teach (h 323) a b m = 3 := (by unfold rf_c_teach; exact ((rf_cb_f q11).trans ((rf_cb_f q19).trans ((rf_cb_f q27).trans ((rf_cb_f (decide_eq_false q45)).trans ((rf_cb_f (show (!decide _) = false by rw [decide_eq_true q74]; rfl)).trans ((rf_cb_f (show (!decide _) = false by rw [decide_eq_true q87]; rfl)).trans ((rf_cb_f (show (!_) = false by rw [q99]; rfl)).trans (rf_cb_t (show (!_) = true by rw [q108]; rfl))))))))))
                          exact am_ireti T dX12_teach_137 rfl (Nat.le_refl _) (Nat.le_refl _) (by rw [K9]; rfl) rfl (by rw [K9]; exact (congrArg (am_row _ 322) rf_upd_upd).trans (am_hA2 (by decide) (by decide) (by decide)).symm)
                    · skip
                      refine am_iconstN (pc := 111) (k := 1) C dX12_teach_111 ?_
                      refine am_goto (pc := 112) (tgt := 116) C dX12_teach_112 (by decide) ?_
                      refine am_top (show (nI 1) = (am_b true) from rfl) ?_
                      refine am_istore (pc := 116) (ls' := [(0, .ref 322), (1, .int (nI (rf_nat a))), (2, .int (nI (rf_nat b))), (3, .int (nI (rf_nat m))), (4, .int (am_b true))]) C dX12_teach_116 (by decide) rfl ?_
                      refine am_aload_n (pc := 118) C dX12_teach_118 rfl ?_
                      refine am_iload (pc := 119) C dX12_teach_119 rfl ?_
                      refine am_if_neB (pc := 121) (tgt := 128) C dX12_teach_121 (by decide) (fun q121 => ?_) (fun q121 => ?_)
                      · skip
                        refine am_iconstN (pc := 128) (k := 0) C dX12_teach_128 ?_
                        refine am_top (show (nI 0) = (am_b false) from rfl) ?_
                        refine am_iconstN (pc := 129) (k := 3) C dX12_teach_129 ?_
                        refine am_callVi (Y := mX12_throwsIf) (pc := 130) (st := []) (As := [.int (am_b false), .int (nI 3)]) (x := (am_b false)) (h2 := (am_row (am_row h 322 (upd (h 322) 0 (nI 0))) 322 (bif false then upd (upd (h 322) 0 (nI 0)) 0 (nI 3) else (upd (h 322) 0 (nI 0))))) C dX12_teach_130 k12_269 v_X12_throwsIf rfl rfl bn_322 sh_322 ⟨by decide, rfl⟩ (by decide) (Nat.zero_le _) (Nat.zero_le _) (Nat.le_of_ble_eq_true rfl) (c_X12_throwsIf hR false (nI 3)) ?_
                        refine am_hp (show (am_row (am_row h 322 (upd (h 322) 0 (nI 0))) 322 (bif false then upd (upd (h 322) 0 (nI 0)) 0 (nI 3) else (upd (h 322) 0 (nI 0)))) = (am_row h 322 (bif false then upd (upd (h 322) 0 (nI 0)) 0 (nI 3) else (upd (h 322) 0 (nI 0)))) from am_row_s0) ?_
                        refine am_hp (show (am_row h 322 (bif false then upd (upd (h 322) 0 (nI 0)) 0 (nI 3) else (upd (h 322) 0 (nI 0)))) = (am_row h 322 (upd (h 322) 0 (nI 0))) from rfl) ?_
                        refine am_if_eqB (pc := 133) (tgt := 138) C dX12_teach_133 (by decide) (fun q133 => ?_) (fun q133 => ?_)
                        · skip
                          have K9 : rf_c_teach (h 323) a b m = 0 := by unfold rf_c_teach; exact ((rf_cb_f q11).trans ((rf_cb_f q19).trans ((rf_cb_f q27).trans ((rf_cb_f (decide_eq_false q45)).trans ((rf_cb_f (show (!decide _) = false by rw [decide_eq_true q74]; rfl)).trans ((rf_cb_f (show (!decide _) = false by rw [decide_eq_true q87]; rfl)).trans ((rf_cb_f (show (!_) = false by rw [q99]; rfl)).trans (rf_cb_f (show (!_) = false by rw [q108]; rfl)))))))))
                          have hR8 : rf_n (rf_oc (h 322) 0 7) 13 := by rw [rf_oc, rf_upd_ne (by decide)]; exact hR7
                          refine am_hp (show (am_row h 322 (upd (h 322) 0 (nI 0))) = (am_row h 322 (rf_oc (h 322) 0)) from rfl) ?_
                          refine am_aload_n (pc := 138) C dX12_teach_138 rfl ?_
                          refine am_callVv (Y := mX12_remembers) (pc := 139) (st := []) (As := []) (h2 := (am_row (am_row (am_row h 322 (rf_oc (h 322) 0)) 322 (rf_remO (rf_oc (h 322) 0))) 327 (rf_remA (rf_oc (h 322) 0) (h 323) (h 327)))) C dX12_teach_139 k12_382 v_X12_remembers rfl rfl bn_322 sh_322 ⟨by decide, rfl⟩ (by decide) (Nat.zero_le _) (Nat.zero_le _) (Nat.le_of_ble_eq_true rfl) (c_X12_remembers hR (show rf_n ((rf_oc (h 322) 0) 7) 13 from hR8)) ?_
                          refine am_hp (show (am_row (am_row (am_row h 322 (rf_oc (h 322) 0)) 322 (rf_remO (rf_oc (h 322) 0))) 327 (rf_remA (rf_oc (h 322) 0) (h 323) (h 327))) = (am_row (am_row h 322 (rf_remO (rf_oc (h 322) 0))) 327 (rf_remA (rf_oc (h 322) 0) (h 323) (h 327))) from by rw [show (am_row (am_row h 322 (rf_oc (h 322) 0)) 322 (rf_remO (rf_oc (h 322) 0))) = (am_row h 322 (rf_remO (rf_oc (h 322) 0))) from am_row_s0]) ?_
                          refine am_aload_n (pc := 142) C dX12_teach_142 rfl ?_
                          refine am_iload_n (pc := 143) C dX12_teach_143 rfl ?_
                          refine am_iload_n (pc := 144) C dX12_teach_144 rfl ?_
                          refine am_callVi (Y := mX12_learns) (pc := 145) (st := []) (As := [.int (nI (rf_nat a)), .int (nI (rf_nat m))]) (x := (am_b (rf_can (h 323) (rf_nat a) (rf_nat m)))) (h2 := (am_row (am_row (am_row h 322 (rf_remO (rf_oc (h 322) 0))) 327 (rf_remA (rf_oc (h 322) 0) (h 323) (h 327))) 323 (rf_learn (h 323) (rf_nat a) (rf_nat m)))) C dX12_teach_145 k12_366 v_X12_learns rfl rfl bn_322 sh_322 ⟨by decide, rfl⟩ (by decide) (Nat.zero_le _) (Nat.zero_le _) (Nat.le_of_ble_eq_true rfl) (c_X12_learns hR (rf_nat a) (rf_nat m) (show rf_I (h 323) from hV) (show (rf_nat a) < rf_S (h 323) from ha2) (show (rf_nat m) < 16 from (by omega))) ?_
                          refine am_pop (pc := 148) C dX12_teach_148 rfl ?_
                          refine am_aload_n (pc := 149) C dX12_teach_149 rfl ?_
                          refine am_iload_n (pc := 150) C dX12_teach_150 rfl ?_
                          refine am_bipush (pc := 151) (v := nI 9) C dX12_teach_151 (by decide) ?_
                          refine am_callVi (Y := mX12_of) (pc := 153) (st := []) (As := [.int (nI (rf_nat a)), .int (nI 9)]) (x := (rf_of (rf_learn (h 323) (rf_nat a) (rf_nat m)) (rf_nat a) 9)) (h2 := (am_row (am_row (am_row h 322 (rf_remO (rf_oc (h 322) 0))) 327 (rf_remA (rf_oc (h 322) 0) (h 323) (h 327))) 323 (rf_learn (h 323) (rf_nat a) (rf_nat m)))) C dX12_teach_153 k12_63 v_X12_of rfl rfl bn_322 sh_322 ⟨by decide, rfl⟩ (by decide) (Nat.zero_le _) (Nat.zero_le _) (Nat.le_of_ble_eq_true rfl) (c_X12_of hR (rf_nat a) 9 (show (rf_nat a) < 11 from (by omega)) (show 9 < 23 from (by decide))) ?_
                          have A9 : rf_a_teach (h 323) a b m = (rf_of (rf_learn (h 323) (rf_nat a) (rf_nat m)) (rf_nat a) 9) := rfl
                          exact am_ireti T dX12_teach_156 rfl (Nat.le_refl _) (Nat.le_refl _) (by rw [K9]; exact A9.symm) rfl (by rw [K9]; exact rfl)
                        · skip
                          exact Bool.noConfusion q133
                      · skip
                        exact Bool.noConfusion q121
            · skip
              exact Bool.noConfusion q57
          · skip
            refine am_iconstN (pc := 48) (k := 1) C dX12_teach_48 ?_
            refine am_goto (pc := 49) (tgt := 53) C dX12_teach_49 (by decide) ?_
            refine am_top (show (nI 1) = (am_b true) from rfl) ?_
            refine am_iconstN (pc := 53) (k := 2) C dX12_teach_53 ?_
            refine am_callVi (Y := mX12_throwsIf) (pc := 54) (st := []) (As := [.int (am_b true), .int (nI 2)]) (x := (am_b true)) (h2 := (am_row (am_row h 322 (upd (h 322) 0 (nI 0))) 322 (bif true then upd (upd (h 322) 0 (nI 0)) 0 (nI 2) else (upd (h 322) 0 (nI 0))))) C dX12_teach_54 k12_269 v_X12_throwsIf rfl rfl bn_322 sh_322 ⟨by decide, rfl⟩ (by decide) (Nat.zero_le _) (Nat.zero_le _) (Nat.le_of_ble_eq_true rfl) (c_X12_throwsIf hR true (nI 2)) ?_
            refine am_hp (show (am_row (am_row h 322 (upd (h 322) 0 (nI 0))) 322 (bif true then upd (upd (h 322) 0 (nI 0)) 0 (nI 2) else (upd (h 322) 0 (nI 0)))) = (am_row h 322 (bif true then upd (upd (h 322) 0 (nI 0)) 0 (nI 2) else (upd (h 322) 0 (nI 0)))) from am_row_s0) ?_
            refine am_hp (show (am_row h 322 (bif true then upd (upd (h 322) 0 (nI 0)) 0 (nI 2) else (upd (h 322) 0 (nI 0)))) = (am_row h 322 (upd (upd (h 322) 0 (nI 0)) 0 (nI 2))) from rfl) ?_
            refine am_if_eqB (pc := 57) (tgt := 62) C dX12_teach_57 (by decide) (fun q57 => ?_) (fun q57 => ?_)
            · skip
              exact Bool.noConfusion q57
            · skip
              refine am_iconstN (pc := 60) (k := 0) C dX12_teach_60 ?_
              have K9 : rf_c_teach (h 323) a b m = 2 := (by unfold rf_c_teach; exact ((rf_cb_f q11).trans ((rf_cb_f q19).trans ((rf_cb_f q27).trans (rf_cb_t (decide_eq_true q45))))))
              exact am_ireti T dX12_teach_61 rfl (Nat.le_refl _) (Nat.le_refl _) (by rw [K9]; rfl) rfl (by rw [K9]; exact (congrArg (am_row _ 322) rf_upd_upd).trans (am_hA2 (by decide) (by decide) (by decide)).symm)
      · skip
        refine am_iconstN (pc := 30) (k := 1) C dX12_teach_30 ?_
        refine am_goto (pc := 31) (tgt := 35) C dX12_teach_31 (by decide) ?_
        refine am_top (show (nI 1) = (am_b true) from rfl) ?_
        refine am_iconstN (pc := 35) (k := 1) C dX12_teach_35 ?_
        refine am_callVi (Y := mX12_throwsIf) (pc := 36) (st := []) (As := [.int (am_b true), .int (nI 1)]) (x := (am_b true)) (h2 := (am_row (am_row h 322 (upd (h 322) 0 (nI 0))) 322 (bif true then upd (upd (h 322) 0 (nI 0)) 0 (nI 1) else (upd (h 322) 0 (nI 0))))) C dX12_teach_36 k12_269 v_X12_throwsIf rfl rfl bn_322 sh_322 ⟨by decide, rfl⟩ (by decide) (Nat.zero_le _) (Nat.zero_le _) (Nat.le_of_ble_eq_true rfl) (c_X12_throwsIf hR true (nI 1)) ?_
        refine am_hp (show (am_row (am_row h 322 (upd (h 322) 0 (nI 0))) 322 (bif true then upd (upd (h 322) 0 (nI 0)) 0 (nI 1) else (upd (h 322) 0 (nI 0)))) = (am_row h 322 (bif true then upd (upd (h 322) 0 (nI 0)) 0 (nI 1) else (upd (h 322) 0 (nI 0)))) from am_row_s0) ?_
        refine am_hp (show (am_row h 322 (bif true then upd (upd (h 322) 0 (nI 0)) 0 (nI 1) else (upd (h 322) 0 (nI 0)))) = (am_row h 322 (upd (upd (h 322) 0 (nI 0)) 0 (nI 1))) from rfl) ?_
        refine am_if_neB (pc := 39) (tgt := 60) C dX12_teach_39 (by decide) (fun q39 => ?_) (fun q39 => ?_)
        · skip
          refine am_iconstN (pc := 60) (k := 0) C dX12_teach_60 ?_
          have K9 : rf_c_teach (h 323) a b m = 1 := (by unfold rf_c_teach; exact ((rf_cb_f q11).trans ((rf_cb_f q19).trans (rf_cb_t q27))))
          exact am_ireti T dX12_teach_61 rfl (Nat.le_refl _) (Nat.le_refl _) (by rw [K9]; rfl) rfl (by rw [K9]; exact (congrArg (am_row _ 322) rf_upd_upd).trans (am_hA2 (by decide) (by decide) (by decide)).symm)
        · skip
          exact Bool.noConfusion q39

set_option maxHeartbeats 400000 in
set_option maxRecDepth 100000 in
theorem c_X12_gather {ad : Nat → Nat} {r : am_R} (hR : am_rs r) {h : am_H} (s : Int32) (k : Int32) (hR7 : rf_n ((h 322) 7) 13) (hV : rf_I (h 323))  : am_CM mX12_gather 6 0 0 [.ref 322, .int s, .int k] (am_VV ad) r h (am_po (some (.int (rf_ga (rf_c_gather (h 323) s k) (rf_a_gather (h 323) s k)))) r (am_row (am_row (am_row h 322 (rf_gw (rf_c_gather (h 323) s k) (rf_remO (rf_oc (h 322) 0)) (rf_oc (h 322) (rf_c_gather (h 323) s k)))) 327 (rf_gw (rf_c_gather (h 323) s k) (rf_remA (rf_oc (h 322) 0) (h 323) (h 327)) (h 327))) 323 (rf_gw (rf_c_gather (h 323) s k) (rf_remove (rf_learn (h 323) (rf_nat s) (rf_nat (rf_fld (h 323) (rf_nat k) 0))) (rf_nat k)) (h 323)))) := by
  refine am_CM.of (by decide +kernel) (Nat.le_of_ble_eq_true rfl) (fun X C T => ?_)
  show am_G X (am_VV ad) (0, 0) 0 [(0, .ref 322), (1, .int s), (2, .int k)] [] r h
  have hM9 : rf_M (h 323) < 17 := hV.1.1.2
  have hS9 : rf_S (h 323) < 11 := hV.1.2.1.2
  have hO9 : rf_O (h 323) < 11 := hV.1.2.2.2
  have hF9 : rf_F (h 323) < 41 := hV.2.2.2.2.1.2.2.1.2
  have hF6 : (h 323) 6 = nI (rf_F (h 323)) := hV.2.2.2.2.1.2.2.1.1
  refine am_aload_n (pc := 0) C dX12_gather_0 rfl ?_
  refine am_iconstN (pc := 1) (k := 0) C dX12_gather_1 ?_
  refine am_putI (pc := 2) C dX12_gather_2 f12_3 bn_322 sh_322 rfl rfl ?_
  refine am_hp (show am_up h 322 0 (nI 0) = am_row h 322 (upd (h 322) 0 (nI 0)) from am_up_rw _ _ _ _) ?_
  refine am_aload_n (pc := 5) C dX12_gather_5 rfl ?_
  refine am_aload_n (pc := 6) C dX12_gather_6 rfl ?_
  refine am_iload_n (pc := 7) C dX12_gather_7 rfl ?_
  refine am_callVi (Y := mX12_noSoldier) (pc := 8) (st := [.ref 322]) (As := [.int s]) (x := (am_b (!rf_okN s (rf_S (h 323))))) (h2 := (am_row h 322 (upd (h 322) 0 (nI 0)))) C dX12_gather_8 k12_322 v_X12_noSoldier rfl rfl bn_322 sh_322 ⟨by decide, rfl⟩ (by decide) (Nat.zero_le _) (Nat.zero_le _) (Nat.le_of_ble_eq_true rfl) (c_X12_noSoldier hR s (show rf_Cn (h 323) from hV.1)) ?_
  refine am_if_neB (pc := 11) (tgt := 31) C dX12_gather_11 (by decide) (fun q11 => ?_) (fun q11 => ?_)
  · skip
    refine am_iconstN (pc := 31) (k := 1) C dX12_gather_31 ?_
    refine am_goto (pc := 32) (tgt := 36) C dX12_gather_32 (by decide) ?_
    refine am_top (show (nI 1) = (am_b true) from rfl) ?_
    refine am_iconstN (pc := 36) (k := 1) C dX12_gather_36 ?_
    refine am_callVi (Y := mX12_throwsIf) (pc := 37) (st := []) (As := [.int (am_b true), .int (nI 1)]) (x := (am_b true)) (h2 := (am_row (am_row h 322 (upd (h 322) 0 (nI 0))) 322 (bif true then upd (upd (h 322) 0 (nI 0)) 0 (nI 1) else (upd (h 322) 0 (nI 0))))) C dX12_gather_37 k12_269 v_X12_throwsIf rfl rfl bn_322 sh_322 ⟨by decide, rfl⟩ (by decide) (Nat.zero_le _) (Nat.zero_le _) (Nat.le_of_ble_eq_true rfl) (c_X12_throwsIf hR true (nI 1)) ?_
    refine am_hp (show (am_row (am_row h 322 (upd (h 322) 0 (nI 0))) 322 (bif true then upd (upd (h 322) 0 (nI 0)) 0 (nI 1) else (upd (h 322) 0 (nI 0)))) = (am_row h 322 (bif true then upd (upd (h 322) 0 (nI 0)) 0 (nI 1) else (upd (h 322) 0 (nI 0)))) from am_row_s0) ?_
    refine am_hp (show (am_row h 322 (bif true then upd (upd (h 322) 0 (nI 0)) 0 (nI 1) else (upd (h 322) 0 (nI 0)))) = (am_row h 322 (upd (upd (h 322) 0 (nI 0)) 0 (nI 1))) from rfl) ?_
    refine am_if_eqB (pc := 40) (tgt := 45) C dX12_gather_40 (by decide) (fun q40 => ?_) (fun q40 => ?_)
    · skip
      exact Bool.noConfusion q40
    · skip
      refine am_iconstN (pc := 43) (k := 0) C dX12_gather_43 ?_
      have K9 : rf_c_gather (h 323) s k = 1 := (by unfold rf_c_gather; exact (rf_cb_t q11))
      exact am_ireti T dX12_gather_44 rfl (Nat.le_refl _) (Nat.le_refl _) (by rw [K9]; rfl) rfl (by rw [K9]; exact (congrArg (am_row _ 322) rf_upd_upd).trans (am_hA2 (by decide) (by decide) (by decide)).symm)
  · skip
    refine am_iload_n (pc := 14) C dX12_gather_14 rfl ?_
    refine am_iconstN (pc := 15) (k := 0) C dX12_gather_15 ?_
    refine am_aload_n (pc := 16) C dX12_gather_16 rfl ?_
    refine am_getR (pc := 17) (j := 323) C dX12_gather_17 f12_13 bn_322 sh_322 (rf_322_1 hR) ?_
    refine am_bipush (pc := 20) (v := nI 6) C dX12_gather_20 (by decide) ?_
    refine am_iaload (pc := 22) C dX12_gather_22 bn_323 sh_323 (vp_in_nI (by omega) (by decide)) ?_
    refine am_top (show (h 323) (nI 6).toNatClampNeg = (h 323) 6 from by rw [nI_clamp (by omega)]) ?_
    refine am_top (show ((h 323) 6) = (nI (rf_F (h 323))) from hF6) ?_
    refine am_iconstN (pc := 23) (k := 1) C dX12_gather_23 ?_
    refine am_isub (pc := 24) C dX12_gather_24 ?_
    refine am_callSi (Y := mX12_in) (pc := 25) (st := [.ref 322]) (As := [.int k, .int (nI 0), .int ((nI (rf_F (h 323))) - (nI 1))]) (x := (am_b (rf_in k (nI 0) ((nI (rf_F (h 323))) - (nI 1))))) (h2 := (am_row h 322 (upd (h 322) 0 (nI 0)))) C dX12_gather_25 k12_71 v_X12_in rfl rfl (by decide) (Nat.zero_le _) (Nat.zero_le _) (Nat.le_of_ble_eq_true rfl) (c_X12_in hR k (nI 0) ((nI (rf_F (h 323))) - (nI 1))) ?_
    refine am_top (show (am_b (rf_in k (nI 0) ((nI (rf_F (h 323))) - (nI 1)))) = (am_b (rf_okN k (rf_F (h 323)))) from rfl) ?_
    refine am_if_neB (pc := 28) (tgt := 35) C dX12_gather_28 (by decide) (fun q28 => ?_) (fun q28 => ?_)
    · skip
      refine am_iconstN (pc := 35) (k := 0) C dX12_gather_35 ?_
      refine am_top (show (nI 0) = (am_b false) from rfl) ?_
      refine am_iconstN (pc := 36) (k := 1) C dX12_gather_36 ?_
      refine am_callVi (Y := mX12_throwsIf) (pc := 37) (st := []) (As := [.int (am_b false), .int (nI 1)]) (x := (am_b false)) (h2 := (am_row (am_row h 322 (upd (h 322) 0 (nI 0))) 322 (bif false then upd (upd (h 322) 0 (nI 0)) 0 (nI 1) else (upd (h 322) 0 (nI 0))))) C dX12_gather_37 k12_269 v_X12_throwsIf rfl rfl bn_322 sh_322 ⟨by decide, rfl⟩ (by decide) (Nat.zero_le _) (Nat.zero_le _) (Nat.le_of_ble_eq_true rfl) (c_X12_throwsIf hR false (nI 1)) ?_
      refine am_hp (show (am_row (am_row h 322 (upd (h 322) 0 (nI 0))) 322 (bif false then upd (upd (h 322) 0 (nI 0)) 0 (nI 1) else (upd (h 322) 0 (nI 0)))) = (am_row h 322 (bif false then upd (upd (h 322) 0 (nI 0)) 0 (nI 1) else (upd (h 322) 0 (nI 0)))) from am_row_s0) ?_
      refine am_hp (show (am_row h 322 (bif false then upd (upd (h 322) 0 (nI 0)) 0 (nI 1) else (upd (h 322) 0 (nI 0)))) = (am_row h 322 (upd (h 322) 0 (nI 0))) from rfl) ?_
      refine am_if_eqB (pc := 40) (tgt := 45) C dX12_gather_40 (by decide) (fun q40 => ?_) (fun q40 => ?_)
      · skip
        have hs := rf_okN_q (by omega) q11
        have hs2 := hs.2
        have hk := rf_okN_n (by omega) q28
        have hk2 := hk.2
        have hf := hV.2.2.2.2.2.2.1 (rf_nat k) hk2
        have hf2 := hf.1.2
        refine am_lsv (ls' := [(0, .ref 322), (1, .int (nI (rf_nat s))), (2, .int k)]) (congrArg (fun z9 : Int32 => ([(0, .ref 322), (1, Value.int z9), (2, .int k)] : List (Nat × Value))) (show s = (nI (rf_nat s)) from hs.1)) ?_
        refine am_lsv (ls' := [(0, .ref 322), (1, .int (nI (rf_nat s))), (2, .int (nI (rf_nat k)))]) (congrArg (fun z9 : Int32 => ([(0, .ref 322), (1, .int (nI (rf_nat s))), (2, Value.int z9)] : List (Nat × Value))) (show k = (nI (rf_nat k)) from hk.1)) ?_
        refine am_aload_n (pc := 45) C dX12_gather_45 rfl ?_
        refine am_iload_n (pc := 46) C dX12_gather_46 rfl ?_
        refine am_iconstN (pc := 47) (k := 0) C dX12_gather_47 ?_
        refine am_callVi (Y := mX12_ofField) (pc := 48) (st := []) (As := [.int (nI (rf_nat k)), .int (nI 0)]) (x := (rf_fld (h 323) (rf_nat k) 0)) (h2 := (am_row h 322 (upd (h 322) 0 (nI 0)))) C dX12_gather_48 k12_301 v_X12_ofField rfl rfl bn_322 sh_322 ⟨by decide, rfl⟩ (by decide) (Nat.zero_le _) (Nat.zero_le _) (Nat.le_of_ble_eq_true rfl) (c_X12_ofField hR (rf_nat k) 0 (show (rf_nat k) < 40 from by omega) (show 0 < 3 from by omega)) ?_
        refine am_top (show (rf_fld (h 323) (rf_nat k) 0) = (nI (rf_nat (rf_fld (h 323) (rf_nat k) 0))) from hf.1.1) ?_
        refine am_istore_n (pc := 51) (ls' := [(0, .ref 322), (1, .int (nI (rf_nat s))), (2, .int (nI (rf_nat k))), (3, .int (nI (rf_nat (rf_fld (h 323) (rf_nat k) 0))))]) C dX12_gather_51 (by decide) rfl ?_
        refine am_aload_n (pc := 52) C dX12_gather_52 rfl ?_
        refine am_aload_n (pc := 53) C dX12_gather_53 rfl ?_
        refine am_iload_n (pc := 54) C dX12_gather_54 rfl ?_
        refine am_iconstN (pc := 55) (k := 1) C dX12_gather_55 ?_
        refine am_callVi (Y := mX12_ofField) (pc := 56) (st := [.ref 322]) (As := [.int (nI (rf_nat k)), .int (nI 1)]) (x := (rf_fld (h 323) (rf_nat k) 1)) (h2 := (am_row h 322 (upd (h 322) 0 (nI 0)))) C dX12_gather_56 k12_301 v_X12_ofField rfl rfl bn_322 sh_322 ⟨by decide, rfl⟩ (by decide) (Nat.zero_le _) (Nat.zero_le _) (Nat.le_of_ble_eq_true rfl) (c_X12_ofField hR (rf_nat k) 1 (show (rf_nat k) < 40 from by omega) (show 1 < 3 from by omega)) ?_
        refine am_aload_n (pc := 59) C dX12_gather_59 rfl ?_
        refine am_iload_n (pc := 60) C dX12_gather_60 rfl ?_
        refine am_callVi (Y := mX12_placeOf) (pc := 61) (st := [.int (rf_fld (h 323) (rf_nat k) 1), .ref 322]) (As := [.int (nI (rf_nat s))]) (x := (rf_pl (h 323) (rf_nat s))) (h2 := (am_row h 322 (upd (h 322) 0 (nI 0)))) C dX12_gather_61 k12_272 v_X12_placeOf rfl rfl bn_322 sh_322 ⟨by decide, rfl⟩ (by decide) (Nat.zero_le _) (Nat.zero_le _) (Nat.le_of_ble_eq_true rfl) (c_X12_placeOf hR (rf_nat s) (show (rf_nat s) < 11 from by omega) (show rf_Is (h 323) (rf_nat s) from (hV.2.1 (rf_nat s) (by omega)))) ?_
        refine am_icmp_ne (pc := 64) (tgt := 76) C dX12_gather_64 (by decide) (fun q64 => ?_) (fun q64 => ?_)
        · skip
          refine am_iconstN (pc := 76) (k := 1) C dX12_gather_76 ?_
          refine am_goto (pc := 77) (tgt := 81) C dX12_gather_77 (by decide) ?_
          refine am_top (show (nI 1) = (am_b true) from rfl) ?_
          refine am_iconstN (pc := 81) (k := 2) C dX12_gather_81 ?_
          refine am_callVi (Y := mX12_throwsIf) (pc := 82) (st := []) (As := [.int (am_b true), .int (nI 2)]) (x := (am_b true)) (h2 := (am_row (am_row h 322 (upd (h 322) 0 (nI 0))) 322 (bif true then upd (upd (h 322) 0 (nI 0)) 0 (nI 2) else (upd (h 322) 0 (nI 0))))) C dX12_gather_82 k12_269 v_X12_throwsIf rfl rfl bn_322 sh_322 ⟨by decide, rfl⟩ (by decide) (Nat.zero_le _) (Nat.zero_le _) (Nat.le_of_ble_eq_true rfl) (c_X12_throwsIf hR true (nI 2)) ?_
          refine am_hp (show (am_row (am_row h 322 (upd (h 322) 0 (nI 0))) 322 (bif true then upd (upd (h 322) 0 (nI 0)) 0 (nI 2) else (upd (h 322) 0 (nI 0)))) = (am_row h 322 (bif true then upd (upd (h 322) 0 (nI 0)) 0 (nI 2) else (upd (h 322) 0 (nI 0)))) from am_row_s0) ?_
          refine am_hp (show (am_row h 322 (bif true then upd (upd (h 322) 0 (nI 0)) 0 (nI 2) else (upd (h 322) 0 (nI 0)))) = (am_row h 322 (upd (upd (h 322) 0 (nI 0)) 0 (nI 2))) from rfl) ?_
          refine am_if_eqB (pc := 85) (tgt := 90) C dX12_gather_85 (by decide) (fun q85 => ?_) (fun q85 => ?_)
          · skip
            exact Bool.noConfusion q85
          · skip
            refine am_iconstN (pc := 88) (k := 0) C dX12_gather_88 ?_
            have K9 : rf_c_gather (h 323) s k = 2 := (by unfold rf_c_gather; exact ((rf_cb_f q11).trans ((rf_cb_nf q28).trans (rf_cb_t (show (!decide _) = true by rw [decide_eq_false q64]; rfl)))))
            exact am_ireti T dX12_gather_89 rfl (Nat.le_refl _) (Nat.le_refl _) (by rw [K9]; rfl) rfl (by rw [K9]; exact (congrArg (am_row _ 322) rf_upd_upd).trans (am_hA2 (by decide) (by decide) (by decide)).symm)
        · skip
          refine am_aload_n (pc := 67) C dX12_gather_67 rfl ?_
          refine am_iload_n (pc := 68) C dX12_gather_68 rfl ?_
          refine am_iload_n (pc := 69) C dX12_gather_69 rfl ?_
          refine am_callVi (Y := mX12_canLearn) (pc := 70) (st := [.ref 322]) (As := [.int (nI (rf_nat s)), .int (nI (rf_nat (rf_fld (h 323) (rf_nat k) 0)))]) (x := (am_b (rf_can (h 323) (rf_nat s) (rf_nat (rf_fld (h 323) (rf_nat k) 0))))) (h2 := (am_row h 322 (upd (h 322) 0 (nI 0)))) C dX12_gather_70 k12_363 v_X12_canLearn rfl rfl bn_322 sh_322 ⟨by decide, rfl⟩ (by decide) (Nat.zero_le _) (Nat.zero_le _) (Nat.le_of_ble_eq_true rfl) (c_X12_canLearn hR (rf_nat s) (rf_nat (rf_fld (h 323) (rf_nat k) 0)) hV (show (rf_nat s) < rf_S (h 323) from by omega) (show (rf_nat (rf_fld (h 323) (rf_nat k) 0)) < 16 from by omega)) ?_
          refine am_if_neB (pc := 73) (tgt := 80) C dX12_gather_73 (by decide) (fun q73 => ?_) (fun q73 => ?_)
          · skip
            refine am_iconstN (pc := 80) (k := 0) C dX12_gather_80 ?_
            refine am_top (show (nI 0) = (am_b false) from rfl) ?_
            refine am_iconstN (pc := 81) (k := 2) C dX12_gather_81 ?_
            refine am_callVi (Y := mX12_throwsIf) (pc := 82) (st := []) (As := [.int (am_b false), .int (nI 2)]) (x := (am_b false)) (h2 := (am_row (am_row h 322 (upd (h 322) 0 (nI 0))) 322 (bif false then upd (upd (h 322) 0 (nI 0)) 0 (nI 2) else (upd (h 322) 0 (nI 0))))) C dX12_gather_82 k12_269 v_X12_throwsIf rfl rfl bn_322 sh_322 ⟨by decide, rfl⟩ (by decide) (Nat.zero_le _) (Nat.zero_le _) (Nat.le_of_ble_eq_true rfl) (c_X12_throwsIf hR false (nI 2)) ?_
            refine am_hp (show (am_row (am_row h 322 (upd (h 322) 0 (nI 0))) 322 (bif false then upd (upd (h 322) 0 (nI 0)) 0 (nI 2) else (upd (h 322) 0 (nI 0)))) = (am_row h 322 (bif false then upd (upd (h 322) 0 (nI 0)) 0 (nI 2) else (upd (h 322) 0 (nI 0)))) from am_row_s0) ?_
            refine am_hp (show (am_row h 322 (bif false then upd (upd (h 322) 0 (nI 0)) 0 (nI 2) else (upd (h 322) 0 (nI 0)))) = (am_row h 322 (upd (h 322) 0 (nI 0))) from rfl) ?_
            refine am_if_eqB (pc := 85) (tgt := 90) C dX12_gather_85 (by decide) (fun q85 => ?_) (fun q85 => ?_)
            · skip
              have K9 : rf_c_gather (h 323) s k = 0 := by unfold rf_c_gather; exact ((rf_cb_f q11).trans ((rf_cb_nf q28).trans ((rf_cb_f (show (!decide _) = false by rw [decide_eq_true q64]; rfl)).trans (rf_cb_nf q73))))
              have hR8 : rf_n (rf_oc (h 322) 0 7) 13 := by rw [rf_oc, rf_upd_ne (by decide)]; exact hR7
              have hI2 := rf_I_learn (s := rf_nat s) (m := rf_nat (rf_fld (h 323) (rf_nat k) 0)) hV hs2 hf2
              have hE2 : rf_F (rf_learn (h 323) (rf_nat s) (rf_nat (rf_fld (h 323) (rf_nat k) 0))) = rf_F (h 323) := rf_F_learn (by omega) (hV.2.1 _ hs2).2.2.2.2.1.2
              refine am_hp (show (am_row h 322 (upd (h 322) 0 (nI 0))) = (am_row h 322 (rf_oc (h 322) 0)) from rfl) ?_
              refine am_aload_n (pc := 90) C dX12_gather_90 rfl ?_
              refine am_callVv (Y := mX12_remembers) (pc := 91) (st := []) (As := []) (h2 := (am_row (am_row (am_row h 322 (rf_oc (h 322) 0)) 322 (rf_remO (rf_oc (h 322) 0))) 327 (rf_remA (rf_oc (h 322) 0) (h 323) (h 327)))) C dX12_gather_91 k12_382 v_X12_remembers rfl rfl bn_322 sh_322 ⟨by decide, rfl⟩ (by decide) (Nat.zero_le _) (Nat.zero_le _) (Nat.le_of_ble_eq_true rfl) (c_X12_remembers hR (show rf_n ((rf_oc (h 322) 0) 7) 13 from hR8)) ?_
              refine am_hp (show (am_row (am_row (am_row h 322 (rf_oc (h 322) 0)) 322 (rf_remO (rf_oc (h 322) 0))) 327 (rf_remA (rf_oc (h 322) 0) (h 323) (h 327))) = (am_row (am_row h 322 (rf_remO (rf_oc (h 322) 0))) 327 (rf_remA (rf_oc (h 322) 0) (h 323) (h 327))) from by rw [show (am_row (am_row h 322 (rf_oc (h 322) 0)) 322 (rf_remO (rf_oc (h 322) 0))) = (am_row h 322 (rf_remO (rf_oc (h 322) 0))) from am_row_s0]) ?_
              refine am_aload_n (pc := 94) C dX12_gather_94 rfl ?_
              refine am_iload_n (pc := 95) C dX12_gather_95 rfl ?_
              refine am_iload_n (pc := 96) C dX12_gather_96 rfl ?_
              refine am_callVi (Y := mX12_learns) (pc := 97) (st := []) (As := [.int (nI (rf_nat s)), .int (nI (rf_nat (rf_fld (h 323) (rf_nat k) 0)))]) (x := (am_b (rf_can (h 323) (rf_nat s) (rf_nat (rf_fld (h 323) (rf_nat k) 0))))) (h2 := (am_row (am_row (am_row h 322 (rf_remO (rf_oc (h 322) 0))) 327 (rf_remA (rf_oc (h 322) 0) (h 323) (h 327))) 323 (rf_learn (h 323) (rf_nat s) (rf_nat (rf_fld (h 323) (rf_nat k) 0))))) C dX12_gather_97 k12_366 v_X12_learns rfl rfl bn_322 sh_322 ⟨by decide, rfl⟩ (by decide) (Nat.zero_le _) (Nat.zero_le _) (Nat.le_of_ble_eq_true rfl) (c_X12_learns hR (rf_nat s) (rf_nat (rf_fld (h 323) (rf_nat k) 0)) (show rf_I (h 323) from hV) (show (rf_nat s) < rf_S (h 323) from hs2) (show (rf_nat (rf_fld (h 323) (rf_nat k) 0)) < 16 from (by omega))) ?_
              refine am_pop (pc := 100) C dX12_gather_100 rfl ?_
              refine am_aload_n (pc := 101) C dX12_gather_101 rfl ?_
              refine am_iload_n (pc := 102) C dX12_gather_102 rfl ?_
              refine am_callVv (Y := mX12_removes) (pc := 103) (st := []) (As := [.int (nI (rf_nat k))]) (h2 := (am_row (am_row (am_row (am_row h 322 (rf_remO (rf_oc (h 322) 0))) 327 (rf_remA (rf_oc (h 322) 0) (h 323) (h 327))) 323 (rf_learn (h 323) (rf_nat s) (rf_nat (rf_fld (h 323) (rf_nat k) 0)))) 323 (rf_remove (rf_learn (h 323) (rf_nat s) (rf_nat (rf_fld (h 323) (rf_nat k) 0))) (rf_nat k)))) C dX12_gather_103 k12_349 v_X12_removes rfl rfl bn_322 sh_322 ⟨by decide, rfl⟩ (by decide) (Nat.zero_le _) (Nat.zero_le _) (Nat.le_of_ble_eq_true rfl) (c_X12_removes hR (rf_nat k) (show rf_n ((rf_learn (h 323) (rf_nat s) (rf_nat (rf_fld (h 323) (rf_nat k) 0))) 6) 41 from hI2.2.2.2.2.1.2.2.1) (show (rf_nat k) < rf_F (rf_learn (h 323) (rf_nat s) (rf_nat (rf_fld (h 323) (rf_nat k) 0))) from (by rw [hE2]; exact hk2))) ?_
              refine am_hp (show (am_row (am_row (am_row (am_row h 322 (rf_remO (rf_oc (h 322) 0))) 327 (rf_remA (rf_oc (h 322) 0) (h 323) (h 327))) 323 (rf_learn (h 323) (rf_nat s) (rf_nat (rf_fld (h 323) (rf_nat k) 0)))) 323 (rf_remove (rf_learn (h 323) (rf_nat s) (rf_nat (rf_fld (h 323) (rf_nat k) 0))) (rf_nat k))) = (am_row (am_row (am_row h 322 (rf_remO (rf_oc (h 322) 0))) 327 (rf_remA (rf_oc (h 322) 0) (h 323) (h 327))) 323 (rf_remove (rf_learn (h 323) (rf_nat s) (rf_nat (rf_fld (h 323) (rf_nat k) 0))) (rf_nat k))) from am_row_s0) ?_
              refine am_iload_n (pc := 106) C dX12_gather_106 rfl ?_
              have A9 : rf_a_gather (h 323) s k = (nI (rf_nat (rf_fld (h 323) (rf_nat k) 0))) := rfl
              exact am_ireti T dX12_gather_107 rfl (Nat.le_refl _) (Nat.le_refl _) (by rw [K9]; exact A9.symm) rfl (by rw [K9]; exact rfl)
            · skip
              exact Bool.noConfusion q85
          · skip
            refine am_iconstN (pc := 76) (k := 1) C dX12_gather_76 ?_
            refine am_goto (pc := 77) (tgt := 81) C dX12_gather_77 (by decide) ?_
            refine am_top (show (nI 1) = (am_b true) from rfl) ?_
            refine am_iconstN (pc := 81) (k := 2) C dX12_gather_81 ?_
            refine am_callVi (Y := mX12_throwsIf) (pc := 82) (st := []) (As := [.int (am_b true), .int (nI 2)]) (x := (am_b true)) (h2 := (am_row (am_row h 322 (upd (h 322) 0 (nI 0))) 322 (bif true then upd (upd (h 322) 0 (nI 0)) 0 (nI 2) else (upd (h 322) 0 (nI 0))))) C dX12_gather_82 k12_269 v_X12_throwsIf rfl rfl bn_322 sh_322 ⟨by decide, rfl⟩ (by decide) (Nat.zero_le _) (Nat.zero_le _) (Nat.le_of_ble_eq_true rfl) (c_X12_throwsIf hR true (nI 2)) ?_
            refine am_hp (show (am_row (am_row h 322 (upd (h 322) 0 (nI 0))) 322 (bif true then upd (upd (h 322) 0 (nI 0)) 0 (nI 2) else (upd (h 322) 0 (nI 0)))) = (am_row h 322 (bif true then upd (upd (h 322) 0 (nI 0)) 0 (nI 2) else (upd (h 322) 0 (nI 0)))) from am_row_s0) ?_
            refine am_hp (show (am_row h 322 (bif true then upd (upd (h 322) 0 (nI 0)) 0 (nI 2) else (upd (h 322) 0 (nI 0)))) = (am_row h 322 (upd (upd (h 322) 0 (nI 0)) 0 (nI 2))) from rfl) ?_
            refine am_if_eqB (pc := 85) (tgt := 90) C dX12_gather_85 (by decide) (fun q85 => ?_) (fun q85 => ?_)
            · skip
              exact Bool.noConfusion q85
            · skip
              refine am_iconstN (pc := 88) (k := 0) C dX12_gather_88 ?_
              have K9 : rf_c_gather (h 323) s k = 2 := (by unfold rf_c_gather; exact ((rf_cb_f q11).trans ((rf_cb_nf q28).trans ((rf_cb_f (show (!decide _) = false by rw [decide_eq_true q64]; rfl)).trans (rf_cb_nt q73)))))
              exact am_ireti T dX12_gather_89 rfl (Nat.le_refl _) (Nat.le_refl _) (by rw [K9]; rfl) rfl (by rw [K9]; exact (congrArg (am_row _ 322) rf_upd_upd).trans (am_hA2 (by decide) (by decide) (by decide)).symm)
      · skip
        exact Bool.noConfusion q40
    · skip
      refine am_iconstN (pc := 31) (k := 1) C dX12_gather_31 ?_
      refine am_goto (pc := 32) (tgt := 36) C dX12_gather_32 (by decide) ?_
      refine am_top (show (nI 1) = (am_b true) from rfl) ?_
      refine am_iconstN (pc := 36) (k := 1) C dX12_gather_36 ?_
      refine am_callVi (Y := mX12_throwsIf) (pc := 37) (st := []) (As := [.int (am_b true), .int (nI 1)]) (x := (am_b true)) (h2 := (am_row (am_row h 322 (upd (h 322) 0 (nI 0))) 322 (bif true then upd (upd (h 322) 0 (nI 0)) 0 (nI 1) else (upd (h 322) 0 (nI 0))))) C dX12_gather_37 k12_269 v_X12_throwsIf rfl rfl bn_322 sh_322 ⟨by decide, rfl⟩ (by decide) (Nat.zero_le _) (Nat.zero_le _) (Nat.le_of_ble_eq_true rfl) (c_X12_throwsIf hR true (nI 1)) ?_
      refine am_hp (show (am_row (am_row h 322 (upd (h 322) 0 (nI 0))) 322 (bif true then upd (upd (h 322) 0 (nI 0)) 0 (nI 1) else (upd (h 322) 0 (nI 0)))) = (am_row h 322 (bif true then upd (upd (h 322) 0 (nI 0)) 0 (nI 1) else (upd (h 322) 0 (nI 0)))) from am_row_s0) ?_
      refine am_hp (show (am_row h 322 (bif true then upd (upd (h 322) 0 (nI 0)) 0 (nI 1) else (upd (h 322) 0 (nI 0)))) = (am_row h 322 (upd (upd (h 322) 0 (nI 0)) 0 (nI 1))) from rfl) ?_
      refine am_if_eqB (pc := 40) (tgt := 45) C dX12_gather_40 (by decide) (fun q40 => ?_) (fun q40 => ?_)
      · skip
        exact Bool.noConfusion q40
      · skip
        refine am_iconstN (pc := 43) (k := 0) C dX12_gather_43 ?_
        have K9 : rf_c_gather (h 323) s k = 1 := (by unfold rf_c_gather; exact ((rf_cb_f q11).trans (rf_cb_nt q28)))
        exact am_ireti T dX12_gather_44 rfl (Nat.le_refl _) (Nat.le_refl _) (by rw [K9]; rfl) rfl (by rw [K9]; exact (congrArg (am_row _ 322) rf_upd_upd).trans (am_hA2 (by decide) (by decide) (by decide)).symm)

set_option maxHeartbeats 400000 in
set_option maxRecDepth 100000 in
theorem c_X12_read {ad : Nat → Nat} {r : am_R} (hR : am_rs r) {h : am_H} (s : Int32) (hR7 : rf_n ((h 322) 7) 13) (hV : rf_I (h 323))  : am_CM mX12_read 7 0 0 [.ref 322, .int s] (am_VV ad) r h (am_po (some (.int (rf_ga (rf_c_read (h 323) s) (rf_a_read (h 323) s)))) r (am_row (am_row (am_row h 322 (rf_gw (rf_c_read (h 323) s) (rf_remO (rf_oc (h 322) 0)) (rf_oc (h 322) (rf_c_read (h 323) s)))) 327 (rf_gw (rf_c_read (h 323) s) (rf_remA (rf_oc (h 322) 0) (h 323) (h 327)) (h 327))) 323 (rf_gw (rf_c_read (h 323) s) ((rf_read (h 323) (rf_nat s)).1) (h 323)))) := by
  refine am_CM.of (by decide +kernel) (Nat.le_of_ble_eq_true rfl) (fun X C T => ?_)
  show am_G X (am_VV ad) (0, 0) 0 [(0, .ref 322), (1, .int s)] [] r h
  have hM9 : rf_M (h 323) < 17 := hV.1.1.2
  have hS9 : rf_S (h 323) < 11 := hV.1.2.1.2
  have hO9 : rf_O (h 323) < 11 := hV.1.2.2.2
  refine am_aload_n (pc := 0) C dX12_read_0 rfl ?_
  refine am_iconstN (pc := 1) (k := 0) C dX12_read_1 ?_
  refine am_putI (pc := 2) C dX12_read_2 f12_3 bn_322 sh_322 rfl rfl ?_
  refine am_hp (show am_up h 322 0 (nI 0) = am_row h 322 (upd (h 322) 0 (nI 0)) from am_up_rw _ _ _ _) ?_
  refine am_aload_n (pc := 5) C dX12_read_5 rfl ?_
  refine am_aload_n (pc := 6) C dX12_read_6 rfl ?_
  refine am_iload_n (pc := 7) C dX12_read_7 rfl ?_
  refine am_callVi (Y := mX12_noSoldier) (pc := 8) (st := [.ref 322]) (As := [.int s]) (x := (am_b (!rf_okN s (rf_S (h 323))))) (h2 := (am_row h 322 (upd (h 322) 0 (nI 0)))) C dX12_read_8 k12_322 v_X12_noSoldier rfl rfl bn_322 sh_322 ⟨by decide, rfl⟩ (by decide) (Nat.zero_le _) (Nat.zero_le _) (Nat.le_of_ble_eq_true rfl) (c_X12_noSoldier hR s (show rf_Cn (h 323) from hV.1)) ?_
  refine am_iconstN (pc := 11) (k := 1) C dX12_read_11 ?_
  refine am_callVi (Y := mX12_throwsIf) (pc := 12) (st := []) (As := [.int (am_b (!rf_okN s (rf_S (h 323)))), .int (nI 1)]) (x := (am_b (!rf_okN s (rf_S (h 323))))) (h2 := (am_row (am_row h 322 (upd (h 322) 0 (nI 0))) 322 (bif (!rf_okN s (rf_S (h 323))) then upd (upd (h 322) 0 (nI 0)) 0 (nI 1) else (upd (h 322) 0 (nI 0))))) C dX12_read_12 k12_269 v_X12_throwsIf rfl rfl bn_322 sh_322 ⟨by decide, rfl⟩ (by decide) (Nat.zero_le _) (Nat.zero_le _) (Nat.le_of_ble_eq_true rfl) (c_X12_throwsIf hR (!rf_okN s (rf_S (h 323))) (nI 1)) ?_
  refine am_hp (show (am_row (am_row h 322 (upd (h 322) 0 (nI 0))) 322 (bif (!rf_okN s (rf_S (h 323))) then upd (upd (h 322) 0 (nI 0)) 0 (nI 1) else (upd (h 322) 0 (nI 0)))) = (am_row h 322 (bif (!rf_okN s (rf_S (h 323))) then upd (upd (h 322) 0 (nI 0)) 0 (nI 1) else (upd (h 322) 0 (nI 0)))) from am_row_s0) ?_
  refine am_if_neB (pc := 15) (tgt := 41) C dX12_read_15 (by decide) (fun q15 => ?_) (fun q15 => ?_)
  · skip
    refine am_hp (show (am_row h 322 (bif (!rf_okN s (rf_S (h 323))) then upd (upd (h 322) 0 (nI 0)) 0 (nI 1) else (upd (h 322) 0 (nI 0)))) = (am_row h 322 (upd (upd (h 322) 0 (nI 0)) 0 (nI 1))) from by rw [q15]; rfl) ?_
    refine am_iconstN (pc := 41) (k := 0) C dX12_read_41 ?_
    have K9 : rf_c_read (h 323) s = 1 := (by unfold rf_c_read; exact (rf_cb_t q15))
    exact am_ireti T dX12_read_42 rfl (Nat.le_refl _) (Nat.le_refl _) (by rw [K9]; rfl) rfl (by rw [K9]; exact (congrArg (am_row _ 322) rf_upd_upd).trans (am_hA2 (by decide) (by decide) (by decide)).symm)
  · skip
    refine am_hp (show (am_row h 322 (bif (!rf_okN s (rf_S (h 323))) then upd (upd (h 322) 0 (nI 0)) 0 (nI 1) else (upd (h 322) 0 (nI 0)))) = (am_row h 322 (upd (h 322) 0 (nI 0))) from by rw [q15]; rfl) ?_
    have hs := rf_okN_q (by omega) q15
    have hs2 := hs.2
    refine am_lsv (ls' := [(0, .ref 322), (1, .int (nI (rf_nat s)))]) (congrArg (fun z9 : Int32 => ([(0, .ref 322), (1, Value.int z9)] : List (Nat × Value))) (show s = (nI (rf_nat s)) from hs.1)) ?_
    refine am_aload_n (pc := 18) C dX12_read_18 rfl ?_
    refine am_aload_n (pc := 19) C dX12_read_19 rfl ?_
    refine am_iload_n (pc := 20) C dX12_read_20 rfl ?_
    refine am_bipush (pc := 21) (v := nI 22) C dX12_read_21 (by decide) ?_
    refine am_callVi (Y := mX12_of) (pc := 23) (st := [.ref 322]) (As := [.int (nI (rf_nat s)), .int (nI 22)]) (x := (rf_of (h 323) (rf_nat s) 22)) (h2 := (am_row h 322 (upd (h 322) 0 (nI 0)))) C dX12_read_23 k12_63 v_X12_of rfl rfl bn_322 sh_322 ⟨by decide, rfl⟩ (by decide) (Nat.zero_le _) (Nat.zero_le _) (Nat.le_of_ble_eq_true rfl) (c_X12_of hR (rf_nat s) 22 (show (rf_nat s) < 11 from by omega) (show 22 < 23 from by omega)) ?_
    refine am_if_ne (pc := 26) (tgt := 33) C dX12_read_26 (by decide) (fun q26 => ?_) (fun q26 => ?_)
    · skip
      refine am_iconstN (pc := 33) (k := 0) C dX12_read_33 ?_
      refine am_top (show (nI 0) = (am_b false) from rfl) ?_
      refine am_iconstN (pc := 34) (k := 2) C dX12_read_34 ?_
      refine am_callVi (Y := mX12_throwsIf) (pc := 35) (st := []) (As := [.int (am_b false), .int (nI 2)]) (x := (am_b false)) (h2 := (am_row (am_row h 322 (upd (h 322) 0 (nI 0))) 322 (bif false then upd (upd (h 322) 0 (nI 0)) 0 (nI 2) else (upd (h 322) 0 (nI 0))))) C dX12_read_35 k12_269 v_X12_throwsIf rfl rfl bn_322 sh_322 ⟨by decide, rfl⟩ (by decide) (Nat.zero_le _) (Nat.zero_le _) (Nat.le_of_ble_eq_true rfl) (c_X12_throwsIf hR false (nI 2)) ?_
      refine am_hp (show (am_row (am_row h 322 (upd (h 322) 0 (nI 0))) 322 (bif false then upd (upd (h 322) 0 (nI 0)) 0 (nI 2) else (upd (h 322) 0 (nI 0)))) = (am_row h 322 (bif false then upd (upd (h 322) 0 (nI 0)) 0 (nI 2) else (upd (h 322) 0 (nI 0)))) from am_row_s0) ?_
      refine am_hp (show (am_row h 322 (bif false then upd (upd (h 322) 0 (nI 0)) 0 (nI 2) else (upd (h 322) 0 (nI 0)))) = (am_row h 322 (upd (h 322) 0 (nI 0))) from rfl) ?_
      refine am_if_eqB (pc := 38) (tgt := 43) C dX12_read_38 (by decide) (fun q38 => ?_) (fun q38 => ?_)
      · skip
        have K9 : rf_c_read (h 323) s = 0 := by unfold rf_c_read; exact ((rf_cb_f q15).trans (rf_cb_f (decide_eq_false q26)))
        have hR8 : rf_n (rf_oc (h 322) 0 7) 13 := by rw [rf_oc, rf_upd_ne (by decide)]; exact hR7
        refine am_hp (show (am_row h 322 (upd (h 322) 0 (nI 0))) = (am_row h 322 (rf_oc (h 322) 0)) from rfl) ?_
        refine am_aload_n (pc := 43) C dX12_read_43 rfl ?_
        refine am_callVv (Y := mX12_remembers) (pc := 44) (st := []) (As := []) (h2 := (am_row (am_row (am_row h 322 (rf_oc (h 322) 0)) 322 (rf_remO (rf_oc (h 322) 0))) 327 (rf_remA (rf_oc (h 322) 0) (h 323) (h 327)))) C dX12_read_44 k12_382 v_X12_remembers rfl rfl bn_322 sh_322 ⟨by decide, rfl⟩ (by decide) (Nat.zero_le _) (Nat.zero_le _) (Nat.le_of_ble_eq_true rfl) (c_X12_remembers hR (show rf_n ((rf_oc (h 322) 0) 7) 13 from hR8)) ?_
        refine am_hp (show (am_row (am_row (am_row h 322 (rf_oc (h 322) 0)) 322 (rf_remO (rf_oc (h 322) 0))) 327 (rf_remA (rf_oc (h 322) 0) (h 323) (h 327))) = (am_row (am_row h 322 (rf_remO (rf_oc (h 322) 0))) 327 (rf_remA (rf_oc (h 322) 0) (h 323) (h 327))) from by rw [show (am_row (am_row h 322 (rf_oc (h 322) 0)) 322 (rf_remO (rf_oc (h 322) 0))) = (am_row h 322 (rf_remO (rf_oc (h 322) 0))) from am_row_s0]) ?_
        refine am_aload_n (pc := 47) C dX12_read_47 rfl ?_
        refine am_iload_n (pc := 48) C dX12_read_48 rfl ?_
        refine am_callVi (Y := mX12_reads) (pc := 49) (st := []) (As := [.int (nI (rf_nat s))]) (x := (nI ((rf_read (h 323) (rf_nat s)).2))) (h2 := (am_row (am_row (am_row h 322 (rf_remO (rf_oc (h 322) 0))) 327 (rf_remA (rf_oc (h 322) 0) (h 323) (h 327))) 323 ((rf_read (h 323) (rf_nat s)).1))) C dX12_read_49 k12_379 v_X12_reads rfl rfl bn_322 sh_322 ⟨by decide, rfl⟩ (by decide) (Nat.zero_le _) (Nat.zero_le _) (Nat.le_of_ble_eq_true rfl) (c_X12_reads hR (rf_nat s) (show rf_I (h 323) from hV) (show (rf_nat s) < rf_S (h 323) from hs2)) ?_
        have A9 : rf_a_read (h 323) s = (nI ((rf_read (h 323) (rf_nat s)).2)) := rfl
        exact am_ireti T dX12_read_52 rfl (Nat.le_refl _) (Nat.le_refl _) (by rw [K9]; exact A9.symm) rfl (by rw [K9]; exact rfl)
      · skip
        exact Bool.noConfusion q38
    · skip
      refine am_iconstN (pc := 29) (k := 1) C dX12_read_29 ?_
      refine am_goto (pc := 30) (tgt := 34) C dX12_read_30 (by decide) ?_
      refine am_top (show (nI 1) = (am_b true) from rfl) ?_
      refine am_iconstN (pc := 34) (k := 2) C dX12_read_34 ?_
      refine am_callVi (Y := mX12_throwsIf) (pc := 35) (st := []) (As := [.int (am_b true), .int (nI 2)]) (x := (am_b true)) (h2 := (am_row (am_row h 322 (upd (h 322) 0 (nI 0))) 322 (bif true then upd (upd (h 322) 0 (nI 0)) 0 (nI 2) else (upd (h 322) 0 (nI 0))))) C dX12_read_35 k12_269 v_X12_throwsIf rfl rfl bn_322 sh_322 ⟨by decide, rfl⟩ (by decide) (Nat.zero_le _) (Nat.zero_le _) (Nat.le_of_ble_eq_true rfl) (c_X12_throwsIf hR true (nI 2)) ?_
      refine am_hp (show (am_row (am_row h 322 (upd (h 322) 0 (nI 0))) 322 (bif true then upd (upd (h 322) 0 (nI 0)) 0 (nI 2) else (upd (h 322) 0 (nI 0)))) = (am_row h 322 (bif true then upd (upd (h 322) 0 (nI 0)) 0 (nI 2) else (upd (h 322) 0 (nI 0)))) from am_row_s0) ?_
      refine am_hp (show (am_row h 322 (bif true then upd (upd (h 322) 0 (nI 0)) 0 (nI 2) else (upd (h 322) 0 (nI 0)))) = (am_row h 322 (upd (upd (h 322) 0 (nI 0)) 0 (nI 2))) from rfl) ?_
      refine am_if_eqB (pc := 38) (tgt := 43) C dX12_read_38 (by decide) (fun q38 => ?_) (fun q38 => ?_)
      · skip
        exact Bool.noConfusion q38
      · skip
        refine am_iconstN (pc := 41) (k := 0) C dX12_read_41 ?_
        have K9 : rf_c_read (h 323) s = 2 := (by unfold rf_c_read; exact ((rf_cb_f q15).trans (rf_cb_t (decide_eq_true q26))))
        exact am_ireti T dX12_read_42 rfl (Nat.le_refl _) (Nat.le_refl _) (by rw [K9]; rfl) rfl (by rw [K9]; exact (congrArg (am_row _ 322) rf_upd_upd).trans (am_hA2 (by decide) (by decide) (by decide)).symm)

set_option maxHeartbeats 400000 in
set_option maxRecDepth 100000 in
theorem c_X12_field {ad : Nat → Nat} {r : am_R} (hR : am_rs r) {h : am_H} (k : Int32) (what : Int32) (hV : rf_I (h 323))  : am_CM mX12_field 1 0 0 [.ref 322, .int k, .int what] (am_VV ad) r h (am_po (some (.int (rf_ga (rf_c_field (h 323) k what) (rf_a_field (h 323) k what)))) r (am_row h 322 (rf_oc (h 322) (rf_c_field (h 323) k what)))) := by
  refine am_CM.of (by decide +kernel) (Nat.le_of_ble_eq_true rfl) (fun X C T => ?_)
  show am_G X (am_VV ad) (0, 0) 0 [(0, .ref 322), (1, .int k), (2, .int what)] [] r h
  have hM9 : rf_M (h 323) < 17 := hV.1.1.2
  have hS9 : rf_S (h 323) < 11 := hV.1.2.1.2
  have hO9 : rf_O (h 323) < 11 := hV.1.2.2.2
  have hF9 : rf_F (h 323) < 41 := hV.2.2.2.2.1.2.2.1.2
  have hF6 : (h 323) 6 = nI (rf_F (h 323)) := hV.2.2.2.2.1.2.2.1.1
  refine am_aload_n (pc := 0) C dX12_field_0 rfl ?_
  refine am_iconstN (pc := 1) (k := 0) C dX12_field_1 ?_
  refine am_putI (pc := 2) C dX12_field_2 f12_3 bn_322 sh_322 rfl rfl ?_
  refine am_hp (show am_up h 322 0 (nI 0) = am_row h 322 (upd (h 322) 0 (nI 0)) from am_up_rw _ _ _ _) ?_
  refine am_aload_n (pc := 5) C dX12_field_5 rfl ?_
  refine am_iload_n (pc := 6) C dX12_field_6 rfl ?_
  refine am_iconstN (pc := 7) (k := 0) C dX12_field_7 ?_
  refine am_aload_n (pc := 8) C dX12_field_8 rfl ?_
  refine am_getR (pc := 9) (j := 323) C dX12_field_9 f12_13 bn_322 sh_322 (rf_322_1 hR) ?_
  refine am_bipush (pc := 12) (v := nI 6) C dX12_field_12 (by decide) ?_
  refine am_iaload (pc := 14) C dX12_field_14 bn_323 sh_323 (vp_in_nI (by omega) (by decide)) ?_
  refine am_top (show (h 323) (nI 6).toNatClampNeg = (h 323) 6 from by rw [nI_clamp (by omega)]) ?_
  refine am_top (show ((h 323) 6) = (nI (rf_F (h 323))) from hF6) ?_
  refine am_iconstN (pc := 15) (k := 1) C dX12_field_15 ?_
  refine am_isub (pc := 16) C dX12_field_16 ?_
  refine am_callSi (Y := mX12_in) (pc := 17) (st := [.ref 322]) (As := [.int k, .int (nI 0), .int ((nI (rf_F (h 323))) - (nI 1))]) (x := (am_b (rf_in k (nI 0) ((nI (rf_F (h 323))) - (nI 1))))) (h2 := (am_row h 322 (upd (h 322) 0 (nI 0)))) C dX12_field_17 k12_71 v_X12_in rfl rfl (by decide) (Nat.zero_le _) (Nat.zero_le _) (Nat.le_of_ble_eq_true rfl) (c_X12_in hR k (nI 0) ((nI (rf_F (h 323))) - (nI 1))) ?_
  refine am_top (show (am_b (rf_in k (nI 0) ((nI (rf_F (h 323))) - (nI 1)))) = (am_b (rf_okN k (rf_F (h 323)))) from rfl) ?_
  refine am_if_neB (pc := 20) (tgt := 27) C dX12_field_20 (by decide) (fun q20 => ?_) (fun q20 => ?_)
  · skip
    refine am_iconstN (pc := 27) (k := 0) C dX12_field_27 ?_
    refine am_top (show (nI 0) = (am_b false) from rfl) ?_
    refine am_iconstN (pc := 28) (k := 1) C dX12_field_28 ?_
    refine am_callVi (Y := mX12_throwsIf) (pc := 29) (st := []) (As := [.int (am_b false), .int (nI 1)]) (x := (am_b false)) (h2 := (am_row (am_row h 322 (upd (h 322) 0 (nI 0))) 322 (bif false then upd (upd (h 322) 0 (nI 0)) 0 (nI 1) else (upd (h 322) 0 (nI 0))))) C dX12_field_29 k12_269 v_X12_throwsIf rfl rfl bn_322 sh_322 ⟨by decide, rfl⟩ (by decide) (Nat.zero_le _) (Nat.zero_le _) (Nat.le_of_ble_eq_true rfl) (c_X12_throwsIf hR false (nI 1)) ?_
    refine am_hp (show (am_row (am_row h 322 (upd (h 322) 0 (nI 0))) 322 (bif false then upd (upd (h 322) 0 (nI 0)) 0 (nI 1) else (upd (h 322) 0 (nI 0)))) = (am_row h 322 (bif false then upd (upd (h 322) 0 (nI 0)) 0 (nI 1) else (upd (h 322) 0 (nI 0)))) from am_row_s0) ?_
    refine am_hp (show (am_row h 322 (bif false then upd (upd (h 322) 0 (nI 0)) 0 (nI 1) else (upd (h 322) 0 (nI 0)))) = (am_row h 322 (upd (h 322) 0 (nI 0))) from rfl) ?_
    refine am_if_neB (pc := 32) (tgt := 57) C dX12_field_32 (by decide) (fun q32 => ?_) (fun q32 => ?_)
    · skip
      exact Bool.noConfusion q32
    · skip
      refine am_aload_n (pc := 35) C dX12_field_35 rfl ?_
      refine am_iload_n (pc := 36) C dX12_field_36 rfl ?_
      refine am_iconstN (pc := 37) (k := 0) C dX12_field_37 ?_
      refine am_iconstN (pc := 38) (k := 2) C dX12_field_38 ?_
      refine am_callSi (Y := mX12_in) (pc := 39) (st := [.ref 322]) (As := [.int what, .int (nI 0), .int (nI 2)]) (x := (am_b (rf_in what (nI 0) (nI 2)))) (h2 := (am_row h 322 (upd (h 322) 0 (nI 0)))) C dX12_field_39 k12_71 v_X12_in rfl rfl (by decide) (Nat.zero_le _) (Nat.zero_le _) (Nat.le_of_ble_eq_true rfl) (c_X12_in hR what (nI 0) (nI 2)) ?_
      refine am_if_neB (pc := 42) (tgt := 49) C dX12_field_42 (by decide) (fun q42 => ?_) (fun q42 => ?_)
      · skip
        refine am_iconstN (pc := 49) (k := 0) C dX12_field_49 ?_
        refine am_top (show (nI 0) = (am_b false) from rfl) ?_
        refine am_iconstN (pc := 50) (k := 2) C dX12_field_50 ?_
        refine am_callVi (Y := mX12_throwsIf) (pc := 51) (st := []) (As := [.int (am_b false), .int (nI 2)]) (x := (am_b false)) (h2 := (am_row (am_row h 322 (upd (h 322) 0 (nI 0))) 322 (bif false then upd (upd (h 322) 0 (nI 0)) 0 (nI 2) else (upd (h 322) 0 (nI 0))))) C dX12_field_51 k12_269 v_X12_throwsIf rfl rfl bn_322 sh_322 ⟨by decide, rfl⟩ (by decide) (Nat.zero_le _) (Nat.zero_le _) (Nat.le_of_ble_eq_true rfl) (c_X12_throwsIf hR false (nI 2)) ?_
        refine am_hp (show (am_row (am_row h 322 (upd (h 322) 0 (nI 0))) 322 (bif false then upd (upd (h 322) 0 (nI 0)) 0 (nI 2) else (upd (h 322) 0 (nI 0)))) = (am_row h 322 (bif false then upd (upd (h 322) 0 (nI 0)) 0 (nI 2) else (upd (h 322) 0 (nI 0)))) from am_row_s0) ?_
        refine am_hp (show (am_row h 322 (bif false then upd (upd (h 322) 0 (nI 0)) 0 (nI 2) else (upd (h 322) 0 (nI 0)))) = (am_row h 322 (upd (h 322) 0 (nI 0))) from rfl) ?_
        refine am_if_eqB (pc := 54) (tgt := 61) C dX12_field_54 (by decide) (fun q54 => ?_) (fun q54 => ?_)
        · skip
          have K9 : rf_c_field (h 323) k what = 0 := by unfold rf_c_field; exact ((rf_cb_nf q20).trans (rf_cb_nf q42))
          have hk := rf_okN_n (by omega) q20
          have hk2 := hk.2
          have hq := rf_in_n0 (by decide) q42
          have hq2 := hq.2
          refine am_lsv (ls' := [(0, .ref 322), (1, .int (nI (rf_nat k))), (2, .int what)]) (congrArg (fun z9 : Int32 => ([(0, .ref 322), (1, Value.int z9), (2, .int what)] : List (Nat × Value))) (show k = (nI (rf_nat k)) from hk.1)) ?_
          refine am_lsv (ls' := [(0, .ref 322), (1, .int (nI (rf_nat k))), (2, .int (nI (rf_nat what)))]) (congrArg (fun z9 : Int32 => ([(0, .ref 322), (1, .int (nI (rf_nat k))), (2, Value.int z9)] : List (Nat × Value))) (show what = (nI (rf_nat what)) from hq.1)) ?_
          refine am_aload_n (pc := 61) C dX12_field_61 rfl ?_
          refine am_iload_n (pc := 62) C dX12_field_62 rfl ?_
          refine am_iload_n (pc := 63) C dX12_field_63 rfl ?_
          refine am_callVi (Y := mX12_ofField) (pc := 64) (st := []) (As := [.int (nI (rf_nat k)), .int (nI (rf_nat what))]) (x := (rf_fld (h 323) (rf_nat k) (rf_nat what))) (h2 := (am_row h 322 (upd (h 322) 0 (nI 0)))) C dX12_field_64 k12_301 v_X12_ofField rfl rfl bn_322 sh_322 ⟨by decide, rfl⟩ (by decide) (Nat.zero_le _) (Nat.zero_le _) (Nat.le_of_ble_eq_true rfl) (c_X12_ofField hR (rf_nat k) (rf_nat what) (show (rf_nat k) < 40 from by omega) (show (rf_nat what) < 3 from by omega)) ?_
          have A9 : rf_a_field (h 323) k what = (rf_fld (h 323) (rf_nat k) (rf_nat what)) := rfl
          exact am_ireti T dX12_field_67 rfl (Nat.le_refl _) (Nat.le_refl _) (by rw [K9]; exact A9.symm) rfl (by rw [K9]; exact rfl)
        · skip
          exact Bool.noConfusion q54
      · skip
        refine am_iconstN (pc := 45) (k := 1) C dX12_field_45 ?_
        refine am_goto (pc := 46) (tgt := 50) C dX12_field_46 (by decide) ?_
        refine am_top (show (nI 1) = (am_b true) from rfl) ?_
        refine am_iconstN (pc := 50) (k := 2) C dX12_field_50 ?_
        refine am_callVi (Y := mX12_throwsIf) (pc := 51) (st := []) (As := [.int (am_b true), .int (nI 2)]) (x := (am_b true)) (h2 := (am_row (am_row h 322 (upd (h 322) 0 (nI 0))) 322 (bif true then upd (upd (h 322) 0 (nI 0)) 0 (nI 2) else (upd (h 322) 0 (nI 0))))) C dX12_field_51 k12_269 v_X12_throwsIf rfl rfl bn_322 sh_322 ⟨by decide, rfl⟩ (by decide) (Nat.zero_le _) (Nat.zero_le _) (Nat.le_of_ble_eq_true rfl) (c_X12_throwsIf hR true (nI 2)) ?_
        refine am_hp (show (am_row (am_row h 322 (upd (h 322) 0 (nI 0))) 322 (bif true then upd (upd (h 322) 0 (nI 0)) 0 (nI 2) else (upd (h 322) 0 (nI 0)))) = (am_row h 322 (bif true then upd (upd (h 322) 0 (nI 0)) 0 (nI 2) else (upd (h 322) 0 (nI 0)))) from am_row_s0) ?_
        refine am_hp (show (am_row h 322 (bif true then upd (upd (h 322) 0 (nI 0)) 0 (nI 2) else (upd (h 322) 0 (nI 0)))) = (am_row h 322 (upd (upd (h 322) 0 (nI 0)) 0 (nI 2))) from rfl) ?_
        refine am_if_eqB (pc := 54) (tgt := 61) C dX12_field_54 (by decide) (fun q54 => ?_) (fun q54 => ?_)
        · skip
          exact Bool.noConfusion q54
        · skip
          refine am_iconstN (pc := 57) (k := 0) C dX12_field_57 ?_
          refine am_goto (pc := 58) (tgt := 67) C dX12_field_58 (by decide) ?_
          have K9 : rf_c_field (h 323) k what = 2 := (by unfold rf_c_field; exact ((rf_cb_nf q20).trans (rf_cb_nt q42)))
          exact am_ireti T dX12_field_67 rfl (Nat.le_refl _) (Nat.le_refl _) (by rw [K9]; rfl) rfl (by rw [K9]; exact congrArg (am_row _ 322) rf_upd_upd)
  · skip
    refine am_iconstN (pc := 23) (k := 1) C dX12_field_23 ?_
    refine am_goto (pc := 24) (tgt := 28) C dX12_field_24 (by decide) ?_
    refine am_top (show (nI 1) = (am_b true) from rfl) ?_
    refine am_iconstN (pc := 28) (k := 1) C dX12_field_28 ?_
    refine am_callVi (Y := mX12_throwsIf) (pc := 29) (st := []) (As := [.int (am_b true), .int (nI 1)]) (x := (am_b true)) (h2 := (am_row (am_row h 322 (upd (h 322) 0 (nI 0))) 322 (bif true then upd (upd (h 322) 0 (nI 0)) 0 (nI 1) else (upd (h 322) 0 (nI 0))))) C dX12_field_29 k12_269 v_X12_throwsIf rfl rfl bn_322 sh_322 ⟨by decide, rfl⟩ (by decide) (Nat.zero_le _) (Nat.zero_le _) (Nat.le_of_ble_eq_true rfl) (c_X12_throwsIf hR true (nI 1)) ?_
    refine am_hp (show (am_row (am_row h 322 (upd (h 322) 0 (nI 0))) 322 (bif true then upd (upd (h 322) 0 (nI 0)) 0 (nI 1) else (upd (h 322) 0 (nI 0)))) = (am_row h 322 (bif true then upd (upd (h 322) 0 (nI 0)) 0 (nI 1) else (upd (h 322) 0 (nI 0)))) from am_row_s0) ?_
    refine am_hp (show (am_row h 322 (bif true then upd (upd (h 322) 0 (nI 0)) 0 (nI 1) else (upd (h 322) 0 (nI 0)))) = (am_row h 322 (upd (upd (h 322) 0 (nI 0)) 0 (nI 1))) from rfl) ?_
    refine am_if_neB (pc := 32) (tgt := 57) C dX12_field_32 (by decide) (fun q32 => ?_) (fun q32 => ?_)
    · skip
      refine am_iconstN (pc := 57) (k := 0) C dX12_field_57 ?_
      refine am_goto (pc := 58) (tgt := 67) C dX12_field_58 (by decide) ?_
      have K9 : rf_c_field (h 323) k what = 1 := (by unfold rf_c_field; exact (rf_cb_nt q20))
      exact am_ireti T dX12_field_67 rfl (Nat.le_refl _) (Nat.le_refl _) (by rw [K9]; rfl) rfl (by rw [K9]; exact congrArg (am_row _ 322) rf_upd_upd)
    · skip
      exact Bool.noConfusion q32

set_option maxHeartbeats 400000 in
set_option maxRecDepth 100000 in
theorem c_X12_plan {ad : Nat → Nat} {r : am_R} (hR : am_rs r) {h : am_H} (d : Int32) (lost : Bool) (hV : rf_I (h 323))  : am_CM mX12_plan 7 0 0 [.ref 322, .int d, .int (am_b lost)] (am_VV ad) r h (am_po (some (.int (rf_ga (rf_c_plan (h 323) d lost) (rf_a_plan (h 323) d lost)))) r (am_row h 322 (rf_oc (h 322) (rf_c_plan (h 323) d lost)))) := by
  refine am_CM.of (by decide +kernel) (Nat.le_of_ble_eq_true rfl) (fun X C T => ?_)
  show am_G X (am_VV ad) (0, 0) 0 [(0, .ref 322), (1, .int d), (2, .int (am_b lost))] [] r h
  have hM9 : rf_M (h 323) < 17 := hV.1.1.2
  have hS9 : rf_S (h 323) < 11 := hV.1.2.1.2
  have hO9 : rf_O (h 323) < 11 := hV.1.2.2.2
  refine am_aload_n (pc := 0) C dX12_plan_0 rfl ?_
  refine am_iconstN (pc := 1) (k := 0) C dX12_plan_1 ?_
  refine am_putI (pc := 2) C dX12_plan_2 f12_3 bn_322 sh_322 rfl rfl ?_
  refine am_hp (show am_up h 322 0 (nI 0) = am_row h 322 (upd (h 322) 0 (nI 0)) from am_up_rw _ _ _ _) ?_
  refine am_aload_n (pc := 5) C dX12_plan_5 rfl ?_
  refine am_iload_n (pc := 6) C dX12_plan_6 rfl ?_
  refine am_callSi (Y := mX12_noSide) (pc := 7) (st := [.ref 322]) (As := [.int d]) (x := (am_b (!rf_in d (nI 0) (nI 1)))) (h2 := (am_row h 322 (upd (h 322) 0 (nI 0)))) C dX12_plan_7 k12_393 v_X12_noSide rfl rfl (by decide) (Nat.zero_le _) (Nat.zero_le _) (Nat.le_of_ble_eq_true rfl) (c_X12_noSide hR d) ?_
  refine am_iconstN (pc := 10) (k := 1) C dX12_plan_10 ?_
  refine am_callVi (Y := mX12_throwsIf) (pc := 11) (st := []) (As := [.int (am_b (!rf_in d (nI 0) (nI 1))), .int (nI 1)]) (x := (am_b (!rf_in d (nI 0) (nI 1)))) (h2 := (am_row (am_row h 322 (upd (h 322) 0 (nI 0))) 322 (bif (!rf_in d (nI 0) (nI 1)) then upd (upd (h 322) 0 (nI 0)) 0 (nI 1) else (upd (h 322) 0 (nI 0))))) C dX12_plan_11 k12_269 v_X12_throwsIf rfl rfl bn_322 sh_322 ⟨by decide, rfl⟩ (by decide) (Nat.zero_le _) (Nat.zero_le _) (Nat.le_of_ble_eq_true rfl) (c_X12_throwsIf hR (!rf_in d (nI 0) (nI 1)) (nI 1)) ?_
  refine am_hp (show (am_row (am_row h 322 (upd (h 322) 0 (nI 0))) 322 (bif (!rf_in d (nI 0) (nI 1)) then upd (upd (h 322) 0 (nI 0)) 0 (nI 1) else (upd (h 322) 0 (nI 0)))) = (am_row h 322 (bif (!rf_in d (nI 0) (nI 1)) then upd (upd (h 322) 0 (nI 0)) 0 (nI 1) else (upd (h 322) 0 (nI 0)))) from am_row_s0) ?_
  refine am_if_eqB (pc := 14) (tgt := 19) C dX12_plan_14 (by decide) (fun q14 => ?_) (fun q14 => ?_)
  · skip
    refine am_hp (show (am_row h 322 (bif (!rf_in d (nI 0) (nI 1)) then upd (upd (h 322) 0 (nI 0)) 0 (nI 1) else (upd (h 322) 0 (nI 0)))) = (am_row h 322 (upd (h 322) 0 (nI 0))) from by rw [q14]; rfl) ?_
    have K9 : rf_c_plan (h 323) d lost = 0 := by unfold rf_c_plan; exact (rf_cb_f q14)
    have hd := rf_side_q q14
    have hd2 := hd.2
    refine am_lsv (ls' := [(0, .ref 322), (1, .int (nI (rf_nat d))), (2, .int (am_b lost))]) (congrArg (fun z9 : Int32 => ([(0, .ref 322), (1, Value.int z9), (2, .int (am_b lost))] : List (Nat × Value))) (show d = (nI (rf_nat d)) from hd.1)) ?_
    refine am_iload_n (pc := 19) C dX12_plan_19 rfl ?_
    refine am_if_eqB (pc := 20) (tgt := 31) C dX12_plan_20 (by decide) (fun q20 => ?_) (fun q20 => ?_)
    · skip
      refine am_aload_n (pc := 31) C dX12_plan_31 rfl ?_
      refine am_getR (pc := 32) (j := 323) C dX12_plan_32 f12_13 bn_322 sh_322 (rf_322_1 hR) ?_
      refine am_bipush (pc := 35) (v := nI 11) C dX12_plan_35 (by decide) ?_
      refine am_iload_n (pc := 37) C dX12_plan_37 rfl ?_
      refine am_iaddN (pc := 38) C dX12_plan_38 ?_
      refine am_iaload (pc := 39) C dX12_plan_39 bn_323 sh_323 (vp_in_nI (by omega) (by decide)) ?_
      refine am_top (show (h 323) (nI (11 + (rf_nat d))).toNatClampNeg = (h 323) (11 + (rf_nat d)) from by rw [nI_clamp (by omega)]) ?_
      have A9 : rf_a_plan (h 323) d lost = ((h 323) (11 + (rf_nat d))) := (by rw [rf_a_plan, q20]; rfl)
      exact am_ireti T dX12_plan_40 rfl (Nat.le_refl _) (Nat.le_refl _) (by rw [K9]; exact A9.symm) rfl (by rw [K9]; exact rfl)
    · skip
      refine am_aload_n (pc := 23) C dX12_plan_23 rfl ?_
      refine am_iload_n (pc := 24) C dX12_plan_24 rfl ?_
      refine am_callVi (Y := mX12_lostOf) (pc := 25) (st := []) (As := [.int (nI (rf_nat d))]) (x := (rf_lostOf (h 323) (rf_nat d))) (h2 := (am_row h 322 (upd (h 322) 0 (nI 0)))) C dX12_plan_25 k12_396 v_X12_lostOf rfl rfl bn_322 sh_322 ⟨by decide, rfl⟩ (by decide) (Nat.zero_le _) (Nat.zero_le _) (Nat.le_of_ble_eq_true rfl) (c_X12_lostOf hR (rf_nat d) hV (show (rf_nat d) < 2 from by omega)) ?_
      refine am_goto (pc := 28) (tgt := 40) C dX12_plan_28 (by decide) ?_
      have A9 : rf_a_plan (h 323) d lost = (rf_lostOf (h 323) (rf_nat d)) := (by rw [rf_a_plan, q20]; rfl)
      exact am_ireti T dX12_plan_40 rfl (Nat.le_refl _) (Nat.le_refl _) (by rw [K9]; exact A9.symm) rfl (by rw [K9]; exact rfl)
  · skip
    refine am_hp (show (am_row h 322 (bif (!rf_in d (nI 0) (nI 1)) then upd (upd (h 322) 0 (nI 0)) 0 (nI 1) else (upd (h 322) 0 (nI 0)))) = (am_row h 322 (upd (upd (h 322) 0 (nI 0)) 0 (nI 1))) from by rw [q14]; rfl) ?_
    refine am_iconstN (pc := 17) (k := 0) C dX12_plan_17 ?_
    have K9 : rf_c_plan (h 323) d lost = 1 := (by unfold rf_c_plan; exact (rf_cb_t q14))
    exact am_ireti T dX12_plan_18 rfl (Nat.le_refl _) (Nat.le_refl _) (by rw [K9]; rfl) rfl (by rw [K9]; exact congrArg (am_row _ 322) rf_upd_upd)

set_option maxHeartbeats 400000 in
set_option maxRecDepth 100000 in
theorem c_X12_shots {ad : Nat → Nat} {r : am_R} (hR : am_rs r) {h : am_H} (s : Int32) (m : Int32) (good : Bool) (hV : rf_I (h 323))  : am_CM mX12_shots 5 0 0 [.ref 322, .int s, .int m, .int (am_b good)] (am_VV ad) r h (am_po (some (.int (rf_ga (rf_c_shots (h 323) s m good) (rf_a_shots (h 323) s m good)))) r (am_row h 322 (rf_oc (h 322) (rf_c_shots (h 323) s m good)))) := by
  refine am_CM.of (by decide +kernel) (Nat.le_of_ble_eq_true rfl) (fun X C T => ?_)
  show am_G X (am_VV ad) (0, 0) 0 [(0, .ref 322), (1, .int s), (2, .int m), (3, .int (am_b good))] [] r h
  have hM9 : rf_M (h 323) < 17 := hV.1.1.2
  have hS9 : rf_S (h 323) < 11 := hV.1.2.1.2
  have hO9 : rf_O (h 323) < 11 := hV.1.2.2.2
  refine am_aload_n (pc := 0) C dX12_shots_0 rfl ?_
  refine am_iconstN (pc := 1) (k := 0) C dX12_shots_1 ?_
  refine am_putI (pc := 2) C dX12_shots_2 f12_3 bn_322 sh_322 rfl rfl ?_
  refine am_hp (show am_up h 322 0 (nI 0) = am_row h 322 (upd (h 322) 0 (nI 0)) from am_up_rw _ _ _ _) ?_
  refine am_aload_n (pc := 5) C dX12_shots_5 rfl ?_
  refine am_aload_n (pc := 6) C dX12_shots_6 rfl ?_
  refine am_iload_n (pc := 7) C dX12_shots_7 rfl ?_
  refine am_callVi (Y := mX12_noSoldier) (pc := 8) (st := [.ref 322]) (As := [.int s]) (x := (am_b (!rf_okN s (rf_S (h 323))))) (h2 := (am_row h 322 (upd (h 322) 0 (nI 0)))) C dX12_shots_8 k12_322 v_X12_noSoldier rfl rfl bn_322 sh_322 ⟨by decide, rfl⟩ (by decide) (Nat.zero_le _) (Nat.zero_le _) (Nat.le_of_ble_eq_true rfl) (c_X12_noSoldier hR s (show rf_Cn (h 323) from hV.1)) ?_
  refine am_if_neB (pc := 11) (tgt := 22) C dX12_shots_11 (by decide) (fun q11 => ?_) (fun q11 => ?_)
  · skip
    refine am_iconstN (pc := 22) (k := 1) C dX12_shots_22 ?_
    refine am_goto (pc := 23) (tgt := 27) C dX12_shots_23 (by decide) ?_
    refine am_top (show (nI 1) = (am_b true) from rfl) ?_
    refine am_iconstN (pc := 27) (k := 1) C dX12_shots_27 ?_
    refine am_callVi (Y := mX12_throwsIf) (pc := 28) (st := []) (As := [.int (am_b true), .int (nI 1)]) (x := (am_b true)) (h2 := (am_row (am_row h 322 (upd (h 322) 0 (nI 0))) 322 (bif true then upd (upd (h 322) 0 (nI 0)) 0 (nI 1) else (upd (h 322) 0 (nI 0))))) C dX12_shots_28 k12_269 v_X12_throwsIf rfl rfl bn_322 sh_322 ⟨by decide, rfl⟩ (by decide) (Nat.zero_le _) (Nat.zero_le _) (Nat.le_of_ble_eq_true rfl) (c_X12_throwsIf hR true (nI 1)) ?_
    refine am_hp (show (am_row (am_row h 322 (upd (h 322) 0 (nI 0))) 322 (bif true then upd (upd (h 322) 0 (nI 0)) 0 (nI 1) else (upd (h 322) 0 (nI 0)))) = (am_row h 322 (bif true then upd (upd (h 322) 0 (nI 0)) 0 (nI 1) else (upd (h 322) 0 (nI 0)))) from am_row_s0) ?_
    refine am_hp (show (am_row h 322 (bif true then upd (upd (h 322) 0 (nI 0)) 0 (nI 1) else (upd (h 322) 0 (nI 0)))) = (am_row h 322 (upd (upd (h 322) 0 (nI 0)) 0 (nI 1))) from rfl) ?_
    refine am_if_eqB (pc := 31) (tgt := 38) C dX12_shots_31 (by decide) (fun q31 => ?_) (fun q31 => ?_)
    · skip
      exact Bool.noConfusion q31
    · skip
      refine am_iconstN (pc := 34) (k := 0) C dX12_shots_34 ?_
      refine am_goto (pc := 35) (tgt := 45) C dX12_shots_35 (by decide) ?_
      have K9 : rf_c_shots (h 323) s m good = 1 := (by unfold rf_c_shots; exact (rf_cb_t q11))
      exact am_ireti T dX12_shots_45 rfl (Nat.le_refl _) (Nat.le_refl _) (by rw [K9]; rfl) rfl (by rw [K9]; exact congrArg (am_row _ 322) rf_upd_upd)
  · skip
    refine am_aload_n (pc := 14) C dX12_shots_14 rfl ?_
    refine am_iload_n (pc := 15) C dX12_shots_15 rfl ?_
    refine am_callVi (Y := mX12_noMemory) (pc := 16) (st := [.ref 322]) (As := [.int m]) (x := (am_b (!rf_okN m (rf_M (h 323))))) (h2 := (am_row h 322 (upd (h 322) 0 (nI 0)))) C dX12_shots_16 k12_304 v_X12_noMemory rfl rfl bn_322 sh_322 ⟨by decide, rfl⟩ (by decide) (Nat.zero_le _) (Nat.zero_le _) (Nat.le_of_ble_eq_true rfl) (c_X12_noMemory hR m (show rf_Cn (h 323) from hV.1)) ?_
    refine am_if_eqB (pc := 19) (tgt := 26) C dX12_shots_19 (by decide) (fun q19 => ?_) (fun q19 => ?_)
    · skip
      refine am_iconstN (pc := 26) (k := 0) C dX12_shots_26 ?_
      refine am_top (show (nI 0) = (am_b false) from rfl) ?_
      refine am_iconstN (pc := 27) (k := 1) C dX12_shots_27 ?_
      refine am_callVi (Y := mX12_throwsIf) (pc := 28) (st := []) (As := [.int (am_b false), .int (nI 1)]) (x := (am_b false)) (h2 := (am_row (am_row h 322 (upd (h 322) 0 (nI 0))) 322 (bif false then upd (upd (h 322) 0 (nI 0)) 0 (nI 1) else (upd (h 322) 0 (nI 0))))) C dX12_shots_28 k12_269 v_X12_throwsIf rfl rfl bn_322 sh_322 ⟨by decide, rfl⟩ (by decide) (Nat.zero_le _) (Nat.zero_le _) (Nat.le_of_ble_eq_true rfl) (c_X12_throwsIf hR false (nI 1)) ?_
      refine am_hp (show (am_row (am_row h 322 (upd (h 322) 0 (nI 0))) 322 (bif false then upd (upd (h 322) 0 (nI 0)) 0 (nI 1) else (upd (h 322) 0 (nI 0)))) = (am_row h 322 (bif false then upd (upd (h 322) 0 (nI 0)) 0 (nI 1) else (upd (h 322) 0 (nI 0)))) from am_row_s0) ?_
      refine am_hp (show (am_row h 322 (bif false then upd (upd (h 322) 0 (nI 0)) 0 (nI 1) else (upd (h 322) 0 (nI 0)))) = (am_row h 322 (upd (h 322) 0 (nI 0))) from rfl) ?_
      refine am_if_eqB (pc := 31) (tgt := 38) C dX12_shots_31 (by decide) (fun q31 => ?_) (fun q31 => ?_)
      · skip
        have K9 : rf_c_shots (h 323) s m good = 0 := by unfold rf_c_shots; exact ((rf_cb_f q11).trans (rf_cb_f q19))
        have hs := rf_okN_q (by omega) q11
        have hs2 := hs.2
        have hm := rf_okN_q (by omega) q19
        have hm2 := hm.2
        refine am_lsv (ls' := [(0, .ref 322), (1, .int (nI (rf_nat s))), (2, .int m), (3, .int (am_b good))]) (congrArg (fun z9 : Int32 => ([(0, .ref 322), (1, Value.int z9), (2, .int m), (3, .int (am_b good))] : List (Nat × Value))) (show s = (nI (rf_nat s)) from hs.1)) ?_
        refine am_lsv (ls' := [(0, .ref 322), (1, .int (nI (rf_nat s))), (2, .int (nI (rf_nat m))), (3, .int (am_b good))]) (congrArg (fun z9 : Int32 => ([(0, .ref 322), (1, .int (nI (rf_nat s))), (2, Value.int z9), (3, .int (am_b good))] : List (Nat × Value))) (show m = (nI (rf_nat m)) from hm.1)) ?_
        refine am_aload_n (pc := 38) C dX12_shots_38 rfl ?_
        refine am_iload_n (pc := 39) C dX12_shots_39 rfl ?_
        refine am_iload_n (pc := 40) C dX12_shots_40 rfl ?_
        refine am_iload_n (pc := 41) C dX12_shots_41 rfl ?_
        refine am_callVi (Y := mX12_shotsAt) (pc := 42) (st := []) (As := [.int (nI (rf_nat s)), .int (nI (rf_nat m)), .int (am_b good)]) (x := (nI (rf_shots (h 323) (rf_nat s) (rf_nat m) good))) (h2 := (am_row h 322 (upd (h 322) 0 (nI 0)))) C dX12_shots_42 k12_399 v_X12_shotsAt rfl rfl bn_322 sh_322 ⟨by decide, rfl⟩ (by decide) (Nat.zero_le _) (Nat.zero_le _) (Nat.le_of_ble_eq_true rfl) (c_X12_shotsAt hR (rf_nat s) (rf_nat m) good hV (show (rf_nat s) < rf_S (h 323) from by omega) (show (rf_nat m) < 32 from by omega)) ?_
        have A9 : rf_a_shots (h 323) s m good = (nI (rf_shots (h 323) (rf_nat s) (rf_nat m) good)) := rfl
        exact am_ireti T dX12_shots_45 rfl (Nat.le_refl _) (Nat.le_refl _) (by rw [K9]; exact A9.symm) rfl (by rw [K9]; exact rfl)
      · skip
        exact Bool.noConfusion q31
    · skip
      refine am_iconstN (pc := 22) (k := 1) C dX12_shots_22 ?_
      refine am_goto (pc := 23) (tgt := 27) C dX12_shots_23 (by decide) ?_
      refine am_top (show (nI 1) = (am_b true) from rfl) ?_
      refine am_iconstN (pc := 27) (k := 1) C dX12_shots_27 ?_
      refine am_callVi (Y := mX12_throwsIf) (pc := 28) (st := []) (As := [.int (am_b true), .int (nI 1)]) (x := (am_b true)) (h2 := (am_row (am_row h 322 (upd (h 322) 0 (nI 0))) 322 (bif true then upd (upd (h 322) 0 (nI 0)) 0 (nI 1) else (upd (h 322) 0 (nI 0))))) C dX12_shots_28 k12_269 v_X12_throwsIf rfl rfl bn_322 sh_322 ⟨by decide, rfl⟩ (by decide) (Nat.zero_le _) (Nat.zero_le _) (Nat.le_of_ble_eq_true rfl) (c_X12_throwsIf hR true (nI 1)) ?_
      refine am_hp (show (am_row (am_row h 322 (upd (h 322) 0 (nI 0))) 322 (bif true then upd (upd (h 322) 0 (nI 0)) 0 (nI 1) else (upd (h 322) 0 (nI 0)))) = (am_row h 322 (bif true then upd (upd (h 322) 0 (nI 0)) 0 (nI 1) else (upd (h 322) 0 (nI 0)))) from am_row_s0) ?_
      refine am_hp (show (am_row h 322 (bif true then upd (upd (h 322) 0 (nI 0)) 0 (nI 1) else (upd (h 322) 0 (nI 0)))) = (am_row h 322 (upd (upd (h 322) 0 (nI 0)) 0 (nI 1))) from rfl) ?_
      refine am_if_eqB (pc := 31) (tgt := 38) C dX12_shots_31 (by decide) (fun q31 => ?_) (fun q31 => ?_)
      · skip
        exact Bool.noConfusion q31
      · skip
        refine am_iconstN (pc := 34) (k := 0) C dX12_shots_34 ?_
        refine am_goto (pc := 35) (tgt := 45) C dX12_shots_35 (by decide) ?_
        have K9 : rf_c_shots (h 323) s m good = 1 := (by unfold rf_c_shots; exact ((rf_cb_f q11).trans (rf_cb_t q19)))
        exact am_ireti T dX12_shots_45 rfl (Nat.le_refl _) (Nat.le_refl _) (by rw [K9]; rfl) rfl (by rw [K9]; exact congrArg (am_row _ 322) rf_upd_upd)

set_option maxHeartbeats 400000 in
set_option maxRecDepth 100000 in
theorem c_X12_company {ad : Nat → Nat} {r : am_R} (hR : am_rs r) {h : am_H} (n : Int32) (hV : rf_I (h 323))  : am_CM mX12_company 3 0 0 [.ref 322, .int n] (am_VV ad) r h (am_po (some (.int (rf_ga (rf_c_company (h 323) n) (rf_a_company (h 323) n)))) r (am_row h 322 (rf_oc (h 322) (rf_c_company (h 323) n)))) := by
  refine am_CM.of (by decide +kernel) (Nat.le_of_ble_eq_true rfl) (fun X C T => ?_)
  show am_G X (am_VV ad) (0, 0) 0 [(0, .ref 322), (1, .int n)] [] r h
  have hM9 : rf_M (h 323) < 17 := hV.1.1.2
  have hS9 : rf_S (h 323) < 11 := hV.1.2.1.2
  have hO9 : rf_O (h 323) < 11 := hV.1.2.2.2
  refine am_aload_n (pc := 0) C dX12_company_0 rfl ?_
  refine am_iconstN (pc := 1) (k := 0) C dX12_company_1 ?_
  refine am_putI (pc := 2) C dX12_company_2 f12_3 bn_322 sh_322 rfl rfl ?_
  refine am_hp (show am_up h 322 0 (nI 0) = am_row h 322 (upd (h 322) 0 (nI 0)) from am_up_rw _ _ _ _) ?_
  refine am_aload_n (pc := 5) C dX12_company_5 rfl ?_
  refine am_iload_n (pc := 6) C dX12_company_6 rfl ?_
  refine am_iconstN (pc := 7) (k := 0) C dX12_company_7 ?_
  refine am_bipush (pc := 8) (v := nI 12) C dX12_company_8 (by decide) ?_
  refine am_callSi (Y := mX12_in) (pc := 10) (st := [.ref 322]) (As := [.int n, .int (nI 0), .int (nI 12)]) (x := (am_b (rf_in n (nI 0) (nI 12)))) (h2 := (am_row h 322 (upd (h 322) 0 (nI 0)))) C dX12_company_10 k12_71 v_X12_in rfl rfl (by decide) (Nat.zero_le _) (Nat.zero_le _) (Nat.le_of_ble_eq_true rfl) (c_X12_in hR n (nI 0) (nI 12)) ?_
  refine am_if_neB (pc := 13) (tgt := 20) C dX12_company_13 (by decide) (fun q13 => ?_) (fun q13 => ?_)
  · skip
    refine am_iconstN (pc := 20) (k := 0) C dX12_company_20 ?_
    refine am_top (show (nI 0) = (am_b false) from rfl) ?_
    refine am_iconstN (pc := 21) (k := 1) C dX12_company_21 ?_
    refine am_callVi (Y := mX12_throwsIf) (pc := 22) (st := []) (As := [.int (am_b false), .int (nI 1)]) (x := (am_b false)) (h2 := (am_row (am_row h 322 (upd (h 322) 0 (nI 0))) 322 (bif false then upd (upd (h 322) 0 (nI 0)) 0 (nI 1) else (upd (h 322) 0 (nI 0))))) C dX12_company_22 k12_269 v_X12_throwsIf rfl rfl bn_322 sh_322 ⟨by decide, rfl⟩ (by decide) (Nat.zero_le _) (Nat.zero_le _) (Nat.le_of_ble_eq_true rfl) (c_X12_throwsIf hR false (nI 1)) ?_
    refine am_hp (show (am_row (am_row h 322 (upd (h 322) 0 (nI 0))) 322 (bif false then upd (upd (h 322) 0 (nI 0)) 0 (nI 1) else (upd (h 322) 0 (nI 0)))) = (am_row h 322 (bif false then upd (upd (h 322) 0 (nI 0)) 0 (nI 1) else (upd (h 322) 0 (nI 0)))) from am_row_s0) ?_
    refine am_hp (show (am_row h 322 (bif false then upd (upd (h 322) 0 (nI 0)) 0 (nI 1) else (upd (h 322) 0 (nI 0)))) = (am_row h 322 (upd (h 322) 0 (nI 0))) from rfl) ?_
    refine am_if_eqB (pc := 25) (tgt := 32) C dX12_company_25 (by decide) (fun q25 => ?_) (fun q25 => ?_)
    · skip
      have K9 : rf_c_company (h 323) n = 0 := by unfold rf_c_company; exact (rf_cb_nf q13)
      have hn := rf_in_n0 (by decide) q13
      have hn2 := hn.2
      refine am_lsv (ls' := [(0, .ref 322), (1, .int (nI (rf_nat n)))]) (congrArg (fun z9 : Int32 => ([(0, .ref 322), (1, Value.int z9)] : List (Nat × Value))) (show n = (nI (rf_nat n)) from hn.1)) ?_
      refine am_aload_n (pc := 32) C dX12_company_32 rfl ?_
      refine am_iload_n (pc := 33) C dX12_company_33 rfl ?_
      refine am_callVi (Y := mX12_obeyed) (pc := 34) (st := []) (As := [.int (nI (rf_nat n))]) (x := (rf_obeyed (h 323) (rf_nat n))) (h2 := (am_row h 322 (upd (h 322) 0 (nI 0)))) C dX12_company_34 k12_328 v_X12_obeyed rfl rfl bn_322 sh_322 ⟨by decide, rfl⟩ (by decide) (Nat.zero_le _) (Nat.zero_le _) (Nat.le_of_ble_eq_true rfl) (c_X12_obeyed hR (rf_nat n) hV (show (rf_nat n) < 1000 from by omega)) ?_
      have A9 : rf_a_company (h 323) n = (rf_obeyed (h 323) (rf_nat n)) := rfl
      exact am_ireti T dX12_company_37 rfl (Nat.le_refl _) (Nat.le_refl _) (by rw [K9]; exact A9.symm) rfl (by rw [K9]; exact rfl)
    · skip
      exact Bool.noConfusion q25
  · skip
    refine am_iconstN (pc := 16) (k := 1) C dX12_company_16 ?_
    refine am_goto (pc := 17) (tgt := 21) C dX12_company_17 (by decide) ?_
    refine am_top (show (nI 1) = (am_b true) from rfl) ?_
    refine am_iconstN (pc := 21) (k := 1) C dX12_company_21 ?_
    refine am_callVi (Y := mX12_throwsIf) (pc := 22) (st := []) (As := [.int (am_b true), .int (nI 1)]) (x := (am_b true)) (h2 := (am_row (am_row h 322 (upd (h 322) 0 (nI 0))) 322 (bif true then upd (upd (h 322) 0 (nI 0)) 0 (nI 1) else (upd (h 322) 0 (nI 0))))) C dX12_company_22 k12_269 v_X12_throwsIf rfl rfl bn_322 sh_322 ⟨by decide, rfl⟩ (by decide) (Nat.zero_le _) (Nat.zero_le _) (Nat.le_of_ble_eq_true rfl) (c_X12_throwsIf hR true (nI 1)) ?_
    refine am_hp (show (am_row (am_row h 322 (upd (h 322) 0 (nI 0))) 322 (bif true then upd (upd (h 322) 0 (nI 0)) 0 (nI 1) else (upd (h 322) 0 (nI 0)))) = (am_row h 322 (bif true then upd (upd (h 322) 0 (nI 0)) 0 (nI 1) else (upd (h 322) 0 (nI 0)))) from am_row_s0) ?_
    refine am_hp (show (am_row h 322 (bif true then upd (upd (h 322) 0 (nI 0)) 0 (nI 1) else (upd (h 322) 0 (nI 0)))) = (am_row h 322 (upd (upd (h 322) 0 (nI 0)) 0 (nI 1))) from rfl) ?_
    refine am_if_eqB (pc := 25) (tgt := 32) C dX12_company_25 (by decide) (fun q25 => ?_) (fun q25 => ?_)
    · skip
      exact Bool.noConfusion q25
    · skip
      refine am_iconstN (pc := 28) (k := 0) C dX12_company_28 ?_
      refine am_goto (pc := 29) (tgt := 37) C dX12_company_29 (by decide) ?_
      have K9 : rf_c_company (h 323) n = 1 := (by unfold rf_c_company; exact (rf_cb_nt q13))
      exact am_ireti T dX12_company_37 rfl (Nat.le_refl _) (Nat.le_refl _) (by rw [K9]; rfl) rfl (by rw [K9]; exact congrArg (am_row _ 322) rf_upd_upd)

set_option maxHeartbeats 400000 in
set_option maxRecDepth 100000 in
theorem c_X12_agreed {ad : Nat → Nat} {r : am_R} (hR : am_rs r) {h : am_H}  (hV : rf_I (h 323))  : am_CM mX12_agreed 6 0 0 [.ref 322] (am_VV ad) r h (am_po (some (.int (rf_ga (rf_c_agreed (h 323) ) (rf_a_agreed (h 323) )))) r (am_row h 322 (rf_oc (h 322) (rf_c_agreed (h 323) )))) := by
  refine am_CM.of (by decide +kernel) (Nat.le_of_ble_eq_true rfl) (fun X C T => ?_)
  show am_G X (am_VV ad) (0, 0) 0 [(0, .ref 322)] [] r h
  have hM9 : rf_M (h 323) < 17 := hV.1.1.2
  have hS9 : rf_S (h 323) < 11 := hV.1.2.1.2
  have hO9 : rf_O (h 323) < 11 := hV.1.2.2.2
  refine am_aload_n (pc := 0) C dX12_agreed_0 rfl ?_
  refine am_iconstN (pc := 1) (k := 0) C dX12_agreed_1 ?_
  refine am_putI (pc := 2) C dX12_agreed_2 f12_3 bn_322 sh_322 rfl rfl ?_
  refine am_hp (show am_up h 322 0 (nI 0) = am_row h 322 (upd (h 322) 0 (nI 0)) from am_up_rw _ _ _ _) ?_
  have K9 : rf_c_agreed (h 323)  = 0 := rfl
  refine am_aload_n (pc := 5) C dX12_agreed_5 rfl ?_
  refine am_callVi (Y := mX12_agrees) (pc := 6) (st := []) (As := []) (x := (rf_agrees (h 323))) (h2 := (am_row h 322 (upd (h 322) 0 (nI 0)))) C dX12_agreed_6 k12_430 v_X12_agrees rfl rfl bn_322 sh_322 ⟨by decide, rfl⟩ (by decide) (Nat.zero_le _) (Nat.zero_le _) (Nat.le_of_ble_eq_true rfl) (c_X12_agrees hR hV) ?_
  have A9 : rf_a_agreed (h 323)  = (rf_agrees (h 323)) := rfl
  exact am_ireti T dX12_agreed_9 rfl (Nat.le_refl _) (Nat.le_refl _) (by rw [K9]; exact A9.symm) rfl (by rw [K9]; exact rfl)

set_option maxHeartbeats 400000 in
set_option maxRecDepth 100000 in
theorem c_X12_seed {ad : Nat → Nat} {r : am_R} (hR : am_rs r) {h : am_H} (n : Int32)   : am_CM mX12_seed 0 0 0 [.ref 322, .int n] (am_VV ad) r h (am_po (some (.int ((h 323) 10))) r (am_row (am_row h 322 (upd (h 322) 0 (nI 0))) 323 (upd (h 323) 10 n))) := by
  refine am_CM.of (by decide +kernel) (Nat.le_of_ble_eq_true rfl) (fun X C T => ?_)
  show am_G X (am_VV ad) (0, 0) 0 [(0, .ref 322), (1, .int n)] [] r h
  refine am_aload_n (pc := 0) C dX12_seed_0 rfl ?_
  refine am_iconstN (pc := 1) (k := 0) C dX12_seed_1 ?_
  refine am_putI (pc := 2) C dX12_seed_2 f12_3 bn_322 sh_322 rfl rfl ?_
  refine am_hp (show am_up h 322 0 (nI 0) = am_row h 322 (upd (h 322) 0 (nI 0)) from am_up_rw _ _ _ _) ?_
  refine am_aload_n (pc := 5) C dX12_seed_5 rfl ?_
  refine am_getR (pc := 6) (j := 323) C dX12_seed_6 f12_13 bn_322 sh_322 (rf_322_1 hR) ?_
  refine am_bipush (pc := 9) (v := nI 10) C dX12_seed_9 (by decide) ?_
  refine am_iaload (pc := 11) C dX12_seed_11 bn_323 sh_323 (vp_in_nI (by omega) (by decide)) ?_
  refine am_top (show (h 323) (nI 10).toNatClampNeg = (h 323) 10 from by rw [nI_clamp (by omega)]) ?_
  refine am_istore_n (pc := 12) (ls' := [(0, .ref 322), (1, .int n), (2, .int ((h 323) 10))]) C dX12_seed_12 (by decide) rfl ?_
  refine am_aload_n (pc := 13) C dX12_seed_13 rfl ?_
  refine am_getR (pc := 14) (j := 323) C dX12_seed_14 f12_13 bn_322 sh_322 (rf_322_1 hR) ?_
  refine am_bipush (pc := 17) (v := nI 10) C dX12_seed_17 (by decide) ?_
  refine am_iload_n (pc := 19) C dX12_seed_19 rfl ?_
  refine am_iastore (pc := 20) C dX12_seed_20 bn_323 sh_323 (vp_in_nI (by omega) (by decide)) ?_
  refine am_hp (show am_up (am_row h 322 (upd (h 322) 0 (nI 0))) 323 (nI 10).toNatClampNeg n = am_row (am_row h 322 (upd (h 322) 0 (nI 0))) 323 (upd (h 323) 10 n) from by rw [nI_clamp (by omega)]; exact am_up_rw _ _ _ _) ?_
  refine am_iload_n (pc := 21) C dX12_seed_21 rfl ?_
  exact am_ireti T dX12_seed_22 rfl (Nat.le_refl _) (Nat.le_refl _) rfl rfl rfl

set_option maxHeartbeats 400000 in
set_option maxRecDepth 100000 in
theorem c_X12_log {ad : Nat → Nat} {r : am_R} (hR : am_rs r) {h : am_H} (a : Int32) (what : Int32) (hV : rf_I (h 323))  : am_CM mX12_log 1 0 0 [.ref 322, .int a, .int what] (am_VV ad) r h (am_po (some (.int (rf_ga (rf_c_log (h 323) a what) (rf_a_log (h 323) a what)))) r (am_row h 322 (rf_oc (h 322) (rf_c_log (h 323) a what)))) := by
  refine am_CM.of (by decide +kernel) (Nat.le_of_ble_eq_true rfl) (fun X C T => ?_)
  show am_G X (am_VV ad) (0, 0) 0 [(0, .ref 322), (1, .int a), (2, .int what)] [] r h
  have hM9 : rf_M (h 323) < 17 := hV.1.1.2
  have hS9 : rf_S (h 323) < 11 := hV.1.2.1.2
  have hO9 : rf_O (h 323) < 11 := hV.1.2.2.2
  have hG1 : (h 323) 9 = nI (rf_G (h 323)) := hV.2.2.2.2.1.2.2.2.1
  have hG9 : rf_G (h 323) < 61 := hV.2.2.2.2.1.2.2.2.2
  refine am_aload_n (pc := 0) C dX12_log_0 rfl ?_
  refine am_iconstN (pc := 1) (k := 0) C dX12_log_1 ?_
  refine am_putI (pc := 2) C dX12_log_2 f12_3 bn_322 sh_322 rfl rfl ?_
  refine am_hp (show am_up h 322 0 (nI 0) = am_row h 322 (upd (h 322) 0 (nI 0)) from am_up_rw _ _ _ _) ?_
  refine am_aload_n (pc := 5) C dX12_log_5 rfl ?_
  refine am_iload_n (pc := 6) C dX12_log_6 rfl ?_
  refine am_iconstN (pc := 7) (k := 0) C dX12_log_7 ?_
  refine am_iconstN (pc := 8) (k := 4) C dX12_log_8 ?_
  refine am_callSi (Y := mX12_in) (pc := 9) (st := [.ref 322]) (As := [.int what, .int (nI 0), .int (nI 4)]) (x := (am_b (rf_in what (nI 0) (nI 4)))) (h2 := (am_row h 322 (upd (h 322) 0 (nI 0)))) C dX12_log_9 k12_71 v_X12_in rfl rfl (by decide) (Nat.zero_le _) (Nat.zero_le _) (Nat.le_of_ble_eq_true rfl) (c_X12_in hR what (nI 0) (nI 4)) ?_
  refine am_if_neB (pc := 12) (tgt := 19) C dX12_log_12 (by decide) (fun q12 => ?_) (fun q12 => ?_)
  · skip
    refine am_iconstN (pc := 19) (k := 0) C dX12_log_19 ?_
    refine am_top (show (nI 0) = (am_b false) from rfl) ?_
    refine am_iconstN (pc := 20) (k := 1) C dX12_log_20 ?_
    refine am_callVi (Y := mX12_throwsIf) (pc := 21) (st := []) (As := [.int (am_b false), .int (nI 1)]) (x := (am_b false)) (h2 := (am_row (am_row h 322 (upd (h 322) 0 (nI 0))) 322 (bif false then upd (upd (h 322) 0 (nI 0)) 0 (nI 1) else (upd (h 322) 0 (nI 0))))) C dX12_log_21 k12_269 v_X12_throwsIf rfl rfl bn_322 sh_322 ⟨by decide, rfl⟩ (by decide) (Nat.zero_le _) (Nat.zero_le _) (Nat.le_of_ble_eq_true rfl) (c_X12_throwsIf hR false (nI 1)) ?_
    refine am_hp (show (am_row (am_row h 322 (upd (h 322) 0 (nI 0))) 322 (bif false then upd (upd (h 322) 0 (nI 0)) 0 (nI 1) else (upd (h 322) 0 (nI 0)))) = (am_row h 322 (bif false then upd (upd (h 322) 0 (nI 0)) 0 (nI 1) else (upd (h 322) 0 (nI 0)))) from am_row_s0) ?_
    refine am_hp (show (am_row h 322 (bif false then upd (upd (h 322) 0 (nI 0)) 0 (nI 1) else (upd (h 322) 0 (nI 0)))) = (am_row h 322 (upd (h 322) 0 (nI 0))) from rfl) ?_
    refine am_if_eqB (pc := 24) (tgt := 29) C dX12_log_24 (by decide) (fun q24 => ?_) (fun q24 => ?_)
    · skip
      have K9 : rf_c_log (h 323) a what = 0 := by unfold rf_c_log; exact (rf_cb_nf q12)
      have hq := rf_in_n0 (by decide) q12
      have hq2 := hq.2
      refine am_lsv (ls' := [(0, .ref 322), (1, .int a), (2, .int (nI (rf_nat what)))]) (congrArg (fun z9 : Int32 => ([(0, .ref 322), (1, .int a), (2, Value.int z9)] : List (Nat × Value))) (show what = (nI (rf_nat what)) from hq.1)) ?_
      refine am_iload_n (pc := 29) C dX12_log_29 rfl ?_
      refine am_iconstN (pc := 30) (k := 0) C dX12_log_30 ?_
      refine am_aload_n (pc := 31) C dX12_log_31 rfl ?_
      refine am_getR (pc := 32) (j := 323) C dX12_log_32 f12_13 bn_322 sh_322 (rf_322_1 hR) ?_
      refine am_bipush (pc := 35) (v := nI 9) C dX12_log_35 (by decide) ?_
      refine am_iaload (pc := 37) C dX12_log_37 bn_323 sh_323 (vp_in_nI (by omega) (by decide)) ?_
      refine am_top (show (h 323) (nI 9).toNatClampNeg = (h 323) 9 from by rw [nI_clamp (by omega)]) ?_
      refine am_top (show ((h 323) 9) = (nI (rf_G (h 323))) from hG1) ?_
      refine am_iconstN (pc := 38) (k := 1) C dX12_log_38 ?_
      refine am_isub (pc := 39) C dX12_log_39 ?_
      refine am_callSi (Y := mX12_in) (pc := 40) (st := []) (As := [.int a, .int (nI 0), .int ((nI (rf_G (h 323))) - (nI 1))]) (x := (am_b (rf_in a (nI 0) ((nI (rf_G (h 323))) - (nI 1))))) (h2 := (am_row h 322 (upd (h 322) 0 (nI 0)))) C dX12_log_40 k12_71 v_X12_in rfl rfl (by decide) (Nat.zero_le _) (Nat.zero_le _) (Nat.le_of_ble_eq_true rfl) (c_X12_in hR a (nI 0) ((nI (rf_G (h 323))) - (nI 1))) ?_
      refine am_top (show (am_b (rf_in a (nI 0) ((nI (rf_G (h 323))) - (nI 1)))) = (am_b (rf_okN a (rf_G (h 323)))) from rfl) ?_
      refine am_if_eqB (pc := 43) (tgt := 55) C dX12_log_43 (by decide) (fun q43 => ?_) (fun q43 => ?_)
      · skip
        refine am_iconst (pc := 55) (v := -1) C dX12_log_55 rfl ?_
        have A9 : rf_a_log (h 323) a what = (-1) := (by rw [rf_a_log, q43]; rfl)
        exact am_ireti T dX12_log_56 rfl (Nat.le_refl _) (Nat.le_refl _) (by rw [K9]; exact A9.symm) rfl (by rw [K9]; exact rfl)
      · skip
        have ha := rf_okN_n (by omega) q43
        have ha2 := ha.2
        refine am_lsv (ls' := [(0, .ref 322), (1, .int (nI (rf_nat a))), (2, .int (nI (rf_nat what)))]) (congrArg (fun z9 : Int32 => ([(0, .ref 322), (1, Value.int z9), (2, .int (nI (rf_nat what)))] : List (Nat × Value))) (show a = (nI (rf_nat a)) from ha.1)) ?_
        refine am_aload_n (pc := 46) C dX12_log_46 rfl ?_
        refine am_iload_n (pc := 47) C dX12_log_47 rfl ?_
        refine am_iload_n (pc := 48) C dX12_log_48 rfl ?_
        refine am_callVi (Y := mX12_ofLog) (pc := 49) (st := []) (As := [.int (nI (rf_nat a)), .int (nI (rf_nat what))]) (x := (rf_log (h 323) (rf_nat a) (rf_nat what))) (h2 := (am_row h 322 (upd (h 322) 0 (nI 0)))) C dX12_log_49 k12_451 v_X12_ofLog rfl rfl bn_322 sh_322 ⟨by decide, rfl⟩ (by decide) (Nat.zero_le _) (Nat.zero_le _) (Nat.le_of_ble_eq_true rfl) (c_X12_ofLog hR (rf_nat a) (rf_nat what) (show (rf_nat a) < 60 from by omega) (show (rf_nat what) < 5 from by omega)) ?_
        refine am_goto (pc := 52) (tgt := 56) C dX12_log_52 (by decide) ?_
        have A9 : rf_a_log (h 323) a what = (rf_log (h 323) (rf_nat a) (rf_nat what)) := (by rw [rf_a_log, q43]; rfl)
        exact am_ireti T dX12_log_56 rfl (Nat.le_refl _) (Nat.le_refl _) (by rw [K9]; exact A9.symm) rfl (by rw [K9]; exact rfl)
    · skip
      exact Bool.noConfusion q24
  · skip
    refine am_iconstN (pc := 15) (k := 1) C dX12_log_15 ?_
    refine am_goto (pc := 16) (tgt := 20) C dX12_log_16 (by decide) ?_
    refine am_top (show (nI 1) = (am_b true) from rfl) ?_
    refine am_iconstN (pc := 20) (k := 1) C dX12_log_20 ?_
    refine am_callVi (Y := mX12_throwsIf) (pc := 21) (st := []) (As := [.int (am_b true), .int (nI 1)]) (x := (am_b true)) (h2 := (am_row (am_row h 322 (upd (h 322) 0 (nI 0))) 322 (bif true then upd (upd (h 322) 0 (nI 0)) 0 (nI 1) else (upd (h 322) 0 (nI 0))))) C dX12_log_21 k12_269 v_X12_throwsIf rfl rfl bn_322 sh_322 ⟨by decide, rfl⟩ (by decide) (Nat.zero_le _) (Nat.zero_le _) (Nat.le_of_ble_eq_true rfl) (c_X12_throwsIf hR true (nI 1)) ?_
    refine am_hp (show (am_row (am_row h 322 (upd (h 322) 0 (nI 0))) 322 (bif true then upd (upd (h 322) 0 (nI 0)) 0 (nI 1) else (upd (h 322) 0 (nI 0)))) = (am_row h 322 (bif true then upd (upd (h 322) 0 (nI 0)) 0 (nI 1) else (upd (h 322) 0 (nI 0)))) from am_row_s0) ?_
    refine am_hp (show (am_row h 322 (bif true then upd (upd (h 322) 0 (nI 0)) 0 (nI 1) else (upd (h 322) 0 (nI 0)))) = (am_row h 322 (upd (upd (h 322) 0 (nI 0)) 0 (nI 1))) from rfl) ?_
    refine am_if_eqB (pc := 24) (tgt := 29) C dX12_log_24 (by decide) (fun q24 => ?_) (fun q24 => ?_)
    · skip
      exact Bool.noConfusion q24
    · skip
      refine am_iconstN (pc := 27) (k := 0) C dX12_log_27 ?_
      have K9 : rf_c_log (h 323) a what = 1 := (by unfold rf_c_log; exact (rf_cb_nt q12))
      exact am_ireti T dX12_log_28 rfl (Nat.le_refl _) (Nat.le_refl _) (by rw [K9]; rfl) rfl (by rw [K9]; exact congrArg (am_row _ 322) rf_upd_upd)

