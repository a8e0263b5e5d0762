/-! trials, spans, the log, counts -/
theorem rf_ga_0 {a : Int32} : rf_ga 0 a = a := rfl
theorem rf_hm_y1 {w : rf_W} {s : Nat} (h : (rf_hm w s).2 < rf_cnt (fun k => decide (rf_log w k 1 = nI s)) (rf_G w)) : nI s = am_oi (rf_hm w (s + 1)).1 := by rw [rf_hm_yes h]; exact (am_oi_s s).symm
theorem rf_hm_y2 {w : rf_W} {s : Nat} (h : (rf_hm w s).2 < rf_cnt (fun k => decide (rf_log w k 1 = nI s)) (rf_G w)) : nI (rf_cnt (fun k => decide (rf_log w k 1 = nI s)) (rf_G w)) = nI (rf_hm w (s + 1)).2 := by rw [rf_hm_yes h]
theorem rf_hm_n1 {w : rf_W} {s : Nat} (h : ¬ (rf_hm w s).2 < rf_cnt (fun k => decide (rf_log w k 1 = nI s)) (rf_G w)) : am_oi (rf_hm w s).1 = am_oi (rf_hm w (s + 1)).1 := by rw [rf_hm_no h]
theorem rf_hm_n2 {w : rf_W} {s : Nat} (h : ¬ (rf_hm w s).2 < rf_cnt (fun k => decide (rf_log w k 1 = nI s)) (rf_G w)) : nI (rf_hm w s).2 = nI (rf_hm w (s + 1)).2 := by rw [rf_hm_no h]
theorem am_tabD {x : Int32} (lo hi : Nat) (hh : hi < 1000) (h : ∀ k, lo ≤ k → k ≤ hi → ¬ x = nI k) : x.toInt < (lo : Int) ∨ (hi : Int) < x.toInt := by
  rcases Int.lt_or_le x.toInt lo with h1 | h1
  · exact Or.inl h1
  · rcases Int.lt_or_le (hi : Int) x.toInt with h2 | h2
    · exact Or.inr h2
    · refine absurd ?_ (h x.toInt.toNat (by omega) (by omega))
      apply Int32.toInt_inj.mp
      rw [nI_toInt (by omega)]
      omega
def rf_a_count (w : rf_W) (r what : Int32) : Int32 := if what = nI 4 then (if w 4 = nI 1 then w 731 else -1) else if what = nI 7 then nI (rf_ak w (rf_S w)) else if what = nI 8 then rf_au w (nI 3) (rf_S w) else if what = nI 9 then w 7 else if what = nI 10 then w 8 else if what = nI 11 then w 9 else if what = nI 12 then r else bif rf_in what (nI 0) (nI 6) then w (rf_nat what) else -1

def rf_c_trial (w : rf_W) (n : Int32) (what : Int32) : Nat := rf_cb (!(rf_in n (nI 0) (nI 60))) 1 (rf_cb (!(rf_in what (nI 0) (nI 3))) 2 (0))
def rf_a_trial (w : rf_W) (n : Int32) (what : Int32) : Int32 := if rf_nat what = 0 then nI (rf_ak (rf_hrs w (rf_nat n)) (rf_S (rf_hrs w (rf_nat n)))) else if rf_nat what = 1 then rf_au (rf_hrs w (rf_nat n)) (nI 3) (rf_S (rf_hrs w (rf_nat n))) else if rf_nat what = 2 then rf_obeyed (rf_hrs w (rf_nat n)) 12 else am_oi (rf_tf w (rf_obeyed w 12) (rf_nat n))
def rf_c_span (w : rf_W) (d : Int32) (n : Int32) (most : Bool) : Nat := rf_cb (!rf_in d (nI 0) (nI 1)) 1 (rf_cb (!(rf_in n (nI 0) (nI 24))) 2 (0))
def rf_a_span (w : rf_W) (d : Int32) (n : Int32) (most : Bool) : Int32 := rf_sp w (rf_nat d) (rf_nat n) most 6
def rf_c_meets (w : rf_W) (a : Int32) (b : Int32) : Nat := rf_cb (!rf_okN a (rf_S w)) 1 (rf_cb (!rf_okN b (rf_S w)) 1 (rf_cb (decide (a = b)) 2 (0)))
def rf_a_meets (w : rf_W) (a : Int32) (b : Int32) : Int32 := rf_sea (fun n => decide (rf_pl2 w (rf_nat a) (nI n) = rf_pl2 w (rf_nat b) (nI n))) (fun n => w 5 + nI n) 145 0
def rf_c_led (w : rf_W) (s : Int32) (m : Int32) : Nat := rf_cb (!rf_okN s (rf_S w)) 1 (rf_cb (!rf_okN m (rf_M w)) 1 (0))
def rf_a_led (w : rf_W) (s : Int32) (m : Int32) : Int32 := rf_sea (fun n => decide (rf_log w n 2 = nI (rf_nat s)) && decide (rf_log w n 3 = nI (rf_nat m))) (fun n => nI n) (rf_G w) 0
def rf_c_hitter (w : rf_W)  : Nat := 0
def rf_a_hitter (w : rf_W)  : Int32 := am_oi (rf_hm w (rf_S w)).1
def rf_c_count (w : rf_W) (what : Int32) : Nat := 0
set_option maxHeartbeats 400000 in
set_option maxRecDepth 100000 in
theorem c_X12_trial {ad : Nat → Nat} {r : am_R} (hR : am_rs r) {h : am_H} (n : Int32) (what : Int32) (hV : rf_I (h 323)) (hL : rf_Lw (h 323))  : am_CM mX12_trial 9 0 0 [.ref 322, .int n, .int what] (am_VV ad) r h (am_pj (some (.int (rf_ga (rf_c_trial (h 323) n what) (rf_a_trial (h 323) n what)))) r (fun G => (am_row (am_row (am_row (am_row h 330 (G 330)) 322 (rf_oc (h 322) (rf_c_trial (h 323) n what))) 326 (rf_gw (rf_c_trial (h 323) n what) (rf_cp (h 326) (h 323) 0 0 731) (h 326))) 323 (rf_gw (rf_c_trial (h 323) n what) (h 323) (h 323))))) := by
  refine am_CM.of (by decide +kernel) (Nat.le_of_ble_eq_true rfl) (fun X C T => ?_)
  show am_G X (am_VV ad) (0, 0) 0 [(0, .ref 322), (1, .int n), (2, .int what)] [] r h
  have hM9 : rf_M (h 323) < 17 := hV.1.1.2
  have hS9 : rf_S (h 323) < 11 := hV.1.2.1.2
  have hO9 : rf_O (h 323) < 11 := hV.1.2.2.2
  refine am_hp (show h = (am_row h 330 (h 330)) from (am_row_id _ _).symm) ?_
  refine am_aload_n (pc := 0) C dX12_trial_0 rfl ?_
  refine am_iconstN (pc := 1) (k := 0) C dX12_trial_1 ?_
  refine am_putI (pc := 2) C dX12_trial_2 f12_3 bn_322 sh_322 rfl rfl ?_
  refine am_hp (show am_up (am_row h 330 (h 330)) 322 0 (nI 0) = am_row (am_row h 330 (h 330)) 322 (upd (h 322) 0 (nI 0)) from am_up_rw _ _ _ _) ?_
  refine am_aload_n (pc := 5) C dX12_trial_5 rfl ?_
  refine am_iload_n (pc := 6) C dX12_trial_6 rfl ?_
  refine am_iconstN (pc := 7) (k := 0) C dX12_trial_7 ?_
  refine am_bipush (pc := 8) (v := nI 60) C dX12_trial_8 (by decide) ?_
  refine am_callSi (Y := mX12_in) (pc := 10) (st := [.ref 322]) (As := [.int n, .int (nI 0), .int (nI 60)]) (x := (am_b (rf_in n (nI 0) (nI 60)))) (h2 := (am_row (am_row h 330 (h 330)) 322 (upd (h 322) 0 (nI 0)))) C dX12_trial_10 k12_71 v_X12_in rfl rfl (by decide) (Nat.zero_le _) (Nat.zero_le _) (Nat.le_of_ble_eq_true rfl) (c_X12_in hR n (nI 0) (nI 60)) ?_
  refine am_if_neB (pc := 13) (tgt := 20) C dX12_trial_13 (by decide) (fun q13 => ?_) (fun q13 => ?_)
  · skip
    refine am_iconstN (pc := 20) (k := 0) C dX12_trial_20 ?_
    refine am_top (show (nI 0) = (am_b false) from rfl) ?_
    refine am_iconstN (pc := 21) (k := 1) C dX12_trial_21 ?_
    refine am_callVi (Y := mX12_throwsIf) (pc := 22) (st := []) (As := [.int (am_b false), .int (nI 1)]) (x := (am_b false)) (h2 := (am_row (am_row (am_row h 330 (h 330)) 322 (upd (h 322) 0 (nI 0))) 322 (bif false then upd (upd (h 322) 0 (nI 0)) 0 (nI 1) else (upd (h 322) 0 (nI 0))))) C dX12_trial_22 k12_269 v_X12_throwsIf rfl rfl bn_322 sh_322 ⟨by decide, rfl⟩ (by decide) (Nat.zero_le _) (Nat.zero_le _) (Nat.le_of_ble_eq_true rfl) (c_X12_throwsIf hR false (nI 1)) ?_
    refine am_hp (show (am_row (am_row (am_row h 330 (h 330)) 322 (upd (h 322) 0 (nI 0))) 322 (bif false then upd (upd (h 322) 0 (nI 0)) 0 (nI 1) else (upd (h 322) 0 (nI 0)))) = (am_row (am_row h 330 (h 330)) 322 (bif false then upd (upd (h 322) 0 (nI 0)) 0 (nI 1) else (upd (h 322) 0 (nI 0)))) from am_row_s0) ?_
    refine am_hp (show (am_row (am_row h 330 (h 330)) 322 (bif false then upd (upd (h 322) 0 (nI 0)) 0 (nI 1) else (upd (h 322) 0 (nI 0)))) = (am_row (am_row h 330 (h 330)) 322 (upd (h 322) 0 (nI 0))) from rfl) ?_
    refine am_if_neB (pc := 25) (tgt := 50) C dX12_trial_25 (by decide) (fun q25 => ?_) (fun q25 => ?_)
    · skip
      exact Bool.noConfusion q25
    · skip
      refine am_aload_n (pc := 28) C dX12_trial_28 rfl ?_
      refine am_iload_n (pc := 29) C dX12_trial_29 rfl ?_
      refine am_iconstN (pc := 30) (k := 0) C dX12_trial_30 ?_
      refine am_iconstN (pc := 31) (k := 3) C dX12_trial_31 ?_
      refine am_callSi (Y := mX12_in) (pc := 32) (st := [.ref 322]) (As := [.int what, .int (nI 0), .int (nI 3)]) (x := (am_b (rf_in what (nI 0) (nI 3)))) (h2 := (am_row (am_row h 330 (h 330)) 322 (upd (h 322) 0 (nI 0)))) C dX12_trial_32 k12_71 v_X12_in rfl rfl (by decide) (Nat.zero_le _) (Nat.zero_le _) (Nat.le_of_ble_eq_true rfl) (c_X12_in hR what (nI 0) (nI 3)) ?_
      refine am_if_neB (pc := 35) (tgt := 42) C dX12_trial_35 (by decide) (fun q35 => ?_) (fun q35 => ?_)
      · skip
        refine am_iconstN (pc := 42) (k := 0) C dX12_trial_42 ?_
        refine am_top (show (nI 0) = (am_b false) from rfl) ?_
        refine am_iconstN (pc := 43) (k := 2) C dX12_trial_43 ?_
        refine am_callVi (Y := mX12_throwsIf) (pc := 44) (st := []) (As := [.int (am_b false), .int (nI 2)]) (x := (am_b false)) (h2 := (am_row (am_row (am_row h 330 (h 330)) 322 (upd (h 322) 0 (nI 0))) 322 (bif false then upd (upd (h 322) 0 (nI 0)) 0 (nI 2) else (upd (h 322) 0 (nI 0))))) C dX12_trial_44 k12_269 v_X12_throwsIf rfl rfl bn_322 sh_322 ⟨by decide, rfl⟩ (by decide) (Nat.zero_le _) (Nat.zero_le _) (Nat.le_of_ble_eq_true rfl) (c_X12_throwsIf hR false (nI 2)) ?_
        refine am_hp (show (am_row (am_row (am_row h 330 (h 330)) 322 (upd (h 322) 0 (nI 0))) 322 (bif false then upd (upd (h 322) 0 (nI 0)) 0 (nI 2) else (upd (h 322) 0 (nI 0)))) = (am_row (am_row h 330 (h 330)) 322 (bif false then upd (upd (h 322) 0 (nI 0)) 0 (nI 2) else (upd (h 322) 0 (nI 0)))) from am_row_s0) ?_
        refine am_hp (show (am_row (am_row h 330 (h 330)) 322 (bif false then upd (upd (h 322) 0 (nI 0)) 0 (nI 2) else (upd (h 322) 0 (nI 0)))) = (am_row (am_row h 330 (h 330)) 322 (upd (h 322) 0 (nI 0))) from rfl) ?_
        refine am_if_eqB (pc := 47) (tgt := 52) C dX12_trial_47 (by decide) (fun q47 => ?_) (fun q47 => ?_)
        · skip
          have K9 : rf_c_trial (h 323) n what = 0 := by unfold rf_c_trial; exact ((rf_cb_nf q13).trans (rf_cb_nf q35))
          have hn := rf_in_n0 (by decide) q13
          have hn2 := hn.2
          have hq := rf_in_n0 (by decide) q35
          have hq2 := hq.2
          have okz := rf_hrs_ok hV hL (rf_nat n)
          refine am_lsv (ls' := [(0, .ref 322), (1, .int (nI (rf_nat n))), (2, .int what)]) (congrArg (fun z9 : Int32 => ([(0, .ref 322), (1, Value.int z9), (2, .int what)] : List (Nat × Value))) (show n = (nI (rf_nat n)) from hn.1)) ?_
          refine am_lsv (ls' := [(0, .ref 322), (1, .int (nI (rf_nat n))), (2, .int (nI (rf_nat what)))]) (congrArg (fun z9 : Int32 => ([(0, .ref 322), (1, .int (nI (rf_nat n))), (2, Value.int z9)] : List (Nat × Value))) (show what = (nI (rf_nat what)) from hq.1)) ?_
          refine am_aload_n (pc := 52) C dX12_trial_52 rfl ?_
          refine am_callVv (Y := mX12_keepsAll) (pc := 53) (st := []) (As := []) (h2 := (am_row (am_row (am_row h 330 (h 330)) 322 (upd (h 322) 0 (nI 0))) 326 (rf_cp (h 326) (h 323) 0 0 731))) C dX12_trial_53 k12_439 v_X12_keepsAll rfl rfl bn_322 sh_322 ⟨by decide, rfl⟩ (by decide) (Nat.zero_le _) (Nat.zero_le _) (Nat.le_of_ble_eq_true rfl) (c_X12_keepsAll hR ) ?_
          refine am_aload_n (pc := 56) C dX12_trial_56 rfl ?_
          refine am_bipush (pc := 57) (v := nI 12) C dX12_trial_57 (by decide) ?_
          refine am_callVi (Y := mX12_obeyed) (pc := 59) (st := []) (As := [.int (nI 12)]) (x := (rf_obeyed (h 323) 12)) (h2 := (am_row (am_row (am_row h 330 (h 330)) 322 (upd (h 322) 0 (nI 0))) 326 (rf_cp (h 326) (h 323) 0 0 731))) C dX12_trial_59 k12_328 v_X12_obeyed rfl rfl bn_322 sh_322 ⟨by decide, rfl⟩ (by decide) (Nat.zero_le _) (Nat.zero_le _) (Nat.le_of_ble_eq_true rfl) (c_X12_obeyed hR 12 hV (show 12 < 1000 from by omega)) ?_
          refine am_istore_n (pc := 62) (ls' := [(0, .ref 322), (1, .int (nI (rf_nat n))), (2, .int (nI (rf_nat what))), (3, .int (rf_obeyed (h 323) 12))]) C dX12_trial_62 (by decide) rfl ?_
          refine am_iconst (pc := 63) (v := -1) C dX12_trial_63 rfl ?_
          refine am_istore (pc := 64) (ls' := [(0, .ref 322), (1, .int (nI (rf_nat n))), (2, .int (nI (rf_nat what))), (3, .int (rf_obeyed (h 323) 12)), (4, .int (-1))]) C dX12_trial_64 (by decide) rfl ?_
          refine am_iconstN (pc := 66) (k := 1) C dX12_trial_66 ?_
          refine am_istore (pc := 67) (ls' := [(0, .ref 322), (1, .int (nI (rf_nat n))), (2, .int (nI (rf_nat what))), (3, .int (rf_obeyed (h 323) 12)), (4, .int (-1)), (5, .int (nI 1))]) C dX12_trial_67 (by decide) rfl ?_
          have L69 : ∀ (j69 i69 : Nat) (g69 : am_H), i69 + j69 = (rf_nat n) → am_G X (am_VV ad) (0, 0) 69 [(0, .ref 322), (1, .int (nI (rf_nat n))), (2, .int (nI (rf_nat what))), (3, .int (rf_obeyed (h 323) 12)), (4, .int (am_oi (rf_tf (h 323) (rf_obeyed (h 323) 12) i69))), (5, .int (nI (i69 + 1)))] [] r (am_row (am_row (am_row (am_row h 330 (g69 330)) 322 (upd (h 322) 0 (nI 0))) 326 (rf_cp (h 326) (h 323) 0 0 731)) 323 (rf_hrs (h 323) i69)) := by
            intro j69
            induction j69 with
            | zero =>
              intro i69 g69 hi69 
              obtain rfl : i69 = (rf_nat n) := by omega
              refine am_iload (pc := 69) C dX12_trial_69 rfl ?_
              refine am_iload_n (pc := 71) C dX12_trial_71 rfl ?_
              refine am_icmp_gtN (pc := 72) (tgt := 107) C dX12_trial_72 (by decide) (by omega) (by omega) (fun q72 => ?_) (fun q72 => ?_)
              · skip
                refine am_iload_n (pc := 107) C dX12_trial_107 rfl ?_
                refine am_if_neN (pc := 108) (tgt := 118) C dX12_trial_108 (by decide) (by omega) (fun q108 => ?_) (fun q108 => ?_)
                · skip
                  refine am_iload_n (pc := 118) C dX12_trial_118 rfl ?_
                  refine am_iconstN (pc := 119) (k := 1) C dX12_trial_119 ?_
                  refine am_icmp_neN (pc := 120) (tgt := 131) C dX12_trial_120 (by decide) (by omega) (by omega) (fun q120 => ?_) (fun q120 => ?_)
                  · skip
                    refine am_iload_n (pc := 131) C dX12_trial_131 rfl ?_
                    refine am_iconstN (pc := 132) (k := 2) C dX12_trial_132 ?_
                    refine am_icmp_neN (pc := 133) (tgt := 145) C dX12_trial_133 (by decide) (by omega) (by omega) (fun q133 => ?_) (fun q133 => ?_)
                    · skip
                      refine am_iload (pc := 145) C dX12_trial_145 rfl ?_
                      refine am_istore (pc := 147) (ls' := [(0, .ref 322), (1, .int (nI (rf_nat n))), (2, .int (nI (rf_nat what))), (3, .int (rf_obeyed (h 323) 12)), (4, .int (am_oi (rf_tf (h 323) (rf_obeyed (h 323) 12) (rf_nat n)))), (5, .int (am_oi (rf_tf (h 323) (rf_obeyed (h 323) 12) (rf_nat n))))]) C dX12_trial_147 (by decide) rfl ?_
                      refine am_aload_n (pc := 149) C dX12_trial_149 rfl ?_
                      refine am_callVv (Y := mX12_bringsBack) (pc := 150) (st := []) (As := []) (h2 := (am_row (am_row (am_row (am_row (am_row h 330 (g69 330)) 322 (upd (h 322) 0 (nI 0))) 326 (rf_cp (h 326) (h 323) 0 0 731)) 323 (rf_hrs (h 323) (rf_nat n))) 323 (rf_cp (rf_hrs (h 323) (rf_nat n)) (rf_cp (h 326) (h 323) 0 0 731) 0 0 731))) C dX12_trial_150 k12_448 v_X12_bringsBack rfl rfl bn_322 sh_322 ⟨by decide, rfl⟩ (by decide) (Nat.zero_le _) (Nat.zero_le _) (Nat.le_of_ble_eq_true rfl) (c_X12_bringsBack hR ) ?_
                      refine am_hp (show (am_row (am_row (am_row (am_row (am_row h 330 (g69 330)) 322 (upd (h 322) 0 (nI 0))) 326 (rf_cp (h 326) (h 323) 0 0 731)) 323 (rf_hrs (h 323) (rf_nat n))) 323 (rf_cp (rf_hrs (h 323) (rf_nat n)) (rf_cp (h 326) (h 323) 0 0 731) 0 0 731)) = (am_row (am_row (am_row (am_row h 330 (g69 330)) 322 (upd (h 322) 0 (nI 0))) 326 (rf_cp (h 326) (h 323) 0 0 731)) 323 (rf_cp (rf_hrs (h 323) (rf_nat n)) (rf_cp (h 326) (h 323) 0 0 731) 0 0 731)) from am_row_s0) ?_
                      refine am_hp (show (am_row (am_row (am_row (am_row h 330 (g69 330)) 322 (upd (h 322) 0 (nI 0))) 326 (rf_cp (h 326) (h 323) 0 0 731)) 323 (rf_cp (rf_hrs (h 323) (rf_nat n)) (rf_cp (h 326) (h 323) 0 0 731) 0 0 731)) = (am_row (am_row (am_row (am_row h 330 (g69 330)) 322 (upd (h 322) 0 (nI 0))) 326 (rf_cp (h 326) (h 323) 0 0 731)) 323 (h 323)) from congrArg (am_row _ 323) (rf_cp_back okz.2.1)) ?_
                      refine am_iload (pc := 153) C dX12_trial_153 rfl ?_
                      have A9 : rf_a_trial (h 323) n what = (am_oi (rf_tf (h 323) (rf_obeyed (h 323) 12) (rf_nat n))) := (by rw [rf_a_trial, if_neg (by omega), if_neg (by omega), if_neg (by omega)])
                      exact am_iretij (G := (am_row h 330 (g69 330))) T dX12_trial_155 rfl (Nat.le_refl _) (Nat.le_refl _) (by rw [K9]; exact A9.symm) rfl (by rw [K9]; exact rfl)
                    · skip
                      refine am_aload_n (pc := 136) C dX12_trial_136 rfl ?_
                      refine am_bipush (pc := 137) (v := nI 12) C dX12_trial_137 (by decide) ?_
                      refine am_callVi (Y := mX12_obeyed) (pc := 139) (st := []) (As := [.int (nI 12)]) (x := (rf_obeyed (rf_hrs (h 323) (rf_nat n)) 12)) (h2 := (am_row (am_row (am_row (am_row h 330 (g69 330)) 322 (upd (h 322) 0 (nI 0))) 326 (rf_cp (h 326) (h 323) 0 0 731)) 323 (rf_hrs (h 323) (rf_nat n)))) C dX12_trial_139 k12_328 v_X12_obeyed rfl rfl bn_322 sh_322 ⟨by decide, rfl⟩ (by decide) (Nat.zero_le _) (Nat.zero_le _) (Nat.le_of_ble_eq_true rfl) (c_X12_obeyed hR 12 (show rf_I (rf_hrs (h 323) (rf_nat n)) from okz.1) (show 12 < 1000 from (by decide))) ?_
                      refine am_goto (pc := 142) (tgt := 147) C dX12_trial_142 (by decide) ?_
                      refine am_istore (pc := 147) (ls' := [(0, .ref 322), (1, .int (nI (rf_nat n))), (2, .int (nI (rf_nat what))), (3, .int (rf_obeyed (h 323) 12)), (4, .int (am_oi (rf_tf (h 323) (rf_obeyed (h 323) 12) (rf_nat n)))), (5, .int (rf_obeyed (rf_hrs (h 323) (rf_nat n)) 12))]) C dX12_trial_147 (by decide) rfl ?_
                      refine am_aload_n (pc := 149) C dX12_trial_149 rfl ?_
                      refine am_callVv (Y := mX12_bringsBack) (pc := 150) (st := []) (As := []) (h2 := (am_row (am_row (am_row (am_row (am_row h 330 (g69 330)) 322 (upd (h 322) 0 (nI 0))) 326 (rf_cp (h 326) (h 323) 0 0 731)) 323 (rf_hrs (h 323) (rf_nat n))) 323 (rf_cp (rf_hrs (h 323) (rf_nat n)) (rf_cp (h 326) (h 323) 0 0 731) 0 0 731))) C dX12_trial_150 k12_448 v_X12_bringsBack rfl rfl bn_322 sh_322 ⟨by decide, rfl⟩ (by decide) (Nat.zero_le _) (Nat.zero_le _) (Nat.le_of_ble_eq_true rfl) (c_X12_bringsBack hR ) ?_
                      refine am_hp (show (am_row (am_row (am_row (am_row (am_row h 330 (g69 330)) 322 (upd (h 322) 0 (nI 0))) 326 (rf_cp (h 326) (h 323) 0 0 731)) 323 (rf_hrs (h 323) (rf_nat n))) 323 (rf_cp (rf_hrs (h 323) (rf_nat n)) (rf_cp (h 326) (h 323) 0 0 731) 0 0 731)) = (am_row (am_row (am_row (am_row h 330 (g69 330)) 322 (upd (h 322) 0 (nI 0))) 326 (rf_cp (h 326) (h 323) 0 0 731)) 323 (rf_cp (rf_hrs (h 323) (rf_nat n)) (rf_cp (h 326) (h 323) 0 0 731) 0 0 731)) from am_row_s0) ?_
                      refine am_hp (show (am_row (am_row (am_row (am_row h 330 (g69 330)) 322 (upd (h 322) 0 (nI 0))) 326 (rf_cp (h 326) (h 323) 0 0 731)) 323 (rf_cp (rf_hrs (h 323) (rf_nat n)) (rf_cp (h 326) (h 323) 0 0 731) 0 0 731)) = (am_row (am_row (am_row (am_row h 330 (g69 330)) 322 (upd (h 322) 0 (nI 0))) 326 (rf_cp (h 326) (h 323) 0 0 731)) 323 (h 323)) from congrArg (am_row _ 323) (rf_cp_back okz.2.1)) ?_
                      refine am_iload (pc := 153) C dX12_trial_153 rfl ?_
                      have A9 : rf_a_trial (h 323) n what = (rf_obeyed (rf_hrs (h 323) (rf_nat n)) 12) := (by rw [rf_a_trial, if_neg (by omega), if_neg (by omega), if_pos (by omega)])
                      exact am_iretij (G := (am_row h 330 (g69 330))) T dX12_trial_155 rfl (Nat.le_refl _) (Nat.le_refl _) (by rw [K9]; exact A9.symm) rfl (by rw [K9]; exact rfl)
                  · skip
                    refine am_aload_n (pc := 123) C dX12_trial_123 rfl ?_
                    refine am_iconstN (pc := 124) (k := 3) C dX12_trial_124 ?_
                    refine am_callVi (Y := mX12_allUsable) (pc := 125) (st := []) (As := [.int (nI 3)]) (x := (rf_au (rf_hrs (h 323) (rf_nat n)) (nI 3) (rf_S (rf_hrs (h 323) (rf_nat n))))) (h2 := (am_row (am_row (am_row (am_row h 330 (g69 330)) 322 (upd (h 322) 0 (nI 0))) 326 (rf_cp (h 326) (h 323) 0 0 731)) 323 (rf_hrs (h 323) (rf_nat n)))) C dX12_trial_125 k12_445 v_X12_allUsable rfl rfl bn_322 sh_322 ⟨by decide, rfl⟩ (by decide) (Nat.zero_le _) (Nat.zero_le _) (Nat.le_of_ble_eq_true rfl) (c_X12_allUsable hR (nI 3) (show rf_I (rf_hrs (h 323) (rf_nat n)) from okz.1)) ?_
                    refine am_goto (pc := 128) (tgt := 147) C dX12_trial_128 (by decide) ?_
                    refine am_istore (pc := 147) (ls' := [(0, .ref 322), (1, .int (nI (rf_nat n))), (2, .int (nI (rf_nat what))), (3, .int (rf_obeyed (h 323) 12)), (4, .int (am_oi (rf_tf (h 323) (rf_obeyed (h 323) 12) (rf_nat n)))), (5, .int (rf_au (rf_hrs (h 323) (rf_nat n)) (nI 3) (rf_S (rf_hrs (h 323) (rf_nat n)))))]) C dX12_trial_147 (by decide) rfl ?_
                    refine am_aload_n (pc := 149) C dX12_trial_149 rfl ?_
                    refine am_callVv (Y := mX12_bringsBack) (pc := 150) (st := []) (As := []) (h2 := (am_row (am_row (am_row (am_row (am_row h 330 (g69 330)) 322 (upd (h 322) 0 (nI 0))) 326 (rf_cp (h 326) (h 323) 0 0 731)) 323 (rf_hrs (h 323) (rf_nat n))) 323 (rf_cp (rf_hrs (h 323) (rf_nat n)) (rf_cp (h 326) (h 323) 0 0 731) 0 0 731))) C dX12_trial_150 k12_448 v_X12_bringsBack rfl rfl bn_322 sh_322 ⟨by decide, rfl⟩ (by decide) (Nat.zero_le _) (Nat.zero_le _) (Nat.le_of_ble_eq_true rfl) (c_X12_bringsBack hR ) ?_
                    refine am_hp (show (am_row (am_row (am_row (am_row (am_row h 330 (g69 330)) 322 (upd (h 322) 0 (nI 0))) 326 (rf_cp (h 326) (h 323) 0 0 731)) 323 (rf_hrs (h 323) (rf_nat n))) 323 (rf_cp (rf_hrs (h 323) (rf_nat n)) (rf_cp (h 326) (h 323) 0 0 731) 0 0 731)) = (am_row (am_row (am_row (am_row h 330 (g69 330)) 322 (upd (h 322) 0 (nI 0))) 326 (rf_cp (h 326) (h 323) 0 0 731)) 323 (rf_cp (rf_hrs (h 323) (rf_nat n)) (rf_cp (h 326) (h 323) 0 0 731) 0 0 731)) from am_row_s0) ?_
                    refine am_hp (show (am_row (am_row (am_row (am_row h 330 (g69 330)) 322 (upd (h 322) 0 (nI 0))) 326 (rf_cp (h 326) (h 323) 0 0 731)) 323 (rf_cp (rf_hrs (h 323) (rf_nat n)) (rf_cp (h 326) (h 323) 0 0 731) 0 0 731)) = (am_row (am_row (am_row (am_row h 330 (g69 330)) 322 (upd (h 322) 0 (nI 0))) 326 (rf_cp (h 326) (h 323) 0 0 731)) 323 (h 323)) from congrArg (am_row _ 323) (rf_cp_back okz.2.1)) ?_
                    refine am_iload (pc := 153) C dX12_trial_153 rfl ?_
                    have A9 : rf_a_trial (h 323) n what = (rf_au (rf_hrs (h 323) (rf_nat n)) (nI 3) (rf_S (rf_hrs (h 323) (rf_nat n)))) := (by rw [rf_a_trial, if_neg (by omega), if_pos (by omega)])
                    exact am_iretij (G := (am_row h 330 (g69 330))) T dX12_trial_155 rfl (Nat.le_refl _) (Nat.le_refl _) (by rw [K9]; exact A9.symm) rfl (by rw [K9]; exact rfl)
                · skip
                  refine am_aload_n (pc := 111) C dX12_trial_111 rfl ?_
                  refine am_callVi (Y := mX12_allKnown) (pc := 112) (st := []) (As := []) (x := (nI (rf_ak (rf_hrs (h 323) (rf_nat n)) (rf_S (rf_hrs (h 323) (rf_nat n)))))) (h2 := (am_row (am_row (am_row (am_row h 330 (g69 330)) 322 (upd (h 322) 0 (nI 0))) 326 (rf_cp (h 326) (h 323) 0 0 731)) 323 (rf_hrs (h 323) (rf_nat n)))) C dX12_trial_112 k12_442 v_X12_allKnown rfl rfl bn_322 sh_322 ⟨by decide, rfl⟩ (by decide) (Nat.zero_le _) (Nat.zero_le _) (Nat.le_of_ble_eq_true rfl) (c_X12_allKnown hR (show rf_I (rf_hrs (h 323) (rf_nat n)) from okz.1)) ?_
                  refine am_goto (pc := 115) (tgt := 147) C dX12_trial_115 (by decide) ?_
                  refine am_istore (pc := 147) (ls' := [(0, .ref 322), (1, .int (nI (rf_nat n))), (2, .int (nI (rf_nat what))), (3, .int (rf_obeyed (h 323) 12)), (4, .int (am_oi (rf_tf (h 323) (rf_obeyed (h 323) 12) (rf_nat n)))), (5, .int (nI (rf_ak (rf_hrs (h 323) (rf_nat n)) (rf_S (rf_hrs (h 323) (rf_nat n))))))]) C dX12_trial_147 (by decide) rfl ?_
                  refine am_aload_n (pc := 149) C dX12_trial_149 rfl ?_
                  refine am_callVv (Y := mX12_bringsBack) (pc := 150) (st := []) (As := []) (h2 := (am_row (am_row (am_row (am_row (am_row h 330 (g69 330)) 322 (upd (h 322) 0 (nI 0))) 326 (rf_cp (h 326) (h 323) 0 0 731)) 323 (rf_hrs (h 323) (rf_nat n))) 323 (rf_cp (rf_hrs (h 323) (rf_nat n)) (rf_cp (h 326) (h 323) 0 0 731) 0 0 731))) C dX12_trial_150 k12_448 v_X12_bringsBack rfl rfl bn_322 sh_322 ⟨by decide, rfl⟩ (by decide) (Nat.zero_le _) (Nat.zero_le _) (Nat.le_of_ble_eq_true rfl) (c_X12_bringsBack hR ) ?_
                  refine am_hp (show (am_row (am_row (am_row (am_row (am_row h 330 (g69 330)) 322 (upd (h 322) 0 (nI 0))) 326 (rf_cp (h 326) (h 323) 0 0 731)) 323 (rf_hrs (h 323) (rf_nat n))) 323 (rf_cp (rf_hrs (h 323) (rf_nat n)) (rf_cp (h 326) (h 323) 0 0 731) 0 0 731)) = (am_row (am_row (am_row (am_row h 330 (g69 330)) 322 (upd (h 322) 0 (nI 0))) 326 (rf_cp (h 326) (h 323) 0 0 731)) 323 (rf_cp (rf_hrs (h 323) (rf_nat n)) (rf_cp (h 326) (h 323) 0 0 731) 0 0 731)) from am_row_s0) ?_
                  refine am_hp (show (am_row (am_row (am_row (am_row h 330 (g69 330)) 322 (upd (h 322) 0 (nI 0))) 326 (rf_cp (h 326) (h 323) 0 0 731)) 323 (rf_cp (rf_hrs (h 323) (rf_nat n)) (rf_cp (h 326) (h 323) 0 0 731) 0 0 731)) = (am_row (am_row (am_row (am_row h 330 (g69 330)) 322 (upd (h 322) 0 (nI 0))) 326 (rf_cp (h 326) (h 323) 0 0 731)) 323 (h 323)) from congrArg (am_row _ 323) (rf_cp_back okz.2.1)) ?_
                  refine am_iload (pc := 153) C dX12_trial_153 rfl ?_
                  have A9 : rf_a_trial (h 323) n what = (nI (rf_ak (rf_hrs (h 323) (rf_nat n)) (rf_S (rf_hrs (h 323) (rf_nat n))))) := (by rw [rf_a_trial, if_pos q108])
                  exact am_iretij (G := (am_row h 330 (g69 330))) T dX12_trial_155 rfl (Nat.le_refl _) (Nat.le_refl _) (by rw [K9]; exact A9.symm) rfl (by rw [K9]; exact rfl)
              · skip
                exact absurd q72 (by omega)
            | succ j69 ih69 =>
              intro i69 g69 hi69 
              have hl69 : i69 < (rf_nat n) := by omega
              have okh := rf_hrs_ok hV hL i69
              have okh2 := rf_hrs_ok hV hL (i69 + 1)
              have ht9 := rf_tf_le (w := h 323) (now := rf_obeyed (h 323) 12) i69
              refine am_iload (pc := 69) C dX12_trial_69 rfl ?_
              refine am_iload_n (pc := 71) C dX12_trial_71 rfl ?_
              refine am_icmp_gtN (pc := 72) (tgt := 107) C dX12_trial_72 (by decide) (by omega) (by omega) (fun q72 => ?_) (fun q72 => ?_)
              · skip
                exact absurd q72 (by omega)
              · skip
                refine am_aload_n (pc := 75) C dX12_trial_75 rfl ?_
                refine am_callVvj (Y := mX12_hour) (pc := 76) (st := []) (As := []) (H2 := fun GG => (am_row (am_row (am_row (am_row (am_row (am_row h 330 (g69 330)) 322 (upd (h 322) 0 (nI 0))) 326 (rf_cp (h 326) (h 323) 0 0 731)) 323 (rf_hrs (h 323) i69)) 330 (GG 330)) 323 (rf_hour (rf_hrs (h 323) i69)))) C dX12_trial_76 k12_385 v_X12_hour rfl rfl bn_322 sh_322 ⟨by decide, rfl⟩ (by decide) (Nat.zero_le _) (Nat.zero_le _) (Nat.le_of_ble_eq_true rfl) (c_X12_hour hR (show rf_I (rf_hrs (h 323) i69) from okh.1) (show rf_Lw (rf_hrs (h 323) i69) from okh.2.2)) (fun g76_10 => ?_)
                refine am_hp (show (am_row (am_row (am_row (am_row (am_row (am_row h 330 (g69 330)) 322 (upd (h 322) 0 (nI 0))) 326 (rf_cp (h 326) (h 323) 0 0 731)) 323 (rf_hrs (h 323) i69)) 330 (g76_10 330)) 323 (rf_hour (rf_hrs (h 323) i69))) = (am_row (am_row (am_row (am_row (am_row h 330 (g76_10 330)) 322 (upd (h 322) 0 (nI 0))) 326 (rf_cp (h 326) (h 323) 0 0 731)) 323 (rf_hrs (h 323) i69)) 323 (rf_hour (rf_hrs (h 323) i69))) from by rw [show (am_row (am_row (am_row (am_row (am_row h 330 (g69 330)) 322 (upd (h 322) 0 (nI 0))) 326 (rf_cp (h 326) (h 323) 0 0 731)) 323 (rf_hrs (h 323) i69)) 330 (g76_10 330)) = (am_row (am_row (am_row (am_row h 330 (g76_10 330)) 322 (upd (h 322) 0 (nI 0))) 326 (rf_cp (h 326) (h 323) 0 0 731)) 323 (rf_hrs (h 323) i69)) from am_row_s3 (by decide) (by decide) (by decide)]) ?_
                refine am_hp (show (am_row (am_row (am_row (am_row (am_row h 330 (g76_10 330)) 322 (upd (h 322) 0 (nI 0))) 326 (rf_cp (h 326) (h 323) 0 0 731)) 323 (rf_hrs (h 323) i69)) 323 (rf_hour (rf_hrs (h 323) i69))) = (am_row (am_row (am_row (am_row h 330 (g76_10 330)) 322 (upd (h 322) 0 (nI 0))) 326 (rf_cp (h 326) (h 323) 0 0 731)) 323 (rf_hour (rf_hrs (h 323) i69))) from am_row_s0) ?_
                refine am_iload (pc := 79) C dX12_trial_79 rfl ?_
                refine am_if_geO (pc := 81) (tgt := 101) C dX12_trial_81 (by decide) (by omega) (fun q81 => ?_) (fun q81 => ?_)
                · skip
                  refine am_iincN (pc := 101) (ls' := [(0, .ref 322), (1, .int (nI (rf_nat n))), (2, .int (nI (rf_nat what))), (3, .int (rf_obeyed (h 323) 12)), (4, .int (am_oi (rf_tf (h 323) (rf_obeyed (h 323) 12) i69))), (5, .int (nI (i69 + 1 + 1)))]) C dX12_trial_101 rfl (am_up1 _) (by decide) rfl ?_
                  refine am_goto (pc := 104) (tgt := 69) C dX12_trial_104 (by decide) ?_
                  refine am_hp (show (am_row (am_row (am_row (am_row h 330 (g76_10 330)) 322 (upd (h 322) 0 (nI 0))) 326 (rf_cp (h 326) (h 323) 0 0 731)) 323 (rf_hour (rf_hrs (h 323) i69))) = (am_row (am_row (am_row (am_row h 330 (g76_10 330)) 322 (upd (h 322) 0 (nI 0))) 326 (rf_cp (h 326) (h 323) 0 0 731)) 323 (rf_hrs (h 323) (i69 + 1))) from rfl) ?_
                  refine am_lsv (ls' := [(0, .ref 322), (1, .int (nI (rf_nat n))), (2, .int (nI (rf_nat what))), (3, .int (rf_obeyed (h 323) 12)), (4, .int (am_oi (rf_tf (h 323) (rf_obeyed (h 323) 12) (i69 + 1)))), (5, .int (nI (i69 + 1 + 1)))]) (congrArg (fun z9 : Int32 => ([(0, .ref 322), (1, .int (nI (rf_nat n))), (2, .int (nI (rf_nat what))), (3, .int (rf_obeyed (h 323) 12)), (4, Value.int z9), (5, .int (nI (i69 + 1 + 1)))] : List (Nat × Value))) (show (am_oi (rf_tf (h 323) (rf_obeyed (h 323) 12) i69)) = (am_oi (rf_tf (h 323) (rf_obeyed (h 323) 12) (i69 + 1))) from (by rw [rf_tf, if_neg (fun z => absurd z.1 (by omega))]))) ?_
                  refine am_lsv (ls' := [(0, .ref 322), (1, .int (nI (rf_nat n))), (2, .int (nI (rf_nat what))), (3, .int (rf_obeyed (h 323) 12)), (4, .int (am_oi (rf_tf (h 323) (rf_obeyed (h 323) 12) (i69 + 1)))), (5, .int (nI ((i69 + 1) + 1)))]) (congrArg (fun z9 : Int32 => ([(0, .ref 322), (1, .int (nI (rf_nat n))), (2, .int (nI (rf_nat what))), (3, .int (rf_obeyed (h 323) 12)), (4, .int (am_oi (rf_tf (h 323) (rf_obeyed (h 323) 12) (i69 + 1)))), (5, Value.int z9)] : List (Nat × Value))) (show (nI (i69 + 1 + 1)) = (nI ((i69 + 1) + 1)) from rfl)) ?_
                  exact ih69 (i69 + 1) (am_row h 330 (g76_10 330)) (by omega) 
                · skip
                  refine am_iload_n (pc := 84) C dX12_trial_84 rfl ?_
                  refine am_aload_n (pc := 85) C dX12_trial_85 rfl ?_
                  refine am_bipush (pc := 86) (v := nI 12) C dX12_trial_86 (by decide) ?_
                  refine am_callVi (Y := mX12_obeyed) (pc := 88) (st := [.int (rf_obeyed (h 323) 12)]) (As := [.int (nI 12)]) (x := (rf_obeyed (rf_hour (rf_hrs (h 323) i69)) 12)) (h2 := (am_row (am_row (am_row (am_row h 330 (g76_10 330)) 322 (upd (h 322) 0 (nI 0))) 326 (rf_cp (h 326) (h 323) 0 0 731)) 323 (rf_hour (rf_hrs (h 323) i69)))) C dX12_trial_88 k12_328 v_X12_obeyed rfl rfl bn_322 sh_322 ⟨by decide, rfl⟩ (by decide) (Nat.zero_le _) (Nat.zero_le _) (Nat.le_of_ble_eq_true rfl) (c_X12_obeyed hR 12 (show rf_I (rf_hour (rf_hrs (h 323) i69)) from okh2.1) (show 12 < 1000 from (by decide))) ?_
                  refine am_iconst (pc := 91) (v := -1) C dX12_trial_91 rfl ?_
                  refine am_ixor (pc := 92) C dX12_trial_92 ?_
                  refine am_iand (pc := 93) C dX12_trial_93 ?_
                  refine am_if_eq (pc := 94) (tgt := 101) C dX12_trial_94 (by decide) (fun q94 => ?_) (fun q94 => ?_)
                  · skip
                    refine am_iincN (pc := 101) (ls' := [(0, .ref 322), (1, .int (nI (rf_nat n))), (2, .int (nI (rf_nat what))), (3, .int (rf_obeyed (h 323) 12)), (4, .int (am_oi (rf_tf (h 323) (rf_obeyed (h 323) 12) i69))), (5, .int (nI (i69 + 1 + 1)))]) C dX12_trial_101 rfl (am_up1 _) (by decide) rfl ?_
                    refine am_goto (pc := 104) (tgt := 69) C dX12_trial_104 (by decide) ?_
                    refine am_hp (show (am_row (am_row (am_row (am_row h 330 (g76_10 330)) 322 (upd (h 322) 0 (nI 0))) 326 (rf_cp (h 326) (h 323) 0 0 731)) 323 (rf_hour (rf_hrs (h 323) i69))) = (am_row (am_row (am_row (am_row h 330 (g76_10 330)) 322 (upd (h 322) 0 (nI 0))) 326 (rf_cp (h 326) (h 323) 0 0 731)) 323 (rf_hrs (h 323) (i69 + 1))) from rfl) ?_
                    refine am_lsv (ls' := [(0, .ref 322), (1, .int (nI (rf_nat n))), (2, .int (nI (rf_nat what))), (3, .int (rf_obeyed (h 323) 12)), (4, .int (am_oi (rf_tf (h 323) (rf_obeyed (h 323) 12) (i69 + 1)))), (5, .int (nI (i69 + 1 + 1)))]) (congrArg (fun z9 : Int32 => ([(0, .ref 322), (1, .int (nI (rf_nat n))), (2, .int (nI (rf_nat what))), (3, .int (rf_obeyed (h 323) 12)), (4, Value.int z9), (5, .int (nI (i69 + 1 + 1)))] : List (Nat × Value))) (show (am_oi (rf_tf (h 323) (rf_obeyed (h 323) 12) i69)) = (am_oi (rf_tf (h 323) (rf_obeyed (h 323) 12) (i69 + 1))) from (by rw [rf_tf, if_neg (fun z => z.2 q94)]))) ?_
                    refine am_lsv (ls' := [(0, .ref 322), (1, .int (nI (rf_nat n))), (2, .int (nI (rf_nat what))), (3, .int (rf_obeyed (h 323) 12)), (4, .int (am_oi (rf_tf (h 323) (rf_obeyed (h 323) 12) (i69 + 1)))), (5, .int (nI ((i69 + 1) + 1)))]) (congrArg (fun z9 : Int32 => ([(0, .ref 322), (1, .int (nI (rf_nat n))), (2, .int (nI (rf_nat what))), (3, .int (rf_obeyed (h 323) 12)), (4, .int (am_oi (rf_tf (h 323) (rf_obeyed (h 323) 12) (i69 + 1)))), (5, Value.int z9)] : List (Nat × Value))) (show (nI (i69 + 1 + 1)) = (nI ((i69 + 1) + 1)) from rfl)) ?_
                    exact ih69 (i69 + 1) (am_row h 330 (g76_10 330)) (by omega) 
                  · skip
                    refine am_iload (pc := 97) C dX12_trial_97 rfl ?_
                    refine am_istore (pc := 99) (ls' := [(0, .ref 322), (1, .int (nI (rf_nat n))), (2, .int (nI (rf_nat what))), (3, .int (rf_obeyed (h 323) 12)), (4, .int (nI (i69 + 1))), (5, .int (nI (i69 + 1)))]) C dX12_trial_99 (by decide) rfl ?_
                    refine am_iincN (pc := 101) (ls' := [(0, .ref 322), (1, .int (nI (rf_nat n))), (2, .int (nI (rf_nat what))), (3, .int (rf_obeyed (h 323) 12)), (4, .int (nI (i69 + 1))), (5, .int (nI (i69 + 1 + 1)))]) C dX12_trial_101 rfl (am_up1 _) (by decide) rfl ?_
                    refine am_goto (pc := 104) (tgt := 69) C dX12_trial_104 (by decide) ?_
                    refine am_hp (show (am_row (am_row (am_row (am_row h 330 (g76_10 330)) 322 (upd (h 322) 0 (nI 0))) 326 (rf_cp (h 326) (h 323) 0 0 731)) 323 (rf_hour (rf_hrs (h 323) i69))) = (am_row (am_row (am_row (am_row h 330 (g76_10 330)) 322 (upd (h 322) 0 (nI 0))) 326 (rf_cp (h 326) (h 323) 0 0 731)) 323 (rf_hrs (h 323) (i69 + 1))) from rfl) ?_
                    refine am_lsv (ls' := [(0, .ref 322), (1, .int (nI (rf_nat n))), (2, .int (nI (rf_nat what))), (3, .int (rf_obeyed (h 323) 12)), (4, .int (am_oi (rf_tf (h 323) (rf_obeyed (h 323) 12) (i69 + 1)))), (5, .int (nI (i69 + 1 + 1)))]) (congrArg (fun z9 : Int32 => ([(0, .ref 322), (1, .int (nI (rf_nat n))), (2, .int (nI (rf_nat what))), (3, .int (rf_obeyed (h 323) 12)), (4, Value.int z9), (5, .int (nI (i69 + 1 + 1)))] : List (Nat × Value))) (show (nI (i69 + 1)) = (am_oi (rf_tf (h 323) (rf_obeyed (h 323) 12) (i69 + 1))) from (by rw [rf_tf, if_pos ⟨q81, q94⟩]; exact (am_oi_s _).symm))) ?_
                    refine am_lsv (ls' := [(0, .ref 322), (1, .int (nI (rf_nat n))), (2, .int (nI (rf_nat what))), (3, .int (rf_obeyed (h 323) 12)), (4, .int (am_oi (rf_tf (h 323) (rf_obeyed (h 323) 12) (i69 + 1)))), (5, .int (nI ((i69 + 1) + 1)))]) (congrArg (fun z9 : Int32 => ([(0, .ref 322), (1, .int (nI (rf_nat n))), (2, .int (nI (rf_nat what))), (3, .int (rf_obeyed (h 323) 12)), (4, .int (am_oi (rf_tf (h 323) (rf_obeyed (h 323) 12) (i69 + 1)))), (5, Value.int z9)] : List (Nat × Value))) (show (nI (i69 + 1 + 1)) = (nI ((i69 + 1) + 1)) from rfl)) ?_
                    exact ih69 (i69 + 1) (am_row h 330 (g76_10 330)) (by omega) 
          refine am_hp (show (am_row (am_row (am_row h 330 (h 330)) 322 (upd (h 322) 0 (nI 0))) 326 (rf_cp (h 326) (h 323) 0 0 731)) = (am_row (am_row (am_row (am_row h 330 (h 330)) 322 (upd (h 322) 0 (nI 0))) 326 (rf_cp (h 326) (h 323) 0 0 731)) 323 (rf_hrs (h 323) 0)) from (am_row_id _ 323).symm) ?_
          refine am_lsv (ls' := [(0, .ref 322), (1, .int (nI (rf_nat n))), (2, .int (nI (rf_nat what))), (3, .int (rf_obeyed (h 323) 12)), (4, .int (am_oi (rf_tf (h 323) (rf_obeyed (h 323) 12) 0))), (5, .int (nI 1))]) (congrArg (fun z9 : Int32 => ([(0, .ref 322), (1, .int (nI (rf_nat n))), (2, .int (nI (rf_nat what))), (3, .int (rf_obeyed (h 323) 12)), (4, Value.int z9), (5, .int (nI 1))] : List (Nat × Value))) (show (-1) = (am_oi (rf_tf (h 323) (rf_obeyed (h 323) 12) 0)) from (by first | exact am_oi_0.symm | rfl))) ?_
          refine am_lsv (ls' := [(0, .ref 322), (1, .int (nI (rf_nat n))), (2, .int (nI (rf_nat what))), (3, .int (rf_obeyed (h 323) 12)), (4, .int (am_oi (rf_tf (h 323) (rf_obeyed (h 323) 12) 0))), (5, .int (nI (0 + 1)))]) (congrArg (fun z9 : Int32 => ([(0, .ref 322), (1, .int (nI (rf_nat n))), (2, .int (nI (rf_nat what))), (3, .int (rf_obeyed (h 323) 12)), (4, .int (am_oi (rf_tf (h 323) (rf_obeyed (h 323) 12) 0))), (5, Value.int z9)] : List (Nat × Value))) (show (nI 1) = (nI (0 + 1)) from (by first | exact am_oi_0.symm | rfl))) ?_
          exact L69 (rf_nat n) 0 (am_row h 330 (h 330)) (by omega) 
        · skip
          exact Bool.noConfusion q47
      · skip
        refine am_iconstN (pc := 38) (k := 1) C dX12_trial_38 ?_
        refine am_goto (pc := 39) (tgt := 43) C dX12_trial_39 (by decide) ?_
        refine am_top (show (nI 1) = (am_b true) from rfl) ?_
        refine am_iconstN (pc := 43) (k := 2) C dX12_trial_43 ?_
        refine am_callVi (Y := mX12_throwsIf) (pc := 44) (st := []) (As := [.int (am_b true), .int (nI 2)]) (x := (am_b true)) (h2 := (am_row (am_row (am_row h 330 (h 330)) 322 (upd (h 322) 0 (nI 0))) 322 (bif true then upd (upd (h 322) 0 (nI 0)) 0 (nI 2) else (upd (h 322) 0 (nI 0))))) C dX12_trial_44 k12_269 v_X12_throwsIf rfl rfl bn_322 sh_322 ⟨by decide, rfl⟩ (by decide) (Nat.zero_le _) (Nat.zero_le _) (Nat.le_of_ble_eq_true rfl) (c_X12_throwsIf hR true (nI 2)) ?_
        refine am_hp (show (am_row (am_row (am_row h 330 (h 330)) 322 (upd (h 322) 0 (nI 0))) 322 (bif true then upd (upd (h 322) 0 (nI 0)) 0 (nI 2) else (upd (h 322) 0 (nI 0)))) = (am_row (am_row h 330 (h 330)) 322 (bif true then upd (upd (h 322) 0 (nI 0)) 0 (nI 2) else (upd (h 322) 0 (nI 0)))) from am_row_s0) ?_
        refine am_hp (show (am_row (am_row h 330 (h 330)) 322 (bif true then upd (upd (h 322) 0 (nI 0)) 0 (nI 2) else (upd (h 322) 0 (nI 0)))) = (am_row (am_row h 330 (h 330)) 322 (upd (upd (h 322) 0 (nI 0)) 0 (nI 2))) from rfl) ?_
        refine am_if_eqB (pc := 47) (tgt := 52) C dX12_trial_47 (by decide) (fun q47 => ?_) (fun q47 => ?_)
        · skip
          exact Bool.noConfusion q47
        · skip
          refine am_iconstN (pc := 50) (k := 0) C dX12_trial_50 ?_
          have K9 : rf_c_trial (h 323) n what = 2 := (by unfold rf_c_trial; exact ((rf_cb_nf q13).trans (rf_cb_nt q35)))
          exact am_iretij (G := (am_row h 330 (h 330))) T dX12_trial_51 rfl (Nat.le_refl _) (Nat.le_refl _) (by rw [K9]; rfl) rfl (by rw [K9]; exact (congrArg (am_row _ 322) rf_upd_upd).trans (am_hA2 (by decide) (by decide) (by decide)).symm)
  · skip
    refine am_iconstN (pc := 16) (k := 1) C dX12_trial_16 ?_
    refine am_goto (pc := 17) (tgt := 21) C dX12_trial_17 (by decide) ?_
    refine am_top (show (nI 1) = (am_b true) from rfl) ?_
    refine am_iconstN (pc := 21) (k := 1) C dX12_trial_21 ?_
    refine am_callVi (Y := mX12_throwsIf) (pc := 22) (st := []) (As := [.int (am_b true), .int (nI 1)]) (x := (am_b true)) (h2 := (am_row (am_row (am_row h 330 (h 330)) 322 (upd (h 322) 0 (nI 0))) 322 (bif true then upd (upd (h 322) 0 (nI 0)) 0 (nI 1) else (upd (h 322) 0 (nI 0))))) C dX12_trial_22 k12_269 v_X12_throwsIf rfl rfl bn_322 sh_322 ⟨by decide, rfl⟩ (by decide) (Nat.zero_le _) (Nat.zero_le _) (Nat.le_of_ble_eq_true rfl) (c_X12_throwsIf hR true (nI 1)) ?_
    refine am_hp (show (am_row (am_row (am_row h 330 (h 330)) 322 (upd (h 322) 0 (nI 0))) 322 (bif true then upd (upd (h 322) 0 (nI 0)) 0 (nI 1) else (upd (h 322) 0 (nI 0)))) = (am_row (am_row h 330 (h 330)) 322 (bif true then upd (upd (h 322) 0 (nI 0)) 0 (nI 1) else (upd (h 322) 0 (nI 0)))) from am_row_s0) ?_
    refine am_hp (show (am_row (am_row h 330 (h 330)) 322 (bif true then upd (upd (h 322) 0 (nI 0)) 0 (nI 1) else (upd (h 322) 0 (nI 0)))) = (am_row (am_row h 330 (h 330)) 322 (upd (upd (h 322) 0 (nI 0)) 0 (nI 1))) from rfl) ?_
    refine am_if_neB (pc := 25) (tgt := 50) C dX12_trial_25 (by decide) (fun q25 => ?_) (fun q25 => ?_)
    · skip
      refine am_iconstN (pc := 50) (k := 0) C dX12_trial_50 ?_
      have K9 : rf_c_trial (h 323) n what = 1 := (by unfold rf_c_trial; exact (rf_cb_nt q13))
      exact am_iretij (G := (am_row h 330 (h 330))) T dX12_trial_51 rfl (Nat.le_refl _) (Nat.le_refl _) (by rw [K9]; rfl) rfl (by rw [K9]; exact (congrArg (am_row _ 322) rf_upd_upd).trans (am_hA2 (by decide) (by decide) (by decide)).symm)
    · skip
      exact Bool.noConfusion q25

set_option maxHeartbeats 400000 in
set_option maxRecDepth 100000 in
theorem c_X12_span {ad : Nat → Nat} {r : am_R} (hR : am_rs r) {h : am_H} (d : Int32) (n : Int32) (most : Bool) (hV : rf_I (h 323)) (hL : rf_Lw (h 323))  : am_CM mX12_span 9 0 0 [.ref 322, .int d, .int n, .int (am_b most)] (am_VV ad) r h (am_pj (some (.int (rf_ga (rf_c_span (h 323) d n most) (rf_a_span (h 323) d n most)))) r (fun G => (am_row (am_row (am_row (am_row h 330 (G 330)) 322 (rf_oc (h 322) (rf_c_span (h 323) d n most))) 326 (rf_gw (rf_c_span (h 323) d n most) (rf_cp (h 326) (h 323) 0 0 731) (h 326))) 323 (rf_gw (rf_c_span (h 323) d n most) (h 323) (h 323))))) := by
  refine am_CM.of (by decide +kernel) (Nat.le_of_ble_eq_true rfl) (fun X C T => ?_)
  show am_G X (am_VV ad) (0, 0) 0 [(0, .ref 322), (1, .int d), (2, .int n), (3, .int (am_b most))] [] r h
  have hM9 : rf_M (h 323) < 17 := hV.1.1.2
  have hS9 : rf_S (h 323) < 11 := hV.1.2.1.2
  have hO9 : rf_O (h 323) < 11 := hV.1.2.2.2
  refine am_hp (show h = (am_row h 330 (h 330)) from (am_row_id _ _).symm) ?_
  refine am_aload_n (pc := 0) C dX12_span_0 rfl ?_
  refine am_iconstN (pc := 1) (k := 0) C dX12_span_1 ?_
  refine am_putI (pc := 2) C dX12_span_2 f12_3 bn_322 sh_322 rfl rfl ?_
  refine am_hp (show am_up (am_row h 330 (h 330)) 322 0 (nI 0) = am_row (am_row h 330 (h 330)) 322 (upd (h 322) 0 (nI 0)) from am_up_rw _ _ _ _) ?_
  refine am_aload_n (pc := 5) C dX12_span_5 rfl ?_
  refine am_iload_n (pc := 6) C dX12_span_6 rfl ?_
  refine am_callSi (Y := mX12_noSide) (pc := 7) (st := [.ref 322]) (As := [.int d]) (x := (am_b (!rf_in d (nI 0) (nI 1)))) (h2 := (am_row (am_row h 330 (h 330)) 322 (upd (h 322) 0 (nI 0)))) C dX12_span_7 k12_393 v_X12_noSide rfl rfl (by decide) (Nat.zero_le _) (Nat.zero_le _) (Nat.le_of_ble_eq_true rfl) (c_X12_noSide hR d) ?_
  refine am_iconstN (pc := 10) (k := 1) C dX12_span_10 ?_
  refine am_callVi (Y := mX12_throwsIf) (pc := 11) (st := []) (As := [.int (am_b (!rf_in d (nI 0) (nI 1))), .int (nI 1)]) (x := (am_b (!rf_in d (nI 0) (nI 1)))) (h2 := (am_row (am_row (am_row h 330 (h 330)) 322 (upd (h 322) 0 (nI 0))) 322 (bif (!rf_in d (nI 0) (nI 1)) then upd (upd (h 322) 0 (nI 0)) 0 (nI 1) else (upd (h 322) 0 (nI 0))))) C dX12_span_11 k12_269 v_X12_throwsIf rfl rfl bn_322 sh_322 ⟨by decide, rfl⟩ (by decide) (Nat.zero_le _) (Nat.zero_le _) (Nat.le_of_ble_eq_true rfl) (c_X12_throwsIf hR (!rf_in d (nI 0) (nI 1)) (nI 1)) ?_
  refine am_hp (show (am_row (am_row (am_row h 330 (h 330)) 322 (upd (h 322) 0 (nI 0))) 322 (bif (!rf_in d (nI 0) (nI 1)) then upd (upd (h 322) 0 (nI 0)) 0 (nI 1) else (upd (h 322) 0 (nI 0)))) = (am_row (am_row h 330 (h 330)) 322 (bif (!rf_in d (nI 0) (nI 1)) then upd (upd (h 322) 0 (nI 0)) 0 (nI 1) else (upd (h 322) 0 (nI 0)))) from am_row_s0) ?_
  refine am_if_neB (pc := 14) (tgt := 40) C dX12_span_14 (by decide) (fun q14 => ?_) (fun q14 => ?_)
  · skip
    refine am_hp (show (am_row (am_row h 330 (h 330)) 322 (bif (!rf_in d (nI 0) (nI 1)) then upd (upd (h 322) 0 (nI 0)) 0 (nI 1) else (upd (h 322) 0 (nI 0)))) = (am_row (am_row h 330 (h 330)) 322 (upd (upd (h 322) 0 (nI 0)) 0 (nI 1))) from by rw [q14]; rfl) ?_
    refine am_iconstN (pc := 40) (k := 0) C dX12_span_40 ?_
    have K9 : rf_c_span (h 323) d n most = 1 := (by unfold rf_c_span; exact (rf_cb_t q14))
    exact am_iretij (G := (am_row h 330 (h 330))) T dX12_span_41 rfl (Nat.le_refl _) (Nat.le_refl _) (by rw [K9]; rfl) rfl (by rw [K9]; exact (congrArg (am_row _ 322) rf_upd_upd).trans (am_hA2 (by decide) (by decide) (by decide)).symm)
  · skip
    refine am_hp (show (am_row (am_row h 330 (h 330)) 322 (bif (!rf_in d (nI 0) (nI 1)) then upd (upd (h 322) 0 (nI 0)) 0 (nI 1) else (upd (h 322) 0 (nI 0)))) = (am_row (am_row h 330 (h 330)) 322 (upd (h 322) 0 (nI 0))) from by rw [q14]; rfl) ?_
    refine am_aload_n (pc := 17) C dX12_span_17 rfl ?_
    refine am_iload_n (pc := 18) C dX12_span_18 rfl ?_
    refine am_iconstN (pc := 19) (k := 0) C dX12_span_19 ?_
    refine am_bipush (pc := 20) (v := nI 24) C dX12_span_20 (by decide) ?_
    refine am_callSi (Y := mX12_in) (pc := 22) (st := [.ref 322]) (As := [.int n, .int (nI 0), .int (nI 24)]) (x := (am_b (rf_in n (nI 0) (nI 24)))) (h2 := (am_row (am_row h 330 (h 330)) 322 (upd (h 322) 0 (nI 0)))) C dX12_span_22 k12_71 v_X12_in rfl rfl (by decide) (Nat.zero_le _) (Nat.zero_le _) (Nat.le_of_ble_eq_true rfl) (c_X12_in hR n (nI 0) (nI 24)) ?_
    refine am_if_neB (pc := 25) (tgt := 32) C dX12_span_25 (by decide) (fun q25 => ?_) (fun q25 => ?_)
    · skip
      refine am_iconstN (pc := 32) (k := 0) C dX12_span_32 ?_
      refine am_top (show (nI 0) = (am_b false) from rfl) ?_
      refine am_iconstN (pc := 33) (k := 2) C dX12_span_33 ?_
      refine am_callVi (Y := mX12_throwsIf) (pc := 34) (st := []) (As := [.int (am_b false), .int (nI 2)]) (x := (am_b false)) (h2 := (am_row (am_row (am_row h 330 (h 330)) 322 (upd (h 322) 0 (nI 0))) 322 (bif false then upd (upd (h 322) 0 (nI 0)) 0 (nI 2) else (upd (h 322) 0 (nI 0))))) C dX12_span_34 k12_269 v_X12_throwsIf rfl rfl bn_322 sh_322 ⟨by decide, rfl⟩ (by decide) (Nat.zero_le _) (Nat.zero_le _) (Nat.le_of_ble_eq_true rfl) (c_X12_throwsIf hR false (nI 2)) ?_
      refine am_hp (show (am_row (am_row (am_row h 330 (h 330)) 322 (upd (h 322) 0 (nI 0))) 322 (bif false then upd (upd (h 322) 0 (nI 0)) 0 (nI 2) else (upd (h 322) 0 (nI 0)))) = (am_row (am_row h 330 (h 330)) 322 (bif false then upd (upd (h 322) 0 (nI 0)) 0 (nI 2) else (upd (h 322) 0 (nI 0)))) from am_row_s0) ?_
      refine am_hp (show (am_row (am_row h 330 (h 330)) 322 (bif false then upd (upd (h 322) 0 (nI 0)) 0 (nI 2) else (upd (h 322) 0 (nI 0)))) = (am_row (am_row h 330 (h 330)) 322 (upd (h 322) 0 (nI 0))) from rfl) ?_
      refine am_if_eqB (pc := 37) (tgt := 42) C dX12_span_37 (by decide) (fun q37 => ?_) (fun q37 => ?_)
      · skip
        have K9 : rf_c_span (h 323) d n most = 0 := by unfold rf_c_span; exact ((rf_cb_f q14).trans (rf_cb_nf q25))
        have hd := rf_side_q q14
        have hd2 := hd.2
        have hn := rf_in_n0 (by decide) q25
        have hn2 := hn.2
        refine am_lsv (ls' := [(0, .ref 322), (1, .int (nI (rf_nat d))), (2, .int n), (3, .int (am_b most))]) (congrArg (fun z9 : Int32 => ([(0, .ref 322), (1, Value.int z9), (2, .int n), (3, .int (am_b most))] : List (Nat × Value))) (show d = (nI (rf_nat d)) from hd.1)) ?_
        refine am_lsv (ls' := [(0, .ref 322), (1, .int (nI (rf_nat d))), (2, .int (nI (rf_nat n))), (3, .int (am_b most))]) (congrArg (fun z9 : Int32 => ([(0, .ref 322), (1, .int (nI (rf_nat d))), (2, Value.int z9), (3, .int (am_b most))] : List (Nat × Value))) (show n = (nI (rf_nat n)) from hn.1)) ?_
        refine am_aload_n (pc := 42) C dX12_span_42 rfl ?_
        refine am_callVv (Y := mX12_keepsAll) (pc := 43) (st := []) (As := []) (h2 := (am_row (am_row (am_row h 330 (h 330)) 322 (upd (h 322) 0 (nI 0))) 326 (rf_cp (h 326) (h 323) 0 0 731))) C dX12_span_43 k12_439 v_X12_keepsAll rfl rfl bn_322 sh_322 ⟨by decide, rfl⟩ (by decide) (Nat.zero_le _) (Nat.zero_le _) (Nat.le_of_ble_eq_true rfl) (c_X12_keepsAll hR ) ?_
        refine am_iconst (pc := 46) (v := -1) C dX12_span_46 rfl ?_
        refine am_istore (pc := 47) (ls' := [(0, .ref 322), (1, .int (nI (rf_nat d))), (2, .int (nI (rf_nat n))), (3, .int (am_b most)), (4, .int (-1))]) C dX12_span_47 (by decide) rfl ?_
        refine am_iconstN (pc := 49) (k := 1) C dX12_span_49 ?_
        refine am_istore (pc := 50) (ls' := [(0, .ref 322), (1, .int (nI (rf_nat d))), (2, .int (nI (rf_nat n))), (3, .int (am_b most)), (4, .int (-1)), (5, .int (nI 1))]) C dX12_span_50 (by decide) rfl ?_
        have L52 : ∀ (j52 i52 : Nat) (g52 : am_H), i52 + j52 = 6 → am_G X (am_VV ad) (0, 0) 52 [(0, .ref 322), (1, .int (nI (rf_nat d))), (2, .int (nI (rf_nat n))), (3, .int (am_b most)), (4, .int (rf_sp (h 323) (rf_nat d) (rf_nat n) most i52)), (5, .int (nI (i52 + 1)))] [] r (am_row (am_row (am_row (am_row h 330 (g52 330)) 322 (upd (h 322) 0 (nI 0))) 326 (rf_cp (h 326) (h 323) 0 0 731)) 323 (h 323)) := by
          intro j52
          induction j52 with
          | zero =>
            intro i52 g52 hi52 
            obtain rfl : i52 = 6 := by omega
            refine am_iload (pc := 52) C dX12_span_52 rfl ?_
            refine am_bipush (pc := 54) (v := nI 6) C dX12_span_54 (by decide) ?_
            refine am_icmp_gtN (pc := 56) (tgt := 139) C dX12_span_56 (by decide) (by omega) (by omega) (fun q56 => ?_) (fun q56 => ?_)
            · skip
              refine am_iload (pc := 139) C dX12_span_139 rfl ?_
              have A9 : rf_a_span (h 323) d n most = (rf_sp (h 323) (rf_nat d) (rf_nat n) most 6) := (by rw [rf_a_span])
              exact am_iretij (G := (am_row h 330 (g52 330))) T dX12_span_141 rfl (Nat.le_refl _) (Nat.le_refl _) (by rw [K9, rf_ga_0]; exact A9.symm) rfl (by rw [K9]; exact rfl)
            · skip
              exact absurd q56 (by omega)
          | succ j52 ih52 =>
            intro i52 g52 hi52 
            have hl52 : i52 < 6 := by omega
            have hI9 : rf_I (upd (h 323) 10 (nI (i52 + 1))) := rf_I_num hV (fun a _ _ _ h4 => rf_upd_ne h4)
            have hE9 : rf_Eq (h 323) (upd (h 323) 10 (nI (i52 + 1))) := ⟨fun a ha => rf_upd_ne (by omega), fun a ha => rf_upd_ne (by omega)⟩
            have hL9 := hE9.L hL
            have okz := rf_hrs_ok hI9 hL9 (rf_nat n)
            have hEz := hE9.tr okz.2.1
            refine am_iload (pc := 52) C dX12_span_52 rfl ?_
            refine am_bipush (pc := 54) (v := nI 6) C dX12_span_54 (by decide) ?_
            refine am_icmp_gtN (pc := 56) (tgt := 139) C dX12_span_56 (by decide) (by omega) (by omega) (fun q56 => ?_) (fun q56 => ?_)
            · skip
              exact absurd q56 (by omega)
            · skip
              refine am_aload_n (pc := 59) C dX12_span_59 rfl ?_
              refine am_getR (pc := 60) (j := 323) C dX12_span_60 f12_13 bn_322 sh_322 (rf_322_1 hR) ?_
              refine am_bipush (pc := 63) (v := nI 10) C dX12_span_63 (by decide) ?_
              refine am_iload (pc := 65) C dX12_span_65 rfl ?_
              refine am_iastore (pc := 67) C dX12_span_67 bn_323 sh_323 (vp_in_nI (by omega) (by decide)) ?_
              refine am_hp (show am_up (am_row (am_row (am_row (am_row h 330 (g52 330)) 322 (upd (h 322) 0 (nI 0))) 326 (rf_cp (h 326) (h 323) 0 0 731)) 323 (h 323)) 323 (nI 10).toNatClampNeg (nI (i52 + 1)) = am_row (am_row (am_row (am_row (am_row h 330 (g52 330)) 322 (upd (h 322) 0 (nI 0))) 326 (rf_cp (h 326) (h 323) 0 0 731)) 323 (h 323)) 323 (upd (h 323) 10 (nI (i52 + 1))) from by rw [nI_clamp (by omega)]; exact am_up_rw _ _ _ _) ?_
              refine am_hp (show am_row (am_row (am_row (am_row (am_row h 330 (g52 330)) 322 (upd (h 322) 0 (nI 0))) 326 (rf_cp (h 326) (h 323) 0 0 731)) 323 (h 323)) 323 (upd (h 323) 10 (nI (i52 + 1))) = (am_row (am_row (am_row (am_row h 330 (g52 330)) 322 (upd (h 322) 0 (nI 0))) 326 (rf_cp (h 326) (h 323) 0 0 731)) 323 (upd (h 323) 10 (nI (i52 + 1)))) from am_row_s0) ?_
              refine am_iconstN (pc := 68) (k := 0) C dX12_span_68 ?_
              refine am_istore (pc := 69) (ls' := [(0, .ref 322), (1, .int (nI (rf_nat d))), (2, .int (nI (rf_nat n))), (3, .int (am_b most)), (4, .int (rf_sp (h 323) (rf_nat d) (rf_nat n) most i52)), (5, .int (nI (i52 + 1))), (6, .int (nI 0))]) C dX12_span_69 (by decide) rfl ?_
              have L71 : ∀ (j71 i71 : Nat) (g71 : am_H), i71 + j71 = (rf_nat n) → am_G X (am_VV ad) (0, 0) 71 [(0, .ref 322), (1, .int (nI (rf_nat d))), (2, .int (nI (rf_nat n))), (3, .int (am_b most)), (4, .int (rf_sp (h 323) (rf_nat d) (rf_nat n) most i52)), (5, .int (nI (i52 + 1))), (6, .int (nI i71))] [] r (am_row (am_row (am_row (am_row h 330 (g71 330)) 322 (upd (h 322) 0 (nI 0))) 326 (rf_cp (h 326) (h 323) 0 0 731)) 323 (rf_hrs (upd (h 323) 10 (nI (i52 + 1))) i71)) := by
                intro j71
                induction j71 with
                | zero =>
                  intro i71 g71 hi71 
                  obtain rfl : i71 = (rf_nat n) := by omega
                  refine am_iload (pc := 71) C dX12_span_71 rfl ?_
                  refine am_iload_n (pc := 73) C dX12_span_73 rfl ?_
                  refine am_icmp_geN (pc := 74) (tgt := 87) C dX12_span_74 (by decide) (by omega) (by omega) (fun q74 => ?_) (fun q74 => ?_)
                  · skip
                    refine am_aload_n (pc := 87) C dX12_span_87 rfl ?_
                    refine am_iconstN (pc := 88) (k := 1) C dX12_span_88 ?_
                    refine am_iload_n (pc := 89) C dX12_span_89 rfl ?_
                    refine am_ishl (pc := 90) C dX12_span_90 ?_
                    refine am_callVi (Y := mX12_allUsable) (pc := 91) (st := []) (As := [.int ((nI 1) <<< ((nI (rf_nat d)) &&& 31))]) (x := (rf_au (rf_hrs (upd (h 323) 10 (nI (i52 + 1))) (rf_nat n)) ((nI 1) <<< ((nI (rf_nat d)) &&& 31)) (rf_S (rf_hrs (upd (h 323) 10 (nI (i52 + 1))) (rf_nat n))))) (h2 := (am_row (am_row (am_row (am_row h 330 (g71 330)) 322 (upd (h 322) 0 (nI 0))) 326 (rf_cp (h 326) (h 323) 0 0 731)) 323 (rf_hrs (upd (h 323) 10 (nI (i52 + 1))) (rf_nat n)))) C dX12_span_91 k12_445 v_X12_allUsable rfl rfl bn_322 sh_322 ⟨by decide, rfl⟩ (by decide) (Nat.zero_le _) (Nat.zero_le _) (Nat.le_of_ble_eq_true rfl) (c_X12_allUsable hR ((nI 1) <<< ((nI (rf_nat d)) &&& 31)) (show rf_I (rf_hrs (upd (h 323) 10 (nI (i52 + 1))) (rf_nat n)) from okz.1)) ?_
                    refine am_top (show (rf_au (rf_hrs (upd (h 323) 10 (nI (i52 + 1))) (rf_nat n)) ((nI 1) <<< ((nI (rf_nat d)) &&& 31)) (rf_S (rf_hrs (upd (h 323) 10 (nI (i52 + 1))) (rf_nat n)))) = (rf_sps (h 323) (rf_nat d) (rf_nat n) (i52 + 1)) from (congrArg (rf_au _ _) hEz.S)) ?_
                    refine am_istore (pc := 94) (ls' := [(0, .ref 322), (1, .int (nI (rf_nat d))), (2, .int (nI (rf_nat n))), (3, .int (am_b most)), (4, .int (rf_sp (h 323) (rf_nat d) (rf_nat n) most i52)), (5, .int (nI (i52 + 1))), (6, .int (rf_sps (h 323) (rf_nat d) (rf_nat n) (i52 + 1)))]) C dX12_span_94 (by decide) rfl ?_
                    refine am_aload_n (pc := 96) C dX12_span_96 rfl ?_
                    refine am_callVv (Y := mX12_bringsBack) (pc := 97) (st := []) (As := []) (h2 := (am_row (am_row (am_row (am_row (am_row h 330 (g71 330)) 322 (upd (h 322) 0 (nI 0))) 326 (rf_cp (h 326) (h 323) 0 0 731)) 323 (rf_hrs (upd (h 323) 10 (nI (i52 + 1))) (rf_nat n))) 323 (rf_cp (rf_hrs (upd (h 323) 10 (nI (i52 + 1))) (rf_nat n)) (rf_cp (h 326) (h 323) 0 0 731) 0 0 731))) C dX12_span_97 k12_448 v_X12_bringsBack rfl rfl bn_322 sh_322 ⟨by decide, rfl⟩ (by decide) (Nat.zero_le _) (Nat.zero_le _) (Nat.le_of_ble_eq_true rfl) (c_X12_bringsBack hR ) ?_
                    refine am_hp (show (am_row (am_row (am_row (am_row (am_row h 330 (g71 330)) 322 (upd (h 322) 0 (nI 0))) 326 (rf_cp (h 326) (h 323) 0 0 731)) 323 (rf_hrs (upd (h 323) 10 (nI (i52 + 1))) (rf_nat n))) 323 (rf_cp (rf_hrs (upd (h 323) 10 (nI (i52 + 1))) (rf_nat n)) (rf_cp (h 326) (h 323) 0 0 731) 0 0 731)) = (am_row (am_row (am_row (am_row h 330 (g71 330)) 322 (upd (h 322) 0 (nI 0))) 326 (rf_cp (h 326) (h 323) 0 0 731)) 323 (rf_cp (rf_hrs (upd (h 323) 10 (nI (i52 + 1))) (rf_nat n)) (rf_cp (h 326) (h 323) 0 0 731) 0 0 731)) from am_row_s0) ?_
                    refine am_hp (show (am_row (am_row (am_row (am_row h 330 (g71 330)) 322 (upd (h 322) 0 (nI 0))) 326 (rf_cp (h 326) (h 323) 0 0 731)) 323 (rf_cp (rf_hrs (upd (h 323) 10 (nI (i52 + 1))) (rf_nat n)) (rf_cp (h 326) (h 323) 0 0 731) 0 0 731)) = (am_row (am_row (am_row (am_row h 330 (g71 330)) 322 (upd (h 322) 0 (nI 0))) 326 (rf_cp (h 326) (h 323) 0 0 731)) 323 (h 323)) from congrArg (am_row _ 323) (rf_cp_back hEz)) ?_
                    refine am_iload (pc := 100) C dX12_span_100 rfl ?_
                    refine am_if_ge (pc := 102) (tgt := 110) C dX12_span_102 (by decide) (fun q102 => ?_) (fun q102 => ?_)
                    · skip
                      refine am_iload_n (pc := 110) C dX12_span_110 rfl ?_
                      refine am_if_eqB (pc := 111) (tgt := 124) C dX12_span_111 (by decide) (fun q111 => ?_) (fun q111 => ?_)
                      · skip
                        refine am_iload (pc := 124) C dX12_span_124 rfl ?_
                        refine am_iload (pc := 126) C dX12_span_126 rfl ?_
                        refine am_callSi (Y := mJ9_min_7cf53) (pc := 128) (st := []) (As := [.int (rf_sp (h 323) (rf_nat d) (rf_nat n) most i52), .int (rf_sps (h 323) (rf_nat d) (rf_nat n) (i52 + 1))]) (x := (rf_min (rf_sp (h 323) (rf_nat d) (rf_nat n) most i52) (rf_sps (h 323) (rf_nat d) (rf_nat n) (i52 + 1)))) (h2 := (am_row (am_row (am_row (am_row h 330 (g71 330)) 322 (upd (h 322) 0 (nI 0))) 326 (rf_cp (h 326) (h 323) 0 0 731)) 323 (h 323))) C dX12_span_128 k12_293 v_J9_min_7cf53 rfl rfl (by decide) (Nat.zero_le _) (Nat.zero_le _) (Nat.le_of_ble_eq_true rfl) (c_J9_min_7cf53 hR (rf_sp (h 323) (rf_nat d) (rf_nat n) most i52) (rf_sps (h 323) (rf_nat d) (rf_nat n) (i52 + 1))) ?_
                        refine am_istore (pc := 131) (ls' := [(0, .ref 322), (1, .int (nI (rf_nat d))), (2, .int (nI (rf_nat n))), (3, .int (am_b most)), (4, .int (rf_min (rf_sp (h 323) (rf_nat d) (rf_nat n) most i52) (rf_sps (h 323) (rf_nat d) (rf_nat n) (i52 + 1)))), (5, .int (nI (i52 + 1))), (6, .int (rf_sps (h 323) (rf_nat d) (rf_nat n) (i52 + 1)))]) C dX12_span_131 (by decide) rfl ?_
                        refine am_iincN (pc := 133) (ls' := [(0, .ref 322), (1, .int (nI (rf_nat d))), (2, .int (nI (rf_nat n))), (3, .int (am_b most)), (4, .int (rf_min (rf_sp (h 323) (rf_nat d) (rf_nat n) most i52) (rf_sps (h 323) (rf_nat d) (rf_nat n) (i52 + 1)))), (5, .int (nI (i52 + 1 + 1))), (6, .int (rf_sps (h 323) (rf_nat d) (rf_nat n) (i52 + 1)))]) C dX12_span_133 rfl (am_up1 _) (by decide) rfl ?_
                        refine am_goto (pc := 136) (tgt := 52) C dX12_span_136 (by decide) ?_
                        refine am_sub (ls' := [(0, .ref 322), (1, .int (nI (rf_nat d))), (2, .int (nI (rf_nat n))), (3, .int (am_b most)), (4, .int (rf_min (rf_sp (h 323) (rf_nat d) (rf_nat n) most i52) (rf_sps (h 323) (rf_nat d) (rf_nat n) (i52 + 1)))), (5, .int (nI (i52 + 1 + 1)))]) (by intro q hq; simp only [List.mem_cons, List.not_mem_nil, or_false] at hq ⊢; rcases hq with rfl | rfl | rfl | rfl | rfl | rfl <;> simp) ?_
                        refine am_lsv (ls' := [(0, .ref 322), (1, .int (nI (rf_nat d))), (2, .int (nI (rf_nat n))), (3, .int (am_b most)), (4, .int (rf_sp (h 323) (rf_nat d) (rf_nat n) most (i52 + 1))), (5, .int (nI (i52 + 1 + 1)))]) (congrArg (fun z9 : Int32 => ([(0, .ref 322), (1, .int (nI (rf_nat d))), (2, .int (nI (rf_nat n))), (3, .int (am_b most)), (4, Value.int z9), (5, .int (nI (i52 + 1 + 1)))] : List (Nat × Value))) (show (rf_min (rf_sp (h 323) (rf_nat d) (rf_nat n) most i52) (rf_sps (h 323) (rf_nat d) (rf_nat n) (i52 + 1))) = (rf_sp (h 323) (rf_nat d) (rf_nat n) most (i52 + 1)) from (by rw [rf_sp, if_neg (Int32.not_lt.mpr q102), q111]; rfl))) ?_
                        refine am_lsv (ls' := [(0, .ref 322), (1, .int (nI (rf_nat d))), (2, .int (nI (rf_nat n))), (3, .int (am_b most)), (4, .int (rf_sp (h 323) (rf_nat d) (rf_nat n) most (i52 + 1))), (5, .int (nI ((i52 + 1) + 1)))]) (congrArg (fun z9 : Int32 => ([(0, .ref 322), (1, .int (nI (rf_nat d))), (2, .int (nI (rf_nat n))), (3, .int (am_b most)), (4, .int (rf_sp (h 323) (rf_nat d) (rf_nat n) most (i52 + 1))), (5, Value.int z9)] : List (Nat × Value))) (show (nI (i52 + 1 + 1)) = (nI ((i52 + 1) + 1)) from rfl)) ?_
                        exact ih52 (i52 + 1) (am_row h 330 (g71 330)) (by omega) 
                      · skip
                        refine am_iload (pc := 114) C dX12_span_114 rfl ?_
                        refine am_iload (pc := 116) C dX12_span_116 rfl ?_
                        refine am_callSi (Y := mJ9_max_7cf53) (pc := 118) (st := []) (As := [.int (rf_sp (h 323) (rf_nat d) (rf_nat n) most i52), .int (rf_sps (h 323) (rf_nat d) (rf_nat n) (i52 + 1))]) (x := (rf_max (rf_sp (h 323) (rf_nat d) (rf_nat n) most i52) (rf_sps (h 323) (rf_nat d) (rf_nat n) (i52 + 1)))) (h2 := (am_row (am_row (am_row (am_row h 330 (g71 330)) 322 (upd (h 322) 0 (nI 0))) 326 (rf_cp (h 326) (h 323) 0 0 731)) 323 (h 323))) C dX12_span_118 k12_402 v_J9_max_7cf53 rfl rfl (by decide) (Nat.zero_le _) (Nat.zero_le _) (Nat.le_of_ble_eq_true rfl) (c_J9_max_7cf53 hR (rf_sp (h 323) (rf_nat d) (rf_nat n) most i52) (rf_sps (h 323) (rf_nat d) (rf_nat n) (i52 + 1))) ?_
                        refine am_goto (pc := 121) (tgt := 131) C dX12_span_121 (by decide) ?_
                        refine am_istore (pc := 131) (ls' := [(0, .ref 322), (1, .int (nI (rf_nat d))), (2, .int (nI (rf_nat n))), (3, .int (am_b most)), (4, .int (rf_max (rf_sp (h 323) (rf_nat d) (rf_nat n) most i52) (rf_sps (h 323) (rf_nat d) (rf_nat n) (i52 + 1)))), (5, .int (nI (i52 + 1))), (6, .int (rf_sps (h 323) (rf_nat d) (rf_nat n) (i52 + 1)))]) C dX12_span_131 (by decide) rfl ?_
                        refine am_iincN (pc := 133) (ls' := [(0, .ref 322), (1, .int (nI (rf_nat d))), (2, .int (nI (rf_nat n))), (3, .int (am_b most)), (4, .int (rf_max (rf_sp (h 323) (rf_nat d) (rf_nat n) most i52) (rf_sps (h 323) (rf_nat d) (rf_nat n) (i52 + 1)))), (5, .int (nI (i52 + 1 + 1))), (6, .int (rf_sps (h 323) (rf_nat d) (rf_nat n) (i52 + 1)))]) C dX12_span_133 rfl (am_up1 _) (by decide) rfl ?_
                        refine am_goto (pc := 136) (tgt := 52) C dX12_span_136 (by decide) ?_
                        refine am_sub (ls' := [(0, .ref 322), (1, .int (nI (rf_nat d))), (2, .int (nI (rf_nat n))), (3, .int (am_b most)), (4, .int (rf_max (rf_sp (h 323) (rf_nat d) (rf_nat n) most i52) (rf_sps (h 323) (rf_nat d) (rf_nat n) (i52 + 1)))), (5, .int (nI (i52 + 1 + 1)))]) (by intro q hq; simp only [List.mem_cons, List.not_mem_nil, or_false] at hq ⊢; rcases hq with rfl | rfl | rfl | rfl | rfl | rfl <;> simp) ?_
                        refine am_lsv (ls' := [(0, .ref 322), (1, .int (nI (rf_nat d))), (2, .int (nI (rf_nat n))), (3, .int (am_b most)), (4, .int (rf_sp (h 323) (rf_nat d) (rf_nat n) most (i52 + 1))), (5, .int (nI (i52 + 1 + 1)))]) (congrArg (fun z9 : Int32 => ([(0, .ref 322), (1, .int (nI (rf_nat d))), (2, .int (nI (rf_nat n))), (3, .int (am_b most)), (4, Value.int z9), (5, .int (nI (i52 + 1 + 1)))] : List (Nat × Value))) (show (rf_max (rf_sp (h 323) (rf_nat d) (rf_nat n) most i52) (rf_sps (h 323) (rf_nat d) (rf_nat n) (i52 + 1))) = (rf_sp (h 323) (rf_nat d) (rf_nat n) most (i52 + 1)) from (by rw [rf_sp, if_neg (Int32.not_lt.mpr q102), q111]; rfl))) ?_
                        refine am_lsv (ls' := [(0, .ref 322), (1, .int (nI (rf_nat d))), (2, .int (nI (rf_nat n))), (3, .int (am_b most)), (4, .int (rf_sp (h 323) (rf_nat d) (rf_nat n) most (i52 + 1))), (5, .int (nI ((i52 + 1) + 1)))]) (congrArg (fun z9 : Int32 => ([(0, .ref 322), (1, .int (nI (rf_nat d))), (2, .int (nI (rf_nat n))), (3, .int (am_b most)), (4, .int (rf_sp (h 323) (rf_nat d) (rf_nat n) most (i52 + 1))), (5, Value.int z9)] : List (Nat × Value))) (show (nI (i52 + 1 + 1)) = (nI ((i52 + 1) + 1)) from rfl)) ?_
                        exact ih52 (i52 + 1) (am_row h 330 (g71 330)) (by omega) 
                    · skip
                      refine am_iload (pc := 105) C dX12_span_105 rfl ?_
                      refine am_goto (pc := 107) (tgt := 131) C dX12_span_107 (by decide) ?_
                      refine am_istore (pc := 131) (ls' := [(0, .ref 322), (1, .int (nI (rf_nat d))), (2, .int (nI (rf_nat n))), (3, .int (am_b most)), (4, .int (rf_sps (h 323) (rf_nat d) (rf_nat n) (i52 + 1))), (5, .int (nI (i52 + 1))), (6, .int (rf_sps (h 323) (rf_nat d) (rf_nat n) (i52 + 1)))]) C dX12_span_131 (by decide) rfl ?_
                      refine am_iincN (pc := 133) (ls' := [(0, .ref 322), (1, .int (nI (rf_nat d))), (2, .int (nI (rf_nat n))), (3, .int (am_b most)), (4, .int (rf_sps (h 323) (rf_nat d) (rf_nat n) (i52 + 1))), (5, .int (nI (i52 + 1 + 1))), (6, .int (rf_sps (h 323) (rf_nat d) (rf_nat n) (i52 + 1)))]) C dX12_span_133 rfl (am_up1 _) (by decide) rfl ?_
                      refine am_goto (pc := 136) (tgt := 52) C dX12_span_136 (by decide) ?_
                      refine am_sub (ls' := [(0, .ref 322), (1, .int (nI (rf_nat d))), (2, .int (nI (rf_nat n))), (3, .int (am_b most)), (4, .int (rf_sps (h 323) (rf_nat d) (rf_nat n) (i52 + 1))), (5, .int (nI (i52 + 1 + 1)))]) (by intro q hq; simp only [List.mem_cons, List.not_mem_nil, or_false] at hq ⊢; rcases hq with rfl | rfl | rfl | rfl | rfl | rfl <;> simp) ?_
                      refine am_lsv (ls' := [(0, .ref 322), (1, .int (nI (rf_nat d))), (2, .int (nI (rf_nat n))), (3, .int (am_b most)), (4, .int (rf_sp (h 323) (rf_nat d) (rf_nat n) most (i52 + 1))), (5, .int (nI (i52 + 1 + 1)))]) (congrArg (fun z9 : Int32 => ([(0, .ref 322), (1, .int (nI (rf_nat d))), (2, .int (nI (rf_nat n))), (3, .int (am_b most)), (4, Value.int z9), (5, .int (nI (i52 + 1 + 1)))] : List (Nat × Value))) (show (rf_sps (h 323) (rf_nat d) (rf_nat n) (i52 + 1)) = (rf_sp (h 323) (rf_nat d) (rf_nat n) most (i52 + 1)) from (by rw [rf_sp, if_pos (Int32.not_le.mp q102)]))) ?_
                      refine am_lsv (ls' := [(0, .ref 322), (1, .int (nI (rf_nat d))), (2, .int (nI (rf_nat n))), (3, .int (am_b most)), (4, .int (rf_sp (h 323) (rf_nat d) (rf_nat n) most (i52 + 1))), (5, .int (nI ((i52 + 1) + 1)))]) (congrArg (fun z9 : Int32 => ([(0, .ref 322), (1, .int (nI (rf_nat d))), (2, .int (nI (rf_nat n))), (3, .int (am_b most)), (4, .int (rf_sp (h 323) (rf_nat d) (rf_nat n) most (i52 + 1))), (5, Value.int z9)] : List (Nat × Value))) (show (nI (i52 + 1 + 1)) = (nI ((i52 + 1) + 1)) from rfl)) ?_
                      exact ih52 (i52 + 1) (am_row h 330 (g71 330)) (by omega) 
                  · skip
                    exact absurd q74 (by omega)
                | succ j71 ih71 =>
                  intro i71 g71 hi71 
                  have hl71 : i71 < (rf_nat n) := by omega
                  have okh := rf_hrs_ok hI9 hL9 i71
                  refine am_iload (pc := 71) C dX12_span_71 rfl ?_
                  refine am_iload_n (pc := 73) C dX12_span_73 rfl ?_
                  refine am_icmp_geN (pc := 74) (tgt := 87) C dX12_span_74 (by decide) (by omega) (by omega) (fun q74 => ?_) (fun q74 => ?_)
                  · skip
                    exact absurd q74 (by omega)
                  · skip
                    refine am_aload_n (pc := 77) C dX12_span_77 rfl ?_
                    refine am_callVvj (Y := mX12_hour) (pc := 78) (st := []) (As := []) (H2 := fun GG => (am_row (am_row (am_row (am_row (am_row (am_row h 330 (g71 330)) 322 (upd (h 322) 0 (nI 0))) 326 (rf_cp (h 326) (h 323) 0 0 731)) 323 (rf_hrs (upd (h 323) 10 (nI (i52 + 1))) i71)) 330 (GG 330)) 323 (rf_hour (rf_hrs (upd (h 323) 10 (nI (i52 + 1))) i71)))) C dX12_span_78 k12_385 v_X12_hour rfl rfl bn_322 sh_322 ⟨by decide, rfl⟩ (by decide) (Nat.zero_le _) (Nat.zero_le _) (Nat.le_of_ble_eq_true rfl) (c_X12_hour hR (show rf_I (rf_hrs (upd (h 323) 10 (nI (i52 + 1))) i71) from okh.1) (show rf_Lw (rf_hrs (upd (h 323) 10 (nI (i52 + 1))) i71) from okh.2.2)) (fun g78_10 => ?_)
                    refine am_hp (show (am_row (am_row (am_row (am_row (am_row (am_row h 330 (g71 330)) 322 (upd (h 322) 0 (nI 0))) 326 (rf_cp (h 326) (h 323) 0 0 731)) 323 (rf_hrs (upd (h 323) 10 (nI (i52 + 1))) i71)) 330 (g78_10 330)) 323 (rf_hour (rf_hrs (upd (h 323) 10 (nI (i52 + 1))) i71))) = (am_row (am_row (am_row (am_row (am_row h 330 (g78_10 330)) 322 (upd (h 322) 0 (nI 0))) 326 (rf_cp (h 326) (h 323) 0 0 731)) 323 (rf_hrs (upd (h 323) 10 (nI (i52 + 1))) i71)) 323 (rf_hour (rf_hrs (upd (h 323) 10 (nI (i52 + 1))) i71))) from by rw [show (am_row (am_row (am_row (am_row (am_row h 330 (g71 330)) 322 (upd (h 322) 0 (nI 0))) 326 (rf_cp (h 326) (h 323) 0 0 731)) 323 (rf_hrs (upd (h 323) 10 (nI (i52 + 1))) i71)) 330 (g78_10 330)) = (am_row (am_row (am_row (am_row h 330 (g78_10 330)) 322 (upd (h 322) 0 (nI 0))) 326 (rf_cp (h 326) (h 323) 0 0 731)) 323 (rf_hrs (upd (h 323) 10 (nI (i52 + 1))) i71)) from am_row_s3 (by decide) (by decide) (by decide)]) ?_
                    refine am_hp (show (am_row (am_row (am_row (am_row (am_row h 330 (g78_10 330)) 322 (upd (h 322) 0 (nI 0))) 326 (rf_cp (h 326) (h 323) 0 0 731)) 323 (rf_hrs (upd (h 323) 10 (nI (i52 + 1))) i71)) 323 (rf_hour (rf_hrs (upd (h 323) 10 (nI (i52 + 1))) i71))) = (am_row (am_row (am_row (am_row h 330 (g78_10 330)) 322 (upd (h 322) 0 (nI 0))) 326 (rf_cp (h 326) (h 323) 0 0 731)) 323 (rf_hour (rf_hrs (upd (h 323) 10 (nI (i52 + 1))) i71))) from am_row_s0) ?_
                    refine am_iincN (pc := 81) (ls' := [(0, .ref 322), (1, .int (nI (rf_nat d))), (2, .int (nI (rf_nat n))), (3, .int (am_b most)), (4, .int (rf_sp (h 323) (rf_nat d) (rf_nat n) most i52)), (5, .int (nI (i52 + 1))), (6, .int (nI (i71 + 1)))]) C dX12_span_81 rfl (am_up1 _) (by decide) rfl ?_
                    refine am_goto (pc := 84) (tgt := 71) C dX12_span_84 (by decide) ?_
                    refine am_hp (show (am_row (am_row (am_row (am_row h 330 (g78_10 330)) 322 (upd (h 322) 0 (nI 0))) 326 (rf_cp (h 326) (h 323) 0 0 731)) 323 (rf_hour (rf_hrs (upd (h 323) 10 (nI (i52 + 1))) i71))) = (am_row (am_row (am_row (am_row h 330 (g78_10 330)) 322 (upd (h 322) 0 (nI 0))) 326 (rf_cp (h 326) (h 323) 0 0 731)) 323 (rf_hrs (upd (h 323) 10 (nI (i52 + 1))) (i71 + 1))) from rfl) ?_
                    exact ih71 (i71 + 1) (am_row h 330 (g78_10 330)) (by omega) 
              refine am_hp (show (am_row (am_row (am_row (am_row h 330 (g52 330)) 322 (upd (h 322) 0 (nI 0))) 326 (rf_cp (h 326) (h 323) 0 0 731)) 323 (upd (h 323) 10 (nI (i52 + 1)))) = (am_row (am_row (am_row (am_row h 330 (g52 330)) 322 (upd (h 322) 0 (nI 0))) 326 (rf_cp (h 326) (h 323) 0 0 731)) 323 (rf_hrs (upd (h 323) 10 (nI (i52 + 1))) 0)) from rfl) ?_
              exact L71 (rf_nat n) 0 (am_row h 330 (g52 330)) (by omega) 
        refine am_sub (ls' := [(0, .ref 322), (1, .int (nI (rf_nat d))), (2, .int (nI (rf_nat n))), (3, .int (am_b most)), (4, .int (-1)), (5, .int (nI 1))]) (by intro q hq; simp only [List.mem_cons, List.not_mem_nil, or_false] at hq ⊢; rcases hq with rfl | rfl | rfl | rfl | rfl | rfl <;> simp) ?_
        refine am_hp (show (am_row (am_row (am_row h 330 (h 330)) 322 (upd (h 322) 0 (nI 0))) 326 (rf_cp (h 326) (h 323) 0 0 731)) = (am_row (am_row (am_row (am_row h 330 (h 330)) 322 (upd (h 322) 0 (nI 0))) 326 (rf_cp (h 326) (h 323) 0 0 731)) 323 (h 323)) from (am_row_id _ 323).symm) ?_
        refine am_lsv (ls' := [(0, .ref 322), (1, .int (nI (rf_nat d))), (2, .int (nI (rf_nat n))), (3, .int (am_b most)), (4, .int (rf_sp (h 323) (rf_nat d) (rf_nat n) most 0)), (5, .int (nI 1))]) (congrArg (fun z9 : Int32 => ([(0, .ref 322), (1, .int (nI (rf_nat d))), (2, .int (nI (rf_nat n))), (3, .int (am_b most)), (4, Value.int z9), (5, .int (nI 1))] : List (Nat × Value))) (show (-1) = (rf_sp (h 323) (rf_nat d) (rf_nat n) most 0) from rfl)) ?_
        refine am_lsv (ls' := [(0, .ref 322), (1, .int (nI (rf_nat d))), (2, .int (nI (rf_nat n))), (3, .int (am_b most)), (4, .int (rf_sp (h 323) (rf_nat d) (rf_nat n) most 0)), (5, .int (nI (0 + 1)))]) (congrArg (fun z9 : Int32 => ([(0, .ref 322), (1, .int (nI (rf_nat d))), (2, .int (nI (rf_nat n))), (3, .int (am_b most)), (4, .int (rf_sp (h 323) (rf_nat d) (rf_nat n) most 0)), (5, Value.int z9)] : List (Nat × Value))) (show (nI 1) = (nI (0 + 1)) from rfl)) ?_
        exact L52 6 0 (am_row h 330 (h 330)) (by omega) 
      · skip
        exact Bool.noConfusion q37
    · skip
      refine am_iconstN (pc := 28) (k := 1) C dX12_span_28 ?_
      refine am_goto (pc := 29) (tgt := 33) C dX12_span_29 (by decide) ?_
      refine am_top (show (nI 1) = (am_b true) from rfl) ?_
      refine am_iconstN (pc := 33) (k := 2) C dX12_span_33 ?_
      refine am_callVi (Y := mX12_throwsIf) (pc := 34) (st := []) (As := [.int (am_b true), .int (nI 2)]) (x := (am_b true)) (h2 := (am_row (am_row (am_row h 330 (h 330)) 322 (upd (h 322) 0 (nI 0))) 322 (bif true then upd (upd (h 322) 0 (nI 0)) 0 (nI 2) else (upd (h 322) 0 (nI 0))))) C dX12_span_34 k12_269 v_X12_throwsIf rfl rfl bn_322 sh_322 ⟨by decide, rfl⟩ (by decide) (Nat.zero_le _) (Nat.zero_le _) (Nat.le_of_ble_eq_true rfl) (c_X12_throwsIf hR true (nI 2)) ?_
      refine am_hp (show (am_row (am_row (am_row h 330 (h 330)) 322 (upd (h 322) 0 (nI 0))) 322 (bif true then upd (upd (h 322) 0 (nI 0)) 0 (nI 2) else (upd (h 322) 0 (nI 0)))) = (am_row (am_row h 330 (h 330)) 322 (bif true then upd (upd (h 322) 0 (nI 0)) 0 (nI 2) else (upd (h 322) 0 (nI 0)))) from am_row_s0) ?_
      refine am_hp (show (am_row (am_row h 330 (h 330)) 322 (bif true then upd (upd (h 322) 0 (nI 0)) 0 (nI 2) else (upd (h 322) 0 (nI 0)))) = (am_row (am_row h 330 (h 330)) 322 (upd (upd (h 322) 0 (nI 0)) 0 (nI 2))) from rfl) ?_
      refine am_if_eqB (pc := 37) (tgt := 42) C dX12_span_37 (by decide) (fun q37 => ?_) (fun q37 => ?_)
      · skip
        exact Bool.noConfusion q37
      · skip
        refine am_iconstN (pc := 40) (k := 0) C dX12_span_40 ?_
        have K9 : rf_c_span (h 323) d n most = 2 := (by unfold rf_c_span; exact ((rf_cb_f q14).trans (rf_cb_nt q25)))
        exact am_iretij (G := (am_row h 330 (h 330))) T dX12_span_41 rfl (Nat.le_refl _) (Nat.le_refl _) (by rw [K9]; rfl) rfl (by rw [K9]; exact (congrArg (am_row _ 322) rf_upd_upd).trans (am_hA2 (by decide) (by decide) (by decide)).symm)

set_option maxHeartbeats 400000 in
set_option maxRecDepth 100000 in
theorem c_X12_meets {ad : Nat → Nat} {r : am_R} (hR : am_rs r) {h : am_H} (a : Int32) (b : Int32) (hV : rf_I (h 323))  : am_CM mX12_meets 2 0 0 [.ref 322, .int a, .int b] (am_VV ad) r h (am_po (some (.int (rf_ga (rf_c_meets (h 323) a b) (rf_a_meets (h 323) a b)))) r (am_row h 322 (rf_oc (h 322) (rf_c_meets (h 323) a b)))) := by
  refine am_CM.of (by decide +kernel) (Nat.le_of_ble_eq_true rfl) (fun X C T => ?_)
  show am_G X (am_VV ad) (0, 0) 0 [(0, .ref 322), (1, .int a), (2, .int b)] [] r h
  have hM9 : rf_M (h 323) < 17 := hV.1.1.2
  have hS9 : rf_S (h 323) < 11 := hV.1.2.1.2
  have hO9 : rf_O (h 323) < 11 := hV.1.2.2.2
  refine am_aload_n (pc := 0) C dX12_meets_0 rfl ?_
  refine am_iconstN (pc := 1) (k := 0) C dX12_meets_1 ?_
  refine am_putI (pc := 2) C dX12_meets_2 f12_3 bn_322 sh_322 rfl rfl ?_
  refine am_hp (show am_up h 322 0 (nI 0) = am_row h 322 (upd (h 322) 0 (nI 0)) from am_up_rw _ _ _ _) ?_
  refine am_aload_n (pc := 5) C dX12_meets_5 rfl ?_
  refine am_aload_n (pc := 6) C dX12_meets_6 rfl ?_
  refine am_iload_n (pc := 7) C dX12_meets_7 rfl ?_
  refine am_callVi (Y := mX12_noSoldier) (pc := 8) (st := [.ref 322]) (As := [.int a]) (x := (am_b (!rf_okN a (rf_S (h 323))))) (h2 := (am_row h 322 (upd (h 322) 0 (nI 0)))) C dX12_meets_8 k12_322 v_X12_noSoldier rfl rfl bn_322 sh_322 ⟨by decide, rfl⟩ (by decide) (Nat.zero_le _) (Nat.zero_le _) (Nat.le_of_ble_eq_true rfl) (c_X12_noSoldier hR a (show rf_Cn (h 323) from hV.1)) ?_
  refine am_if_neB (pc := 11) (tgt := 22) C dX12_meets_11 (by decide) (fun q11 => ?_) (fun q11 => ?_)
  · skip
    refine am_iconstN (pc := 22) (k := 1) C dX12_meets_22 ?_
    refine am_goto (pc := 23) (tgt := 27) C dX12_meets_23 (by decide) ?_
    refine am_top (show (nI 1) = (am_b true) from rfl) ?_
    refine am_iconstN (pc := 27) (k := 1) C dX12_meets_27 ?_
    refine am_callVi (Y := mX12_throwsIf) (pc := 28) (st := []) (As := [.int (am_b true), .int (nI 1)]) (x := (am_b true)) (h2 := (am_row (am_row h 322 (upd (h 322) 0 (nI 0))) 322 (bif true then upd (upd (h 322) 0 (nI 0)) 0 (nI 1) else (upd (h 322) 0 (nI 0))))) C dX12_meets_28 k12_269 v_X12_throwsIf rfl rfl bn_322 sh_322 ⟨by decide, rfl⟩ (by decide) (Nat.zero_le _) (Nat.zero_le _) (Nat.le_of_ble_eq_true rfl) (c_X12_throwsIf hR true (nI 1)) ?_
    refine am_hp (show (am_row (am_row h 322 (upd (h 322) 0 (nI 0))) 322 (bif true then upd (upd (h 322) 0 (nI 0)) 0 (nI 1) else (upd (h 322) 0 (nI 0)))) = (am_row h 322 (bif true then upd (upd (h 322) 0 (nI 0)) 0 (nI 1) else (upd (h 322) 0 (nI 0)))) from am_row_s0) ?_
    refine am_hp (show (am_row h 322 (bif true then upd (upd (h 322) 0 (nI 0)) 0 (nI 1) else (upd (h 322) 0 (nI 0)))) = (am_row h 322 (upd (upd (h 322) 0 (nI 0)) 0 (nI 1))) from rfl) ?_
    refine am_if_neB (pc := 31) (tgt := 52) C dX12_meets_31 (by decide) (fun q31 => ?_) (fun q31 => ?_)
    · skip
      refine am_iconstN (pc := 52) (k := 0) C dX12_meets_52 ?_
      have K9 : rf_c_meets (h 323) a b = 1 := (by unfold rf_c_meets; exact (rf_cb_t q11))
      exact am_ireti T dX12_meets_53 rfl (Nat.le_refl _) (Nat.le_refl _) (by rw [K9]; rfl) rfl (by rw [K9]; exact congrArg (am_row _ 322) rf_upd_upd)
    · skip
      exact Bool.noConfusion q31
  · skip
    refine am_aload_n (pc := 14) C dX12_meets_14 rfl ?_
    refine am_iload_n (pc := 15) C dX12_meets_15 rfl ?_
    refine am_callVi (Y := mX12_noSoldier) (pc := 16) (st := [.ref 322]) (As := [.int b]) (x := (am_b (!rf_okN b (rf_S (h 323))))) (h2 := (am_row h 322 (upd (h 322) 0 (nI 0)))) C dX12_meets_16 k12_322 v_X12_noSoldier rfl rfl bn_322 sh_322 ⟨by decide, rfl⟩ (by decide) (Nat.zero_le _) (Nat.zero_le _) (Nat.le_of_ble_eq_true rfl) (c_X12_noSoldier hR b (show rf_Cn (h 323) from hV.1)) ?_
    refine am_if_eqB (pc := 19) (tgt := 26) C dX12_meets_19 (by decide) (fun q19 => ?_) (fun q19 => ?_)
    · skip
      refine am_iconstN (pc := 26) (k := 0) C dX12_meets_26 ?_
      refine am_top (show (nI 0) = (am_b false) from rfl) ?_
      refine am_iconstN (pc := 27) (k := 1) C dX12_meets_27 ?_
      refine am_callVi (Y := mX12_throwsIf) (pc := 28) (st := []) (As := [.int (am_b false), .int (nI 1)]) (x := (am_b false)) (h2 := (am_row (am_row h 322 (upd (h 322) 0 (nI 0))) 322 (bif false then upd (upd (h 322) 0 (nI 0)) 0 (nI 1) else (upd (h 322) 0 (nI 0))))) C dX12_meets_28 k12_269 v_X12_throwsIf rfl rfl bn_322 sh_322 ⟨by decide, rfl⟩ (by decide) (Nat.zero_le _) (Nat.zero_le _) (Nat.le_of_ble_eq_true rfl) (c_X12_throwsIf hR false (nI 1)) ?_
      refine am_hp (show (am_row (am_row h 322 (upd (h 322) 0 (nI 0))) 322 (bif false then upd (upd (h 322) 0 (nI 0)) 0 (nI 1) else (upd (h 322) 0 (nI 0)))) = (am_row h 322 (bif false then upd (upd (h 322) 0 (nI 0)) 0 (nI 1) else (upd (h 322) 0 (nI 0)))) from am_row_s0) ?_
      refine am_hp (show (am_row h 322 (bif false then upd (upd (h 322) 0 (nI 0)) 0 (nI 1) else (upd (h 322) 0 (nI 0)))) = (am_row h 322 (upd (h 322) 0 (nI 0))) from rfl) ?_
      refine am_if_neB (pc := 31) (tgt := 52) C dX12_meets_31 (by decide) (fun q31 => ?_) (fun q31 => ?_)
      · skip
        exact Bool.noConfusion q31
      · skip
        refine am_aload_n (pc := 34) C dX12_meets_34 rfl ?_
        refine am_iload_n (pc := 35) C dX12_meets_35 rfl ?_
        refine am_iload_n (pc := 36) C dX12_meets_36 rfl ?_
        refine am_icmp_ne (pc := 37) (tgt := 44) C dX12_meets_37 (by decide) (fun q37 => ?_) (fun q37 => ?_)
        · skip
          refine am_iconstN (pc := 44) (k := 0) C dX12_meets_44 ?_
          refine am_top (show (nI 0) = (am_b false) from rfl) ?_
          refine am_iconstN (pc := 45) (k := 2) C dX12_meets_45 ?_
          refine am_callVi (Y := mX12_throwsIf) (pc := 46) (st := []) (As := [.int (am_b false), .int (nI 2)]) (x := (am_b false)) (h2 := (am_row (am_row h 322 (upd (h 322) 0 (nI 0))) 322 (bif false then upd (upd (h 322) 0 (nI 0)) 0 (nI 2) else (upd (h 322) 0 (nI 0))))) C dX12_meets_46 k12_269 v_X12_throwsIf rfl rfl bn_322 sh_322 ⟨by decide, rfl⟩ (by decide) (Nat.zero_le _) (Nat.zero_le _) (Nat.le_of_ble_eq_true rfl) (c_X12_throwsIf hR false (nI 2)) ?_
          refine am_hp (show (am_row (am_row h 322 (upd (h 322) 0 (nI 0))) 322 (bif false then upd (upd (h 322) 0 (nI 0)) 0 (nI 2) else (upd (h 322) 0 (nI 0)))) = (am_row h 322 (bif false then upd (upd (h 322) 0 (nI 0)) 0 (nI 2) else (upd (h 322) 0 (nI 0)))) from am_row_s0) ?_
          refine am_hp (show (am_row h 322 (bif false then upd (upd (h 322) 0 (nI 0)) 0 (nI 2) else (upd (h 322) 0 (nI 0)))) = (am_row h 322 (upd (h 322) 0 (nI 0))) from rfl) ?_
          refine am_if_eqB (pc := 49) (tgt := 54) C dX12_meets_49 (by decide) (fun q49 => ?_) (fun q49 => ?_)
          · skip
            have ha := rf_okN_q (by omega) q11
            have ha2 := ha.2
            have hb := rf_okN_q (by omega) q19
            have hb2 := hb.2
            refine am_lsv (ls' := [(0, .ref 322), (1, .int (nI (rf_nat a))), (2, .int b)]) (congrArg (fun z9 : Int32 => ([(0, .ref 322), (1, Value.int z9), (2, .int b)] : List (Nat × Value))) (show a = (nI (rf_nat a)) from ha.1)) ?_
            refine am_lsv (ls' := [(0, .ref 322), (1, .int (nI (rf_nat a))), (2, .int (nI (rf_nat b)))]) (congrArg (fun z9 : Int32 => ([(0, .ref 322), (1, .int (nI (rf_nat a))), (2, Value.int z9)] : List (Nat × Value))) (show b = (nI (rf_nat b)) from hb.1)) ?_
            have K9 : rf_c_meets (h 323) a b = 0 := by unfold rf_c_meets; exact ((rf_cb_f q11).trans ((rf_cb_f q19).trans (rf_cb_f (decide_eq_false q37))))
            refine am_iconstN (pc := 54) (k := 0) C dX12_meets_54 ?_
            refine am_istore_n (pc := 55) (ls' := [(0, .ref 322), (1, .int (nI (rf_nat a))), (2, .int (nI (rf_nat b))), (3, .int (nI 0))]) C dX12_meets_55 (by decide) rfl ?_
            have L56 : ∀ (j56 : Nat) (n : Nat), (hnj : n + j56 = 145) → (hms : rf_sea (fun n => decide (rf_pl2 (h 323) (rf_nat a) (nI n) = rf_pl2 (h 323) (rf_nat b) (nI n))) (fun n => (h 323) 5 + nI n) j56 n = rf_sea (fun n => decide (rf_pl2 (h 323) (rf_nat a) (nI n) = rf_pl2 (h 323) (rf_nat b) (nI n))) (fun n => (h 323) 5 + nI n) 145 0) → am_G X (am_VV ad) (0, 0) 56 [(0, .ref 322), (1, .int (nI (rf_nat a))), (2, .int (nI (rf_nat b))), (3, .int (nI n))] [] r (am_row h 322 (upd (h 322) 0 (nI 0))) := by
              intro j56
              induction j56 with
              | zero =>
                intro n hnj hms
                refine am_iload_n (pc := 56) C dX12_meets_56 rfl ?_
                refine am_sipush (pc := 57) (v := nI 144) C dX12_meets_57 (by decide) ?_
                refine am_icmp_gtN (pc := 60) (tgt := 93) C dX12_meets_60 (by decide) (by omega) (by omega) (fun q60 => ?_) (fun q60 => ?_)
                · skip
                  refine am_iconst (pc := 93) (v := -1) C dX12_meets_93 rfl ?_
                  have A9 : rf_a_meets (h 323) a b = (-1) := (by unfold rf_a_meets; exact hms.symm)
                  exact am_ireti T dX12_meets_94 rfl (Nat.le_refl _) (Nat.le_refl _) (by rw [K9]; exact A9.symm) rfl (by rw [K9]; exact rfl)
                · skip
                  exact absurd q60 (by omega)
              | succ j56 ih56 =>
                intro n hnj hms
                refine am_iload_n (pc := 56) C dX12_meets_56 rfl ?_
                refine am_sipush (pc := 57) (v := nI 144) C dX12_meets_57 (by decide) ?_
                refine am_icmp_gtN (pc := 60) (tgt := 93) C dX12_meets_60 (by decide) (by omega) (by omega) (fun q60 => ?_) (fun q60 => ?_)
                · skip
                  exact absurd q60 (by omega)
                · skip
                  refine am_aload_n (pc := 63) C dX12_meets_63 rfl ?_
                  refine am_iload_n (pc := 64) C dX12_meets_64 rfl ?_
                  refine am_iload_n (pc := 65) C dX12_meets_65 rfl ?_
                  refine am_callVi (Y := mX12_placeIn) (pc := 66) (st := []) (As := [.int (nI (rf_nat a)), .int (nI n)]) (x := (rf_pl2 (h 323) (rf_nat a) (nI n))) (h2 := (am_row h 322 (upd (h 322) 0 (nI 0)))) C dX12_meets_66 k12_334 v_X12_placeIn rfl rfl bn_322 sh_322 ⟨by decide, rfl⟩ (by decide) (Nat.zero_le _) (Nat.zero_le _) (Nat.le_of_ble_eq_true rfl) (c_X12_placeIn hR (rf_nat a) (nI n) (show (rf_nat a) < rf_S (h 323) from by omega) (show rf_Is (h 323) (rf_nat a) from (hV.2.1 (rf_nat a) (by omega))) (show rf_Cn (h 323) from hV.1)) ?_
                  refine am_aload_n (pc := 69) C dX12_meets_69 rfl ?_
                  refine am_iload_n (pc := 70) C dX12_meets_70 rfl ?_
                  refine am_iload_n (pc := 71) C dX12_meets_71 rfl ?_
                  refine am_callVi (Y := mX12_placeIn) (pc := 72) (st := [.int (rf_pl2 (h 323) (rf_nat a) (nI n))]) (As := [.int (nI (rf_nat b)), .int (nI n)]) (x := (rf_pl2 (h 323) (rf_nat b) (nI n))) (h2 := (am_row h 322 (upd (h 322) 0 (nI 0)))) C dX12_meets_72 k12_334 v_X12_placeIn rfl rfl bn_322 sh_322 ⟨by decide, rfl⟩ (by decide) (Nat.zero_le _) (Nat.zero_le _) (Nat.le_of_ble_eq_true rfl) (c_X12_placeIn hR (rf_nat b) (nI n) (show (rf_nat b) < rf_S (h 323) from by omega) (show rf_Is (h 323) (rf_nat b) from (hV.2.1 (rf_nat b) (by omega))) (show rf_Cn (h 323) from hV.1)) ?_
                  refine am_icmp_ne (pc := 75) (tgt := 87) C dX12_meets_75 (by decide) (fun q75 => ?_) (fun q75 => ?_)
                  · skip
                    refine am_iincN (pc := 87) (ls' := [(0, .ref 322), (1, .int (nI (rf_nat a))), (2, .int (nI (rf_nat b))), (3, .int (nI (n + 1)))]) C dX12_meets_87 rfl (am_up1 _) (by decide) rfl ?_
                    refine am_goto (pc := 90) (tgt := 56) C dX12_meets_90 (by decide) ?_
                    exact ih56 (n + 1) (by omega) (Eq.trans (Eq.symm (rf_sea_f (by exact decide_eq_false q75))) hms)
                  · skip
                    refine am_aload_n (pc := 78) C dX12_meets_78 rfl ?_
                    refine am_getR (pc := 79) (j := 323) C dX12_meets_79 f12_13 bn_322 sh_322 (rf_322_1 hR) ?_
                    refine am_iconstN (pc := 82) (k := 5) C dX12_meets_82 ?_
                    refine am_iaload (pc := 83) C dX12_meets_83 bn_323 sh_323 (vp_in_nI (by omega) (by decide)) ?_
                    refine am_top (show (h 323) (nI 5).toNatClampNeg = (h 323) 5 from by rw [nI_clamp (by omega)]) ?_
                    refine am_iload_n (pc := 84) C dX12_meets_84 rfl ?_
                    refine am_iadd (pc := 85) C dX12_meets_85 ?_
                    have A9 : rf_a_meets (h 323) a b = (((h 323) 5) + (nI n)) := (by unfold rf_a_meets; exact Eq.trans (Eq.symm hms) (rf_sea_t (by exact decide_eq_true q75)))
                    exact am_ireti T dX12_meets_86 rfl (Nat.le_refl _) (Nat.le_refl _) (by rw [K9]; exact A9.symm) rfl (by rw [K9]; exact rfl)
            exact L56 145 0 (by omega) rfl
          · skip
            exact Bool.noConfusion q49
        · skip
          refine am_iconstN (pc := 40) (k := 1) C dX12_meets_40 ?_
          refine am_goto (pc := 41) (tgt := 45) C dX12_meets_41 (by decide) ?_
          refine am_top (show (nI 1) = (am_b true) from rfl) ?_
          refine am_iconstN (pc := 45) (k := 2) C dX12_meets_45 ?_
          refine am_callVi (Y := mX12_throwsIf) (pc := 46) (st := []) (As := [.int (am_b true), .int (nI 2)]) (x := (am_b true)) (h2 := (am_row (am_row h 322 (upd (h 322) 0 (nI 0))) 322 (bif true then upd (upd (h 322) 0 (nI 0)) 0 (nI 2) else (upd (h 322) 0 (nI 0))))) C dX12_meets_46 k12_269 v_X12_throwsIf rfl rfl bn_322 sh_322 ⟨by decide, rfl⟩ (by decide) (Nat.zero_le _) (Nat.zero_le _) (Nat.le_of_ble_eq_true rfl) (c_X12_throwsIf hR true (nI 2)) ?_
          refine am_hp (show (am_row (am_row h 322 (upd (h 322) 0 (nI 0))) 322 (bif true then upd (upd (h 322) 0 (nI 0)) 0 (nI 2) else (upd (h 322) 0 (nI 0)))) = (am_row h 322 (bif true then upd (upd (h 322) 0 (nI 0)) 0 (nI 2) else (upd (h 322) 0 (nI 0)))) from am_row_s0) ?_
          refine am_hp (show (am_row h 322 (bif true then upd (upd (h 322) 0 (nI 0)) 0 (nI 2) else (upd (h 322) 0 (nI 0)))) = (am_row h 322 (upd (upd (h 322) 0 (nI 0)) 0 (nI 2))) from rfl) ?_
          refine am_if_eqB (pc := 49) (tgt := 54) C dX12_meets_49 (by decide) (fun q49 => ?_) (fun q49 => ?_)
          · skip
            exact Bool.noConfusion q49
          · skip
            refine am_iconstN (pc := 52) (k := 0) C dX12_meets_52 ?_
            have K9 : rf_c_meets (h 323) a b = 2 := (by unfold rf_c_meets; exact ((rf_cb_f q11).trans ((rf_cb_f q19).trans (rf_cb_t (decide_eq_true q37)))))
            exact am_ireti T dX12_meets_53 rfl (Nat.le_refl _) (Nat.le_refl _) (by rw [K9]; rfl) rfl (by rw [K9]; exact congrArg (am_row _ 322) rf_upd_upd)
    · skip
      refine am_iconstN (pc := 22) (k := 1) C dX12_meets_22 ?_
      refine am_goto (pc := 23) (tgt := 27) C dX12_meets_23 (by decide) ?_
      refine am_top (show (nI 1) = (am_b true) from rfl) ?_
      refine am_iconstN (pc := 27) (k := 1) C dX12_meets_27 ?_
      refine am_callVi (Y := mX12_throwsIf) (pc := 28) (st := []) (As := [.int (am_b true), .int (nI 1)]) (x := (am_b true)) (h2 := (am_row (am_row h 322 (upd (h 322) 0 (nI 0))) 322 (bif true then upd (upd (h 322) 0 (nI 0)) 0 (nI 1) else (upd (h 322) 0 (nI 0))))) C dX12_meets_28 k12_269 v_X12_throwsIf rfl rfl bn_322 sh_322 ⟨by decide, rfl⟩ (by decide) (Nat.zero_le _) (Nat.zero_le _) (Nat.le_of_ble_eq_true rfl) (c_X12_throwsIf hR true (nI 1)) ?_
      refine am_hp (show (am_row (am_row h 322 (upd (h 322) 0 (nI 0))) 322 (bif true then upd (upd (h 322) 0 (nI 0)) 0 (nI 1) else (upd (h 322) 0 (nI 0)))) = (am_row h 322 (bif true then upd (upd (h 322) 0 (nI 0)) 0 (nI 1) else (upd (h 322) 0 (nI 0)))) from am_row_s0) ?_
      refine am_hp (show (am_row h 322 (bif true then upd (upd (h 322) 0 (nI 0)) 0 (nI 1) else (upd (h 322) 0 (nI 0)))) = (am_row h 322 (upd (upd (h 322) 0 (nI 0)) 0 (nI 1))) from rfl) ?_
      refine am_if_neB (pc := 31) (tgt := 52) C dX12_meets_31 (by decide) (fun q31 => ?_) (fun q31 => ?_)
      · skip
        refine am_iconstN (pc := 52) (k := 0) C dX12_meets_52 ?_
        have K9 : rf_c_meets (h 323) a b = 1 := (by unfold rf_c_meets; exact ((rf_cb_f q11).trans (rf_cb_t q19)))
        exact am_ireti T dX12_meets_53 rfl (Nat.le_refl _) (Nat.le_refl _) (by rw [K9]; rfl) rfl (by rw [K9]; exact congrArg (am_row _ 322) rf_upd_upd)
      · skip
        exact Bool.noConfusion q31

set_option maxHeartbeats 400000 in
set_option maxRecDepth 100000 in
theorem c_X12_led {ad : Nat → Nat} {r : am_R} (hR : am_rs r) {h : am_H} (s : Int32) (m : Int32) (hV : rf_I (h 323))  : am_CM mX12_led 2 0 0 [.ref 322, .int s, .int m] (am_VV ad) r h (am_po (some (.int (rf_ga (rf_c_led (h 323) s m) (rf_a_led (h 323) s m)))) r (am_row h 322 (rf_oc (h 322) (rf_c_led (h 323) s m)))) := by
  refine am_CM.of (by decide +kernel) (Nat.le_of_ble_eq_true rfl) (fun X C T => ?_)
  show am_G X (am_VV ad) (0, 0) 0 [(0, .ref 322), (1, .int s), (2, .int m)] [] r h
  have hM9 : rf_M (h 323) < 17 := hV.1.1.2
  have hS9 : rf_S (h 323) < 11 := hV.1.2.1.2
  have hO9 : rf_O (h 323) < 11 := hV.1.2.2.2
  have hG1 : (h 323) 9 = nI (rf_G (h 323)) := hV.2.2.2.2.1.2.2.2.1
  have hG9 : rf_G (h 323) < 61 := hV.2.2.2.2.1.2.2.2.2
  refine am_aload_n (pc := 0) C dX12_led_0 rfl ?_
  refine am_iconstN (pc := 1) (k := 0) C dX12_led_1 ?_
  refine am_putI (pc := 2) C dX12_led_2 f12_3 bn_322 sh_322 rfl rfl ?_
  refine am_hp (show am_up h 322 0 (nI 0) = am_row h 322 (upd (h 322) 0 (nI 0)) from am_up_rw _ _ _ _) ?_
  refine am_aload_n (pc := 5) C dX12_led_5 rfl ?_
  refine am_aload_n (pc := 6) C dX12_led_6 rfl ?_
  refine am_iload_n (pc := 7) C dX12_led_7 rfl ?_
  refine am_callVi (Y := mX12_noSoldier) (pc := 8) (st := [.ref 322]) (As := [.int s]) (x := (am_b (!rf_okN s (rf_S (h 323))))) (h2 := (am_row h 322 (upd (h 322) 0 (nI 0)))) C dX12_led_8 k12_322 v_X12_noSoldier rfl rfl bn_322 sh_322 ⟨by decide, rfl⟩ (by decide) (Nat.zero_le _) (Nat.zero_le _) (Nat.le_of_ble_eq_true rfl) (c_X12_noSoldier hR s (show rf_Cn (h 323) from hV.1)) ?_
  refine am_if_neB (pc := 11) (tgt := 22) C dX12_led_11 (by decide) (fun q11 => ?_) (fun q11 => ?_)
  · skip
    refine am_iconstN (pc := 22) (k := 1) C dX12_led_22 ?_
    refine am_goto (pc := 23) (tgt := 27) C dX12_led_23 (by decide) ?_
    refine am_top (show (nI 1) = (am_b true) from rfl) ?_
    refine am_iconstN (pc := 27) (k := 1) C dX12_led_27 ?_
    refine am_callVi (Y := mX12_throwsIf) (pc := 28) (st := []) (As := [.int (am_b true), .int (nI 1)]) (x := (am_b true)) (h2 := (am_row (am_row h 322 (upd (h 322) 0 (nI 0))) 322 (bif true then upd (upd (h 322) 0 (nI 0)) 0 (nI 1) else (upd (h 322) 0 (nI 0))))) C dX12_led_28 k12_269 v_X12_throwsIf rfl rfl bn_322 sh_322 ⟨by decide, rfl⟩ (by decide) (Nat.zero_le _) (Nat.zero_le _) (Nat.le_of_ble_eq_true rfl) (c_X12_throwsIf hR true (nI 1)) ?_
    refine am_hp (show (am_row (am_row h 322 (upd (h 322) 0 (nI 0))) 322 (bif true then upd (upd (h 322) 0 (nI 0)) 0 (nI 1) else (upd (h 322) 0 (nI 0)))) = (am_row h 322 (bif true then upd (upd (h 322) 0 (nI 0)) 0 (nI 1) else (upd (h 322) 0 (nI 0)))) from am_row_s0) ?_
    refine am_hp (show (am_row h 322 (bif true then upd (upd (h 322) 0 (nI 0)) 0 (nI 1) else (upd (h 322) 0 (nI 0)))) = (am_row h 322 (upd (upd (h 322) 0 (nI 0)) 0 (nI 1))) from rfl) ?_
    refine am_if_eqB (pc := 31) (tgt := 36) C dX12_led_31 (by decide) (fun q31 => ?_) (fun q31 => ?_)
    · skip
      exact Bool.noConfusion q31
    · skip
      refine am_iconstN (pc := 34) (k := 0) C dX12_led_34 ?_
      have K9 : rf_c_led (h 323) s m = 1 := (by unfold rf_c_led; exact (rf_cb_t q11))
      exact am_ireti T dX12_led_35 rfl (Nat.le_refl _) (Nat.le_refl _) (by rw [K9]; rfl) rfl (by rw [K9]; exact congrArg (am_row _ 322) rf_upd_upd)
  · skip
    refine am_aload_n (pc := 14) C dX12_led_14 rfl ?_
    refine am_iload_n (pc := 15) C dX12_led_15 rfl ?_
    refine am_callVi (Y := mX12_noMemory) (pc := 16) (st := [.ref 322]) (As := [.int m]) (x := (am_b (!rf_okN m (rf_M (h 323))))) (h2 := (am_row h 322 (upd (h 322) 0 (nI 0)))) C dX12_led_16 k12_304 v_X12_noMemory rfl rfl bn_322 sh_322 ⟨by decide, rfl⟩ (by decide) (Nat.zero_le _) (Nat.zero_le _) (Nat.le_of_ble_eq_true rfl) (c_X12_noMemory hR m (show rf_Cn (h 323) from hV.1)) ?_
    refine am_if_eqB (pc := 19) (tgt := 26) C dX12_led_19 (by decide) (fun q19 => ?_) (fun q19 => ?_)
    · skip
      refine am_iconstN (pc := 26) (k := 0) C dX12_led_26 ?_
      refine am_top (show (nI 0) = (am_b false) from rfl) ?_
      refine am_iconstN (pc := 27) (k := 1) C dX12_led_27 ?_
      refine am_callVi (Y := mX12_throwsIf) (pc := 28) (st := []) (As := [.int (am_b false), .int (nI 1)]) (x := (am_b false)) (h2 := (am_row (am_row h 322 (upd (h 322) 0 (nI 0))) 322 (bif false then upd (upd (h 322) 0 (nI 0)) 0 (nI 1) else (upd (h 322) 0 (nI 0))))) C dX12_led_28 k12_269 v_X12_throwsIf rfl rfl bn_322 sh_322 ⟨by decide, rfl⟩ (by decide) (Nat.zero_le _) (Nat.zero_le _) (Nat.le_of_ble_eq_true rfl) (c_X12_throwsIf hR false (nI 1)) ?_
      refine am_hp (show (am_row (am_row h 322 (upd (h 322) 0 (nI 0))) 322 (bif false then upd (upd (h 322) 0 (nI 0)) 0 (nI 1) else (upd (h 322) 0 (nI 0)))) = (am_row h 322 (bif false then upd (upd (h 322) 0 (nI 0)) 0 (nI 1) else (upd (h 322) 0 (nI 0)))) from am_row_s0) ?_
      refine am_hp (show (am_row h 322 (bif false then upd (upd (h 322) 0 (nI 0)) 0 (nI 1) else (upd (h 322) 0 (nI 0)))) = (am_row h 322 (upd (h 322) 0 (nI 0))) from rfl) ?_
      refine am_if_eqB (pc := 31) (tgt := 36) C dX12_led_31 (by decide) (fun q31 => ?_) (fun q31 => ?_)
      · skip
        have K9 : rf_c_led (h 323) s m = 0 := by unfold rf_c_led; exact ((rf_cb_f q11).trans (rf_cb_f q19))
        have hs := rf_okN_q (by omega) q11
        have hs2 := hs.2
        have hm := rf_okN_q (by omega) q19
        have hm2 := hm.2
        refine am_lsv (ls' := [(0, .ref 322), (1, .int (nI (rf_nat s))), (2, .int m)]) (congrArg (fun z9 : Int32 => ([(0, .ref 322), (1, Value.int z9), (2, .int m)] : List (Nat × Value))) (show s = (nI (rf_nat s)) from hs.1)) ?_
        refine am_lsv (ls' := [(0, .ref 322), (1, .int (nI (rf_nat s))), (2, .int (nI (rf_nat m)))]) (congrArg (fun z9 : Int32 => ([(0, .ref 322), (1, .int (nI (rf_nat s))), (2, Value.int z9)] : List (Nat × Value))) (show m = (nI (rf_nat m)) from hm.1)) ?_
        refine am_iconstN (pc := 36) (k := 0) C dX12_led_36 ?_
        refine am_istore_n (pc := 37) (ls' := [(0, .ref 322), (1, .int (nI (rf_nat s))), (2, .int (nI (rf_nat m))), (3, .int (nI 0))]) C dX12_led_37 (by decide) rfl ?_
        have L38 : ∀ (j38 : Nat) (n : Nat), (hnj : n + j38 = (rf_G (h 323))) → (hms : rf_sea (fun n => decide (rf_log (h 323) n 2 = nI (rf_nat s)) && decide (rf_log (h 323) n 3 = nI (rf_nat m))) (fun n => nI n) j38 n = rf_sea (fun n => decide (rf_log (h 323) n 2 = nI (rf_nat s)) && decide (rf_log (h 323) n 3 = nI (rf_nat m))) (fun n => nI n) (rf_G (h 323)) 0) → am_G X (am_VV ad) (0, 0) 38 [(0, .ref 322), (1, .int (nI (rf_nat s))), (2, .int (nI (rf_nat m))), (3, .int (nI n))] [] r (am_row h 322 (upd (h 322) 0 (nI 0))) := by
          intro j38
          induction j38 with
          | zero =>
            intro n hnj hms
            refine am_iload_n (pc := 38) C dX12_led_38 rfl ?_
            refine am_aload_n (pc := 39) C dX12_led_39 rfl ?_
            refine am_getR (pc := 40) (j := 323) C dX12_led_40 f12_13 bn_322 sh_322 (rf_322_1 hR) ?_
            refine am_bipush (pc := 43) (v := nI 9) C dX12_led_43 (by decide) ?_
            refine am_iaload (pc := 45) C dX12_led_45 bn_323 sh_323 (vp_in_nI (by omega) (by decide)) ?_
            refine am_top (show (h 323) (nI 9).toNatClampNeg = (h 323) 9 from by rw [nI_clamp (by omega)]) ?_
            refine am_top (show ((h 323) 9) = (nI (rf_G (h 323))) from hG1) ?_
            refine am_icmp_geN (pc := 46) (tgt := 77) C dX12_led_46 (by decide) (by omega) (by omega) (fun q46 => ?_) (fun q46 => ?_)
            · skip
              refine am_iconst (pc := 77) (v := -1) C dX12_led_77 rfl ?_
              have A9 : rf_a_led (h 323) s m = (-1) := (by unfold rf_a_led; exact hms.symm)
              exact am_ireti T dX12_led_78 rfl (Nat.le_refl _) (Nat.le_refl _) (by rw [K9]; exact A9.symm) rfl (by rw [K9]; exact rfl)
            · skip
              exact absurd q46 (by omega)
          | succ j38 ih38 =>
            intro n hnj hms
            refine am_iload_n (pc := 38) C dX12_led_38 rfl ?_
            refine am_aload_n (pc := 39) C dX12_led_39 rfl ?_
            refine am_getR (pc := 40) (j := 323) C dX12_led_40 f12_13 bn_322 sh_322 (rf_322_1 hR) ?_
            refine am_bipush (pc := 43) (v := nI 9) C dX12_led_43 (by decide) ?_
            refine am_iaload (pc := 45) C dX12_led_45 bn_323 sh_323 (vp_in_nI (by omega) (by decide)) ?_
            refine am_top (show (h 323) (nI 9).toNatClampNeg = (h 323) 9 from by rw [nI_clamp (by omega)]) ?_
            refine am_top (show ((h 323) 9) = (nI (rf_G (h 323))) from hG1) ?_
            refine am_icmp_geN (pc := 46) (tgt := 77) C dX12_led_46 (by decide) (by omega) (by omega) (fun q46 => ?_) (fun q46 => ?_)
            · skip
              exact absurd q46 (by omega)
            · skip
              refine am_aload_n (pc := 49) C dX12_led_49 rfl ?_
              refine am_iload_n (pc := 50) C dX12_led_50 rfl ?_
              refine am_iconstN (pc := 51) (k := 2) C dX12_led_51 ?_
              refine am_callVi (Y := mX12_ofLog) (pc := 52) (st := []) (As := [.int (nI n), .int (nI 2)]) (x := (rf_log (h 323) n 2)) (h2 := (am_row h 322 (upd (h 322) 0 (nI 0)))) C dX12_led_52 k12_451 v_X12_ofLog rfl rfl bn_322 sh_322 ⟨by decide, rfl⟩ (by decide) (Nat.zero_le _) (Nat.zero_le _) (Nat.le_of_ble_eq_true rfl) (c_X12_ofLog hR n 2 (show n < 60 from by omega) (show 2 < 5 from by omega)) ?_
              refine am_iload_n (pc := 55) C dX12_led_55 rfl ?_
              refine am_icmp_ne (pc := 56) (tgt := 71) C dX12_led_56 (by decide) (fun q56 => ?_) (fun q56 => ?_)
              · skip
                refine am_iincN (pc := 71) (ls' := [(0, .ref 322), (1, .int (nI (rf_nat s))), (2, .int (nI (rf_nat m))), (3, .int (nI (n + 1)))]) C dX12_led_71 rfl (am_up1 _) (by decide) rfl ?_
                refine am_goto (pc := 74) (tgt := 38) C dX12_led_74 (by decide) ?_
                exact ih38 (n + 1) (by omega) (Eq.trans (Eq.symm (rf_sea_f (show (decide _ && decide _) = false by rw [decide_eq_false q56]; rfl))) hms)
              · skip
                refine am_aload_n (pc := 59) C dX12_led_59 rfl ?_
                refine am_iload_n (pc := 60) C dX12_led_60 rfl ?_
                refine am_iconstN (pc := 61) (k := 3) C dX12_led_61 ?_
                refine am_callVi (Y := mX12_ofLog) (pc := 62) (st := []) (As := [.int (nI n), .int (nI 3)]) (x := (rf_log (h 323) n 3)) (h2 := (am_row h 322 (upd (h 322) 0 (nI 0)))) C dX12_led_62 k12_451 v_X12_ofLog rfl rfl bn_322 sh_322 ⟨by decide, rfl⟩ (by decide) (Nat.zero_le _) (Nat.zero_le _) (Nat.le_of_ble_eq_true rfl) (c_X12_ofLog hR n 3 (show n < 60 from by omega) (show 3 < 5 from by omega)) ?_
                refine am_iload_n (pc := 65) C dX12_led_65 rfl ?_
                refine am_icmp_ne (pc := 66) (tgt := 71) C dX12_led_66 (by decide) (fun q66 => ?_) (fun q66 => ?_)
                · skip
                  refine am_iincN (pc := 71) (ls' := [(0, .ref 322), (1, .int (nI (rf_nat s))), (2, .int (nI (rf_nat m))), (3, .int (nI (n + 1)))]) C dX12_led_71 rfl (am_up1 _) (by decide) rfl ?_
                  refine am_goto (pc := 74) (tgt := 38) C dX12_led_74 (by decide) ?_
                  exact ih38 (n + 1) (by omega) (Eq.trans (Eq.symm (rf_sea_f (show (decide _ && decide _) = false by rw [decide_eq_false q66, Bool.and_false]))) hms)
                · skip
                  refine am_iload_n (pc := 69) C dX12_led_69 rfl ?_
                  have A9 : rf_a_led (h 323) s m = (nI n) := (by unfold rf_a_led; exact Eq.trans (Eq.symm hms) (rf_sea_t (show (decide _ && decide _) = true by rw [decide_eq_true q56, decide_eq_true q66]; rfl)))
                  exact am_ireti T dX12_led_70 rfl (Nat.le_refl _) (Nat.le_refl _) (by rw [K9]; exact A9.symm) rfl (by rw [K9]; exact rfl)
        exact L38 (rf_G (h 323)) 0 (by omega) rfl
      · skip
        exact Bool.noConfusion q31
    · skip
      refine am_iconstN (pc := 22) (k := 1) C dX12_led_22 ?_
      refine am_goto (pc := 23) (tgt := 27) C dX12_led_23 (by decide) ?_
      refine am_top (show (nI 1) = (am_b true) from rfl) ?_
      refine am_iconstN (pc := 27) (k := 1) C dX12_led_27 ?_
      refine am_callVi (Y := mX12_throwsIf) (pc := 28) (st := []) (As := [.int (am_b true), .int (nI 1)]) (x := (am_b true)) (h2 := (am_row (am_row h 322 (upd (h 322) 0 (nI 0))) 322 (bif true then upd (upd (h 322) 0 (nI 0)) 0 (nI 1) else (upd (h 322) 0 (nI 0))))) C dX12_led_28 k12_269 v_X12_throwsIf rfl rfl bn_322 sh_322 ⟨by decide, rfl⟩ (by decide) (Nat.zero_le _) (Nat.zero_le _) (Nat.le_of_ble_eq_true rfl) (c_X12_throwsIf hR true (nI 1)) ?_
      refine am_hp (show (am_row (am_row h 322 (upd (h 322) 0 (nI 0))) 322 (bif true then upd (upd (h 322) 0 (nI 0)) 0 (nI 1) else (upd (h 322) 0 (nI 0)))) = (am_row h 322 (bif true then upd (upd (h 322) 0 (nI 0)) 0 (nI 1) else (upd (h 322) 0 (nI 0)))) from am_row_s0) ?_
      refine am_hp (show (am_row h 322 (bif true then upd (upd (h 322) 0 (nI 0)) 0 (nI 1) else (upd (h 322) 0 (nI 0)))) = (am_row h 322 (upd (upd (h 322) 0 (nI 0)) 0 (nI 1))) from rfl) ?_
      refine am_if_eqB (pc := 31) (tgt := 36) C dX12_led_31 (by decide) (fun q31 => ?_) (fun q31 => ?_)
      · skip
        exact Bool.noConfusion q31
      · skip
        refine am_iconstN (pc := 34) (k := 0) C dX12_led_34 ?_
        have K9 : rf_c_led (h 323) s m = 1 := (by unfold rf_c_led; exact ((rf_cb_f q11).trans (rf_cb_t q19)))
        exact am_ireti T dX12_led_35 rfl (Nat.le_refl _) (Nat.le_refl _) (by rw [K9]; rfl) rfl (by rw [K9]; exact congrArg (am_row _ 322) rf_upd_upd)

set_option maxHeartbeats 400000 in
set_option maxRecDepth 100000 in
theorem c_X12_hitter {ad : Nat → Nat} {r : am_R} (hR : am_rs r) {h : am_H}  (hV : rf_I (h 323))  : am_CM mX12_hitter 1 0 0 [.ref 322] (am_VV ad) r h (am_po (some (.int (rf_ga (rf_c_hitter (h 323) ) (rf_a_hitter (h 323) )))) r (am_row h 322 (rf_oc (h 322) (rf_c_hitter (h 323) )))) := by
  refine am_CM.of (by decide +kernel) (Nat.le_of_ble_eq_true rfl) (fun X C T => ?_)
  show am_G X (am_VV ad) (0, 0) 0 [(0, .ref 322)] [] r h
  have hM9 : rf_M (h 323) < 17 := hV.1.1.2
  have hS9 : rf_S (h 323) < 11 := hV.1.2.1.2
  have hO9 : rf_O (h 323) < 11 := hV.1.2.2.2
  have hG1 : (h 323) 9 = nI (rf_G (h 323)) := hV.2.2.2.2.1.2.2.2.1
  have hG9 : rf_G (h 323) < 61 := hV.2.2.2.2.1.2.2.2.2
  refine am_aload_n (pc := 0) C dX12_hitter_0 rfl ?_
  refine am_iconstN (pc := 1) (k := 0) C dX12_hitter_1 ?_
  refine am_putI (pc := 2) C dX12_hitter_2 f12_3 bn_322 sh_322 rfl rfl ?_
  refine am_hp (show am_up h 322 0 (nI 0) = am_row h 322 (upd (h 322) 0 (nI 0)) from am_up_rw _ _ _ _) ?_
  have K9 : rf_c_hitter (h 323)  = 0 := rfl
  refine am_iconst (pc := 5) (v := -1) C dX12_hitter_5 rfl ?_
  refine am_istore_n (pc := 6) (ls' := [(0, .ref 322), (1, .int (-1))]) C dX12_hitter_6 (by decide) rfl ?_
  refine am_iconstN (pc := 7) (k := 0) C dX12_hitter_7 ?_
  refine am_istore_n (pc := 8) (ls' := [(0, .ref 322), (1, .int (-1)), (2, .int (nI 0))]) C dX12_hitter_8 (by decide) rfl ?_
  refine am_iconstN (pc := 9) (k := 0) C dX12_hitter_9 ?_
  refine am_istore_n (pc := 10) (ls' := [(0, .ref 322), (1, .int (-1)), (2, .int (nI 0)), (3, .int (nI 0))]) C dX12_hitter_10 (by decide) rfl ?_
  have L11 : ∀ (j11 i11 : Nat), i11 + j11 = rf_S (h 323) → am_G X (am_VV ad) (0, 0) 11 [(0, .ref 322), (1, .int (am_oi ((rf_hm (h 323) i11).1))), (2, .int (nI ((rf_hm (h 323) i11).2))), (3, .int (nI i11))] [] r (am_row h 322 (upd (h 322) 0 (nI 0))) := by
    intro j11
    induction j11 with
    | zero =>
      intro i11 hi11 
      obtain rfl : i11 = rf_S (h 323) := by omega
      refine am_iload_n (pc := 11) C dX12_hitter_11 rfl ?_
      refine am_aload_n (pc := 12) C dX12_hitter_12 rfl ?_
      refine am_callVi (Y := mX12_soldiers) (pc := 13) (st := [.int (nI (rf_S (h 323)))]) (As := []) (x := (nI (rf_S (h 323)))) (h2 := (am_row h 322 (upd (h 322) 0 (nI 0)))) C dX12_hitter_13 k12_75 v_X12_soldiers rfl rfl bn_322 sh_322 ⟨by decide, rfl⟩ (by decide) (Nat.zero_le _) (Nat.zero_le _) (Nat.le_of_ble_eq_true rfl) (c_X12_soldiers hR (show rf_Cn (h 323) from hV.1)) ?_
      refine am_icmp_geN (pc := 16) (tgt := 84) C dX12_hitter_16 (by decide) (by omega) (by omega) (fun q16 => ?_) (fun q16 => ?_)
      · skip
        refine am_iload_n (pc := 84) C dX12_hitter_84 rfl ?_
        have A9 : rf_a_hitter (h 323)  = (am_oi ((rf_hm (h 323) (rf_S (h 323))).1)) := rfl
        exact am_ireti T dX12_hitter_85 rfl (Nat.le_refl _) (Nat.le_refl _) (by rw [K9]; exact A9.symm) rfl (by rw [K9]; exact rfl)
      · skip
        exact absurd q16 (by omega)
    | succ j11 ih11 =>
      intro i11 hi11 
      have hl11 : i11 < rf_S (h 323) := by omega
      have hm9 := rf_hm_le (w := h 323) i11
      have hc9 := rf_cnt_le (fun k => decide (rf_log (h 323) k 1 = nI i11)) (rf_G (h 323))
      refine am_iload_n (pc := 11) C dX12_hitter_11 rfl ?_
      refine am_aload_n (pc := 12) C dX12_hitter_12 rfl ?_
      refine am_callVi (Y := mX12_soldiers) (pc := 13) (st := [.int (nI i11)]) (As := []) (x := (nI (rf_S (h 323)))) (h2 := (am_row h 322 (upd (h 322) 0 (nI 0)))) C dX12_hitter_13 k12_75 v_X12_soldiers rfl rfl bn_322 sh_322 ⟨by decide, rfl⟩ (by decide) (Nat.zero_le _) (Nat.zero_le _) (Nat.le_of_ble_eq_true rfl) (c_X12_soldiers hR (show rf_Cn (h 323) from hV.1)) ?_
      refine am_icmp_geN (pc := 16) (tgt := 84) C dX12_hitter_16 (by decide) (by omega) (by omega) (fun q16 => ?_) (fun q16 => ?_)
      · skip
        exact absurd q16 (by omega)
      · skip
        refine am_iconstN (pc := 19) (k := 0) C dX12_hitter_19 ?_
        refine am_istore (pc := 20) (ls' := [(0, .ref 322), (1, .int (am_oi ((rf_hm (h 323) i11).1))), (2, .int (nI ((rf_hm (h 323) i11).2))), (3, .int (nI i11)), (4, .int (nI 0))]) C dX12_hitter_20 (by decide) rfl ?_
        refine am_iconstN (pc := 22) (k := 0) C dX12_hitter_22 ?_
        refine am_istore (pc := 23) (ls' := [(0, .ref 322), (1, .int (am_oi ((rf_hm (h 323) i11).1))), (2, .int (nI ((rf_hm (h 323) i11).2))), (3, .int (nI i11)), (4, .int (nI 0)), (5, .int (nI 0))]) C dX12_hitter_23 (by decide) rfl ?_
        have L25 : ∀ (j25 i25 : Nat), i25 + j25 = rf_G (h 323) → am_G X (am_VV ad) (0, 0) 25 [(0, .ref 322), (1, .int (am_oi ((rf_hm (h 323) i11).1))), (2, .int (nI ((rf_hm (h 323) i11).2))), (3, .int (nI i11)), (4, .int (nI (rf_cnt (fun k => decide (rf_log (h 323) k 1 = nI i11)) i25))), (5, .int (nI i25))] [] r (am_row h 322 (upd (h 322) 0 (nI 0))) := by
          intro j25
          induction j25 with
          | zero =>
            intro i25 hi25 
            obtain rfl : i25 = rf_G (h 323) := by omega
            refine am_iload (pc := 25) C dX12_hitter_25 rfl ?_
            refine am_aload_n (pc := 27) C dX12_hitter_27 rfl ?_
            refine am_getR (pc := 28) (j := 323) C dX12_hitter_28 f12_13 bn_322 sh_322 (rf_322_1 hR) ?_
            refine am_bipush (pc := 31) (v := nI 9) C dX12_hitter_31 (by decide) ?_
            refine am_iaload (pc := 33) C dX12_hitter_33 bn_323 sh_323 (vp_in_nI (by omega) (by decide)) ?_
            refine am_top (show (h 323) (nI 9).toNatClampNeg = (h 323) 9 from by rw [nI_clamp (by omega)]) ?_
            refine am_top (show ((h 323) 9) = (nI (rf_G (h 323))) from hG1) ?_
            refine am_icmp_geN (pc := 34) (tgt := 64) C dX12_hitter_34 (by decide) (by omega) (by omega) (fun q34 => ?_) (fun q34 => ?_)
            · skip
              refine am_iload (pc := 64) C dX12_hitter_64 rfl ?_
              refine am_iload_n (pc := 66) C dX12_hitter_66 rfl ?_
              refine am_icmp_gtN (pc := 67) (tgt := 73) C dX12_hitter_67 (by decide) (by omega) (by omega) (fun q67 => ?_) (fun q67 => ?_)
              · skip
                refine am_iload_n (pc := 73) C dX12_hitter_73 rfl ?_
                refine am_istore_n (pc := 74) (ls' := [(0, .ref 322), (1, .int (nI i11)), (2, .int (nI ((rf_hm (h 323) i11).2))), (3, .int (nI i11)), (4, .int (nI (rf_cnt (fun k => decide (rf_log (h 323) k 1 = nI i11)) (rf_G (h 323))))), (5, .int (nI (rf_G (h 323))))]) C dX12_hitter_74 (by decide) rfl ?_
                refine am_iload (pc := 75) C dX12_hitter_75 rfl ?_
                refine am_istore_n (pc := 77) (ls' := [(0, .ref 322), (1, .int (nI i11)), (2, .int (nI (rf_cnt (fun k => decide (rf_log (h 323) k 1 = nI i11)) (rf_G (h 323))))), (3, .int (nI i11)), (4, .int (nI (rf_cnt (fun k => decide (rf_log (h 323) k 1 = nI i11)) (rf_G (h 323))))), (5, .int (nI (rf_G (h 323))))]) C dX12_hitter_77 (by decide) rfl ?_
                refine am_iincN (pc := 78) (ls' := [(0, .ref 322), (1, .int (nI i11)), (2, .int (nI (rf_cnt (fun k => decide (rf_log (h 323) k 1 = nI i11)) (rf_G (h 323))))), (3, .int (nI (i11 + 1))), (4, .int (nI (rf_cnt (fun k => decide (rf_log (h 323) k 1 = nI i11)) (rf_G (h 323))))), (5, .int (nI (rf_G (h 323))))]) C dX12_hitter_78 rfl (am_up1 _) (by decide) rfl ?_
                refine am_goto (pc := 81) (tgt := 11) C dX12_hitter_81 (by decide) ?_
                refine am_sub (ls' := [(0, .ref 322), (1, .int (nI i11)), (2, .int (nI (rf_cnt (fun k => decide (rf_log (h 323) k 1 = nI i11)) (rf_G (h 323))))), (3, .int (nI (i11 + 1)))]) (by intro q hq; simp only [List.mem_cons, List.not_mem_nil, or_false] at hq ⊢; rcases hq with rfl | rfl | rfl | rfl <;> simp) ?_
                refine am_lsv (ls' := [(0, .ref 322), (1, .int (am_oi ((rf_hm (h 323) (i11 + 1)).1))), (2, .int (nI (rf_cnt (fun k => decide (rf_log (h 323) k 1 = nI i11)) (rf_G (h 323))))), (3, .int (nI (i11 + 1)))]) (congrArg (fun z9 : Int32 => ([(0, .ref 322), (1, Value.int z9), (2, .int (nI (rf_cnt (fun k => decide (rf_log (h 323) k 1 = nI i11)) (rf_G (h 323))))), (3, .int (nI (i11 + 1)))] : List (Nat × Value))) (show (nI i11) = (am_oi ((rf_hm (h 323) (i11 + 1)).1)) from rf_hm_y1 q67)) ?_
                refine am_lsv (ls' := [(0, .ref 322), (1, .int (am_oi ((rf_hm (h 323) (i11 + 1)).1))), (2, .int (nI ((rf_hm (h 323) (i11 + 1)).2))), (3, .int (nI (i11 + 1)))]) (congrArg (fun z9 : Int32 => ([(0, .ref 322), (1, .int (am_oi ((rf_hm (h 323) (i11 + 1)).1))), (2, Value.int z9), (3, .int (nI (i11 + 1)))] : List (Nat × Value))) (show (nI (rf_cnt (fun k => decide (rf_log (h 323) k 1 = nI i11)) (rf_G (h 323)))) = (nI ((rf_hm (h 323) (i11 + 1)).2)) from rf_hm_y2 q67)) ?_
                exact ih11 (i11 + 1) (by omega) 
              · skip
                refine am_goto (pc := 70) (tgt := 78) C dX12_hitter_70 (by decide) ?_
                refine am_iincN (pc := 78) (ls' := [(0, .ref 322), (1, .int (am_oi ((rf_hm (h 323) i11).1))), (2, .int (nI ((rf_hm (h 323) i11).2))), (3, .int (nI (i11 + 1))), (4, .int (nI (rf_cnt (fun k => decide (rf_log (h 323) k 1 = nI i11)) (rf_G (h 323))))), (5, .int (nI (rf_G (h 323))))]) C dX12_hitter_78 rfl (am_up1 _) (by decide) rfl ?_
                refine am_goto (pc := 81) (tgt := 11) C dX12_hitter_81 (by decide) ?_
                refine am_sub (ls' := [(0, .ref 322), (1, .int (am_oi ((rf_hm (h 323) i11).1))), (2, .int (nI ((rf_hm (h 323) i11).2))), (3, .int (nI (i11 + 1)))]) (by intro q hq; simp only [List.mem_cons, List.not_mem_nil, or_false] at hq ⊢; rcases hq with rfl | rfl | rfl | rfl <;> simp) ?_
                refine am_lsv (ls' := [(0, .ref 322), (1, .int (am_oi ((rf_hm (h 323) (i11 + 1)).1))), (2, .int (nI ((rf_hm (h 323) i11).2))), (3, .int (nI (i11 + 1)))]) (congrArg (fun z9 : Int32 => ([(0, .ref 322), (1, Value.int z9), (2, .int (nI ((rf_hm (h 323) i11).2))), (3, .int (nI (i11 + 1)))] : List (Nat × Value))) (show (am_oi ((rf_hm (h 323) i11).1)) = (am_oi ((rf_hm (h 323) (i11 + 1)).1)) from rf_hm_n1 (by omega))) ?_
                refine am_lsv (ls' := [(0, .ref 322), (1, .int (am_oi ((rf_hm (h 323) (i11 + 1)).1))), (2, .int (nI ((rf_hm (h 323) (i11 + 1)).2))), (3, .int (nI (i11 + 1)))]) (congrArg (fun z9 : Int32 => ([(0, .ref 322), (1, .int (am_oi ((rf_hm (h 323) (i11 + 1)).1))), (2, Value.int z9), (3, .int (nI (i11 + 1)))] : List (Nat × Value))) (show (nI ((rf_hm (h 323) i11).2)) = (nI ((rf_hm (h 323) (i11 + 1)).2)) from rf_hm_n2 (by omega))) ?_
                exact ih11 (i11 + 1) (by omega) 
            · skip
              exact absurd q34 (by omega)
          | succ j25 ih25 =>
            intro i25 hi25 
            have hl25 : i25 < rf_G (h 323) := by omega
            refine am_iload (pc := 25) C dX12_hitter_25 rfl ?_
            refine am_aload_n (pc := 27) C dX12_hitter_27 rfl ?_
            refine am_getR (pc := 28) (j := 323) C dX12_hitter_28 f12_13 bn_322 sh_322 (rf_322_1 hR) ?_
            refine am_bipush (pc := 31) (v := nI 9) C dX12_hitter_31 (by decide) ?_
            refine am_iaload (pc := 33) C dX12_hitter_33 bn_323 sh_323 (vp_in_nI (by omega) (by decide)) ?_
            refine am_top (show (h 323) (nI 9).toNatClampNeg = (h 323) 9 from by rw [nI_clamp (by omega)]) ?_
            refine am_top (show ((h 323) 9) = (nI (rf_G (h 323))) from hG1) ?_
            refine am_icmp_geN (pc := 34) (tgt := 64) C dX12_hitter_34 (by decide) (by omega) (by omega) (fun q34 => ?_) (fun q34 => ?_)
            · skip
              exact absurd q34 (by omega)
            · skip
              refine am_iload (pc := 37) C dX12_hitter_37 rfl ?_
              refine am_aload_n (pc := 39) C dX12_hitter_39 rfl ?_
              refine am_iload (pc := 40) C dX12_hitter_40 rfl ?_
              refine am_iconstN (pc := 42) (k := 1) C dX12_hitter_42 ?_
              refine am_callVi (Y := mX12_ofLog) (pc := 43) (st := [.int (nI (rf_cnt (fun k => decide (rf_log (h 323) k 1 = nI i11)) i25))]) (As := [.int (nI i25), .int (nI 1)]) (x := (rf_log (h 323) i25 1)) (h2 := (am_row h 322 (upd (h 322) 0 (nI 0)))) C dX12_hitter_43 k12_451 v_X12_ofLog rfl rfl bn_322 sh_322 ⟨by decide, rfl⟩ (by decide) (Nat.zero_le _) (Nat.zero_le _) (Nat.le_of_ble_eq_true rfl) (c_X12_ofLog hR i25 1 (show i25 < 60 from by omega) (show 1 < 5 from by omega)) ?_
              refine am_iload_n (pc := 46) C dX12_hitter_46 rfl ?_
              refine am_icmp_ne (pc := 47) (tgt := 54) C dX12_hitter_47 (by decide) (fun q47 => ?_) (fun q47 => ?_)
              · skip
                refine am_iconstN (pc := 54) (k := 0) C dX12_hitter_54 ?_
                refine am_iaddN (pc := 55) C dX12_hitter_55 ?_
                refine am_istore (pc := 56) (ls' := [(0, .ref 322), (1, .int (am_oi ((rf_hm (h 323) i11).1))), (2, .int (nI ((rf_hm (h 323) i11).2))), (3, .int (nI i11)), (4, .int (nI ((rf_cnt (fun k => decide (rf_log (h 323) k 1 = nI i11)) i25) + 0))), (5, .int (nI i25))]) C dX12_hitter_56 (by decide) rfl ?_
                refine am_iincN (pc := 58) (ls' := [(0, .ref 322), (1, .int (am_oi ((rf_hm (h 323) i11).1))), (2, .int (nI ((rf_hm (h 323) i11).2))), (3, .int (nI i11)), (4, .int (nI ((rf_cnt (fun k => decide (rf_log (h 323) k 1 = nI i11)) i25) + 0))), (5, .int (nI (i25 + 1)))]) C dX12_hitter_58 rfl (am_up1 _) (by decide) rfl ?_
                refine am_goto (pc := 61) (tgt := 25) C dX12_hitter_61 (by decide) ?_
                refine am_lsv (ls' := [(0, .ref 322), (1, .int (am_oi ((rf_hm (h 323) i11).1))), (2, .int (nI ((rf_hm (h 323) i11).2))), (3, .int (nI i11)), (4, .int (nI (rf_cnt (fun k => decide (rf_log (h 323) k 1 = nI i11)) (i25 + 1)))), (5, .int (nI (i25 + 1)))]) (by rw [show (nI ((rf_cnt (fun k => decide (rf_log (h 323) k 1 = nI i11)) i25) + 0)) = (nI (rf_cnt (fun k => decide (rf_log (h 323) k 1 = nI i11)) (i25 + 1))) from rf_cnt_f (decide_eq_false q47)]) ?_
                exact ih25 (i25 + 1) (by omega) 
              · skip
                refine am_iconstN (pc := 50) (k := 1) C dX12_hitter_50 ?_
                refine am_goto (pc := 51) (tgt := 55) C dX12_hitter_51 (by decide) ?_
                refine am_iaddN (pc := 55) C dX12_hitter_55 ?_
                refine am_istore (pc := 56) (ls' := [(0, .ref 322), (1, .int (am_oi ((rf_hm (h 323) i11).1))), (2, .int (nI ((rf_hm (h 323) i11).2))), (3, .int (nI i11)), (4, .int (nI ((rf_cnt (fun k => decide (rf_log (h 323) k 1 = nI i11)) i25) + 1))), (5, .int (nI i25))]) C dX12_hitter_56 (by decide) rfl ?_
                refine am_iincN (pc := 58) (ls' := [(0, .ref 322), (1, .int (am_oi ((rf_hm (h 323) i11).1))), (2, .int (nI ((rf_hm (h 323) i11).2))), (3, .int (nI i11)), (4, .int (nI ((rf_cnt (fun k => decide (rf_log (h 323) k 1 = nI i11)) i25) + 1))), (5, .int (nI (i25 + 1)))]) C dX12_hitter_58 rfl (am_up1 _) (by decide) rfl ?_
                refine am_goto (pc := 61) (tgt := 25) C dX12_hitter_61 (by decide) ?_
                refine am_lsv (ls' := [(0, .ref 322), (1, .int (am_oi ((rf_hm (h 323) i11).1))), (2, .int (nI ((rf_hm (h 323) i11).2))), (3, .int (nI i11)), (4, .int (nI (rf_cnt (fun k => decide (rf_log (h 323) k 1 = nI i11)) (i25 + 1)))), (5, .int (nI (i25 + 1)))]) (by rw [show (nI ((rf_cnt (fun k => decide (rf_log (h 323) k 1 = nI i11)) i25) + 1)) = (nI (rf_cnt (fun k => decide (rf_log (h 323) k 1 = nI i11)) (i25 + 1))) from rf_cnt_t (decide_eq_true q47)]) ?_
                exact ih25 (i25 + 1) (by omega) 
        exact L25 (rf_G (h 323)) 0 (by omega) 
  refine am_sub (ls' := [(0, .ref 322), (1, .int (-1)), (2, .int (nI 0)), (3, .int (nI 0))]) (by intro q hq; simp only [List.mem_cons, List.not_mem_nil, or_false] at hq ⊢; rcases hq with rfl | rfl | rfl | rfl <;> simp) ?_
  refine am_lsv (ls' := [(0, .ref 322), (1, .int (am_oi ((rf_hm (h 323) 0).1))), (2, .int (nI 0)), (3, .int (nI 0))]) (congrArg (fun z9 : Int32 => ([(0, .ref 322), (1, Value.int z9), (2, .int (nI 0)), (3, .int (nI 0))] : List (Nat × Value))) (show (-1) = (am_oi ((rf_hm (h 323) 0).1)) from (by first | exact am_oi_0.symm | rfl))) ?_
  refine am_lsv (ls' := [(0, .ref 322), (1, .int (am_oi ((rf_hm (h 323) 0).1))), (2, .int (nI ((rf_hm (h 323) 0).2))), (3, .int (nI 0))]) (congrArg (fun z9 : Int32 => ([(0, .ref 322), (1, .int (am_oi ((rf_hm (h 323) 0).1))), (2, Value.int z9), (3, .int (nI 0))] : List (Nat × Value))) (show (nI 0) = (nI ((rf_hm (h 323) 0).2)) from (by first | exact am_oi_0.symm | rfl))) ?_
  exact L11 (rf_S (h 323)) 0 (by omega) 

set_option maxHeartbeats 400000 in
set_option maxRecDepth 100000 in
theorem c_X12_count {ad : Nat → Nat} {r : am_R} (hR : am_rs r) {h : am_H} (what : Int32) (hV : rf_I (h 323))  : am_CM mX12_count 5 0 0 [.ref 322, .int what] (am_VV ad) r h (am_po (some (.int (rf_ga (rf_c_count (h 323) what) (rf_a_count (h 323) ((h 322) 7) what)))) r (am_row h 322 (rf_oc (h 322) (rf_c_count (h 323) what)))) := by
  refine am_CM.of (by decide +kernel) (Nat.le_of_ble_eq_true rfl) (fun X C T => ?_)
  show am_G X (am_VV ad) (0, 0) 0 [(0, .ref 322), (1, .int what)] [] r h
  have hM9 : rf_M (h 323) < 17 := hV.1.1.2
  have hS9 : rf_S (h 323) < 11 := hV.1.2.1.2
  have hO9 : rf_O (h 323) < 11 := hV.1.2.2.2
  refine am_aload_n (pc := 0) C dX12_count_0 rfl ?_
  refine am_iconstN (pc := 1) (k := 0) C dX12_count_1 ?_
  refine am_putI (pc := 2) C dX12_count_2 f12_3 bn_322 sh_322 rfl rfl ?_
  refine am_hp (show am_up h 322 0 (nI 0) = am_row h 322 (upd (h 322) 0 (nI 0)) from am_up_rw _ _ _ _) ?_
  have K9 : rf_c_count (h 323) what = 0 := rfl
  refine am_iload_n (pc := 5) C dX12_count_5 rfl ?_
  by_cases e6_4 : what = nI 4
  · refine am_tableIn (pc := 6) (tgt := 56) C dX12_count_6 (by rw [e6_4]; decide) (by rw [e6_4]; decide) (by rw [e6_4]; rfl) (by decide) ?_
    refine am_aload_n (pc := 56) C dX12_count_56 rfl ?_
    refine am_getR (pc := 57) (j := 323) C dX12_count_57 f12_13 bn_322 sh_322 (rf_322_1 hR) ?_
    refine am_iconstN (pc := 60) (k := 4) C dX12_count_60 ?_
    refine am_iaload (pc := 61) C dX12_count_61 bn_323 sh_323 (vp_in_nI (by omega) (by decide)) ?_
    refine am_top (show (h 323) (nI 4).toNatClampNeg = (h 323) 4 from by rw [nI_clamp (by omega)]) ?_
    refine am_iconstN (pc := 62) (k := 1) C dX12_count_62 ?_
    refine am_icmp_ne (pc := 63) (tgt := 77) C dX12_count_63 (by decide) (fun q63 => ?_) (fun q63 => ?_)
    · skip
      refine am_iconst (pc := 77) (v := -1) C dX12_count_77 rfl ?_
      have A9 : rf_a_count (h 323) ((h 322) 7) what = (-1) := (by rw [rf_a_count, if_pos e6_4, if_neg q63])
      exact am_ireti T dX12_count_78 rfl (Nat.le_refl _) (Nat.le_refl _) (by rw [K9]; exact A9.symm) rfl (by rw [K9]; exact rfl)
    · skip
      refine am_aload_n (pc := 66) C dX12_count_66 rfl ?_
      refine am_getR (pc := 67) (j := 323) C dX12_count_67 f12_13 bn_322 sh_322 (rf_322_1 hR) ?_
      refine am_sipush (pc := 70) (v := nI 731) C dX12_count_70 (by decide) ?_
      refine am_iaload (pc := 73) C dX12_count_73 bn_323 sh_323 (vp_in_nI (by omega) (by decide)) ?_
      refine am_top (show (h 323) (nI 731).toNatClampNeg = (h 323) 731 from by rw [nI_clamp (by omega)]) ?_
      refine am_goto (pc := 74) (tgt := 78) C dX12_count_74 (by decide) ?_
      have A9 : rf_a_count (h 323) ((h 322) 7) what = ((h 323) 731) := (by rw [rf_a_count, if_pos e6_4, if_pos q63])
      exact am_ireti T dX12_count_78 rfl (Nat.le_refl _) (Nat.le_refl _) (by rw [K9]; exact A9.symm) rfl (by rw [K9]; exact rfl)
  by_cases e6_5 : what = nI 5
  · refine am_tableIn (pc := 6) (tgt := 119) C dX12_count_6 (by rw [e6_5]; decide) (by rw [e6_5]; decide) (by rw [e6_5]; rfl) (by decide) ?_
    refine am_iload_n (pc := 119) C dX12_count_119 rfl ?_
    refine am_iconstN (pc := 120) (k := 0) C dX12_count_120 ?_
    refine am_bipush (pc := 121) (v := nI 6) C dX12_count_121 (by decide) ?_
    refine am_callSi (Y := mX12_in) (pc := 123) (st := []) (As := [.int what, .int (nI 0), .int (nI 6)]) (x := (am_b (rf_in what (nI 0) (nI 6)))) (h2 := (am_row h 322 (upd (h 322) 0 (nI 0)))) C dX12_count_123 k12_71 v_X12_in rfl rfl (by decide) (Nat.zero_le _) (Nat.zero_le _) (Nat.le_of_ble_eq_true rfl) (c_X12_in hR what (nI 0) (nI 6)) ?_
    refine am_if_eqB (pc := 126) (tgt := 138) C dX12_count_126 (by decide) (fun q126 => ?_) (fun q126 => ?_)
    · skip
      refine am_iconst (pc := 138) (v := -1) C dX12_count_138 rfl ?_
      have A9 : rf_a_count (h 323) ((h 322) 7) what = (-1) := (by rw [rf_a_count, if_neg e6_4, if_neg (by rw [e6_5]; decide), if_neg (by rw [e6_5]; decide), if_neg (by rw [e6_5]; decide), if_neg (by rw [e6_5]; decide), if_neg (by rw [e6_5]; decide), if_neg (by rw [e6_5]; decide), q126]; rfl)
      exact am_ireti T dX12_count_139 rfl (Nat.le_refl _) (Nat.le_refl _) (by rw [K9]; exact A9.symm) rfl (by rw [K9]; exact rfl)
    · skip
      have hq := rf_in_n0 (by decide) q126
      have hq2 := hq.2
      refine am_lsv (ls' := [(0, .ref 322), (1, .int (nI (rf_nat what)))]) (congrArg (fun z9 : Int32 => ([(0, .ref 322), (1, Value.int z9)] : List (Nat × Value))) (show what = (nI (rf_nat what)) from hq.1)) ?_
      refine am_aload_n (pc := 129) C dX12_count_129 rfl ?_
      refine am_getR (pc := 130) (j := 323) C dX12_count_130 f12_13 bn_322 sh_322 (rf_322_1 hR) ?_
      refine am_iload_n (pc := 133) C dX12_count_133 rfl ?_
      refine am_iaload (pc := 134) C dX12_count_134 bn_323 sh_323 (vp_in_nI (by omega) (by decide)) ?_
      refine am_top (show (h 323) (nI (rf_nat what)).toNatClampNeg = (h 323) (rf_nat what) from by rw [nI_clamp (by omega)]) ?_
      refine am_goto (pc := 135) (tgt := 139) C dX12_count_135 (by decide) ?_
      have A9 : rf_a_count (h 323) ((h 322) 7) what = ((h 323) (rf_nat what)) := (by rw [rf_a_count, if_neg e6_4, if_neg (by rw [e6_5]; decide), if_neg (by rw [e6_5]; decide), if_neg (by rw [e6_5]; decide), if_neg (by rw [e6_5]; decide), if_neg (by rw [e6_5]; decide), if_neg (by rw [e6_5]; decide), q126]; rfl)
      exact am_ireti T dX12_count_139 rfl (Nat.le_refl _) (Nat.le_refl _) (by rw [K9]; exact A9.symm) rfl (by rw [K9]; exact rfl)
  by_cases e6_6 : what = nI 6
  · refine am_tableIn (pc := 6) (tgt := 119) C dX12_count_6 (by rw [e6_6]; decide) (by rw [e6_6]; decide) (by rw [e6_6]; rfl) (by decide) ?_
    refine am_iload_n (pc := 119) C dX12_count_119 rfl ?_
    refine am_iconstN (pc := 120) (k := 0) C dX12_count_120 ?_
    refine am_bipush (pc := 121) (v := nI 6) C dX12_count_121 (by decide) ?_
    refine am_callSi (Y := mX12_in) (pc := 123) (st := []) (As := [.int what, .int (nI 0), .int (nI 6)]) (x := (am_b (rf_in what (nI 0) (nI 6)))) (h2 := (am_row h 322 (upd (h 322) 0 (nI 0)))) C dX12_count_123 k12_71 v_X12_in rfl rfl (by decide) (Nat.zero_le _) (Nat.zero_le _) (Nat.le_of_ble_eq_true rfl) (c_X12_in hR what (nI 0) (nI 6)) ?_
    refine am_if_eqB (pc := 126) (tgt := 138) C dX12_count_126 (by decide) (fun q126 => ?_) (fun q126 => ?_)
    · skip
      refine am_iconst (pc := 138) (v := -1) C dX12_count_138 rfl ?_
      have A9 : rf_a_count (h 323) ((h 322) 7) what = (-1) := (by rw [rf_a_count, if_neg e6_4, if_neg (by rw [e6_6]; decide), if_neg (by rw [e6_6]; decide), if_neg (by rw [e6_6]; decide), if_neg (by rw [e6_6]; decide), if_neg (by rw [e6_6]; decide), if_neg (by rw [e6_6]; decide), q126]; rfl)
      exact am_ireti T dX12_count_139 rfl (Nat.le_refl _) (Nat.le_refl _) (by rw [K9]; exact A9.symm) rfl (by rw [K9]; exact rfl)
    · skip
      have hq := rf_in_n0 (by decide) q126
      have hq2 := hq.2
      refine am_lsv (ls' := [(0, .ref 322), (1, .int (nI (rf_nat what)))]) (congrArg (fun z9 : Int32 => ([(0, .ref 322), (1, Value.int z9)] : List (Nat × Value))) (show what = (nI (rf_nat what)) from hq.1)) ?_
      refine am_aload_n (pc := 129) C dX12_count_129 rfl ?_
      refine am_getR (pc := 130) (j := 323) C dX12_count_130 f12_13 bn_322 sh_322 (rf_322_1 hR) ?_
      refine am_iload_n (pc := 133) C dX12_count_133 rfl ?_
      refine am_iaload (pc := 134) C dX12_count_134 bn_323 sh_323 (vp_in_nI (by omega) (by decide)) ?_
      refine am_top (show (h 323) (nI (rf_nat what)).toNatClampNeg = (h 323) (rf_nat what) from by rw [nI_clamp (by omega)]) ?_
      refine am_goto (pc := 135) (tgt := 139) C dX12_count_135 (by decide) ?_
      have A9 : rf_a_count (h 323) ((h 322) 7) what = ((h 323) (rf_nat what)) := (by rw [rf_a_count, if_neg e6_4, if_neg (by rw [e6_6]; decide), if_neg (by rw [e6_6]; decide), if_neg (by rw [e6_6]; decide), if_neg (by rw [e6_6]; decide), if_neg (by rw [e6_6]; decide), if_neg (by rw [e6_6]; decide), q126]; rfl)
      exact am_ireti T dX12_count_139 rfl (Nat.le_refl _) (Nat.le_refl _) (by rw [K9]; exact A9.symm) rfl (by rw [K9]; exact rfl)
  by_cases e6_7 : what = nI 7
  · refine am_tableIn (pc := 6) (tgt := 79) C dX12_count_6 (by rw [e6_7]; decide) (by rw [e6_7]; decide) (by rw [e6_7]; rfl) (by decide) ?_
    refine am_aload_n (pc := 79) C dX12_count_79 rfl ?_
    refine am_callVi (Y := mX12_allKnown) (pc := 80) (st := []) (As := []) (x := (nI (rf_ak (h 323) (rf_S (h 323))))) (h2 := (am_row h 322 (upd (h 322) 0 (nI 0)))) C dX12_count_80 k12_442 v_X12_allKnown rfl rfl bn_322 sh_322 ⟨by decide, rfl⟩ (by decide) (Nat.zero_le _) (Nat.zero_le _) (Nat.le_of_ble_eq_true rfl) (c_X12_allKnown hR hV) ?_
    have A9 : rf_a_count (h 323) ((h 322) 7) what = (nI (rf_ak (h 323) (rf_S (h 323)))) := (by rw [rf_a_count, if_neg e6_4, if_pos e6_7])
    exact am_ireti T dX12_count_83 rfl (Nat.le_refl _) (Nat.le_refl _) (by rw [K9]; exact A9.symm) rfl (by rw [K9]; exact rfl)
  by_cases e6_8 : what = nI 8
  · refine am_tableIn (pc := 6) (tgt := 84) C dX12_count_6 (by rw [e6_8]; decide) (by rw [e6_8]; decide) (by rw [e6_8]; rfl) (by decide) ?_
    refine am_aload_n (pc := 84) C dX12_count_84 rfl ?_
    refine am_iconstN (pc := 85) (k := 3) C dX12_count_85 ?_
    refine am_callVi (Y := mX12_allUsable) (pc := 86) (st := []) (As := [.int (nI 3)]) (x := (rf_au (h 323) (nI 3) (rf_S (h 323)))) (h2 := (am_row h 322 (upd (h 322) 0 (nI 0)))) C dX12_count_86 k12_445 v_X12_allUsable rfl rfl bn_322 sh_322 ⟨by decide, rfl⟩ (by decide) (Nat.zero_le _) (Nat.zero_le _) (Nat.le_of_ble_eq_true rfl) (c_X12_allUsable hR (nI 3) hV) ?_
    have A9 : rf_a_count (h 323) ((h 322) 7) what = (rf_au (h 323) (nI 3) (rf_S (h 323))) := (by rw [rf_a_count, if_neg e6_4, if_neg e6_7, if_pos e6_8])
    exact am_ireti T dX12_count_89 rfl (Nat.le_refl _) (Nat.le_refl _) (by rw [K9]; exact A9.symm) rfl (by rw [K9]; exact rfl)
  by_cases e6_9 : what = nI 9
  · refine am_tableIn (pc := 6) (tgt := 90) C dX12_count_6 (by rw [e6_9]; decide) (by rw [e6_9]; decide) (by rw [e6_9]; rfl) (by decide) ?_
    refine am_aload_n (pc := 90) C dX12_count_90 rfl ?_
    refine am_getR (pc := 91) (j := 323) C dX12_count_91 f12_13 bn_322 sh_322 (rf_322_1 hR) ?_
    refine am_bipush (pc := 94) (v := nI 7) C dX12_count_94 (by decide) ?_
    refine am_iaload (pc := 96) C dX12_count_96 bn_323 sh_323 (vp_in_nI (by omega) (by decide)) ?_
    refine am_top (show (h 323) (nI 7).toNatClampNeg = (h 323) 7 from by rw [nI_clamp (by omega)]) ?_
    have A9 : rf_a_count (h 323) ((h 322) 7) what = ((h 323) 7) := (by rw [rf_a_count, if_neg e6_4, if_neg e6_7, if_neg e6_8, if_pos e6_9])
    exact am_ireti T dX12_count_97 rfl (Nat.le_refl _) (Nat.le_refl _) (by rw [K9]; exact A9.symm) rfl (by rw [K9]; exact rfl)
  by_cases e6_10 : what = nI 10
  · refine am_tableIn (pc := 6) (tgt := 98) C dX12_count_6 (by rw [e6_10]; decide) (by rw [e6_10]; decide) (by rw [e6_10]; rfl) (by decide) ?_
    refine am_aload_n (pc := 98) C dX12_count_98 rfl ?_
    refine am_getR (pc := 99) (j := 323) C dX12_count_99 f12_13 bn_322 sh_322 (rf_322_1 hR) ?_
    refine am_bipush (pc := 102) (v := nI 8) C dX12_count_102 (by decide) ?_
    refine am_iaload (pc := 104) C dX12_count_104 bn_323 sh_323 (vp_in_nI (by omega) (by decide)) ?_
    refine am_top (show (h 323) (nI 8).toNatClampNeg = (h 323) 8 from by rw [nI_clamp (by omega)]) ?_
    have A9 : rf_a_count (h 323) ((h 322) 7) what = ((h 323) 8) := (by rw [rf_a_count, if_neg e6_4, if_neg e6_7, if_neg e6_8, if_neg e6_9, if_pos e6_10])
    exact am_ireti T dX12_count_105 rfl (Nat.le_refl _) (Nat.le_refl _) (by rw [K9]; exact A9.symm) rfl (by rw [K9]; exact rfl)
  by_cases e6_11 : what = nI 11
  · refine am_tableIn (pc := 6) (tgt := 106) C dX12_count_6 (by rw [e6_11]; decide) (by rw [e6_11]; decide) (by rw [e6_11]; rfl) (by decide) ?_
    refine am_aload_n (pc := 106) C dX12_count_106 rfl ?_
    refine am_getR (pc := 107) (j := 323) C dX12_count_107 f12_13 bn_322 sh_322 (rf_322_1 hR) ?_
    refine am_bipush (pc := 110) (v := nI 9) C dX12_count_110 (by decide) ?_
    refine am_iaload (pc := 112) C dX12_count_112 bn_323 sh_323 (vp_in_nI (by omega) (by decide)) ?_
    refine am_top (show (h 323) (nI 9).toNatClampNeg = (h 323) 9 from by rw [nI_clamp (by omega)]) ?_
    have A9 : rf_a_count (h 323) ((h 322) 7) what = ((h 323) 9) := (by rw [rf_a_count, if_neg e6_4, if_neg e6_7, if_neg e6_8, if_neg e6_9, if_neg e6_10, if_pos e6_11])
    exact am_ireti T dX12_count_113 rfl (Nat.le_refl _) (Nat.le_refl _) (by rw [K9]; exact A9.symm) rfl (by rw [K9]; exact rfl)
  by_cases e6_12 : what = nI 12
  · refine am_tableIn (pc := 6) (tgt := 114) C dX12_count_6 (by rw [e6_12]; decide) (by rw [e6_12]; decide) (by rw [e6_12]; rfl) (by decide) ?_
    refine am_aload_n (pc := 114) C dX12_count_114 rfl ?_
    refine am_getI (pc := 115) C dX12_count_115 f12_60 bn_322 sh_322 ?_
    refine am_top (show ((upd (h 322) 0 (nI 0)) 7) = ((h 322) 7) from (rf_upd_ne (by decide))) ?_
    have A9 : rf_a_count (h 323) ((h 322) 7) what = ((h 322) 7) := (by rw [rf_a_count, if_neg e6_4, if_neg e6_7, if_neg e6_8, if_neg e6_9, if_neg e6_10, if_neg e6_11, if_pos e6_12])
    exact am_ireti T dX12_count_118 rfl (Nat.le_refl _) (Nat.le_refl _) (by rw [K9]; exact A9.symm) rfl (by rw [K9]; exact rfl)
  refine am_tableOut (pc := 6) (tgt := 119) C dX12_count_6 (am_tabD 4 12 (by decide) (fun k h1 h2 => by rcases (show k = 4 ∨ k = 5 ∨ k = 6 ∨ k = 7 ∨ k = 8 ∨ k = 9 ∨ k = 10 ∨ k = 11 ∨ k = 12 by omega) with rfl | rfl | rfl | rfl | rfl | rfl | rfl | rfl | rfl <;> assumption)) (by decide) ?_
  refine am_iload_n (pc := 119) C dX12_count_119 rfl ?_
  refine am_iconstN (pc := 120) (k := 0) C dX12_count_120 ?_
  refine am_bipush (pc := 121) (v := nI 6) C dX12_count_121 (by decide) ?_
  refine am_callSi (Y := mX12_in) (pc := 123) (st := []) (As := [.int what, .int (nI 0), .int (nI 6)]) (x := (am_b (rf_in what (nI 0) (nI 6)))) (h2 := (am_row h 322 (upd (h 322) 0 (nI 0)))) C dX12_count_123 k12_71 v_X12_in rfl rfl (by decide) (Nat.zero_le _) (Nat.zero_le _) (Nat.le_of_ble_eq_true rfl) (c_X12_in hR what (nI 0) (nI 6)) ?_
  refine am_if_eqB (pc := 126) (tgt := 138) C dX12_count_126 (by decide) (fun q126 => ?_) (fun q126 => ?_)
  · skip
    refine am_iconst (pc := 138) (v := -1) C dX12_count_138 rfl ?_
    have A9 : rf_a_count (h 323) ((h 322) 7) what = (-1) := (by rw [rf_a_count, if_neg e6_4, if_neg e6_7, if_neg e6_8, if_neg e6_9, if_neg e6_10, if_neg e6_11, if_neg e6_12, q126]; rfl)
    exact am_ireti T dX12_count_139 rfl (Nat.le_refl _) (Nat.le_refl _) (by rw [K9]; exact A9.symm) rfl (by rw [K9]; exact rfl)
  · skip
    have hq := rf_in_n0 (by decide) q126
    have hq2 := hq.2
    refine am_lsv (ls' := [(0, .ref 322), (1, .int (nI (rf_nat what)))]) (congrArg (fun z9 : Int32 => ([(0, .ref 322), (1, Value.int z9)] : List (Nat × Value))) (show what = (nI (rf_nat what)) from hq.1)) ?_
    refine am_aload_n (pc := 129) C dX12_count_129 rfl ?_
    refine am_getR (pc := 130) (j := 323) C dX12_count_130 f12_13 bn_322 sh_322 (rf_322_1 hR) ?_
    refine am_iload_n (pc := 133) C dX12_count_133 rfl ?_
    refine am_iaload (pc := 134) C dX12_count_134 bn_323 sh_323 (vp_in_nI (by omega) (by decide)) ?_
    refine am_top (show (h 323) (nI (rf_nat what)).toNatClampNeg = (h 323) (rf_nat what) from by rw [nI_clamp (by omega)]) ?_
    refine am_goto (pc := 135) (tgt := 139) C dX12_count_135 (by decide) ?_
    have A9 : rf_a_count (h 323) ((h 322) 7) what = ((h 323) (rf_nat what)) := (by rw [rf_a_count, if_neg e6_4, if_neg e6_7, if_neg e6_8, if_neg e6_9, if_neg e6_10, if_neg e6_11, if_neg e6_12, q126]; rfl)
    exact am_ireti T dX12_count_139 rfl (Nat.le_refl _) (Nat.le_refl _) (by rw [K9]; exact A9.symm) rfl (by rw [K9]; exact rfl)

