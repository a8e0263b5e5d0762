/-! THE CLASS: whose the told memories can be -/
section M26
theorem rf_wa_t {w : rf_W} {s : Nat} {place : Int32} {i n : Nat} (hi : i < n) (h : rf_wa w s place (i + 1) = true) : rf_wa w s place n = true := by
  induction n with
  | zero => omega
  | succ n ih =>
    by_cases e : i = n
    · subst e; exact h
    · rw [rf_wa, ih (by omega)]; rfl
def cl_ow (f : Nat → Int32) (S n : Nat) : Nat → Int32
  | 0 => -1
  | i + 1 => nI (rf_pk f S n i (rf_gn f S n i))
theorem cl_gn_ok {f : Nat → Int32} {S n i : Nat} (hS : S ≤ 10) (hi : i ≤ n) (hne : 0 < i → ¬ rf_ways f S n n 0 = 0) : rf_gn f S n i < 2 ^ S ∧ rf_bc (nI (rf_gn f S n i)) = i := by
  by_cases h : i = 0
  · subst h; exact ⟨Nat.pow_pos (by decide), rf_bc_0⟩
  · have hw := hne (by omega)
    exact ⟨(rf_gn_ok hS hw i hi).1, rf_gn_bc hS hw i hi⟩
theorem cl_ow_ne {f : Nat → Int32} {S n i : Nat} (hS : S ≤ 10) (h8 : n ≤ 8) (hi : i < n) (hne : 0 < i → ¬ rf_ways f S n n 0 = 0) (hpk : rf_pk f S n i (rf_gn f S n i) < S) : ¬ rf_ways f S n n 0 = 0 := by
  by_cases h : i = 0
  · subst h; exact fun z => rf_pk_no hi z hS h8 hpk
  · exact hne (by omega)
theorem cl_ow_no {f : Nat → Int32} {S n i k : Nat} (hS : S ≤ 10) (hi : i < n) (_hne : 0 < i → ¬ rf_ways f S n n 0 = 0) (h : (if rf_pk f S n i (rf_gn f S n i) < S then nI (rf_pk f S n i (rf_gn f S n i)) else -1) = (-1 : Int32)) : (if rf_ways f S n n 0 = 0 then -1 else nI (rf_pk f S n k (rf_gn f S n k))) = (-1 : Int32) := by
  by_cases hw : rf_ways f S n n 0 = 0
  · rw [if_pos hw]
  · obtain ⟨a, b⟩ := rf_gn_ok hS hw i (by omega)
    have hp := (rf_pk_ok hi b).1
    rw [if_pos hp] at h
    have h2 := congrArg Int32.toInt h
    rw [nI_toInt (by omega), show (-1 : Int32).toInt = -1 from by decide] at h2
    omega
def cl_tk (f : Nat → Int32) (M : Nat) : Nat → Bool
  | 0 => true
  | i + 1 => cl_tk f M i && decide (rf_nat (f i) < M)
theorem cl_tk_f {f : Nat → Int32} {M i n : Nat} (hi : i < n) (h : cl_tk f M (i + 1) = false) : cl_tk f M n = false := by
  induction n with
  | zero => omega
  | succ n ih =>
    by_cases e : i = n
    · subst e; exact h
    · rw [cl_tk, ih (by omega)]; rfl
end M26

set_option maxHeartbeats 400000 in
set_option maxRecDepth 100000 in
theorem c_X0_wasAt {ad : Nat → Nat} {r : am_R} (hR : am_rs r) {h : am_H} (s : Nat) (place : Int32) (w : rf_W) (hV : rf_I w) (hLo : cl_Lo (h) 4 w) (hSc : cl_Sc (h) 25 w) (hs : s < rf_S w) (hh : rf_n (w 5) 1073741824)  : am_CM mX0_wasAt 2 0 0 [.ref 318, .int (nI s), .int place] (am_VV ad) r h (am_po (some (.int (am_b (rf_was w s place)))) r h) := by
  refine am_CM.of (by decide +kernel) (Nat.le_of_ble_eq_true rfl) (fun X C T => ?_)
  show am_G X (am_VV ad) (0, 0) 0 [(0, .ref 318), (1, .int (nI s)), (2, .int place)] [] r h
  have hM9 : rf_M w < 17 := hV.1.1.2
  have hS9 : rf_S w < 11 := hV.1.2.1.2
  have hO9 : rf_O w < 11 := hV.1.2.2.2
  have hh2 : rf_nat (w 5) < 1073741824 := hh.2
  refine am_aload_n (pc := 0) C dX0_wasAt_0 rfl ?_
  refine am_getR (pc := 1) (j := 3) C dX0_wasAt_1 f0_9 bn_318 sh_318 (rf_318_0 hR) ?_
  refine am_getR (pc := 4) (j := 25) C dX0_wasAt_4 f0_80 bn_3 sh_3 (rf_3_2 hR) ?_
  refine am_getI (pc := 7) C dX0_wasAt_7 f0_84 bn_25 sh_25 ?_
  refine am_top (show ((h 25) 0) = (w 5) from hSc.1.1) ?_
  refine am_top (show (w 5) = (nI (rf_nat (w 5))) from hh.1) ?_
  refine am_iconstN (pc := 10) (k := 5) C dX0_wasAt_10 ?_
  refine am_callSi (Y := mJ9_min_7cf53) (pc := 11) (st := []) (As := [.int (nI (rf_nat (w 5))), .int (nI 5)]) (x := (rf_min (nI (rf_nat (w 5))) (nI 5))) (h2 := h) C dX0_wasAt_11 k0_89 v_J9_min_7cf53 rfl rfl (by decide) (Nat.zero_le _) (Nat.zero_le _) (Nat.le_of_ble_eq_true rfl) (c_J9_min_7cf53 hR (nI (rf_nat (w 5))) (nI 5)) ?_
  refine am_top (show (rf_min (nI (rf_nat (w 5))) (nI 5)) = (nI (min (rf_nat (w 5)) 5)) from (rf_min_N (by omega) (by omega))) ?_
  refine am_istore_n (pc := 14) (ls' := [(0, .ref 318), (1, .int (nI s)), (2, .int place), (3, .int (nI (min (rf_nat (w 5)) 5)))]) C dX0_wasAt_14 (by decide) rfl ?_
  refine am_iconstN (pc := 15) (k := 0) C dX0_wasAt_15 ?_
  refine am_istore (pc := 16) (ls' := [(0, .ref 318), (1, .int (nI s)), (2, .int place), (3, .int (nI (min (rf_nat (w 5)) 5))), (4, .int (nI 0))]) C dX0_wasAt_16 (by decide) rfl ?_
  have L18 : ∀ (j18 i18 : Nat), i18 + j18 = (min (rf_nat (w 5) + 1) 6) → (hwa : rf_wa w s place i18 = false) → am_G X (am_VV ad) (0, 0) 18 [(0, .ref 318), (1, .int (nI s)), (2, .int place), (3, .int (nI (min (rf_nat (w 5)) 5))), (4, .int (nI i18))] [] r h := by
    intro j18
    induction j18 with
    | zero =>
      intro i18 hi18 hwa
      obtain rfl : i18 = (min (rf_nat (w 5) + 1) 6) := by omega
      refine am_iload (pc := 18) C dX0_wasAt_18 rfl ?_
      refine am_iload_n (pc := 20) C dX0_wasAt_20 rfl ?_
      refine am_icmp_gtN (pc := 21) (tgt := 47) C dX0_wasAt_21 (by decide) (by omega) (by omega) (fun q21 => ?_) (fun q21 => ?_)
      · skip
        refine am_iconstN (pc := 47) (k := 0) C dX0_wasAt_47 ?_
        exact am_iretb T dX0_wasAt_48 rfl (Nat.le_refl _) (Nat.le_refl _) (by rw [rf_was, hwa]; rfl) rfl rfl
      · skip
        exact absurd q21 (by omega)
    | succ j18 ih18 =>
      intro i18 hi18 hwa
      have hl18 : i18 < (min (rf_nat (w 5) + 1) 6) := by omega
      refine am_iload (pc := 18) C dX0_wasAt_18 rfl ?_
      refine am_iload_n (pc := 20) C dX0_wasAt_20 rfl ?_
      refine am_icmp_gtN (pc := 21) (tgt := 47) C dX0_wasAt_21 (by decide) (by omega) (by omega) (fun q21 => ?_) (fun q21 => ?_)
      · skip
        exact absurd q21 (by omega)
      · skip
        refine am_aload_n (pc := 24) C dX0_wasAt_24 rfl ?_
        refine am_getR (pc := 25) (j := 3) C dX0_wasAt_25 f0_9 bn_318 sh_318 (rf_318_0 hR) ?_
        refine am_iload_n (pc := 28) C dX0_wasAt_28 rfl ?_
        refine am_iload (pc := 29) C dX0_wasAt_29 rfl ?_
        refine am_ineg (pc := 31) C dX0_wasAt_31 ?_
        refine am_callVi (Y := mX10_placeIn) (pc := 32) (st := []) (As := [.int (nI s), .int (-(nI i18))]) (x := (rf_pl2 w s (-(nI i18)))) (h2 := h) C dX0_wasAt_32 k0_94 v_X10_placeIn rfl rfl bn_3 sh_3 ⟨by decide, rfl⟩ (by decide) (Nat.zero_le _) (Nat.zero_le _) (Nat.le_of_ble_eq_true rfl) (c_X10_placeIn hR s (-(nI i18)) w hV hLo hSc hs) ?_
        refine am_iload_n (pc := 35) C dX0_wasAt_35 rfl ?_
        refine am_icmp_ne (pc := 36) (tgt := 41) C dX0_wasAt_36 (by decide) (fun q36 => ?_) (fun q36 => ?_)
        · skip
          refine am_iincN (pc := 41) (ls' := [(0, .ref 318), (1, .int (nI s)), (2, .int place), (3, .int (nI (min (rf_nat (w 5)) 5))), (4, .int (nI (i18 + 1)))]) C dX0_wasAt_41 rfl (am_up1 _) (by decide) rfl ?_
          refine am_goto (pc := 44) (tgt := 18) C dX0_wasAt_44 (by decide) ?_
          exact ih18 (i18 + 1) (by omega) (by rw [rf_wa, hwa, decide_eq_false q36]; rfl)
        · skip
          refine am_iconstN (pc := 39) (k := 1) C dX0_wasAt_39 ?_
          exact am_iretb T dX0_wasAt_40 rfl (Nat.le_refl _) (Nat.le_refl _) (by rw [rf_was, rf_wa_t (i := i18) (by omega) (by rw [rf_wa, decide_eq_true q36, Bool.or_true])]; rfl) rfl rfl
  exact L18 (min (rf_nat (w 5) + 1) 6) 0 (by omega) rfl

set_option maxHeartbeats 400000 in
set_option maxRecDepth 100000 in
theorem c_X0_ownersOf {ad : Nat → Nat} {r : am_R} (hR : am_rs r) {h : am_H} (m : Nat) (place : Int32) (w : rf_W) (hV : rf_I w) (hLo : cl_Lo (h) 4 w) (hSc : cl_Sc (h) 25 w) (hm : m < rf_M w) (hh : rf_n (w 5) 1073741824)  : am_CM mX0_ownersOf 3 0 0 [.ref 318, .int (nI m), .int place] (am_VV ad) r h (am_po (some (.int (rf_set (fun s => !am_bt (rf_known w s) m && rf_was w s place) (rf_S w)))) r h) := by
  refine am_CM.of (by decide +kernel) (Nat.le_of_ble_eq_true rfl) (fun X C T => ?_)
  show am_G X (am_VV ad) (0, 0) 0 [(0, .ref 318), (1, .int (nI m)), (2, .int place)] [] r h
  have hM9 : rf_M w < 17 := hV.1.1.2
  have hS9 : rf_S w < 11 := hV.1.2.1.2
  have hO9 : rf_O w < 11 := hV.1.2.2.2
  refine am_aload_n (pc := 0) C dX0_ownersOf_0 rfl ?_
  refine am_getR (pc := 1) (j := 3) C dX0_ownersOf_1 f0_9 bn_318 sh_318 (rf_318_0 hR) ?_
  refine am_iload_n (pc := 4) C dX0_ownersOf_4 rfl ?_
  refine am_callVi (Y := mX10_whoKnow) (pc := 5) (st := []) (As := [.int (nI m)]) (x := (rf_knowers w m)) (h2 := h) C dX0_ownersOf_5 k0_74 v_X10_whoKnow rfl rfl bn_3 sh_3 ⟨by decide, rfl⟩ (by decide) (Nat.zero_le _) (Nat.zero_le _) (Nat.le_of_ble_eq_true rfl) (c_X10_whoKnow hR m w hV hLo hSc (show m < 32 from by omega)) ?_
  refine am_istore_n (pc := 8) (ls' := [(0, .ref 318), (1, .int (nI m)), (2, .int place), (3, .int (rf_knowers w m))]) C dX0_ownersOf_8 (by decide) rfl ?_
  refine am_iconstN (pc := 9) (k := 0) C dX0_ownersOf_9 ?_
  refine am_istore (pc := 10) (ls' := [(0, .ref 318), (1, .int (nI m)), (2, .int place), (3, .int (rf_knowers w m)), (4, .int (nI 0))]) C dX0_ownersOf_10 (by decide) rfl ?_
  refine am_iconstN (pc := 12) (k := 0) C dX0_ownersOf_12 ?_
  refine am_istore (pc := 13) (ls' := [(0, .ref 318), (1, .int (nI m)), (2, .int place), (3, .int (rf_knowers w m)), (4, .int (nI 0)), (5, .int (nI 0))]) C dX0_ownersOf_13 (by decide) rfl ?_
  have L15 : ∀ (j15 i15 : Nat), i15 + j15 = rf_S w → am_G X (am_VV ad) (0, 0) 15 [(0, .ref 318), (1, .int (nI m)), (2, .int place), (3, .int (rf_knowers w m)), (4, .int (rf_set (fun s => !am_bt (rf_known w s) m && rf_was w s place) i15)), (5, .int (nI i15))] [] r h := by
    intro j15
    induction j15 with
    | zero =>
      intro i15 hi15 
      obtain rfl : i15 = rf_S w := by omega
      refine am_iload (pc := 15) C dX0_ownersOf_15 rfl ?_
      refine am_aload_n (pc := 17) C dX0_ownersOf_17 rfl ?_
      refine am_getR (pc := 18) (j := 3) C dX0_ownersOf_18 f0_9 bn_318 sh_318 (rf_318_0 hR) ?_
      refine am_getR (pc := 21) (j := 4) C dX0_ownersOf_21 f0_39 bn_3 sh_3 (rf_3_0 hR) ?_
      refine am_getI (pc := 24) C dX0_ownersOf_24 f0_58 bn_4 sh_4 ?_
      refine am_top (show ((h 4) 2) = (nI (rf_S w)) from (hLo.1.2.2.1.trans hV.1.2.1.1)) ?_
      refine am_icmp_geN (pc := 27) (tgt := 64) C dX0_ownersOf_27 (by decide) (by omega) (by omega) (fun q27 => ?_) (fun q27 => ?_)
      · skip
        refine am_iload (pc := 64) C dX0_ownersOf_64 rfl ?_
        exact am_ireti T dX0_ownersOf_66 rfl (Nat.le_refl _) (Nat.le_refl _) rfl rfl rfl
      · skip
        exact absurd q27 (by omega)
    | succ j15 ih15 =>
      intro i15 hi15 
      have hl15 : i15 < rf_S w := by omega
      have hkb : am_bt (rf_knowers w m) i15 = am_bt (rf_known w i15) m := by rw [rf_knowers, rf_set_bt (by omega) _ (by omega), decide_eq_true hl15]; rfl
      refine am_iload (pc := 15) C dX0_ownersOf_15 rfl ?_
      refine am_aload_n (pc := 17) C dX0_ownersOf_17 rfl ?_
      refine am_getR (pc := 18) (j := 3) C dX0_ownersOf_18 f0_9 bn_318 sh_318 (rf_318_0 hR) ?_
      refine am_getR (pc := 21) (j := 4) C dX0_ownersOf_21 f0_39 bn_3 sh_3 (rf_3_0 hR) ?_
      refine am_getI (pc := 24) C dX0_ownersOf_24 f0_58 bn_4 sh_4 ?_
      refine am_top (show ((h 4) 2) = (nI (rf_S w)) from (hLo.1.2.2.1.trans hV.1.2.1.1)) ?_
      refine am_icmp_geN (pc := 27) (tgt := 64) C dX0_ownersOf_27 (by decide) (by omega) (by omega) (fun q27 => ?_) (fun q27 => ?_)
      · skip
        exact absurd q27 (by omega)
      · skip
        refine am_iload_n (pc := 30) C dX0_ownersOf_30 rfl ?_
        refine am_iload (pc := 31) C dX0_ownersOf_31 rfl ?_
        refine am_callSNi (Y := mX11_has) (pc := 33) (st := []) (As := [.int (rf_knowers w m), .int (nI i15)]) (x := (am_b (am_bt (rf_knowers w m) i15))) (h2 := h) C dX0_ownersOf_33 k0_70 v_X11_has rfl rfl (by decide) (Nat.zero_le _) (Nat.zero_le _) (Nat.le_of_ble_eq_true rfl) (c_X11_has (rf_knowers w m) i15 (show i15 < 32 from by omega)) ?_
        refine am_if_neB (pc := 36) (tgt := 58) C dX0_ownersOf_36 (by decide) (fun q36 => ?_) (fun q36 => ?_)
        · skip
          refine am_iincN (pc := 58) (ls' := [(0, .ref 318), (1, .int (nI m)), (2, .int place), (3, .int (rf_knowers w m)), (4, .int (rf_set (fun s => !am_bt (rf_known w s) m && rf_was w s place) i15)), (5, .int (nI (i15 + 1)))]) C dX0_ownersOf_58 rfl (am_up1 _) (by decide) rfl ?_
          refine am_goto (pc := 61) (tgt := 15) C dX0_ownersOf_61 (by decide) ?_
          refine am_lsv (ls' := [(0, .ref 318), (1, .int (nI m)), (2, .int place), (3, .int (rf_knowers w m)), (4, .int (rf_set (fun s => !am_bt (rf_known w s) m && rf_was w s place) (i15 + 1))), (5, .int (nI (i15 + 1)))]) (by rw [show (rf_set (fun s => !am_bt (rf_known w s) m && rf_was w s place) i15) = (rf_set (fun s => !am_bt (rf_known w s) m && rf_was w s place) (i15 + 1)) from rf_set_n (by show (!_ && _) = false; rw [← hkb, q36]; rfl)]) ?_
          exact ih15 (i15 + 1) (by omega) 
        · skip
          refine am_aload_n (pc := 39) C dX0_ownersOf_39 rfl ?_
          refine am_iload (pc := 40) C dX0_ownersOf_40 rfl ?_
          refine am_iload_n (pc := 42) C dX0_ownersOf_42 rfl ?_
          refine am_callVi (Y := mX0_wasAt) (pc := 43) (st := []) (As := [.int (nI i15), .int place]) (x := (am_b (rf_was w i15 place))) (h2 := h) C dX0_ownersOf_43 k0_77 v_X0_wasAt rfl rfl bn_318 sh_318 ⟨by decide, rfl⟩ (by decide) (Nat.zero_le _) (Nat.zero_le _) (Nat.le_of_ble_eq_true rfl) (c_X0_wasAt hR i15 place w hV hLo hSc (show i15 < rf_S w from (by omega)) (show rf_n (w 5) 1073741824 from hh)) ?_
          refine am_if_eqB (pc := 46) (tgt := 58) C dX0_ownersOf_46 (by decide) (fun q46 => ?_) (fun q46 => ?_)
          · skip
            refine am_iincN (pc := 58) (ls' := [(0, .ref 318), (1, .int (nI m)), (2, .int place), (3, .int (rf_knowers w m)), (4, .int (rf_set (fun s => !am_bt (rf_known w s) m && rf_was w s place) i15)), (5, .int (nI (i15 + 1)))]) C dX0_ownersOf_58 rfl (am_up1 _) (by decide) rfl ?_
            refine am_goto (pc := 61) (tgt := 15) C dX0_ownersOf_61 (by decide) ?_
            refine am_lsv (ls' := [(0, .ref 318), (1, .int (nI m)), (2, .int place), (3, .int (rf_knowers w m)), (4, .int (rf_set (fun s => !am_bt (rf_known w s) m && rf_was w s place) (i15 + 1))), (5, .int (nI (i15 + 1)))]) (by rw [show (rf_set (fun s => !am_bt (rf_known w s) m && rf_was w s place) i15) = (rf_set (fun s => !am_bt (rf_known w s) m && rf_was w s place) (i15 + 1)) from rf_set_n (by show (!_ && _) = false; rw [q46, Bool.and_false])]) ?_
            exact ih15 (i15 + 1) (by omega) 
          · skip
            refine am_iload (pc := 49) C dX0_ownersOf_49 rfl ?_
            refine am_iconstN (pc := 51) (k := 1) C dX0_ownersOf_51 ?_
            refine am_iload (pc := 52) C dX0_ownersOf_52 rfl ?_
            refine am_ishl (pc := 54) C dX0_ownersOf_54 ?_
            refine am_ior (pc := 55) C dX0_ownersOf_55 ?_
            refine am_istore (pc := 56) (ls' := [(0, .ref 318), (1, .int (nI m)), (2, .int place), (3, .int (rf_knowers w m)), (4, .int ((rf_set (fun s => !am_bt (rf_known w s) m && rf_was w s place) i15) ||| ((nI 1) <<< ((nI i15) &&& 31)))), (5, .int (nI i15))]) C dX0_ownersOf_56 (by decide) rfl ?_
            refine am_iincN (pc := 58) (ls' := [(0, .ref 318), (1, .int (nI m)), (2, .int place), (3, .int (rf_knowers w m)), (4, .int ((rf_set (fun s => !am_bt (rf_known w s) m && rf_was w s place) i15) ||| ((nI 1) <<< ((nI i15) &&& 31)))), (5, .int (nI (i15 + 1)))]) C dX0_ownersOf_58 rfl (am_up1 _) (by decide) rfl ?_
            refine am_goto (pc := 61) (tgt := 15) C dX0_ownersOf_61 (by decide) ?_
            refine am_lsv (ls' := [(0, .ref 318), (1, .int (nI m)), (2, .int place), (3, .int (rf_knowers w m)), (4, .int (rf_set (fun s => !am_bt (rf_known w s) m && rf_was w s place) (i15 + 1))), (5, .int (nI (i15 + 1)))]) (by rw [show ((rf_set (fun s => !am_bt (rf_known w s) m && rf_was w s place) i15) ||| ((nI 1) <<< ((nI i15) &&& 31))) = (rf_set (fun s => !am_bt (rf_known w s) m && rf_was w s place) (i15 + 1)) from rf_set_t (by show (!_ && _) = true; rw [← hkb, q36, q46]; rfl)]) ?_
            exact ih15 (i15 + 1) (by omega) 
  refine am_lsv (ls' := [(0, .ref 318), (1, .int (nI m)), (2, .int place), (3, .int (rf_knowers w m)), (4, .int (rf_set (fun s => !am_bt (rf_known w s) m && rf_was w s place) 0)), (5, .int (nI 0))]) (by rw [show (nI 0) = (rf_set (fun s => !am_bt (rf_known w s) m && rf_was w s place) 0) from rfl]) ?_
  exact L15 (rf_S w) 0 (by omega) 

set_option maxHeartbeats 400000 in
set_option maxRecDepth 100000 in
theorem c_X0_waysBehind {ad : Nat → Nat} {r : am_R} (hR : am_rs r) {h : am_H} (g : Nat) (w : rf_W) (hV : rf_I w) (hLo : cl_Lo (h) 4 w) (hSc : cl_Sc (h) 25 w) (hsz : rf_n ((h 318) 4) 9) (hg : g < 2 ^ rf_S w)  : am_CM mX0_waysBehind 1 0 0 [.ref 318, .int (nI g)] (am_VV ad) r h (am_po (some (.int (cl_wv (h 320) (h 321) (rf_S w) (rf_nat ((h 318) 4)) g))) r h) := by
  refine am_CM.of (by decide +kernel) (Nat.le_of_ble_eq_true rfl) (fun X C T => ?_)
  show am_G X (am_VV ad) (0, 0) 0 [(0, .ref 318), (1, .int (nI g))] [] r h
  have hM9 : rf_M w < 17 := hV.1.1.2
  have hS9 : rf_S w < 11 := hV.1.2.1.2
  have hO9 : rf_O w < 11 := hV.1.2.2.2
  have hz9 : rf_nat (h 318 4) < 9 := hsz.2
  have hp2 : 2 ^ rf_S w ≤ 2 ^ 10 := Nat.pow_le_pow_right (by decide) (by omega)
  have hg10 : am_lo (nI g) 16 := am_lo_mono (rf_nI_lo (k := 10) (by omega) (by decide)) (by decide)
  have hbc := rf_bc_le (nI g)
  refine am_iload_n (pc := 0) C dX0_waysBehind_0 rfl ?_
  refine am_callSi (Y := mJ6_bitCount_0f7a4) (pc := 1) (st := []) (As := [.int (nI g)]) (x := (rf_pc (nI g))) (h2 := h) C dX0_waysBehind_1 k0_65 v_J6_bitCount_0f7a4 rfl rfl (by decide) (Nat.zero_le _) (Nat.zero_le _) (Nat.le_of_ble_eq_true rfl) (c_J6_bitCount_0f7a4 hR (nI g)) ?_
  refine am_top (show (rf_pc (nI g)) = (nI (rf_bc (nI g))) from (rf_pc_bc hg10)) ?_
  refine am_istore_n (pc := 4) (ls' := [(0, .ref 318), (1, .int (nI g)), (2, .int (nI (rf_bc (nI g))))]) C dX0_waysBehind_4 (by decide) rfl ?_
  refine am_iload_n (pc := 5) C dX0_waysBehind_5 rfl ?_
  refine am_aload_n (pc := 6) C dX0_waysBehind_6 rfl ?_
  refine am_getI (pc := 7) C dX0_waysBehind_7 f0_25 bn_318 sh_318 ?_
  refine am_top (show ((h 318) 4) = (nI (rf_nat (h 318 4))) from hsz.1) ?_
  refine am_icmp_ltN (pc := 10) (tgt := 27) C dX0_waysBehind_10 (by decide) (by omega) (by omega) (fun q10 => ?_) (fun q10 => ?_)
  · skip
    refine am_iconstN (pc := 27) (k := 0) C dX0_waysBehind_27 ?_
    refine am_istore_n (pc := 28) (ls' := [(0, .ref 318), (1, .int (nI g)), (2, .int (nI (rf_bc (nI g)))), (3, .int (nI 0))]) C dX0_waysBehind_28 (by decide) rfl ?_
    refine am_iconstN (pc := 29) (k := 0) C dX0_waysBehind_29 ?_
    refine am_istore (pc := 30) (ls' := [(0, .ref 318), (1, .int (nI g)), (2, .int (nI (rf_bc (nI g)))), (3, .int (nI 0)), (4, .int (nI 0))]) C dX0_waysBehind_30 (by decide) rfl ?_
    have L32 : ∀ (j32 i32 : Nat), i32 + j32 = rf_S w → am_G X (am_VV ad) (0, 0) 32 [(0, .ref 318), (1, .int (nI g)), (2, .int (nI (rf_bc (nI g)))), (3, .int (rf_wsum (fun s => h 321 (rf_ws g s)) (h 320 (rf_bc (nI g)) &&& (nI g ^^^ (-1))) i32)), (4, .int (nI i32))] [] r h := by
      intro j32
      induction j32 with
      | zero =>
        intro i32 hi32 
        obtain rfl : i32 = rf_S w := by omega
        refine am_iload (pc := 32) C dX0_waysBehind_32 rfl ?_
        refine am_aload_n (pc := 34) C dX0_waysBehind_34 rfl ?_
        refine am_getR (pc := 35) (j := 3) C dX0_waysBehind_35 f0_9 bn_318 sh_318 (rf_318_0 hR) ?_
        refine am_getR (pc := 38) (j := 4) C dX0_waysBehind_38 f0_39 bn_3 sh_3 (rf_3_0 hR) ?_
        refine am_getI (pc := 41) C dX0_waysBehind_41 f0_58 bn_4 sh_4 ?_
        refine am_top (show ((h 4) 2) = (nI (rf_S w)) from (hLo.1.2.2.1.trans hV.1.2.1.1)) ?_
        refine am_icmp_geN (pc := 44) (tgt := 89) C dX0_waysBehind_44 (by decide) (by omega) (by omega) (fun q44 => ?_) (fun q44 => ?_)
        · skip
          refine am_iload_n (pc := 89) C dX0_waysBehind_89 rfl ?_
          exact am_ireti T dX0_waysBehind_90 rfl (Nat.le_refl _) (Nat.le_refl _) (by rw [cl_wv, if_pos (by omega)]) rfl rfl
        · skip
          exact absurd q44 (by omega)
      | succ j32 ih32 =>
        intro i32 hi32 
        have hl32 : i32 < rf_S w := by omega
        have hws := rf_ws_n (j := g) (s := i32) (k := 10) (by decide) (by omega) (by omega)
        have hws2 : rf_ws g i32 < 1024 := hws.2
        refine am_iload (pc := 32) C dX0_waysBehind_32 rfl ?_
        refine am_aload_n (pc := 34) C dX0_waysBehind_34 rfl ?_
        refine am_getR (pc := 35) (j := 3) C dX0_waysBehind_35 f0_9 bn_318 sh_318 (rf_318_0 hR) ?_
        refine am_getR (pc := 38) (j := 4) C dX0_waysBehind_38 f0_39 bn_3 sh_3 (rf_3_0 hR) ?_
        refine am_getI (pc := 41) C dX0_waysBehind_41 f0_58 bn_4 sh_4 ?_
        refine am_top (show ((h 4) 2) = (nI (rf_S w)) from (hLo.1.2.2.1.trans hV.1.2.1.1)) ?_
        refine am_icmp_geN (pc := 44) (tgt := 89) C dX0_waysBehind_44 (by decide) (by omega) (by omega) (fun q44 => ?_) (fun q44 => ?_)
        · skip
          exact absurd q44 (by omega)
        · skip
          refine am_aload_n (pc := 47) C dX0_waysBehind_47 rfl ?_
          refine am_getR (pc := 48) (j := 320) C dX0_waysBehind_48 f0_19 bn_318 sh_318 (rf_318_2 hR) ?_
          refine am_iload_n (pc := 51) C dX0_waysBehind_51 rfl ?_
          refine am_callSNi (Y := mX11_pick) (pc := 52) (st := []) (As := [.ref 320, .int (nI (rf_bc (nI g)))]) (x := ((h 320) (rf_bc (nI g)))) (h2 := h) C dX0_waysBehind_52 k0_35 v_X11_pick rfl rfl (by decide) (Nat.zero_le _) (Nat.zero_le _) (Nat.le_of_ble_eq_true rfl) (c_X11_pick 320 (rf_bc (nI g)) 8 bn_320 sh_320 (show rf_bc (nI g) < 8 from by omega) (by decide)) ?_
          refine am_iload_n (pc := 55) C dX0_waysBehind_55 rfl ?_
          refine am_iconst (pc := 56) (v := -1) C dX0_waysBehind_56 rfl ?_
          refine am_ixor (pc := 57) C dX0_waysBehind_57 ?_
          refine am_iand (pc := 58) C dX0_waysBehind_58 ?_
          refine am_iload (pc := 59) C dX0_waysBehind_59 rfl ?_
          refine am_callSNi (Y := mX11_has) (pc := 61) (st := []) (As := [.int (((h 320) (rf_bc (nI g))) &&& ((nI g) ^^^ (-1))), .int (nI i32)]) (x := (am_b (am_bt (((h 320) (rf_bc (nI g))) &&& ((nI g) ^^^ (-1))) i32))) (h2 := h) C dX0_waysBehind_61 k0_70 v_X11_has rfl rfl (by decide) (Nat.zero_le _) (Nat.zero_le _) (Nat.le_of_ble_eq_true rfl) (c_X11_has (((h 320) (rf_bc (nI g))) &&& ((nI g) ^^^ (-1))) i32 (show i32 < 32 from by omega)) ?_
          refine am_if_eqB (pc := 64) (tgt := 83) C dX0_waysBehind_64 (by decide) (fun q64 => ?_) (fun q64 => ?_)
          · skip
            refine am_iincN (pc := 83) (ls' := [(0, .ref 318), (1, .int (nI g)), (2, .int (nI (rf_bc (nI g)))), (3, .int (rf_wsum (fun s => h 321 (rf_ws g s)) (h 320 (rf_bc (nI g)) &&& (nI g ^^^ (-1))) i32)), (4, .int (nI (i32 + 1)))]) C dX0_waysBehind_83 rfl (am_up1 _) (by decide) rfl ?_
            refine am_goto (pc := 86) (tgt := 32) C dX0_waysBehind_86 (by decide) ?_
            refine am_lsv (ls' := [(0, .ref 318), (1, .int (nI g)), (2, .int (nI (rf_bc (nI g)))), (3, .int (rf_wsum (fun s => h 321 (rf_ws g s)) (h 320 (rf_bc (nI g)) &&& (nI g ^^^ (-1))) (i32 + 1))), (4, .int (nI (i32 + 1)))]) (by rw [show (rf_wsum (fun s => h 321 (rf_ws g s)) (h 320 (rf_bc (nI g)) &&& (nI g ^^^ (-1))) i32) = (rf_wsum (fun s => h 321 (rf_ws g s)) (h 320 (rf_bc (nI g)) &&& (nI g ^^^ (-1))) (i32 + 1)) from (by rw [rf_wsum, if_neg (by rw [q64]; exact Bool.false_ne_true)]; exact (Int32.add_zero _).symm)]) ?_
            exact ih32 (i32 + 1) (by omega) 
          · skip
            refine am_iload_n (pc := 67) C dX0_waysBehind_67 rfl ?_
            refine am_aload_n (pc := 68) C dX0_waysBehind_68 rfl ?_
            refine am_getR (pc := 69) (j := 321) C dX0_waysBehind_69 f0_22 bn_318 sh_318 (rf_318_3 hR) ?_
            refine am_iload_n (pc := 72) C dX0_waysBehind_72 rfl ?_
            refine am_iconstN (pc := 73) (k := 1) C dX0_waysBehind_73 ?_
            refine am_iload (pc := 74) C dX0_waysBehind_74 rfl ?_
            refine am_ishl (pc := 76) C dX0_waysBehind_76 ?_
            refine am_ior (pc := 77) C dX0_waysBehind_77 ?_
            refine am_top (show ((nI g) ||| ((nI 1) <<< ((nI i32) &&& 31))) = (nI (rf_ws g i32)) from hws.1) ?_
            refine am_callSNi (Y := mX11_pick) (pc := 78) (st := [.int (rf_wsum (fun s => h 321 (rf_ws g s)) (h 320 (rf_bc (nI g)) &&& (nI g ^^^ (-1))) i32)]) (As := [.ref 321, .int (nI (rf_ws g i32))]) (x := ((h 321) (rf_ws g i32))) (h2 := h) C dX0_waysBehind_78 k0_35 v_X11_pick rfl rfl (by decide) (Nat.zero_le _) (Nat.zero_le _) (Nat.le_of_ble_eq_true rfl) (c_X11_pick 321 (rf_ws g i32) 1024 bn_321 sh_321 (show rf_ws g i32 < 1024 from by omega) (by decide)) ?_
            refine am_iadd (pc := 81) C dX0_waysBehind_81 ?_
            refine am_istore_n (pc := 82) (ls' := [(0, .ref 318), (1, .int (nI g)), (2, .int (nI (rf_bc (nI g)))), (3, .int ((rf_wsum (fun s => h 321 (rf_ws g s)) (h 320 (rf_bc (nI g)) &&& (nI g ^^^ (-1))) i32) + ((h 321) (rf_ws g i32)))), (4, .int (nI i32))]) C dX0_waysBehind_82 (by decide) rfl ?_
            refine am_iincN (pc := 83) (ls' := [(0, .ref 318), (1, .int (nI g)), (2, .int (nI (rf_bc (nI g)))), (3, .int ((rf_wsum (fun s => h 321 (rf_ws g s)) (h 320 (rf_bc (nI g)) &&& (nI g ^^^ (-1))) i32) + ((h 321) (rf_ws g i32)))), (4, .int (nI (i32 + 1)))]) C dX0_waysBehind_83 rfl (am_up1 _) (by decide) rfl ?_
            refine am_goto (pc := 86) (tgt := 32) C dX0_waysBehind_86 (by decide) ?_
            refine am_lsv (ls' := [(0, .ref 318), (1, .int (nI g)), (2, .int (nI (rf_bc (nI g)))), (3, .int (rf_wsum (fun s => h 321 (rf_ws g s)) (h 320 (rf_bc (nI g)) &&& (nI g ^^^ (-1))) (i32 + 1))), (4, .int (nI (i32 + 1)))]) (by rw [show ((rf_wsum (fun s => h 321 (rf_ws g s)) (h 320 (rf_bc (nI g)) &&& (nI g ^^^ (-1))) i32) + ((h 321) (rf_ws g i32))) = (rf_wsum (fun s => h 321 (rf_ws g s)) (h 320 (rf_bc (nI g)) &&& (nI g ^^^ (-1))) (i32 + 1)) from (by rw [rf_wsum, if_pos q64])]) ?_
            exact ih32 (i32 + 1) (by omega) 
    refine am_lsv (ls' := [(0, .ref 318), (1, .int (nI g)), (2, .int (nI (rf_bc (nI g)))), (3, .int (rf_wsum (fun s => h 321 (rf_ws g s)) (h 320 (rf_bc (nI g)) &&& (nI g ^^^ (-1))) 0)), (4, .int (nI 0))]) (by rw [show (nI 0) = (rf_wsum (fun s => h 321 (rf_ws g s)) (h 320 (rf_bc (nI g)) &&& (nI g ^^^ (-1))) 0) from rfl]) ?_
    exact L32 (rf_S w) 0 (by omega) 
  · skip
    refine am_iload_n (pc := 13) C dX0_waysBehind_13 rfl ?_
    refine am_aload_n (pc := 14) C dX0_waysBehind_14 rfl ?_
    refine am_getI (pc := 15) C dX0_waysBehind_15 f0_25 bn_318 sh_318 ?_
    refine am_top (show ((h 318) 4) = (nI (rf_nat (h 318 4))) from hsz.1) ?_
    refine am_icmp_neN (pc := 18) (tgt := 25) C dX0_waysBehind_18 (by decide) (by omega) (by omega) (fun q18 => ?_) (fun q18 => ?_)
    · skip
      refine am_iconstN (pc := 25) (k := 0) C dX0_waysBehind_25 ?_
      exact am_ireti T dX0_waysBehind_26 rfl (Nat.le_refl _) (Nat.le_refl _) (by rw [cl_wv, if_neg (by omega), if_neg (by omega)]) rfl rfl
    · skip
      refine am_iconstN (pc := 21) (k := 1) C dX0_waysBehind_21 ?_
      refine am_goto (pc := 22) (tgt := 26) C dX0_waysBehind_22 (by decide) ?_
      exact am_ireti T dX0_waysBehind_26 rfl (Nat.le_refl _) (Nat.le_refl _) (by rw [cl_wv, if_neg (by omega), if_pos (by omega)]) rfl rfl

set_option maxHeartbeats 400000 in
set_option maxRecDepth 100000 in
theorem c_X0_countWays {ad : Nat → Nat} {r : am_R} (hR : am_rs r) {h : am_H} (place : Int32) (w : rf_W) (hV : rf_I w) (hLo : cl_Lo (h) 4 w) (hSc : cl_Sc (h) 25 w) (hsz : rf_n ((h 318) 4) 9) (hh : rf_n (w 5) 1073741824) (htl : ∀ i, i < (rf_nat ((h 318) 4)) → rf_n ((h 319) i) (rf_M w))  : am_CM mX0_countWays 4 0 0 [.ref 318, .int place] (am_VV ad) r h (am_po none r (am_row (am_row h 320 (rf_wr (h 320) (rf_wh w (h 319) place) (rf_nat ((h 318) 4)))) 321 (cl_wm (rf_wr (h 320) (rf_wh w (h 319) place) (rf_nat ((h 318) 4))) (rf_S w) (rf_nat ((h 318) 4)) (h 321) (2 ^ rf_S w)))) := by
  refine am_CM.of (by decide +kernel) (Nat.le_of_ble_eq_true rfl) (fun X C T => ?_)
  show am_G X (am_VV ad) (0, 0) 0 [(0, .ref 318), (1, .int place)] [] r h
  have hM9 : rf_M w < 17 := hV.1.1.2
  have hS9 : rf_S w < 11 := hV.1.2.1.2
  have hO9 : rf_O w < 11 := hV.1.2.2.2
  have hz9 : rf_nat (h 318 4) < 9 := hsz.2
  have hp2 : 2 ^ rf_S w ≤ 2 ^ 10 := Nat.pow_le_pow_right (by decide) (by omega)
  have hp3 : 0 < 2 ^ rf_S w := Nat.pow_pos (by decide)
  refine am_iconstN (pc := 0) (k := 0) C dX0_countWays_0 ?_
  refine am_istore_n (pc := 1) (ls' := [(0, .ref 318), (1, .int place), (2, .int (nI 0))]) C dX0_countWays_1 (by decide) rfl ?_
  have L2 : ∀ (j2 i2 : Nat), i2 + j2 = (rf_nat (h 318 4)) → am_G X (am_VV ad) (0, 0) 2 [(0, .ref 318), (1, .int place), (2, .int (nI i2))] [] r (am_row h 320 (rf_wr (h 320) (rf_wh w (h 319) place) i2)) := by
    intro j2
    induction j2 with
    | zero =>
      intro i2 hi2 
      obtain rfl : i2 = (rf_nat (h 318 4)) := by omega
      refine am_iload_n (pc := 2) C dX0_countWays_2 rfl ?_
      refine am_aload_n (pc := 3) C dX0_countWays_3 rfl ?_
      refine am_getI (pc := 4) C dX0_countWays_4 f0_25 bn_318 sh_318 ?_
      refine am_top (show ((h 318) 4) = (nI (rf_nat (h 318 4))) from hsz.1) ?_
      refine am_icmp_geN (pc := 7) (tgt := 39) C dX0_countWays_7 (by decide) (by omega) (by omega) (fun q7 => ?_) (fun q7 => ?_)
      · skip
        refine am_iconstN (pc := 39) (k := 1) C dX0_countWays_39 ?_
        refine am_aload_n (pc := 40) C dX0_countWays_40 rfl ?_
        refine am_getR (pc := 41) (j := 3) C dX0_countWays_41 f0_9 bn_318 sh_318 (rf_318_0 hR) ?_
        refine am_getR (pc := 44) (j := 4) C dX0_countWays_44 f0_39 bn_3 sh_3 (rf_3_0 hR) ?_
        refine am_getI (pc := 47) C dX0_countWays_47 f0_58 bn_4 sh_4 ?_
        refine am_top (show ((h 4) 2) = (nI (rf_S w)) from (hLo.1.2.2.1.trans hV.1.2.1.1)) ?_
        refine am_ishl (pc := 50) C dX0_countWays_50 ?_
        refine am_top (show ((nI 1) <<< ((nI (rf_S w)) &&& 31)) = (nI (2 ^ rf_S w)) from (am_shl1 (by omega))) ?_
        refine am_iconstN (pc := 51) (k := 1) C dX0_countWays_51 ?_
        refine am_isub (pc := 52) C dX0_countWays_52 ?_
        refine am_istore_n (pc := 53) (ls' := [(0, .ref 318), (1, .int place), (2, .int ((nI (2 ^ rf_S w)) - (nI 1)))]) C dX0_countWays_53 (by decide) rfl ?_
        have L54 : ∀ (j54 : Nat) , (hjn : j54 ≤ 2 ^ rf_S w) → am_G X (am_VV ad) (0, 0) 54 [(0, .ref 318), (1, .int place), (2, .int (am_oi j54))] [] r (am_row (am_row h 320 (rf_wr (h 320) (rf_wh w (h 319) place) (rf_nat (h 318 4)))) 321 (cl_wm (rf_wr (h 320) (rf_wh w (h 319) place) (rf_nat (h 318 4))) (rf_S w) (rf_nat (h 318 4)) (h 321) (2 ^ rf_S w - j54))) := by
          intro j54
          induction j54 with
          | zero =>
            intro  hjn
            refine am_iload_n (pc := 54) C dX0_countWays_54 rfl ?_
            refine am_if_ltO (pc := 55) (tgt := 77) C dX0_countWays_55 (by decide) (by omega) (fun q55 => ?_) (fun q55 => ?_)
            · skip
              exact am_vretv T dX0_countWays_77 rfl (Nat.le_refl _) (Nat.le_refl _) rfl (by rw [Nat.sub_zero])
            · skip
              exact absurd q55 (by omega)
          | succ j54 ih54 =>
            intro  hjn
            refine am_iload_n (pc := 54) C dX0_countWays_54 rfl ?_
            refine am_if_ltO (pc := 55) (tgt := 77) C dX0_countWays_55 (by decide) (by omega) (fun q55 => ?_) (fun q55 => ?_)
            · skip
              exact absurd q55 (by omega)
            · skip
              refine am_lsv (ls' := [(0, .ref 318), (1, .int place), (2, .int (nI j54))]) (congrArg (fun z9 : Int32 => ([(0, .ref 318), (1, .int place), (2, Value.int z9)] : List (Nat × Value))) (show (am_oi (j54 + 1)) = (nI j54) from (am_oi_s j54))) ?_
              refine am_aload_n (pc := 58) C dX0_countWays_58 rfl ?_
              refine am_getR (pc := 59) (j := 321) C dX0_countWays_59 f0_22 bn_318 sh_318 (rf_318_3 hR) ?_
              refine am_iload_n (pc := 62) C dX0_countWays_62 rfl ?_
              refine am_aload_n (pc := 63) C dX0_countWays_63 rfl ?_
              refine am_iload_n (pc := 64) C dX0_countWays_64 rfl ?_
              refine am_callVi (Y := mX0_waysBehind) (pc := 65) (st := [.int (nI j54), .ref 321]) (As := [.int (nI j54)]) (x := (cl_wv (rf_wr (h 320) (rf_wh w (h 319) place) (rf_nat (h 318 4))) (cl_wm (rf_wr (h 320) (rf_wh w (h 319) place) (rf_nat (h 318 4))) (rf_S w) (rf_nat (h 318 4)) (h 321) (2 ^ rf_S w - (j54 + 1))) (rf_S w) (rf_nat ((h 318) 4)) j54)) (h2 := (am_row (am_row h 320 (rf_wr (h 320) (rf_wh w (h 319) place) (rf_nat (h 318 4)))) 321 (cl_wm (rf_wr (h 320) (rf_wh w (h 319) place) (rf_nat (h 318 4))) (rf_S w) (rf_nat (h 318 4)) (h 321) (2 ^ rf_S w - (j54 + 1))))) C dX0_countWays_65 k0_61 v_X0_waysBehind rfl rfl bn_318 sh_318 ⟨by decide, rfl⟩ (by decide) (Nat.zero_le _) (Nat.zero_le _) (Nat.le_of_ble_eq_true rfl) (c_X0_waysBehind hR j54 w hV (cl_Lo_eq (fun i9 h9 g9 => by rw [am_row_ne _ _ _ (by omega), am_row_ne _ _ _ (by omega)]) hLo) (cl_Sc_eq (fun i9 h9 g9 => by rw [am_row_ne _ _ _ (by omega), am_row_ne _ _ _ (by omega)]) hSc) (show rf_n ((h 318) 4) 9 from hsz) (show j54 < 2 ^ rf_S w from (by omega))) ?_
              refine am_callSNv (Y := mX11_put) (pc := 68) (st := []) (As := [.ref 321, .int (nI j54), .int (cl_wv (rf_wr (h 320) (rf_wh w (h 319) place) (rf_nat (h 318 4))) (cl_wm (rf_wr (h 320) (rf_wh w (h 319) place) (rf_nat (h 318 4))) (rf_S w) (rf_nat (h 318 4)) (h 321) (2 ^ rf_S w - (j54 + 1))) (rf_S w) (rf_nat ((h 318) 4)) j54)]) (h2 := (am_row (am_row (am_row h 320 (rf_wr (h 320) (rf_wh w (h 319) place) (rf_nat (h 318 4)))) 321 (cl_wm (rf_wr (h 320) (rf_wh w (h 319) place) (rf_nat (h 318 4))) (rf_S w) (rf_nat (h 318 4)) (h 321) (2 ^ rf_S w - (j54 + 1)))) 321 (upd (cl_wm (rf_wr (h 320) (rf_wh w (h 319) place) (rf_nat (h 318 4))) (rf_S w) (rf_nat (h 318 4)) (h 321) (2 ^ rf_S w - (j54 + 1))) j54 (cl_wv (rf_wr (h 320) (rf_wh w (h 319) place) (rf_nat (h 318 4))) (cl_wm (rf_wr (h 320) (rf_wh w (h 319) place) (rf_nat (h 318 4))) (rf_S w) (rf_nat (h 318 4)) (h 321) (2 ^ rf_S w - (j54 + 1))) (rf_S w) (rf_nat ((h 318) 4)) j54)))) C dX0_countWays_68 k0_50 v_X11_put rfl rfl (by decide) (Nat.zero_le _) (Nat.zero_le _) (Nat.le_of_ble_eq_true rfl) (c_X11_put 321 j54 (cl_wv (rf_wr (h 320) (rf_wh w (h 319) place) (rf_nat (h 318 4))) (cl_wm (rf_wr (h 320) (rf_wh w (h 319) place) (rf_nat (h 318 4))) (rf_S w) (rf_nat (h 318 4)) (h 321) (2 ^ rf_S w - (j54 + 1))) (rf_S w) (rf_nat ((h 318) 4)) j54) 1024 bn_321 sh_321 (show j54 < 1024 from by omega) (by decide)) ?_
              refine am_hp (show (am_row (am_row (am_row h 320 (rf_wr (h 320) (rf_wh w (h 319) place) (rf_nat (h 318 4)))) 321 (cl_wm (rf_wr (h 320) (rf_wh w (h 319) place) (rf_nat (h 318 4))) (rf_S w) (rf_nat (h 318 4)) (h 321) (2 ^ rf_S w - (j54 + 1)))) 321 (upd (cl_wm (rf_wr (h 320) (rf_wh w (h 319) place) (rf_nat (h 318 4))) (rf_S w) (rf_nat (h 318 4)) (h 321) (2 ^ rf_S w - (j54 + 1))) j54 (cl_wv (rf_wr (h 320) (rf_wh w (h 319) place) (rf_nat (h 318 4))) (cl_wm (rf_wr (h 320) (rf_wh w (h 319) place) (rf_nat (h 318 4))) (rf_S w) (rf_nat (h 318 4)) (h 321) (2 ^ rf_S w - (j54 + 1))) (rf_S w) (rf_nat ((h 318) 4)) j54))) = (am_row (am_row h 320 (rf_wr (h 320) (rf_wh w (h 319) place) (rf_nat (h 318 4)))) 321 (upd (cl_wm (rf_wr (h 320) (rf_wh w (h 319) place) (rf_nat (h 318 4))) (rf_S w) (rf_nat (h 318 4)) (h 321) (2 ^ rf_S w - (j54 + 1))) j54 (cl_wv (rf_wr (h 320) (rf_wh w (h 319) place) (rf_nat (h 318 4))) (cl_wm (rf_wr (h 320) (rf_wh w (h 319) place) (rf_nat (h 318 4))) (rf_S w) (rf_nat (h 318 4)) (h 321) (2 ^ rf_S w - (j54 + 1))) (rf_S w) (rf_nat ((h 318) 4)) j54))) from am_row_s0) ?_
              refine am_iinc (pc := 71) (ls' := [(0, .ref 318), (1, .int place), (2, .int ((nI j54) - nI 1))]) C dX0_countWays_71 rfl (am_dnI _) (by decide) rfl ?_
              refine am_goto (pc := 74) (tgt := 54) C dX0_countWays_74 (by decide) ?_
              refine am_hp (show (am_row (am_row h 320 (rf_wr (h 320) (rf_wh w (h 319) place) (rf_nat (h 318 4)))) 321 (upd (cl_wm (rf_wr (h 320) (rf_wh w (h 319) place) (rf_nat (h 318 4))) (rf_S w) (rf_nat (h 318 4)) (h 321) (2 ^ rf_S w - (j54 + 1))) j54 (cl_wv (rf_wr (h 320) (rf_wh w (h 319) place) (rf_nat (h 318 4))) (cl_wm (rf_wr (h 320) (rf_wh w (h 319) place) (rf_nat (h 318 4))) (rf_S w) (rf_nat (h 318 4)) (h 321) (2 ^ rf_S w - (j54 + 1))) (rf_S w) (rf_nat ((h 318) 4)) j54))) = (am_row (am_row h 320 (rf_wr (h 320) (rf_wh w (h 319) place) (rf_nat (h 318 4)))) 321 (cl_wm (rf_wr (h 320) (rf_wh w (h 319) place) (rf_nat (h 318 4))) (rf_S w) (rf_nat (h 318 4)) (h 321) (2 ^ rf_S w - j54))) from congrArg (am_row _ 321) (by rw [show 2 ^ rf_S w - j54 = 2 ^ rf_S w - (j54 + 1) + 1 by omega, cl_wm, show 2 ^ rf_S w - (2 ^ rf_S w - (j54 + 1) + 1) = j54 by omega])) ?_
              refine am_lsv (ls' := [(0, .ref 318), (1, .int place), (2, .int (am_oi j54))]) (by rw [show ((nI j54) - nI 1) = (am_oi j54) from rfl]) ?_
              exact ih54  (by omega)
        refine am_hp (show (am_row h 320 (rf_wr (h 320) (rf_wh w (h 319) place) (rf_nat (h 318 4)))) = (am_row (am_row h 320 (rf_wr (h 320) (rf_wh w (h 319) place) (rf_nat (h 318 4)))) 321 (cl_wm (rf_wr (h 320) (rf_wh w (h 319) place) (rf_nat (h 318 4))) (rf_S w) (rf_nat (h 318 4)) (h 321) (2 ^ rf_S w - 2 ^ rf_S w))) from (by rw [Nat.sub_self]; exact (am_row_id _ 321).symm)) ?_
        refine am_lsv (ls' := [(0, .ref 318), (1, .int place), (2, .int (am_oi (2 ^ rf_S w)))]) (by rw [show ((nI (2 ^ rf_S w)) - (nI 1)) = (am_oi (2 ^ rf_S w)) from rfl]) ?_
        exact L54 (2 ^ rf_S w)  (Nat.le_refl _)
      · skip
        exact absurd q7 (by omega)
    | succ j2 ih2 =>
      intro i2 hi2 
      have hl2 : i2 < (rf_nat (h 318 4)) := by omega
      have ht9 := htl i2 hl2
      have ht8 : rf_nat (h 319 i2) < rf_M w := ht9.2
      have hi8 : i2 < 8 := by omega
      refine am_iload_n (pc := 2) C dX0_countWays_2 rfl ?_
      refine am_aload_n (pc := 3) C dX0_countWays_3 rfl ?_
      refine am_getI (pc := 4) C dX0_countWays_4 f0_25 bn_318 sh_318 ?_
      refine am_top (show ((h 318) 4) = (nI (rf_nat (h 318 4))) from hsz.1) ?_
      refine am_icmp_geN (pc := 7) (tgt := 39) C dX0_countWays_7 (by decide) (by omega) (by omega) (fun q7 => ?_) (fun q7 => ?_)
      · skip
        exact absurd q7 (by omega)
      · skip
        refine am_iload_n (pc := 10) C dX0_countWays_10 rfl ?_
        refine am_bipush (pc := 11) (v := nI 8) C dX0_countWays_11 (by decide) ?_
        refine am_icmp_geN (pc := 13) (tgt := 39) C dX0_countWays_13 (by decide) (by omega) (by omega) (fun q13 => ?_) (fun q13 => ?_)
        · skip
          exact absurd q13 (by omega)
        · skip
          refine am_aload_n (pc := 16) C dX0_countWays_16 rfl ?_
          refine am_getR (pc := 17) (j := 320) C dX0_countWays_17 f0_19 bn_318 sh_318 (rf_318_2 hR) ?_
          refine am_iload_n (pc := 20) C dX0_countWays_20 rfl ?_
          refine am_aload_n (pc := 21) C dX0_countWays_21 rfl ?_
          refine am_aload_n (pc := 22) C dX0_countWays_22 rfl ?_
          refine am_getR (pc := 23) (j := 319) C dX0_countWays_23 f0_15 bn_318 sh_318 (rf_318_1 hR) ?_
          refine am_iload_n (pc := 26) C dX0_countWays_26 rfl ?_
          refine am_iaload (pc := 27) C dX0_countWays_27 bn_319 sh_319 (vp_in_nI (by omega) (by decide)) ?_
          refine am_top (show (h 319) (nI i2).toNatClampNeg = (h 319) i2 from by rw [nI_clamp (by omega)]) ?_
          refine am_top (show ((h 319) i2) = (nI (rf_nat (h 319 i2))) from ht9.1) ?_
          refine am_iload_n (pc := 28) C dX0_countWays_28 rfl ?_
          refine am_callVi (Y := mX0_ownersOf) (pc := 29) (st := [.int (nI i2), .ref 320]) (As := [.int (nI (rf_nat (h 319 i2))), .int place]) (x := (rf_set (fun s => !am_bt (rf_known w s) (rf_nat (h 319 i2)) && rf_was w s place) (rf_S w))) (h2 := (am_row h 320 (rf_wr (h 320) (rf_wh w (h 319) place) i2))) C dX0_countWays_29 k0_54 v_X0_ownersOf rfl rfl bn_318 sh_318 ⟨by decide, rfl⟩ (by decide) (Nat.zero_le _) (Nat.zero_le _) (Nat.le_of_ble_eq_true rfl) (c_X0_ownersOf hR (rf_nat (h 319 i2)) place w hV (cl_Lo_eq (fun i9 h9 g9 => by rw [am_row_ne _ _ _ (by omega)]) hLo) (cl_Sc_eq (fun i9 h9 g9 => by rw [am_row_ne _ _ _ (by omega)]) hSc) (show (rf_nat (h 319 i2)) < rf_M w from (by omega)) (show rf_n (w 5) 1073741824 from hh)) ?_
          refine am_iastore (pc := 32) C dX0_countWays_32 bn_320 sh_320 (vp_in_nI (by omega) (by decide)) ?_
          refine am_hp (show am_up (am_row h 320 (rf_wr (h 320) (rf_wh w (h 319) place) i2)) 320 (nI i2).toNatClampNeg (rf_set (fun s => !am_bt (rf_known w s) (rf_nat (h 319 i2)) && rf_was w s place) (rf_S w)) = am_row (am_row h 320 (rf_wr (h 320) (rf_wh w (h 319) place) i2)) 320 (upd (rf_wr (h 320) (rf_wh w (h 319) place) i2) i2 (rf_set (fun s => !am_bt (rf_known w s) (rf_nat (h 319 i2)) && rf_was w s place) (rf_S w))) from by rw [nI_clamp (by omega)]; exact am_up_rw _ _ _ _) ?_
          refine am_hp (show am_row (am_row h 320 (rf_wr (h 320) (rf_wh w (h 319) place) i2)) 320 (upd (rf_wr (h 320) (rf_wh w (h 319) place) i2) i2 (rf_set (fun s => !am_bt (rf_known w s) (rf_nat (h 319 i2)) && rf_was w s place) (rf_S w))) = (am_row h 320 (upd (rf_wr (h 320) (rf_wh w (h 319) place) i2) i2 (rf_set (fun s => !am_bt (rf_known w s) (rf_nat (h 319 i2)) && rf_was w s place) (rf_S w)))) from am_row_s0) ?_
          refine am_iincN (pc := 33) (ls' := [(0, .ref 318), (1, .int place), (2, .int (nI (i2 + 1)))]) C dX0_countWays_33 rfl (am_up1 _) (by decide) rfl ?_
          refine am_goto (pc := 36) (tgt := 2) C dX0_countWays_36 (by decide) ?_
          refine am_hp (show (am_row h 320 (upd (rf_wr (h 320) (rf_wh w (h 319) place) i2) i2 (rf_set (fun s => !am_bt (rf_known w s) (rf_nat (h 319 i2)) && rf_was w s place) (rf_S w)))) = (am_row h 320 (rf_wr (h 320) (rf_wh w (h 319) place) (i2 + 1))) from rfl) ?_
          exact ih2 (i2 + 1) (by omega) 
  refine am_hp (show h = (am_row h 320 (rf_wr (h 320) (rf_wh w (h 319) place) 0)) from (am_row_id _ 320).symm) ?_
  exact L2 (rf_nat (h 318 4)) 0 (by omega) 

set_option maxHeartbeats 400000 in
set_option maxRecDepth 100000 in
theorem c_X0_firstOwner {ad : Nat → Nat} {r : am_R} (hR : am_rs r) {h : am_H} (i : Nat) (g : Nat) (w : rf_W) (hV : rf_I w) (hLo : cl_Lo (h) 4 w) (hSc : cl_Sc (h) 25 w) (hi : i < 8) (hg : g < 2 ^ rf_S w)  : am_CM mX0_firstOwner 1 0 0 [.ref 318, .int (nI i), .int (nI g)] (am_VV ad) r h (am_po (some (.int (cl_fo (h 320) (h 321) (rf_S w) i g))) r h) := by
  refine am_CM.of (by decide +kernel) (Nat.le_of_ble_eq_true rfl) (fun X C T => ?_)
  show am_G X (am_VV ad) (0, 0) 0 [(0, .ref 318), (1, .int (nI i)), (2, .int (nI g))] [] r h
  have hM9 : rf_M w < 17 := hV.1.1.2
  have hS9 : rf_S w < 11 := hV.1.2.1.2
  have hO9 : rf_O w < 11 := hV.1.2.2.2
  have hp2 : 2 ^ rf_S w ≤ 2 ^ 10 := Nat.pow_le_pow_right (by decide) (by omega)
  refine am_iconstN (pc := 0) (k := 0) C dX0_firstOwner_0 ?_
  refine am_istore_n (pc := 1) (ls' := [(0, .ref 318), (1, .int (nI i)), (2, .int (nI g)), (3, .int (nI 0))]) C dX0_firstOwner_1 (by decide) rfl ?_
  have L2 : ∀ (j2 : Nat) (n : Nat), (hnj : n + j2 = rf_S w) → (hms : rf_sea (fun s => am_bt (h 320 i &&& (nI g ^^^ (-1))) s && decide (nI 0 < h 321 (rf_ws g s))) (fun s => nI s) j2 n = rf_sea (fun s => am_bt (h 320 i &&& (nI g ^^^ (-1))) s && decide (nI 0 < h 321 (rf_ws g s))) (fun s => nI s) (rf_S w) 0) → am_G X (am_VV ad) (0, 0) 2 [(0, .ref 318), (1, .int (nI i)), (2, .int (nI g)), (3, .int (nI n))] [] r h := by
    intro j2
    induction j2 with
    | zero =>
      intro n hnj hms
      refine am_iload_n (pc := 2) C dX0_firstOwner_2 rfl ?_
      refine am_aload_n (pc := 3) C dX0_firstOwner_3 rfl ?_
      refine am_getR (pc := 4) (j := 3) C dX0_firstOwner_4 f0_9 bn_318 sh_318 (rf_318_0 hR) ?_
      refine am_getR (pc := 7) (j := 4) C dX0_firstOwner_7 f0_39 bn_3 sh_3 (rf_3_0 hR) ?_
      refine am_getI (pc := 10) C dX0_firstOwner_10 f0_58 bn_4 sh_4 ?_
      refine am_top (show ((h 4) 2) = (nI (rf_S w)) from (hLo.1.2.2.1.trans hV.1.2.1.1)) ?_
      refine am_icmp_geN (pc := 13) (tgt := 58) C dX0_firstOwner_13 (by decide) (by omega) (by omega) (fun q13 => ?_) (fun q13 => ?_)
      · skip
        refine am_iconst (pc := 58) (v := -1) C dX0_firstOwner_58 rfl ?_
        exact am_ireti T dX0_firstOwner_59 rfl (Nat.le_refl _) (Nat.le_refl _) (by rw [cl_fo, ← hms]; rfl) rfl rfl
      · skip
        exact absurd q13 (by omega)
    | succ j2 ih2 =>
      intro n hnj hms
      have hws := rf_ws_n (j := g) (s := n) (k := 10) (by decide) (by omega) (by omega)
      have hws2 : rf_ws g n < 1024 := hws.2
      refine am_iload_n (pc := 2) C dX0_firstOwner_2 rfl ?_
      refine am_aload_n (pc := 3) C dX0_firstOwner_3 rfl ?_
      refine am_getR (pc := 4) (j := 3) C dX0_firstOwner_4 f0_9 bn_318 sh_318 (rf_318_0 hR) ?_
      refine am_getR (pc := 7) (j := 4) C dX0_firstOwner_7 f0_39 bn_3 sh_3 (rf_3_0 hR) ?_
      refine am_getI (pc := 10) C dX0_firstOwner_10 f0_58 bn_4 sh_4 ?_
      refine am_top (show ((h 4) 2) = (nI (rf_S w)) from (hLo.1.2.2.1.trans hV.1.2.1.1)) ?_
      refine am_icmp_geN (pc := 13) (tgt := 58) C dX0_firstOwner_13 (by decide) (by omega) (by omega) (fun q13 => ?_) (fun q13 => ?_)
      · skip
        exact absurd q13 (by omega)
      · skip
        refine am_aload_n (pc := 16) C dX0_firstOwner_16 rfl ?_
        refine am_getR (pc := 17) (j := 320) C dX0_firstOwner_17 f0_19 bn_318 sh_318 (rf_318_2 hR) ?_
        refine am_iload_n (pc := 20) C dX0_firstOwner_20 rfl ?_
        refine am_callSNi (Y := mX11_pick) (pc := 21) (st := []) (As := [.ref 320, .int (nI i)]) (x := ((h 320) i)) (h2 := h) C dX0_firstOwner_21 k0_35 v_X11_pick rfl rfl (by decide) (Nat.zero_le _) (Nat.zero_le _) (Nat.le_of_ble_eq_true rfl) (c_X11_pick 320 i 8 bn_320 sh_320 (show i < 8 from by omega) (by decide)) ?_
        refine am_iload_n (pc := 24) C dX0_firstOwner_24 rfl ?_
        refine am_iconst (pc := 25) (v := -1) C dX0_firstOwner_25 rfl ?_
        refine am_ixor (pc := 26) C dX0_firstOwner_26 ?_
        refine am_iand (pc := 27) C dX0_firstOwner_27 ?_
        refine am_iload_n (pc := 28) C dX0_firstOwner_28 rfl ?_
        refine am_callSNi (Y := mX11_has) (pc := 29) (st := []) (As := [.int (((h 320) i) &&& ((nI g) ^^^ (-1))), .int (nI n)]) (x := (am_b (am_bt (((h 320) i) &&& ((nI g) ^^^ (-1))) n))) (h2 := h) C dX0_firstOwner_29 k0_70 v_X11_has rfl rfl (by decide) (Nat.zero_le _) (Nat.zero_le _) (Nat.le_of_ble_eq_true rfl) (c_X11_has (((h 320) i) &&& ((nI g) ^^^ (-1))) n (show n < 32 from by omega)) ?_
        refine am_if_eqB (pc := 32) (tgt := 52) C dX0_firstOwner_32 (by decide) (fun q32 => ?_) (fun q32 => ?_)
        · skip
          refine am_iincN (pc := 52) (ls' := [(0, .ref 318), (1, .int (nI i)), (2, .int (nI g)), (3, .int (nI (n + 1)))]) C dX0_firstOwner_52 rfl (am_up1 _) (by decide) rfl ?_
          refine am_goto (pc := 55) (tgt := 2) C dX0_firstOwner_55 (by decide) ?_
          exact ih2 (n + 1) (by omega) (Eq.trans (Eq.symm (rf_sea_f (by show (_ && _) = false; rw [q32]; rfl))) hms)
        · skip
          refine am_aload_n (pc := 35) C dX0_firstOwner_35 rfl ?_
          refine am_getR (pc := 36) (j := 321) C dX0_firstOwner_36 f0_22 bn_318 sh_318 (rf_318_3 hR) ?_
          refine am_iload_n (pc := 39) C dX0_firstOwner_39 rfl ?_
          refine am_iconstN (pc := 40) (k := 1) C dX0_firstOwner_40 ?_
          refine am_iload_n (pc := 41) C dX0_firstOwner_41 rfl ?_
          refine am_ishl (pc := 42) C dX0_firstOwner_42 ?_
          refine am_ior (pc := 43) C dX0_firstOwner_43 ?_
          refine am_top (show ((nI g) ||| ((nI 1) <<< ((nI n) &&& 31))) = (nI (rf_ws g n)) from hws.1) ?_
          refine am_callSNi (Y := mX11_pick) (pc := 44) (st := []) (As := [.ref 321, .int (nI (rf_ws g n))]) (x := ((h 321) (rf_ws g n))) (h2 := h) C dX0_firstOwner_44 k0_35 v_X11_pick rfl rfl (by decide) (Nat.zero_le _) (Nat.zero_le _) (Nat.le_of_ble_eq_true rfl) (c_X11_pick 321 (rf_ws g n) 1024 bn_321 sh_321 (show rf_ws g n < 1024 from by omega) (by decide)) ?_
          refine am_if_le (pc := 47) (tgt := 52) C dX0_firstOwner_47 (by decide) (fun q47 => ?_) (fun q47 => ?_)
          · skip
            refine am_iincN (pc := 52) (ls' := [(0, .ref 318), (1, .int (nI i)), (2, .int (nI g)), (3, .int (nI (n + 1)))]) C dX0_firstOwner_52 rfl (am_up1 _) (by decide) rfl ?_
            refine am_goto (pc := 55) (tgt := 2) C dX0_firstOwner_55 (by decide) ?_
            exact ih2 (n + 1) (by omega) (Eq.trans (Eq.symm (rf_sea_f (by show (_ && _) = false; rw [show decide (nI 0 < h 321 (rf_ws g n)) = false from decide_eq_false (Int32.not_lt.mpr q47), Bool.and_false]))) hms)
          · skip
            refine am_iload_n (pc := 50) C dX0_firstOwner_50 rfl ?_
            exact am_ireti T dX0_firstOwner_51 rfl (Nat.le_refl _) (Nat.le_refl _) (by rw [cl_fo, ← hms]; exact (rf_sea_t (by show (_ && _) = true; rw [q32, show decide (nI 0 < h 321 (rf_ws g n)) = true from decide_eq_true (Int32.not_le.mp q47)]; rfl)).symm) rfl rfl
  exact L2 (rf_S w) 0 (by omega) rfl

set_option maxHeartbeats 400000 in
set_option maxRecDepth 100000 in
theorem c_X0_firstGiven {ad : Nat → Nat} {r : am_R} (hR : am_rs r) {h : am_H} (k : Nat) (w : rf_W) (hV : rf_I w) (hLo : cl_Lo (h) 4 w) (hSc : cl_Sc (h) 25 w) (hsz : rf_n ((h 318) 4) 9) (hk : k < (rf_nat ((h 318) 4))) (hW : cl_Wy (h 320) (h 321) (rf_S w) (rf_nat ((h 318) 4)))  : am_CM mX0_firstGiven 2 0 0 [.ref 318, .int (nI k)] (am_VV ad) r h (am_po (some (.int (if rf_ways (h 320) (rf_S w) (rf_nat ((h 318) 4)) (rf_nat ((h 318) 4)) 0 = 0 then -1 else nI (rf_pk (h 320) (rf_S w) (rf_nat ((h 318) 4)) k (rf_gn (h 320) (rf_S w) (rf_nat ((h 318) 4)) k))))) r h) := by
  refine am_CM.of (by decide +kernel) (Nat.le_of_ble_eq_true rfl) (fun X C T => ?_)
  show am_G X (am_VV ad) (0, 0) 0 [(0, .ref 318), (1, .int (nI k))] [] r h
  have hM9 : rf_M w < 17 := hV.1.1.2
  have hS9 : rf_S w < 11 := hV.1.2.1.2
  have hO9 : rf_O w < 11 := hV.1.2.2.2
  have hz9 : rf_nat (h 318 4) < 9 := hsz.2
  have hp2 : 2 ^ rf_S w ≤ 2 ^ 10 := Nat.pow_le_pow_right (by decide) (by omega)
  refine am_iconstN (pc := 0) (k := 0) C dX0_firstGiven_0 ?_
  refine am_istore_n (pc := 1) (ls' := [(0, .ref 318), (1, .int (nI k)), (2, .int (nI 0))]) C dX0_firstGiven_1 (by decide) rfl ?_
  refine am_iconst (pc := 2) (v := -1) C dX0_firstGiven_2 rfl ?_
  refine am_istore_n (pc := 3) (ls' := [(0, .ref 318), (1, .int (nI k)), (2, .int (nI 0)), (3, .int (-1))]) C dX0_firstGiven_3 (by decide) rfl ?_
  refine am_iconstN (pc := 4) (k := 0) C dX0_firstGiven_4 ?_
  refine am_istore (pc := 5) (ls' := [(0, .ref 318), (1, .int (nI k)), (2, .int (nI 0)), (3, .int (-1)), (4, .int (nI 0))]) C dX0_firstGiven_5 (by decide) rfl ?_
  have L7 : ∀ (j7 i7 : Nat), i7 + j7 = (k + 1) → (hne : 0 < i7 → ¬ rf_ways (h 320) (rf_S w) (rf_nat (h 318 4)) (rf_nat (h 318 4)) 0 = 0) → am_G X (am_VV ad) (0, 0) 7 [(0, .ref 318), (1, .int (nI k)), (2, .int (nI (rf_gn (h 320) (rf_S w) (rf_nat (h 318 4)) i7))), (3, .int (cl_ow (h 320) (rf_S w) (rf_nat (h 318 4)) i7)), (4, .int (nI i7))] [] r h := by
    intro j7
    induction j7 with
    | zero =>
      intro i7 hi7 hne
      obtain rfl : i7 = (k + 1) := by omega
      refine am_iload (pc := 7) C dX0_firstGiven_7 rfl ?_
      refine am_iload_n (pc := 9) C dX0_firstGiven_9 rfl ?_
      refine am_icmp_gtN (pc := 10) (tgt := 40) C dX0_firstGiven_10 (by decide) (by omega) (by omega) (fun q10 => ?_) (fun q10 => ?_)
      · skip
        refine am_iload_n (pc := 40) C dX0_firstGiven_40 rfl ?_
        exact am_ireti T dX0_firstGiven_41 rfl (Nat.le_refl _) (Nat.le_refl _) (by rw [if_neg (hne (by omega))]; rfl) rfl rfl
      · skip
        exact absurd q10 (by omega)
    | succ j7 ih7 =>
      intro i7 hi7 hne
      have hl7 : i7 < (k + 1) := by omega
      have hgb : rf_gn (h 320) (rf_S w) (rf_nat (h 318 4)) i7 < 2 ^ rf_S w ∧ rf_bc (nI (rf_gn (h 320) (rf_S w) (rf_nat (h 318 4)) i7)) = i7 := cl_gn_ok (by omega) (by omega) hne
      have hfo := cl_fo_eq (by omega) (by omega) hW hgb.1 hgb.2 (show i7 < rf_nat (h 318 4) by omega)
      refine am_iload (pc := 7) C dX0_firstGiven_7 rfl ?_
      refine am_iload_n (pc := 9) C dX0_firstGiven_9 rfl ?_
      refine am_icmp_gtN (pc := 10) (tgt := 40) C dX0_firstGiven_10 (by decide) (by omega) (by omega) (fun q10 => ?_) (fun q10 => ?_)
      · skip
        exact absurd q10 (by omega)
      · skip
        refine am_aload_n (pc := 13) C dX0_firstGiven_13 rfl ?_
        refine am_iload (pc := 14) C dX0_firstGiven_14 rfl ?_
        refine am_iload_n (pc := 16) C dX0_firstGiven_16 rfl ?_
        refine am_callVi (Y := mX0_firstOwner) (pc := 17) (st := []) (As := [.int (nI i7), .int (nI (rf_gn (h 320) (rf_S w) (rf_nat (h 318 4)) i7))]) (x := (cl_fo (h 320) (h 321) (rf_S w) i7 (rf_gn (h 320) (rf_S w) (rf_nat (h 318 4)) i7))) (h2 := h) C dX0_firstGiven_17 k0_97 v_X0_firstOwner rfl rfl bn_318 sh_318 ⟨by decide, rfl⟩ (by decide) (Nat.zero_le _) (Nat.zero_le _) (Nat.le_of_ble_eq_true rfl) (c_X0_firstOwner hR i7 (rf_gn (h 320) (rf_S w) (rf_nat (h 318 4)) i7) w hV hLo hSc (show i7 < 8 from (by omega)) (show (rf_gn (h 320) (rf_S w) (rf_nat (h 318 4)) i7) < 2 ^ rf_S w from hgb.1)) ?_
        refine am_top (show (cl_fo (h 320) (h 321) (rf_S w) i7 (rf_gn (h 320) (rf_S w) (rf_nat (h 318 4)) i7)) = (if rf_pk (h 320) (rf_S w) (rf_nat (h 318 4)) i7 (rf_gn (h 320) (rf_S w) (rf_nat (h 318 4)) i7) < rf_S w then nI (rf_pk (h 320) (rf_S w) (rf_nat (h 318 4)) i7 (rf_gn (h 320) (rf_S w) (rf_nat (h 318 4)) i7)) else -1) from hfo) ?_
        refine am_istore_n (pc := 20) (ls' := [(0, .ref 318), (1, .int (nI k)), (2, .int (nI (rf_gn (h 320) (rf_S w) (rf_nat (h 318 4)) i7))), (3, .int (if rf_pk (h 320) (rf_S w) (rf_nat (h 318 4)) i7 (rf_gn (h 320) (rf_S w) (rf_nat (h 318 4)) i7) < rf_S w then nI (rf_pk (h 320) (rf_S w) (rf_nat (h 318 4)) i7 (rf_gn (h 320) (rf_S w) (rf_nat (h 318 4)) i7)) else -1)), (4, .int (nI i7))]) C dX0_firstGiven_20 (by decide) rfl ?_
        refine am_iload_n (pc := 21) C dX0_firstGiven_21 rfl ?_
        refine am_iconst (pc := 22) (v := -1) C dX0_firstGiven_22 rfl ?_
        refine am_icmp_ne (pc := 23) (tgt := 28) C dX0_firstGiven_23 (by decide) (fun q23 => ?_) (fun q23 => ?_)
        · skip
          have hpk : rf_pk (h 320) (rf_S w) (rf_nat (h 318 4)) i7 (rf_gn (h 320) (rf_S w) (rf_nat (h 318 4)) i7) < rf_S w := Nat.not_le.mp (fun z => q23 (if_neg (by omega)))
          have hw9 : ¬ rf_ways (h 320) (rf_S w) (rf_nat (h 318 4)) (rf_nat (h 318 4)) 0 = 0 := cl_ow_ne (by omega) (by omega) (by omega) hne hpk
          refine am_lsv (ls' := [(0, .ref 318), (1, .int (nI k)), (2, .int (nI (rf_gn (h 320) (rf_S w) (rf_nat (h 318 4)) i7))), (3, .int (nI (rf_pk (h 320) (rf_S w) (rf_nat (h 318 4)) i7 (rf_gn (h 320) (rf_S w) (rf_nat (h 318 4)) i7)))), (4, .int (nI i7))]) (congrArg (fun z9 : Int32 => ([(0, .ref 318), (1, .int (nI k)), (2, .int (nI (rf_gn (h 320) (rf_S w) (rf_nat (h 318 4)) i7))), (3, Value.int z9), (4, .int (nI i7))] : List (Nat × Value))) (show (if rf_pk (h 320) (rf_S w) (rf_nat (h 318 4)) i7 (rf_gn (h 320) (rf_S w) (rf_nat (h 318 4)) i7) < rf_S w then nI (rf_pk (h 320) (rf_S w) (rf_nat (h 318 4)) i7 (rf_gn (h 320) (rf_S w) (rf_nat (h 318 4)) i7)) else -1) = (nI (rf_pk (h 320) (rf_S w) (rf_nat (h 318 4)) i7 (rf_gn (h 320) (rf_S w) (rf_nat (h 318 4)) i7))) from (if_pos hpk))) ?_
          refine am_iload_n (pc := 28) C dX0_firstGiven_28 rfl ?_
          refine am_iconstN (pc := 29) (k := 1) C dX0_firstGiven_29 ?_
          refine am_iload_n (pc := 30) C dX0_firstGiven_30 rfl ?_
          refine am_ishl (pc := 31) C dX0_firstGiven_31 ?_
          refine am_ior (pc := 32) C dX0_firstGiven_32 ?_
          refine am_istore_n (pc := 33) (ls' := [(0, .ref 318), (1, .int (nI k)), (2, .int ((nI (rf_gn (h 320) (rf_S w) (rf_nat (h 318 4)) i7)) ||| ((nI 1) <<< ((nI (rf_pk (h 320) (rf_S w) (rf_nat (h 318 4)) i7 (rf_gn (h 320) (rf_S w) (rf_nat (h 318 4)) i7))) &&& 31)))), (3, .int (nI (rf_pk (h 320) (rf_S w) (rf_nat (h 318 4)) i7 (rf_gn (h 320) (rf_S w) (rf_nat (h 318 4)) i7)))), (4, .int (nI i7))]) C dX0_firstGiven_33 (by decide) rfl ?_
          refine am_iincN (pc := 34) (ls' := [(0, .ref 318), (1, .int (nI k)), (2, .int ((nI (rf_gn (h 320) (rf_S w) (rf_nat (h 318 4)) i7)) ||| ((nI 1) <<< ((nI (rf_pk (h 320) (rf_S w) (rf_nat (h 318 4)) i7 (rf_gn (h 320) (rf_S w) (rf_nat (h 318 4)) i7))) &&& 31)))), (3, .int (nI (rf_pk (h 320) (rf_S w) (rf_nat (h 318 4)) i7 (rf_gn (h 320) (rf_S w) (rf_nat (h 318 4)) i7)))), (4, .int (nI (i7 + 1)))]) C dX0_firstGiven_34 rfl (am_up1 _) (by decide) rfl ?_
          refine am_goto (pc := 37) (tgt := 7) C dX0_firstGiven_37 (by decide) ?_
          refine am_lsv (ls' := [(0, .ref 318), (1, .int (nI k)), (2, .int (nI (rf_gn (h 320) (rf_S w) (rf_nat (h 318 4)) (i7 + 1)))), (3, .int (nI (rf_pk (h 320) (rf_S w) (rf_nat (h 318 4)) i7 (rf_gn (h 320) (rf_S w) (rf_nat (h 318 4)) i7)))), (4, .int (nI (i7 + 1)))]) (congrArg (fun z9 : Int32 => ([(0, .ref 318), (1, .int (nI k)), (2, Value.int z9), (3, .int (nI (rf_pk (h 320) (rf_S w) (rf_nat (h 318 4)) i7 (rf_gn (h 320) (rf_S w) (rf_nat (h 318 4)) i7)))), (4, .int (nI (i7 + 1)))] : List (Nat × Value))) (show ((nI (rf_gn (h 320) (rf_S w) (rf_nat (h 318 4)) i7)) ||| ((nI 1) <<< ((nI (rf_pk (h 320) (rf_S w) (rf_nat (h 318 4)) i7 (rf_gn (h 320) (rf_S w) (rf_nat (h 318 4)) i7))) &&& 31))) = (nI (rf_gn (h 320) (rf_S w) (rf_nat (h 318 4)) (i7 + 1))) from (rf_ws_n (k := 10) (by decide) (by omega) (by omega)).1)) ?_
          refine am_lsv (ls' := [(0, .ref 318), (1, .int (nI k)), (2, .int (nI (rf_gn (h 320) (rf_S w) (rf_nat (h 318 4)) (i7 + 1)))), (3, .int (cl_ow (h 320) (rf_S w) (rf_nat (h 318 4)) (i7 + 1))), (4, .int (nI (i7 + 1)))]) (congrArg (fun z9 : Int32 => ([(0, .ref 318), (1, .int (nI k)), (2, .int (nI (rf_gn (h 320) (rf_S w) (rf_nat (h 318 4)) (i7 + 1)))), (3, Value.int z9), (4, .int (nI (i7 + 1)))] : List (Nat × Value))) (show (nI (rf_pk (h 320) (rf_S w) (rf_nat (h 318 4)) i7 (rf_gn (h 320) (rf_S w) (rf_nat (h 318 4)) i7))) = (cl_ow (h 320) (rf_S w) (rf_nat (h 318 4)) (i7 + 1)) from rfl)) ?_
          exact ih7 (i7 + 1) (by omega) (fun _ => hw9)
        · skip
          refine am_iconst (pc := 26) (v := -1) C dX0_firstGiven_26 rfl ?_
          exact am_ireti T dX0_firstGiven_27 rfl (Nat.le_refl _) (Nat.le_refl _) (cl_ow_no (by omega) (by omega) hne q23).symm rfl rfl
  refine am_lsv (ls' := [(0, .ref 318), (1, .int (nI k)), (2, .int (nI (rf_gn (h 320) (rf_S w) (rf_nat (h 318 4)) 0))), (3, .int (-1)), (4, .int (nI 0))]) (congrArg (fun z9 : Int32 => ([(0, .ref 318), (1, .int (nI k)), (2, Value.int z9), (3, .int (-1)), (4, .int (nI 0))] : List (Nat × Value))) (show (nI 0) = (nI (rf_gn (h 320) (rf_S w) (rf_nat (h 318 4)) 0)) from rfl)) ?_
  refine am_lsv (ls' := [(0, .ref 318), (1, .int (nI k)), (2, .int (nI (rf_gn (h 320) (rf_S w) (rf_nat (h 318 4)) 0))), (3, .int (cl_ow (h 320) (rf_S w) (rf_nat (h 318 4)) 0)), (4, .int (nI 0))]) (congrArg (fun z9 : Int32 => ([(0, .ref 318), (1, .int (nI k)), (2, .int (nI (rf_gn (h 320) (rf_S w) (rf_nat (h 318 4)) 0))), (3, Value.int z9), (4, .int (nI 0))] : List (Nat × Value))) (show (-1) = (cl_ow (h 320) (rf_S w) (rf_nat (h 318 4)) 0) from rfl)) ?_
  exact L7 (k + 1) 0 (by omega) (fun z => absurd z (by omega))

set_option maxHeartbeats 400000 in
set_option maxRecDepth 100000 in
theorem c_X0_allWays {ad : Nat → Nat} {r : am_R} (hR : am_rs r) {h : am_H}  (w : rf_W) (hV : rf_I w) (hLo : cl_Lo (h) 4 w) (hSc : cl_Sc (h) 25 w)  : am_CM mX0_allWays 0 0 0 [.ref 318] (am_VV ad) r h (am_po (some (.int ((h 321) 0))) r h) := by
  refine am_CM.of (by decide +kernel) (Nat.le_of_ble_eq_true rfl) (fun X C T => ?_)
  show am_G X (am_VV ad) (0, 0) 0 [(0, .ref 318)] [] r h
  have hM9 : rf_M w < 17 := hV.1.1.2
  have hS9 : rf_S w < 11 := hV.1.2.1.2
  have hO9 : rf_O w < 11 := hV.1.2.2.2
  refine am_aload_n (pc := 0) C dX0_allWays_0 rfl ?_
  refine am_getR (pc := 1) (j := 321) C dX0_allWays_1 f0_22 bn_318 sh_318 (rf_318_3 hR) ?_
  refine am_iconstN (pc := 4) (k := 0) C dX0_allWays_4 ?_
  refine am_iaload (pc := 5) C dX0_allWays_5 bn_321 sh_321 (vp_in_nI (by omega) (by decide)) ?_
  refine am_top (show (h 321) (nI 0).toNatClampNeg = (h 321) 0 from by rw [nI_clamp (by omega)]) ?_
  exact am_ireti T dX0_allWays_6 rfl (Nat.le_refl _) (Nat.le_refl _) rfl rfl rfl

set_option maxHeartbeats 400000 in
set_option maxRecDepth 100000 in
theorem c_X0_take {ad : Nat → Nat} {r : am_R} (hR : am_rs r) {h : am_H}  (w : rf_W) (hV : rf_I w) (hLo : cl_Lo (h) 4 w) (hSc : cl_Sc (h) 25 w) (hsz : rf_n ((h 1) 1) 401) (hby : ∀ i, i < (rf_nat ((h 1) 1)) → rf_n ((h 2) i) 256)  : am_CM mX0_take 1 0 0 [.ref 318, .ref 1] (am_VV ad) r h (am_pr (some (.int (am_b (decide ((rf_nat ((h 1) 1)) ≤ 8) && cl_tk (h 2) (rf_M w) (rf_nat ((h 1) 1)))))) r (fun c9 => ((decide ((rf_nat ((h 1) 1)) ≤ 8) && cl_tk (h 2) (rf_M w) (rf_nat ((h 1) 1))) = true → c9 318 4 = (h 1) 1 ∧ ∀ i, i < (rf_nat ((h 1) 1)) → c9 319 i = (h 2) i) ∧ cl_fr (h) c9 318 2)) := by
  refine am_CM.of (by decide +kernel) (Nat.le_of_ble_eq_true rfl) (fun X C T => ?_)
  show am_G X (am_VV ad) (0, 0) 0 [(0, .ref 318), (1, .ref 1)] [] r h
  have hM9 : rf_M w < 17 := hV.1.1.2
  have hS9 : rf_S w < 11 := hV.1.2.1.2
  have hO9 : rf_O w < 11 := hV.1.2.2.2
  have he9 : (rf_nat (h 1 1)) < 401 := hsz.2
  refine am_aload_n (pc := 0) C dX0_take_0 rfl ?_
  refine am_iconstN (pc := 1) (k := 0) C dX0_take_1 ?_
  refine am_putI (pc := 2) C dX0_take_2 f0_25 bn_318 sh_318 rfl rfl ?_
  refine am_hp (show am_up h 318 4 (nI 0) = am_row h 318 (upd (h 318) 4 (nI 0)) from am_up_rw _ _ _ _) ?_
  refine am_aload_n (pc := 5) C dX0_take_5 rfl ?_
  refine am_getI (pc := 6) C dX0_take_6 f0_29 bn_1 sh_1 ?_
  refine am_top (show ((h 1) 1) = (nI (rf_nat (h 1 1))) from hsz.1) ?_
  refine am_bipush (pc := 9) (v := nI 8) C dX0_take_9 (by decide) ?_
  refine am_icmp_leN (pc := 11) (tgt := 16) C dX0_take_11 (by decide) (by omega) (by omega) (fun q11 => ?_) (fun q11 => ?_)
  · skip
    refine am_iconstN (pc := 16) (k := 0) C dX0_take_16 ?_
    refine am_istore_n (pc := 17) (ls' := [(0, .ref 318), (1, .ref 1), (2, .int (nI 0))]) C dX0_take_17 (by decide) rfl ?_
    have L18 : ∀ (j18 i18 : Nat), i18 + j18 = (rf_nat (h 1 1)) → (htk : cl_tk (h 2) (rf_M w) i18 = true) → am_G X (am_VV ad) (0, 0) 18 [(0, .ref 318), (1, .ref 1), (2, .int (nI i18))] [] r (am_row (am_row h 318 (upd (h 318) 4 (nI 0))) 319 (rf_wr (h 319) (h 2) i18)) := by
      intro j18
      induction j18 with
      | zero =>
        intro i18 hi18 htk
        obtain rfl : i18 = (rf_nat (h 1 1)) := by omega
        refine am_iload_n (pc := 18) C dX0_take_18 rfl ?_
        refine am_aload_n (pc := 19) C dX0_take_19 rfl ?_
        refine am_getI (pc := 20) C dX0_take_20 f0_29 bn_1 sh_1 ?_
        refine am_top (show ((h 1) 1) = (nI (rf_nat (h 1 1))) from hsz.1) ?_
        refine am_icmp_geN (pc := 23) (tgt := 66) C dX0_take_23 (by decide) (by omega) (by omega) (fun q23 => ?_) (fun q23 => ?_)
        · skip
          refine am_aload_n (pc := 66) C dX0_take_66 rfl ?_
          refine am_aload_n (pc := 67) C dX0_take_67 rfl ?_
          refine am_getI (pc := 68) C dX0_take_68 f0_29 bn_1 sh_1 ?_
          refine am_putI (pc := 71) C dX0_take_71 f0_25 bn_318 sh_318 rfl rfl ?_
          refine am_hp (show am_up (am_row (am_row h 318 (upd (h 318) 4 (nI 0))) 319 (rf_wr (h 319) (h 2) (rf_nat (h 1 1)))) 318 4 ((h 1) 1) = am_row (am_row (am_row h 318 (upd (h 318) 4 (nI 0))) 319 (rf_wr (h 319) (h 2) (rf_nat (h 1 1)))) 318 (upd (upd (h 318) 4 (nI 0)) 4 ((h 1) 1)) from am_up_rw _ _ _ _) ?_
          refine am_hp (show am_row (am_row (am_row h 318 (upd (h 318) 4 (nI 0))) 319 (rf_wr (h 319) (h 2) (rf_nat (h 1 1)))) 318 (upd (upd (h 318) 4 (nI 0)) 4 ((h 1) 1)) = (am_row (am_row h 318 (upd (upd (h 318) 4 (nI 0)) 4 ((h 1) 1))) 319 (rf_wr (h 319) (h 2) (rf_nat (h 1 1)))) from am_row_s1 (by decide)) ?_
          refine am_iconstN (pc := 74) (k := 1) C dX0_take_74 ?_
          exact am_iretbr T dX0_take_75 rfl (Nat.le_refl _) (Nat.le_refl _) (by rw [decide_eq_true (by omega), htk]; rfl) rfl ⟨fun _ => ⟨rfl, fun i hi => rf_wr_in _ hi⟩, (fun i9 h9 => by rw [am_row_ne _ _ _ (by omega), am_row_ne _ _ _ (by omega)])⟩
        · skip
          exact absurd q23 (by omega)
      | succ j18 ih18 =>
        intro i18 hi18 htk
        have hl18 : i18 < (rf_nat (h 1 1)) := by omega
        have hb9 := hby i18 hl18
        have hb8 : rf_nat (h 2 i18) < 256 := hb9.2
        refine am_iload_n (pc := 18) C dX0_take_18 rfl ?_
        refine am_aload_n (pc := 19) C dX0_take_19 rfl ?_
        refine am_getI (pc := 20) C dX0_take_20 f0_29 bn_1 sh_1 ?_
        refine am_top (show ((h 1) 1) = (nI (rf_nat (h 1 1))) from hsz.1) ?_
        refine am_icmp_geN (pc := 23) (tgt := 66) C dX0_take_23 (by decide) (by omega) (by omega) (fun q23 => ?_) (fun q23 => ?_)
        · skip
          exact absurd q23 (by omega)
        · skip
          refine am_aload_n (pc := 26) C dX0_take_26 rfl ?_
          refine am_getR (pc := 27) (j := 2) C dX0_take_27 f0_32 bn_1 sh_1 (rf_1_0 hR) ?_
          refine am_iload_n (pc := 30) C dX0_take_30 rfl ?_
          refine am_callSNi (Y := mX11_pick) (pc := 31) (st := []) (As := [.ref 2, .int (nI i18)]) (x := ((h 2) i18)) (h2 := (am_row (am_row h 318 (upd (h 318) 4 (nI 0))) 319 (rf_wr (h 319) (h 2) i18))) C dX0_take_31 k0_35 v_X11_pick rfl rfl (by decide) (Nat.zero_le _) (Nat.zero_le _) (Nat.le_of_ble_eq_true rfl) (c_X11_pick 2 i18 400 bn_2 sh_2 (show i18 < 400 from by omega) (by decide)) ?_
          refine am_top (show ((h 2) i18) = (nI (rf_nat (h 2 i18))) from hb9.1) ?_
          refine am_istore_n (pc := 34) (ls' := [(0, .ref 318), (1, .ref 1), (2, .int (nI i18)), (3, .int (nI (rf_nat (h 2 i18))))]) C dX0_take_34 (by decide) rfl ?_
          refine am_iload_n (pc := 35) C dX0_take_35 rfl ?_
          refine am_aload_n (pc := 36) C dX0_take_36 rfl ?_
          refine am_getR (pc := 37) (j := 3) C dX0_take_37 f0_9 bn_318 sh_318 (rf_318_0 hR) ?_
          refine am_getR (pc := 40) (j := 4) C dX0_take_40 f0_39 bn_3 sh_3 (rf_3_0 hR) ?_
          refine am_getI (pc := 43) C dX0_take_43 f0_45 bn_4 sh_4 ?_
          refine am_top (show ((h 4) 1) = (nI (rf_M w)) from (hLo.1.2.1.trans hV.1.1.1)) ?_
          refine am_icmp_ltN (pc := 46) (tgt := 51) C dX0_take_46 (by decide) (by omega) (by omega) (fun q46 => ?_) (fun q46 => ?_)
          · skip
            refine am_aload_n (pc := 51) C dX0_take_51 rfl ?_
            refine am_getR (pc := 52) (j := 319) C dX0_take_52 f0_15 bn_318 sh_318 (rf_318_1 hR) ?_
            refine am_iload_n (pc := 55) C dX0_take_55 rfl ?_
            refine am_iload_n (pc := 56) C dX0_take_56 rfl ?_
            refine am_callSNv (Y := mX11_put) (pc := 57) (st := []) (As := [.ref 319, .int (nI i18), .int (nI (rf_nat (h 2 i18)))]) (h2 := (am_row (am_row (am_row h 318 (upd (h 318) 4 (nI 0))) 319 (rf_wr (h 319) (h 2) i18)) 319 (upd (rf_wr (h 319) (h 2) i18) i18 (nI (rf_nat (h 2 i18)))))) C dX0_take_57 k0_50 v_X11_put rfl rfl (by decide) (Nat.zero_le _) (Nat.zero_le _) (Nat.le_of_ble_eq_true rfl) (c_X11_put 319 i18 (nI (rf_nat (h 2 i18))) 8 bn_319 sh_319 (show i18 < 8 from by omega) (by decide)) ?_
            refine am_hp (show (am_row (am_row (am_row h 318 (upd (h 318) 4 (nI 0))) 319 (rf_wr (h 319) (h 2) i18)) 319 (upd (rf_wr (h 319) (h 2) i18) i18 (nI (rf_nat (h 2 i18))))) = (am_row (am_row h 318 (upd (h 318) 4 (nI 0))) 319 (upd (rf_wr (h 319) (h 2) i18) i18 (nI (rf_nat (h 2 i18))))) from am_row_s0) ?_
            refine am_iincN (pc := 60) (ls' := [(0, .ref 318), (1, .ref 1), (2, .int (nI (i18 + 1))), (3, .int (nI (rf_nat (h 2 i18))))]) C dX0_take_60 rfl (am_up1 _) (by decide) rfl ?_
            refine am_goto (pc := 63) (tgt := 18) C dX0_take_63 (by decide) ?_
            refine am_sub (ls' := [(0, .ref 318), (1, .ref 1), (2, .int (nI (i18 + 1)))]) (by intro q hq; simp only [List.mem_cons, List.not_mem_nil, or_false] at hq ⊢; rcases hq with rfl | rfl | rfl <;> simp) ?_
            refine am_hp (show (am_row (am_row h 318 (upd (h 318) 4 (nI 0))) 319 (upd (rf_wr (h 319) (h 2) i18) i18 (nI (rf_nat (h 2 i18))))) = (am_row (am_row h 318 (upd (h 318) 4 (nI 0))) 319 (rf_wr (h 319) (h 2) (i18 + 1))) from (congrArg (am_row _ 319) (congrArg (upd _ i18) hb9.1.symm))) ?_
            exact ih18 (i18 + 1) (by omega) (by rw [cl_tk, htk, decide_eq_true q46]; rfl)
          · skip
            refine am_iconstN (pc := 49) (k := 0) C dX0_take_49 ?_
            exact am_iretbr T dX0_take_50 rfl (Nat.le_refl _) (Nat.le_refl _) (by rw [cl_tk_f (n := rf_nat (h 1 1)) hl18 (by rw [cl_tk, htk, decide_eq_false (by omega)]; rfl), Bool.and_false]; rfl) rfl ⟨fun z => by rw [cl_tk_f (n := rf_nat (h 1 1)) hl18 (by rw [cl_tk, htk, decide_eq_false (by omega)]; rfl), Bool.and_false] at z; exact absurd z Bool.false_ne_true, (fun i9 h9 => by rw [am_row_ne _ _ _ (by omega), am_row_ne _ _ _ (by omega)])⟩
    refine am_sub (ls' := [(0, .ref 318), (1, .ref 1), (2, .int (nI 0))]) (by intro q hq; simp only [List.mem_cons, List.not_mem_nil, or_false] at hq ⊢; rcases hq with rfl | rfl | rfl <;> simp) ?_
    refine am_hp (show (am_row h 318 (upd (h 318) 4 (nI 0))) = (am_row (am_row h 318 (upd (h 318) 4 (nI 0))) 319 (rf_wr (h 319) (h 2) 0)) from (am_row_id _ 319).symm) ?_
    exact L18 (rf_nat (h 1 1)) 0 (by omega) rfl
  · skip
    refine am_iconstN (pc := 14) (k := 0) C dX0_take_14 ?_
    exact am_iretbr T dX0_take_15 rfl (Nat.le_refl _) (Nat.le_refl _) (by rw [decide_eq_false (by omega)]; rfl) rfl ⟨fun z => by rw [decide_eq_false (by omega)] at z; exact absurd z Bool.false_ne_true, (fun i9 h9 => by rw [am_row_ne _ _ _ (by omega)])⟩

